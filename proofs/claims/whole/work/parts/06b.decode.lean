theorem dX0_init_0 : decode cX0_init 0 = .ok (.aload_n 0, 1) := by decide +kernel
theorem dX0_init_1 : decode cX0_init 1 = .ok (.invokespecial 3, 3) := by decide +kernel
theorem dX0_init_4 : decode cX0_init 4 = .ok (.aload_n 0, 1) := by decide +kernel
theorem dX0_init_5 : decode cX0_init 5 = .ok (.bipush 6, 2) := by decide +kernel
theorem dX0_init_7 : decode cX0_init 7 = .ok (.anewarray 9, 3) := by decide +kernel
theorem dX0_init_10 : decode cX0_init 10 = .ok (.putfield 11, 3) := by decide +kernel
theorem dX0_init_13 : decode cX0_init 13 = .ok (.aload_n 0, 1) := by decide +kernel
theorem dX0_init_14 : decode cX0_init 14 = .ok (.iload_n 1, 1) := by decide +kernel
theorem dX0_init_15 : decode cX0_init 15 = .ok (.putfield 17, 3) := by decide +kernel
theorem dX0_init_18 : decode cX0_init 18 = .ok (.aload_n 0, 1) := by decide +kernel
theorem dX0_init_19 : decode cX0_init 19 = .ok (.iload_n 2, 1) := by decide +kernel
theorem dX0_init_20 : decode cX0_init 20 = .ok (.putfield 21, 3) := by decide +kernel
theorem dX0_init_23 : decode cX0_init 23 = .ok (.aload_n 0, 1) := by decide +kernel
theorem dX0_init_24 : decode cX0_init 24 = .ok (.iload_n 3, 1) := by decide +kernel
theorem dX0_init_25 : decode cX0_init 25 = .ok (.putfield 24, 3) := by decide +kernel
theorem dX0_init_28 : decode cX0_init 28 = .ok (.aload_n 0, 1) := by decide +kernel
theorem dX0_init_29 : decode cX0_init 29 = .ok (.iload 4, 2) := by decide +kernel
theorem dX0_init_31 : decode cX0_init 31 = .ok (.putfield 27, 3) := by decide +kernel
theorem dX0_init_34 : decode cX0_init 34 = .ok (.aload_n 0, 1) := by decide +kernel
theorem dX0_init_35 : decode cX0_init 35 = .ok (.iload 5, 2) := by decide +kernel
theorem dX0_init_37 : decode cX0_init 37 = .ok (.putfield 30, 3) := by decide +kernel
theorem dX0_init_40 : decode cX0_init 40 = .ok (.aload_n 0, 1) := by decide +kernel
theorem dX0_init_41 : decode cX0_init 41 = .ok (.iload 6, 2) := by decide +kernel
theorem dX0_init_43 : decode cX0_init 43 = .ok (.putfield 33, 3) := by decide +kernel
theorem dX0_init_46 : decode cX0_init 46 = .ok (.aload_n 0, 1) := by decide +kernel
theorem dX0_init_47 : decode cX0_init 47 = .ok (.iconst 0, 1) := by decide +kernel
theorem dX0_init_48 : decode cX0_init 48 = .ok (.putfield 36, 3) := by decide +kernel
theorem dX0_init_51 : decode cX0_init 51 = .ok (.return_, 1) := by decide +kernel
theorem dX0_add_0 : decode cX0_add 0 = .ok (.aload_n 0, 1) := by decide +kernel
theorem dX0_add_1 : decode cX0_add 1 = .ok (.getfield 36, 3) := by decide +kernel
theorem dX0_add_4 : decode cX0_add 4 = .ok (.bipush 6, 2) := by decide +kernel
theorem dX0_add_6 : decode cX0_add 6 = .ok (.if_icmp .lt 5, 3) := by decide +kernel
theorem dX0_add_9 : decode cX0_add 9 = .ok (.iconst (-1), 1) := by decide +kernel
theorem dX0_add_10 : decode cX0_add 10 = .ok (.ireturn, 1) := by decide +kernel
theorem dX0_add_11 : decode cX0_add 11 = .ok (.aload_n 0, 1) := by decide +kernel
theorem dX0_add_12 : decode cX0_add 12 = .ok (.getfield 11, 3) := by decide +kernel
theorem dX0_add_15 : decode cX0_add 15 = .ok (.aload_n 0, 1) := by decide +kernel
theorem dX0_add_16 : decode cX0_add 16 = .ok (.getfield 36, 3) := by decide +kernel
theorem dX0_add_19 : decode cX0_add 19 = .ok (.aload_n 1, 1) := by decide +kernel
theorem dX0_add_20 : decode cX0_add 20 = .ok (.aastore, 1) := by decide +kernel
theorem dX0_add_21 : decode cX0_add 21 = .ok (.aload_n 0, 1) := by decide +kernel
theorem dX0_add_22 : decode cX0_add 22 = .ok (.dup, 1) := by decide +kernel
theorem dX0_add_23 : decode cX0_add 23 = .ok (.getfield 36, 3) := by decide +kernel
theorem dX0_add_26 : decode cX0_add 26 = .ok (.iconst 1, 1) := by decide +kernel
theorem dX0_add_27 : decode cX0_add 27 = .ok (.iadd, 1) := by decide +kernel
theorem dX0_add_28 : decode cX0_add 28 = .ok (.putfield 36, 3) := by decide +kernel
theorem dX0_add_31 : decode cX0_add 31 = .ok (.aload_n 0, 1) := by decide +kernel
theorem dX0_add_32 : decode cX0_add 32 = .ok (.getfield 36, 3) := by decide +kernel
theorem dX0_add_35 : decode cX0_add 35 = .ok (.iconst 1, 1) := by decide +kernel
theorem dX0_add_36 : decode cX0_add 36 = .ok (.isub, 1) := by decide +kernel
theorem dX0_add_37 : decode cX0_add 37 = .ok (.ireturn, 1) := by decide +kernel
theorem dX0_figureAt_0 : decode cX0_figureAt 0 = .ok (.iload_n 1, 1) := by decide +kernel
theorem dX0_figureAt_1 : decode cX0_figureAt 1 = .ok (.ifCond .lt 26, 3) := by decide +kernel
theorem dX0_figureAt_4 : decode cX0_figureAt 4 = .ok (.iload_n 1, 1) := by decide +kernel
theorem dX0_figureAt_5 : decode cX0_figureAt 5 = .ok (.aload_n 0, 1) := by decide +kernel
theorem dX0_figureAt_6 : decode cX0_figureAt 6 = .ok (.getfield 36, 3) := by decide +kernel
theorem dX0_figureAt_9 : decode cX0_figureAt 9 = .ok (.if_icmp .ge 18, 3) := by decide +kernel
theorem dX0_figureAt_12 : decode cX0_figureAt 12 = .ok (.iload_n 1, 1) := by decide +kernel
theorem dX0_figureAt_13 : decode cX0_figureAt 13 = .ok (.bipush 6, 2) := by decide +kernel
theorem dX0_figureAt_15 : decode cX0_figureAt 15 = .ok (.if_icmp .ge 12, 3) := by decide +kernel
theorem dX0_figureAt_18 : decode cX0_figureAt 18 = .ok (.aload_n 0, 1) := by decide +kernel
theorem dX0_figureAt_19 : decode cX0_figureAt 19 = .ok (.getfield 11, 3) := by decide +kernel
theorem dX0_figureAt_22 : decode cX0_figureAt 22 = .ok (.iload_n 1, 1) := by decide +kernel
theorem dX0_figureAt_23 : decode cX0_figureAt 23 = .ok (.aaload, 1) := by decide +kernel
theorem dX0_figureAt_24 : decode cX0_figureAt 24 = .ok (.goto 4, 3) := by decide +kernel
theorem dX0_figureAt_27 : decode cX0_figureAt 27 = .ok (.aconst_null, 1) := by decide +kernel
theorem dX0_figureAt_28 : decode cX0_figureAt 28 = .ok (.areturn, 1) := by decide +kernel
theorem dX1_init_0 : decode cX1_init 0 = .ok (.aload_n 0, 1) := by decide +kernel
theorem dX1_init_1 : decode cX1_init 1 = .ok (.invokespecial 3, 3) := by decide +kernel
theorem dX1_init_4 : decode cX1_init 4 = .ok (.aload_n 0, 1) := by decide +kernel
theorem dX1_init_5 : decode cX1_init 5 = .ok (.bipush 100, 2) := by decide +kernel
theorem dX1_init_7 : decode cX1_init 7 = .ok (.newarray .int, 2) := by decide +kernel
theorem dX1_init_9 : decode cX1_init 9 = .ok (.putfield 11, 3) := by decide +kernel
theorem dX1_init_12 : decode cX1_init 12 = .ok (.aload_n 0, 1) := by decide +kernel
theorem dX1_init_13 : decode cX1_init 13 = .ok (.bipush 100, 2) := by decide +kernel
theorem dX1_init_15 : decode cX1_init 15 = .ok (.newarray .int, 2) := by decide +kernel
theorem dX1_init_17 : decode cX1_init 17 = .ok (.putfield 15, 3) := by decide +kernel
theorem dX1_init_20 : decode cX1_init 20 = .ok (.aload_n 0, 1) := by decide +kernel
theorem dX1_init_21 : decode cX1_init 21 = .ok (.bipush 100, 2) := by decide +kernel
theorem dX1_init_23 : decode cX1_init 23 = .ok (.newarray .int, 2) := by decide +kernel
theorem dX1_init_25 : decode cX1_init 25 = .ok (.putfield 18, 3) := by decide +kernel
theorem dX1_init_28 : decode cX1_init 28 = .ok (.aload_n 0, 1) := by decide +kernel
theorem dX1_init_29 : decode cX1_init 29 = .ok (.iconst 0, 1) := by decide +kernel
theorem dX1_init_30 : decode cX1_init 30 = .ok (.putfield 21, 3) := by decide +kernel
theorem dX1_init_33 : decode cX1_init 33 = .ok (.return_, 1) := by decide +kernel
theorem dX1_add_0 : decode cX1_add 0 = .ok (.aload_n 0, 1) := by decide +kernel
theorem dX1_add_1 : decode cX1_add 1 = .ok (.getfield 21, 3) := by decide +kernel
theorem dX1_add_4 : decode cX1_add 4 = .ok (.bipush 100, 2) := by decide +kernel
theorem dX1_add_6 : decode cX1_add 6 = .ok (.if_icmp .lt 5, 3) := by decide +kernel
theorem dX1_add_9 : decode cX1_add 9 = .ok (.iconst (-1), 1) := by decide +kernel
theorem dX1_add_10 : decode cX1_add 10 = .ok (.ireturn, 1) := by decide +kernel
theorem dX1_add_11 : decode cX1_add 11 = .ok (.aload_n 0, 1) := by decide +kernel
theorem dX1_add_12 : decode cX1_add 12 = .ok (.getfield 11, 3) := by decide +kernel
theorem dX1_add_15 : decode cX1_add 15 = .ok (.aload_n 0, 1) := by decide +kernel
theorem dX1_add_16 : decode cX1_add 16 = .ok (.getfield 21, 3) := by decide +kernel
theorem dX1_add_19 : decode cX1_add 19 = .ok (.iload_n 1, 1) := by decide +kernel
theorem dX1_add_20 : decode cX1_add 20 = .ok (.iastore, 1) := by decide +kernel
theorem dX1_add_21 : decode cX1_add 21 = .ok (.aload_n 0, 1) := by decide +kernel
theorem dX1_add_22 : decode cX1_add 22 = .ok (.getfield 15, 3) := by decide +kernel
theorem dX1_add_25 : decode cX1_add 25 = .ok (.aload_n 0, 1) := by decide +kernel
theorem dX1_add_26 : decode cX1_add 26 = .ok (.getfield 21, 3) := by decide +kernel
theorem dX1_add_29 : decode cX1_add 29 = .ok (.iload_n 2, 1) := by decide +kernel
theorem dX1_add_30 : decode cX1_add 30 = .ok (.iastore, 1) := by decide +kernel
theorem dX1_add_31 : decode cX1_add 31 = .ok (.aload_n 0, 1) := by decide +kernel
theorem dX1_add_32 : decode cX1_add 32 = .ok (.getfield 18, 3) := by decide +kernel
theorem dX1_add_35 : decode cX1_add 35 = .ok (.aload_n 0, 1) := by decide +kernel
theorem dX1_add_36 : decode cX1_add 36 = .ok (.getfield 21, 3) := by decide +kernel
theorem dX1_add_39 : decode cX1_add 39 = .ok (.iload_n 3, 1) := by decide +kernel
theorem dX1_add_40 : decode cX1_add 40 = .ok (.iastore, 1) := by decide +kernel
theorem dX1_add_41 : decode cX1_add 41 = .ok (.aload_n 0, 1) := by decide +kernel
theorem dX1_add_42 : decode cX1_add 42 = .ok (.dup, 1) := by decide +kernel
theorem dX1_add_43 : decode cX1_add 43 = .ok (.getfield 21, 3) := by decide +kernel
theorem dX1_add_46 : decode cX1_add 46 = .ok (.iconst 1, 1) := by decide +kernel
theorem dX1_add_47 : decode cX1_add 47 = .ok (.iadd, 1) := by decide +kernel
theorem dX1_add_48 : decode cX1_add 48 = .ok (.putfield 21, 3) := by decide +kernel
theorem dX1_add_51 : decode cX1_add 51 = .ok (.aload_n 0, 1) := by decide +kernel
theorem dX1_add_52 : decode cX1_add 52 = .ok (.getfield 21, 3) := by decide +kernel
theorem dX1_add_55 : decode cX1_add 55 = .ok (.iconst 1, 1) := by decide +kernel
theorem dX1_add_56 : decode cX1_add 56 = .ok (.isub, 1) := by decide +kernel
theorem dX1_add_57 : decode cX1_add 57 = .ok (.ireturn, 1) := by decide +kernel
theorem dX1_has_0 : decode cX1_has 0 = .ok (.iload_n 1, 1) := by decide +kernel
theorem dX1_has_1 : decode cX1_has 1 = .ok (.ifCond .lt 15, 3) := by decide +kernel
theorem dX1_has_4 : decode cX1_has 4 = .ok (.iload_n 1, 1) := by decide +kernel
theorem dX1_has_5 : decode cX1_has 5 = .ok (.aload_n 0, 1) := by decide +kernel
theorem dX1_has_6 : decode cX1_has 6 = .ok (.getfield 21, 3) := by decide +kernel
theorem dX1_has_9 : decode cX1_has 9 = .ok (.if_icmp .gt 7, 3) := by decide +kernel
theorem dX1_has_12 : decode cX1_has 12 = .ok (.iconst 1, 1) := by decide +kernel
theorem dX1_has_13 : decode cX1_has 13 = .ok (.goto 4, 3) := by decide +kernel
theorem dX1_has_16 : decode cX1_has 16 = .ok (.iconst 0, 1) := by decide +kernel
theorem dX1_has_17 : decode cX1_has 17 = .ok (.ireturn, 1) := by decide +kernel
theorem dX2_init_0 : decode cX2_init 0 = .ok (.aload_n 0, 1) := by decide +kernel
theorem dX2_init_1 : decode cX2_init 1 = .ok (.invokespecial 1, 3) := by decide +kernel
theorem dX2_init_4 : decode cX2_init 4 = .ok (.aload_n 0, 1) := by decide +kernel
theorem dX2_init_5 : decode cX2_init 5 = .ok (.iload_n 1, 1) := by decide +kernel
theorem dX2_init_6 : decode cX2_init 6 = .ok (.putfield 7, 3) := by decide +kernel
theorem dX2_init_9 : decode cX2_init 9 = .ok (.aload_n 0, 1) := by decide +kernel
theorem dX2_init_10 : decode cX2_init 10 = .ok (.iload_n 2, 1) := by decide +kernel
theorem dX2_init_11 : decode cX2_init 11 = .ok (.putfield 13, 3) := by decide +kernel
theorem dX2_init_14 : decode cX2_init 14 = .ok (.aload_n 0, 1) := by decide +kernel
theorem dX2_init_15 : decode cX2_init 15 = .ok (.iload_n 3, 1) := by decide +kernel
theorem dX2_init_16 : decode cX2_init 16 = .ok (.putfield 16, 3) := by decide +kernel
theorem dX2_init_19 : decode cX2_init 19 = .ok (.aload_n 0, 1) := by decide +kernel
theorem dX2_init_20 : decode cX2_init 20 = .ok (.iload 4, 2) := by decide +kernel
theorem dX2_init_22 : decode cX2_init 22 = .ok (.putfield 19, 3) := by decide +kernel
theorem dX2_init_25 : decode cX2_init 25 = .ok (.return_, 1) := by decide +kernel
set_option maxRecDepth 20000 in
theorem ggX3_init_X3_clear : GoodIn wsX3_init wsX3_clear := goodIn_r _ [14, 5, 6, 7, 8, 9, 15, 16, 17, 18, 19, 20, 21, 22, 23, 24, 25, 26, 27] (by decide +kernel) (by decide +kernel)
set_option maxRecDepth 20000 in
theorem gX3_init_X3_clear : GoodIn wsX3_init (wsV RX3 27 RX3 yX3_clear wsX3_clear) := goodIn_app (goodIn_of _ (by decide +kernel)) ggX3_init_X3_clear
theorem dX3_init_0 : decode cX3_init 0 = .ok (.aload_n 0, 1) := by decide +kernel
theorem dX3_init_1 : decode cX3_init 1 = .ok (.invokespecial 3, 3) := by decide +kernel
theorem dX3_init_4 : decode cX3_init 4 = .ok (.aload_n 0, 1) := by decide +kernel
theorem dX3_init_5 : decode cX3_init 5 = .ok (.bipush 6, 2) := by decide +kernel
theorem dX3_init_7 : decode cX3_init 7 = .ok (.newarray .int, 2) := by decide +kernel
theorem dX3_init_9 : decode cX3_init 9 = .ok (.putfield 9, 3) := by decide +kernel
theorem dX3_init_12 : decode cX3_init 12 = .ok (.aload_n 0, 1) := by decide +kernel
theorem dX3_init_13 : decode cX3_init 13 = .ok (.bipush 6, 2) := by decide +kernel
theorem dX3_init_15 : decode cX3_init 15 = .ok (.newarray .int, 2) := by decide +kernel
theorem dX3_init_17 : decode cX3_init 17 = .ok (.putfield 15, 3) := by decide +kernel
theorem dX3_init_20 : decode cX3_init 20 = .ok (.aload_n 0, 1) := by decide +kernel
theorem dX3_init_21 : decode cX3_init 21 = .ok (.bipush 6, 2) := by decide +kernel
theorem dX3_init_23 : decode cX3_init 23 = .ok (.newarray .int, 2) := by decide +kernel
theorem dX3_init_25 : decode cX3_init 25 = .ok (.putfield 18, 3) := by decide +kernel
theorem dX3_init_28 : decode cX3_init 28 = .ok (.aload_n 0, 1) := by decide +kernel
theorem dX3_init_29 : decode cX3_init 29 = .ok (.bipush 6, 2) := by decide +kernel
theorem dX3_init_31 : decode cX3_init 31 = .ok (.newarray .int, 2) := by decide +kernel
theorem dX3_init_33 : decode cX3_init 33 = .ok (.putfield 21, 3) := by decide +kernel
theorem dX3_init_36 : decode cX3_init 36 = .ok (.aload_n 0, 1) := by decide +kernel
theorem dX3_init_37 : decode cX3_init 37 = .ok (.bipush 6, 2) := by decide +kernel
theorem dX3_init_39 : decode cX3_init 39 = .ok (.newarray .int, 2) := by decide +kernel
theorem dX3_init_41 : decode cX3_init 41 = .ok (.putfield 24, 3) := by decide +kernel
theorem dX3_init_44 : decode cX3_init 44 = .ok (.aload_n 0, 1) := by decide +kernel
theorem dX3_init_45 : decode cX3_init 45 = .ok (.invokevirtual 27, 3) := by decide +kernel
theorem dX3_init_48 : decode cX3_init 48 = .ok (.return_, 1) := by decide +kernel
set_option maxRecDepth 20000 in
theorem ggX3_clear_J7_fill_53178 : GoodIn wsX3_clear wsJ7_fill_53178 := goodIn_r _ [11] (by decide +kernel) (by decide +kernel)
set_option maxRecDepth 20000 in
theorem gX3_clear_J7_fill_53178 : GoodIn wsX3_clear (va_wsS RX3 30 yJ7_fill_53178 wsJ7_fill_53178) := goodIn_app (goodIn_of _ (by decide +kernel)) ggX3_clear_J7_fill_53178
theorem dX3_clear_0 : decode cX3_clear 0 = .ok (.aload_n 0, 1) := by decide +kernel
theorem dX3_clear_1 : decode cX3_clear 1 = .ok (.getfield 9, 3) := by decide +kernel
theorem dX3_clear_4 : decode cX3_clear 4 = .ok (.iconst (-1), 1) := by decide +kernel
theorem dX3_clear_5 : decode cX3_clear 5 = .ok (.invokestatic 30, 3) := by decide +kernel
theorem dX3_clear_8 : decode cX3_clear 8 = .ok (.aload_n 0, 1) := by decide +kernel
theorem dX3_clear_9 : decode cX3_clear 9 = .ok (.getfield 15, 3) := by decide +kernel
theorem dX3_clear_12 : decode cX3_clear 12 = .ok (.iconst (-1), 1) := by decide +kernel
theorem dX3_clear_13 : decode cX3_clear 13 = .ok (.invokestatic 30, 3) := by decide +kernel
theorem dX3_clear_16 : decode cX3_clear 16 = .ok (.aload_n 0, 1) := by decide +kernel
theorem dX3_clear_17 : decode cX3_clear 17 = .ok (.getfield 18, 3) := by decide +kernel
theorem dX3_clear_20 : decode cX3_clear 20 = .ok (.iconst (-1), 1) := by decide +kernel
theorem dX3_clear_21 : decode cX3_clear 21 = .ok (.invokestatic 30, 3) := by decide +kernel
theorem dX3_clear_24 : decode cX3_clear 24 = .ok (.aload_n 0, 1) := by decide +kernel
theorem dX3_clear_25 : decode cX3_clear 25 = .ok (.getfield 21, 3) := by decide +kernel
theorem dX3_clear_28 : decode cX3_clear 28 = .ok (.iconst (-1), 1) := by decide +kernel
theorem dX3_clear_29 : decode cX3_clear 29 = .ok (.invokestatic 30, 3) := by decide +kernel
theorem dX3_clear_32 : decode cX3_clear 32 = .ok (.aload_n 0, 1) := by decide +kernel
theorem dX3_clear_33 : decode cX3_clear 33 = .ok (.getfield 24, 3) := by decide +kernel
theorem dX3_clear_36 : decode cX3_clear 36 = .ok (.iconst (-1), 1) := by decide +kernel
theorem dX3_clear_37 : decode cX3_clear 37 = .ok (.invokestatic 30, 3) := by decide +kernel
theorem dX3_clear_40 : decode cX3_clear 40 = .ok (.aload_n 0, 1) := by decide +kernel
theorem dX3_clear_41 : decode cX3_clear 41 = .ok (.iconst 0, 1) := by decide +kernel
theorem dX3_clear_42 : decode cX3_clear 42 = .ok (.putfield 36, 3) := by decide +kernel
theorem dX3_clear_45 : decode cX3_clear 45 = .ok (.aload_n 0, 1) := by decide +kernel
theorem dX3_clear_46 : decode cX3_clear 46 = .ok (.iconst 0, 1) := by decide +kernel
theorem dX3_clear_47 : decode cX3_clear 47 = .ok (.putfield 40, 3) := by decide +kernel
theorem dX3_clear_50 : decode cX3_clear 50 = .ok (.return_, 1) := by decide +kernel
theorem dX3_has_0 : decode cX3_has 0 = .ok (.iload_n 1, 1) := by decide +kernel
theorem dX3_has_1 : decode cX3_has 1 = .ok (.ifCond .lt 23, 3) := by decide +kernel
theorem dX3_has_4 : decode cX3_has 4 = .ok (.iload_n 1, 1) := by decide +kernel
theorem dX3_has_5 : decode cX3_has 5 = .ok (.bipush 6, 2) := by decide +kernel
theorem dX3_has_7 : decode cX3_has 7 = .ok (.if_icmp .ge 17, 3) := by decide +kernel
theorem dX3_has_10 : decode cX3_has 10 = .ok (.aload_n 0, 1) := by decide +kernel
theorem dX3_has_11 : decode cX3_has 11 = .ok (.getfield 18, 3) := by decide +kernel
theorem dX3_has_14 : decode cX3_has 14 = .ok (.iload_n 1, 1) := by decide +kernel
theorem dX3_has_15 : decode cX3_has 15 = .ok (.iaload, 1) := by decide +kernel
theorem dX3_has_16 : decode cX3_has 16 = .ok (.iconst (-1), 1) := by decide +kernel
theorem dX3_has_17 : decode cX3_has 17 = .ok (.if_icmp .eq 7, 3) := by decide +kernel
theorem dX3_has_20 : decode cX3_has 20 = .ok (.iconst 1, 1) := by decide +kernel
theorem dX3_has_21 : decode cX3_has 21 = .ok (.goto 4, 3) := by decide +kernel
theorem dX3_has_24 : decode cX3_has 24 = .ok (.iconst 0, 1) := by decide +kernel
theorem dX3_has_25 : decode cX3_has 25 = .ok (.ireturn, 1) := by decide +kernel
theorem dX3_lastAct_0 : decode cX3_lastAct 0 = .ok (.aload_n 0, 1) := by decide +kernel
theorem dX3_lastAct_1 : decode cX3_lastAct 1 = .ok (.getfield 36, 3) := by decide +kernel
theorem dX3_lastAct_4 : decode cX3_lastAct 4 = .ok (.ifCond .le 26, 3) := by decide +kernel
theorem dX3_lastAct_7 : decode cX3_lastAct 7 = .ok (.aload_n 0, 1) := by decide +kernel
theorem dX3_lastAct_8 : decode cX3_lastAct 8 = .ok (.getfield 36, 3) := by decide +kernel
theorem dX3_lastAct_11 : decode cX3_lastAct 11 = .ok (.bipush 6, 2) := by decide +kernel
theorem dX3_lastAct_13 : decode cX3_lastAct 13 = .ok (.if_icmp .gt 17, 3) := by decide +kernel
theorem dX3_lastAct_16 : decode cX3_lastAct 16 = .ok (.aload_n 0, 1) := by decide +kernel
theorem dX3_lastAct_17 : decode cX3_lastAct 17 = .ok (.getfield 9, 3) := by decide +kernel
theorem dX3_lastAct_20 : decode cX3_lastAct 20 = .ok (.aload_n 0, 1) := by decide +kernel
theorem dX3_lastAct_21 : decode cX3_lastAct 21 = .ok (.getfield 36, 3) := by decide +kernel
theorem dX3_lastAct_24 : decode cX3_lastAct 24 = .ok (.iconst 1, 1) := by decide +kernel
theorem dX3_lastAct_25 : decode cX3_lastAct 25 = .ok (.isub, 1) := by decide +kernel
theorem dX3_lastAct_26 : decode cX3_lastAct 26 = .ok (.iaload, 1) := by decide +kernel
theorem dX3_lastAct_27 : decode cX3_lastAct 27 = .ok (.goto 4, 3) := by decide +kernel
theorem dX3_lastAct_30 : decode cX3_lastAct 30 = .ok (.iconst (-1), 1) := by decide +kernel
theorem dX3_lastAct_31 : decode cX3_lastAct 31 = .ok (.ireturn, 1) := by decide +kernel
set_option maxRecDepth 20000 in
theorem ggX3_end_X3_lastAct : GoodIn wsX3_end wsX3_lastAct := goodIn_r _ [7, 8, 9, 14, 15, 16, 17, 18, 19, 20] (by decide +kernel) (by decide +kernel)
set_option maxRecDepth 20000 in
theorem gX3_end_X3_lastAct : GoodIn wsX3_end (wsV RX3 43 RX3 yX3_lastAct wsX3_lastAct) := goodIn_app (goodIn_of _ (by decide +kernel)) ggX3_end_X3_lastAct
set_option maxRecDepth 20000 in
theorem ggX3_end_X3_has : GoodIn wsX3_end wsX3_has := goodIn_r _ [13, 1, 14, 15, 16, 17, 18, 19, 20] (by decide +kernel) (by decide +kernel)
set_option maxRecDepth 20000 in
theorem gX3_end_X3_has : GoodIn wsX3_end (wsV RX3 47 RX3 yX3_has wsX3_has) := goodIn_app (goodIn_of _ (by decide +kernel)) ggX3_end_X3_has
theorem dX3_end_0 : decode cX3_end 0 = .ok (.aload_n 0, 1) := by decide +kernel
theorem dX3_end_1 : decode cX3_end 1 = .ok (.invokevirtual 43, 3) := by decide +kernel
theorem dX3_end_4 : decode cX3_end 4 = .ok (.istore_n 1, 1) := by decide +kernel
theorem dX3_end_5 : decode cX3_end 5 = .ok (.aload_n 0, 1) := by decide +kernel
theorem dX3_end_6 : decode cX3_end 6 = .ok (.iload_n 1, 1) := by decide +kernel
theorem dX3_end_7 : decode cX3_end 7 = .ok (.invokevirtual 47, 3) := by decide +kernel
theorem dX3_end_10 : decode cX3_end 10 = .ok (.ifCond .eq 19, 3) := by decide +kernel
theorem dX3_end_13 : decode cX3_end 13 = .ok (.aload_n 0, 1) := by decide +kernel
theorem dX3_end_14 : decode cX3_end 14 = .ok (.getfield 18, 3) := by decide +kernel
theorem dX3_end_17 : decode cX3_end 17 = .ok (.iload_n 1, 1) := by decide +kernel
theorem dX3_end_18 : decode cX3_end 18 = .ok (.iaload, 1) := by decide +kernel
theorem dX3_end_19 : decode cX3_end 19 = .ok (.aload_n 0, 1) := by decide +kernel
theorem dX3_end_20 : decode cX3_end 20 = .ok (.getfield 21, 3) := by decide +kernel
theorem dX3_end_23 : decode cX3_end 23 = .ok (.iload_n 1, 1) := by decide +kernel
theorem dX3_end_24 : decode cX3_end 24 = .ok (.iaload, 1) := by decide +kernel
theorem dX3_end_25 : decode cX3_end 25 = .ok (.iadd, 1) := by decide +kernel
theorem dX3_end_26 : decode cX3_end 26 = .ok (.goto 4, 3) := by decide +kernel
theorem dX3_end_29 : decode cX3_end 29 = .ok (.iconst 0, 1) := by decide +kernel
theorem dX3_end_30 : decode cX3_end 30 = .ok (.ireturn, 1) := by decide +kernel
theorem dX3_lastLanding_0 : decode cX3_lastLanding 0 = .ok (.iconst (-1), 1) := by decide +kernel
theorem dX3_lastLanding_1 : decode cX3_lastLanding 1 = .ok (.istore_n 1, 1) := by decide +kernel
theorem dX3_lastLanding_2 : decode cX3_lastLanding 2 = .ok (.iconst 0, 1) := by decide +kernel
theorem dX3_lastLanding_3 : decode cX3_lastLanding 3 = .ok (.istore_n 2, 1) := by decide +kernel
theorem dX3_lastLanding_4 : decode cX3_lastLanding 4 = .ok (.iload_n 2, 1) := by decide +kernel
theorem dX3_lastLanding_5 : decode cX3_lastLanding 5 = .ok (.bipush 6, 2) := by decide +kernel
theorem dX3_lastLanding_7 : decode cX3_lastLanding 7 = .ok (.if_icmp .ge 20, 3) := by decide +kernel
theorem dX3_lastLanding_10 : decode cX3_lastLanding 10 = .ok (.iload_n 1, 1) := by decide +kernel
theorem dX3_lastLanding_11 : decode cX3_lastLanding 11 = .ok (.aload_n 0, 1) := by decide +kernel
theorem dX3_lastLanding_12 : decode cX3_lastLanding 12 = .ok (.getfield 24, 3) := by decide +kernel
theorem dX3_lastLanding_15 : decode cX3_lastLanding 15 = .ok (.iload_n 2, 1) := by decide +kernel
theorem dX3_lastLanding_16 : decode cX3_lastLanding 16 = .ok (.iaload, 1) := by decide +kernel
theorem dX3_lastLanding_17 : decode cX3_lastLanding 17 = .ok (.invokestatic 51, 3) := by decide +kernel
theorem dX3_lastLanding_20 : decode cX3_lastLanding 20 = .ok (.istore_n 1, 1) := by decide +kernel
theorem dX3_lastLanding_21 : decode cX3_lastLanding 21 = .ok (.iinc 2 1, 3) := by decide +kernel
theorem dX3_lastLanding_24 : decode cX3_lastLanding 24 = .ok (.goto (-20), 3) := by decide +kernel
theorem dX3_lastLanding_27 : decode cX3_lastLanding 27 = .ok (.iload_n 1, 1) := by decide +kernel
theorem dX3_lastLanding_28 : decode cX3_lastLanding 28 = .ok (.ireturn, 1) := by decide +kernel
theorem dX3_add_0 : decode cX3_add 0 = .ok (.aload_n 0, 1) := by decide +kernel
theorem dX3_add_1 : decode cX3_add 1 = .ok (.getfield 36, 3) := by decide +kernel
theorem dX3_add_4 : decode cX3_add 4 = .ok (.bipush 6, 2) := by decide +kernel
theorem dX3_add_6 : decode cX3_add 6 = .ok (.if_icmp .ge 74, 3) := by decide +kernel
theorem dX3_add_9 : decode cX3_add 9 = .ok (.iload_n 1, 1) := by decide +kernel
theorem dX3_add_10 : decode cX3_add 10 = .ok (.ifCond .lt 70, 3) := by decide +kernel
theorem dX3_add_13 : decode cX3_add 13 = .ok (.iload_n 1, 1) := by decide +kernel
theorem dX3_add_14 : decode cX3_add 14 = .ok (.bipush 6, 2) := by decide +kernel
theorem dX3_add_16 : decode cX3_add 16 = .ok (.if_icmp .ge 64, 3) := by decide +kernel
theorem dX3_add_19 : decode cX3_add 19 = .ok (.aload_n 0, 1) := by decide +kernel
theorem dX3_add_20 : decode cX3_add 20 = .ok (.getfield 9, 3) := by decide +kernel
theorem dX3_add_23 : decode cX3_add 23 = .ok (.aload_n 0, 1) := by decide +kernel
theorem dX3_add_24 : decode cX3_add 24 = .ok (.getfield 36, 3) := by decide +kernel
theorem dX3_add_27 : decode cX3_add 27 = .ok (.iload_n 1, 1) := by decide +kernel
theorem dX3_add_28 : decode cX3_add 28 = .ok (.iastore, 1) := by decide +kernel
theorem dX3_add_29 : decode cX3_add 29 = .ok (.aload_n 0, 1) := by decide +kernel
theorem dX3_add_30 : decode cX3_add 30 = .ok (.getfield 15, 3) := by decide +kernel
theorem dX3_add_33 : decode cX3_add 33 = .ok (.iload_n 1, 1) := by decide +kernel
theorem dX3_add_34 : decode cX3_add 34 = .ok (.iload_n 3, 1) := by decide +kernel
theorem dX3_add_35 : decode cX3_add 35 = .ok (.iastore, 1) := by decide +kernel
theorem dX3_add_36 : decode cX3_add 36 = .ok (.aload_n 0, 1) := by decide +kernel
theorem dX3_add_37 : decode cX3_add 37 = .ok (.getfield 18, 3) := by decide +kernel
theorem dX3_add_40 : decode cX3_add 40 = .ok (.iload_n 1, 1) := by decide +kernel
theorem dX3_add_41 : decode cX3_add 41 = .ok (.iload 4, 2) := by decide +kernel
theorem dX3_add_43 : decode cX3_add 43 = .ok (.iastore, 1) := by decide +kernel
theorem dX3_add_44 : decode cX3_add 44 = .ok (.aload_n 0, 1) := by decide +kernel
theorem dX3_add_45 : decode cX3_add 45 = .ok (.getfield 21, 3) := by decide +kernel
theorem dX3_add_48 : decode cX3_add 48 = .ok (.iload_n 1, 1) := by decide +kernel
theorem dX3_add_49 : decode cX3_add 49 = .ok (.iload 5, 2) := by decide +kernel
theorem dX3_add_51 : decode cX3_add 51 = .ok (.iastore, 1) := by decide +kernel
theorem dX3_add_52 : decode cX3_add 52 = .ok (.aload_n 0, 1) := by decide +kernel
theorem dX3_add_53 : decode cX3_add 53 = .ok (.getfield 24, 3) := by decide +kernel
theorem dX3_add_56 : decode cX3_add 56 = .ok (.iload_n 1, 1) := by decide +kernel
theorem dX3_add_57 : decode cX3_add 57 = .ok (.iload 6, 2) := by decide +kernel
theorem dX3_add_59 : decode cX3_add 59 = .ok (.iastore, 1) := by decide +kernel
theorem dX3_add_60 : decode cX3_add 60 = .ok (.aload_n 0, 1) := by decide +kernel
theorem dX3_add_61 : decode cX3_add 61 = .ok (.dup, 1) := by decide +kernel
theorem dX3_add_62 : decode cX3_add 62 = .ok (.getfield 36, 3) := by decide +kernel
theorem dX3_add_65 : decode cX3_add 65 = .ok (.iconst 1, 1) := by decide +kernel
theorem dX3_add_66 : decode cX3_add 66 = .ok (.iadd, 1) := by decide +kernel
theorem dX3_add_67 : decode cX3_add 67 = .ok (.putfield 36, 3) := by decide +kernel
theorem dX3_add_70 : decode cX3_add 70 = .ok (.aload_n 0, 1) := by decide +kernel
theorem dX3_add_71 : decode cX3_add 71 = .ok (.dup, 1) := by decide +kernel
theorem dX3_add_72 : decode cX3_add 72 = .ok (.getfield 40, 3) := by decide +kernel
theorem dX3_add_75 : decode cX3_add 75 = .ok (.iload_n 2, 1) := by decide +kernel
theorem dX3_add_76 : decode cX3_add 76 = .ok (.iadd, 1) := by decide +kernel
theorem dX3_add_77 : decode cX3_add 77 = .ok (.putfield 40, 3) := by decide +kernel
theorem dX3_add_80 : decode cX3_add 80 = .ok (.return_, 1) := by decide +kernel
set_option maxRecDepth 20000 in
theorem ggX3_dropLast_X3_lastAct : GoodIn wsX3_dropLast wsX3_lastAct := goodIn_r _ [12, 5, 6, 17, 18, 19, 20, 21, 22, 23] (by decide +kernel) (by decide +kernel)
set_option maxRecDepth 20000 in
theorem gX3_dropLast_X3_lastAct : GoodIn wsX3_dropLast (wsV RX3 43 RX3 yX3_lastAct wsX3_lastAct) := goodIn_app (goodIn_of _ (by decide +kernel)) ggX3_dropLast_X3_lastAct
set_option maxRecDepth 20000 in
theorem ggX3_dropLast_X3_has : GoodIn wsX3_dropLast wsX3_has := goodIn_r _ [16, 2, 17, 18, 19, 20, 21, 22, 23] (by decide +kernel) (by decide +kernel)
set_option maxRecDepth 20000 in
theorem gX3_dropLast_X3_has : GoodIn wsX3_dropLast (wsV RX3 47 RX3 yX3_has wsX3_has) := goodIn_app (goodIn_of _ (by decide +kernel)) ggX3_dropLast_X3_has
theorem dX3_dropLast_0 : decode cX3_dropLast 0 = .ok (.aload_n 0, 1) := by decide +kernel
theorem dX3_dropLast_1 : decode cX3_dropLast 1 = .ok (.invokevirtual 43, 3) := by decide +kernel
theorem dX3_dropLast_4 : decode cX3_dropLast 4 = .ok (.istore_n 2, 1) := by decide +kernel
theorem dX3_dropLast_5 : decode cX3_dropLast 5 = .ok (.aload_n 0, 1) := by decide +kernel
theorem dX3_dropLast_6 : decode cX3_dropLast 6 = .ok (.iload_n 2, 1) := by decide +kernel
theorem dX3_dropLast_7 : decode cX3_dropLast 7 = .ok (.invokevirtual 47, 3) := by decide +kernel
theorem dX3_dropLast_10 : decode cX3_dropLast 10 = .ok (.ifCond .eq 61, 3) := by decide +kernel
theorem dX3_dropLast_13 : decode cX3_dropLast 13 = .ok (.aload_n 0, 1) := by decide +kernel
theorem dX3_dropLast_14 : decode cX3_dropLast 14 = .ok (.getfield 15, 3) := by decide +kernel
theorem dX3_dropLast_17 : decode cX3_dropLast 17 = .ok (.iload_n 2, 1) := by decide +kernel
theorem dX3_dropLast_18 : decode cX3_dropLast 18 = .ok (.iconst (-1), 1) := by decide +kernel
theorem dX3_dropLast_19 : decode cX3_dropLast 19 = .ok (.iastore, 1) := by decide +kernel
theorem dX3_dropLast_20 : decode cX3_dropLast 20 = .ok (.aload_n 0, 1) := by decide +kernel
theorem dX3_dropLast_21 : decode cX3_dropLast 21 = .ok (.getfield 18, 3) := by decide +kernel
theorem dX3_dropLast_24 : decode cX3_dropLast 24 = .ok (.iload_n 2, 1) := by decide +kernel
theorem dX3_dropLast_25 : decode cX3_dropLast 25 = .ok (.iconst (-1), 1) := by decide +kernel
theorem dX3_dropLast_26 : decode cX3_dropLast 26 = .ok (.iastore, 1) := by decide +kernel
theorem dX3_dropLast_27 : decode cX3_dropLast 27 = .ok (.aload_n 0, 1) := by decide +kernel
theorem dX3_dropLast_28 : decode cX3_dropLast 28 = .ok (.getfield 21, 3) := by decide +kernel
theorem dX3_dropLast_31 : decode cX3_dropLast 31 = .ok (.iload_n 2, 1) := by decide +kernel
theorem dX3_dropLast_32 : decode cX3_dropLast 32 = .ok (.iconst (-1), 1) := by decide +kernel
theorem dX3_dropLast_33 : decode cX3_dropLast 33 = .ok (.iastore, 1) := by decide +kernel
theorem dX3_dropLast_34 : decode cX3_dropLast 34 = .ok (.aload_n 0, 1) := by decide +kernel
theorem dX3_dropLast_35 : decode cX3_dropLast 35 = .ok (.getfield 24, 3) := by decide +kernel
theorem dX3_dropLast_38 : decode cX3_dropLast 38 = .ok (.iload_n 2, 1) := by decide +kernel
theorem dX3_dropLast_39 : decode cX3_dropLast 39 = .ok (.iconst (-1), 1) := by decide +kernel
theorem dX3_dropLast_40 : decode cX3_dropLast 40 = .ok (.iastore, 1) := by decide +kernel
theorem dX3_dropLast_41 : decode cX3_dropLast 41 = .ok (.aload_n 0, 1) := by decide +kernel
theorem dX3_dropLast_42 : decode cX3_dropLast 42 = .ok (.dup, 1) := by decide +kernel
theorem dX3_dropLast_43 : decode cX3_dropLast 43 = .ok (.getfield 36, 3) := by decide +kernel
theorem dX3_dropLast_46 : decode cX3_dropLast 46 = .ok (.iconst 1, 1) := by decide +kernel
theorem dX3_dropLast_47 : decode cX3_dropLast 47 = .ok (.isub, 1) := by decide +kernel
theorem dX3_dropLast_48 : decode cX3_dropLast 48 = .ok (.putfield 36, 3) := by decide +kernel
theorem dX3_dropLast_51 : decode cX3_dropLast 51 = .ok (.aload_n 0, 1) := by decide +kernel
theorem dX3_dropLast_52 : decode cX3_dropLast 52 = .ok (.getfield 9, 3) := by decide +kernel
theorem dX3_dropLast_55 : decode cX3_dropLast 55 = .ok (.aload_n 0, 1) := by decide +kernel
theorem dX3_dropLast_56 : decode cX3_dropLast 56 = .ok (.getfield 36, 3) := by decide +kernel
theorem dX3_dropLast_59 : decode cX3_dropLast 59 = .ok (.iconst (-1), 1) := by decide +kernel
theorem dX3_dropLast_60 : decode cX3_dropLast 60 = .ok (.iastore, 1) := by decide +kernel
theorem dX3_dropLast_61 : decode cX3_dropLast 61 = .ok (.aload_n 0, 1) := by decide +kernel
theorem dX3_dropLast_62 : decode cX3_dropLast 62 = .ok (.dup, 1) := by decide +kernel
theorem dX3_dropLast_63 : decode cX3_dropLast 63 = .ok (.getfield 40, 3) := by decide +kernel
theorem dX3_dropLast_66 : decode cX3_dropLast 66 = .ok (.iload_n 1, 1) := by decide +kernel
theorem dX3_dropLast_67 : decode cX3_dropLast 67 = .ok (.isub, 1) := by decide +kernel
theorem dX3_dropLast_68 : decode cX3_dropLast 68 = .ok (.putfield 40, 3) := by decide +kernel
theorem dX3_dropLast_71 : decode cX3_dropLast 71 = .ok (.return_, 1) := by decide +kernel
theorem dX3_sameBegins_0 : decode cX3_sameBegins 0 = .ok (.iconst 0, 1) := by decide +kernel
theorem dX3_sameBegins_1 : decode cX3_sameBegins 1 = .ok (.istore_n 2, 1) := by decide +kernel
theorem dX3_sameBegins_2 : decode cX3_sameBegins 2 = .ok (.iconst 0, 1) := by decide +kernel
theorem dX3_sameBegins_3 : decode cX3_sameBegins 3 = .ok (.istore_n 3, 1) := by decide +kernel
theorem dX3_sameBegins_4 : decode cX3_sameBegins 4 = .ok (.iload_n 3, 1) := by decide +kernel
theorem dX3_sameBegins_5 : decode cX3_sameBegins 5 = .ok (.bipush 6, 2) := by decide +kernel
theorem dX3_sameBegins_7 : decode cX3_sameBegins 7 = .ok (.if_icmp .ge 37, 3) := by decide +kernel
theorem dX3_sameBegins_10 : decode cX3_sameBegins 10 = .ok (.aload_n 0, 1) := by decide +kernel
theorem dX3_sameBegins_11 : decode cX3_sameBegins 11 = .ok (.getfield 18, 3) := by decide +kernel
theorem dX3_sameBegins_14 : decode cX3_sameBegins 14 = .ok (.iload_n 3, 1) := by decide +kernel
theorem dX3_sameBegins_15 : decode cX3_sameBegins 15 = .ok (.iaload, 1) := by decide +kernel
theorem dX3_sameBegins_16 : decode cX3_sameBegins 16 = .ok (.iconst (-1), 1) := by decide +kernel
theorem dX3_sameBegins_17 : decode cX3_sameBegins 17 = .ok (.if_icmp .eq 21, 3) := by decide +kernel
theorem dX3_sameBegins_20 : decode cX3_sameBegins 20 = .ok (.aload_n 0, 1) := by decide +kernel
theorem dX3_sameBegins_21 : decode cX3_sameBegins 21 = .ok (.getfield 18, 3) := by decide +kernel
theorem dX3_sameBegins_24 : decode cX3_sameBegins 24 = .ok (.iload_n 3, 1) := by decide +kernel
theorem dX3_sameBegins_25 : decode cX3_sameBegins 25 = .ok (.iaload, 1) := by decide +kernel
theorem dX3_sameBegins_26 : decode cX3_sameBegins 26 = .ok (.aload_n 1, 1) := by decide +kernel
theorem dX3_sameBegins_27 : decode cX3_sameBegins 27 = .ok (.getfield 18, 3) := by decide +kernel
theorem dX3_sameBegins_30 : decode cX3_sameBegins 30 = .ok (.iload_n 3, 1) := by decide +kernel
theorem dX3_sameBegins_31 : decode cX3_sameBegins 31 = .ok (.iaload, 1) := by decide +kernel
theorem dX3_sameBegins_32 : decode cX3_sameBegins 32 = .ok (.if_icmp .ne 6, 3) := by decide +kernel
theorem dX3_sameBegins_35 : decode cX3_sameBegins 35 = .ok (.iinc 2 1, 3) := by decide +kernel
theorem dX3_sameBegins_38 : decode cX3_sameBegins 38 = .ok (.iinc 3 1, 3) := by decide +kernel
theorem dX3_sameBegins_41 : decode cX3_sameBegins 41 = .ok (.goto (-37), 3) := by decide +kernel
theorem dX3_sameBegins_44 : decode cX3_sameBegins 44 = .ok (.iload_n 2, 1) := by decide +kernel
theorem dX3_sameBegins_45 : decode cX3_sameBegins 45 = .ok (.ireturn, 1) := by decide +kernel
theorem dX3_copy_0 : decode cX3_copy 0 = .ok (.aload_n 1, 1) := by decide +kernel
theorem dX3_copy_1 : decode cX3_copy 1 = .ok (.getfield 9, 3) := by decide +kernel
theorem dX3_copy_4 : decode cX3_copy 4 = .ok (.iconst 0, 1) := by decide +kernel
theorem dX3_copy_5 : decode cX3_copy 5 = .ok (.aload_n 0, 1) := by decide +kernel
theorem dX3_copy_6 : decode cX3_copy 6 = .ok (.getfield 9, 3) := by decide +kernel
theorem dX3_copy_9 : decode cX3_copy 9 = .ok (.iconst 0, 1) := by decide +kernel
theorem dX3_copy_10 : decode cX3_copy 10 = .ok (.bipush 6, 2) := by decide +kernel
theorem dX3_copy_12 : decode cX3_copy 12 = .ok (.invokestatic 57, 3) := by decide +kernel
theorem dX3_copy_15 : decode cX3_copy 15 = .ok (.aload_n 1, 1) := by decide +kernel
theorem dX3_copy_16 : decode cX3_copy 16 = .ok (.getfield 15, 3) := by decide +kernel
theorem dX3_copy_19 : decode cX3_copy 19 = .ok (.iconst 0, 1) := by decide +kernel
theorem dX3_copy_20 : decode cX3_copy 20 = .ok (.aload_n 0, 1) := by decide +kernel
theorem dX3_copy_21 : decode cX3_copy 21 = .ok (.getfield 15, 3) := by decide +kernel
theorem dX3_copy_24 : decode cX3_copy 24 = .ok (.iconst 0, 1) := by decide +kernel
theorem dX3_copy_25 : decode cX3_copy 25 = .ok (.bipush 6, 2) := by decide +kernel
theorem dX3_copy_27 : decode cX3_copy 27 = .ok (.invokestatic 57, 3) := by decide +kernel
theorem dX3_copy_30 : decode cX3_copy 30 = .ok (.aload_n 1, 1) := by decide +kernel
theorem dX3_copy_31 : decode cX3_copy 31 = .ok (.getfield 18, 3) := by decide +kernel
theorem dX3_copy_34 : decode cX3_copy 34 = .ok (.iconst 0, 1) := by decide +kernel
theorem dX3_copy_35 : decode cX3_copy 35 = .ok (.aload_n 0, 1) := by decide +kernel
theorem dX3_copy_36 : decode cX3_copy 36 = .ok (.getfield 18, 3) := by decide +kernel
theorem dX3_copy_39 : decode cX3_copy 39 = .ok (.iconst 0, 1) := by decide +kernel
theorem dX3_copy_40 : decode cX3_copy 40 = .ok (.bipush 6, 2) := by decide +kernel
theorem dX3_copy_42 : decode cX3_copy 42 = .ok (.invokestatic 57, 3) := by decide +kernel
theorem dX3_copy_45 : decode cX3_copy 45 = .ok (.aload_n 1, 1) := by decide +kernel
theorem dX3_copy_46 : decode cX3_copy 46 = .ok (.getfield 21, 3) := by decide +kernel
theorem dX3_copy_49 : decode cX3_copy 49 = .ok (.iconst 0, 1) := by decide +kernel
theorem dX3_copy_50 : decode cX3_copy 50 = .ok (.aload_n 0, 1) := by decide +kernel
theorem dX3_copy_51 : decode cX3_copy 51 = .ok (.getfield 21, 3) := by decide +kernel
theorem dX3_copy_54 : decode cX3_copy 54 = .ok (.iconst 0, 1) := by decide +kernel
theorem dX3_copy_55 : decode cX3_copy 55 = .ok (.bipush 6, 2) := by decide +kernel
theorem dX3_copy_57 : decode cX3_copy 57 = .ok (.invokestatic 57, 3) := by decide +kernel
theorem dX3_copy_60 : decode cX3_copy 60 = .ok (.aload_n 1, 1) := by decide +kernel
theorem dX3_copy_61 : decode cX3_copy 61 = .ok (.getfield 24, 3) := by decide +kernel
theorem dX3_copy_64 : decode cX3_copy 64 = .ok (.iconst 0, 1) := by decide +kernel
theorem dX3_copy_65 : decode cX3_copy 65 = .ok (.aload_n 0, 1) := by decide +kernel
theorem dX3_copy_66 : decode cX3_copy 66 = .ok (.getfield 24, 3) := by decide +kernel
theorem dX3_copy_69 : decode cX3_copy 69 = .ok (.iconst 0, 1) := by decide +kernel
theorem dX3_copy_70 : decode cX3_copy 70 = .ok (.bipush 6, 2) := by decide +kernel
theorem dX3_copy_72 : decode cX3_copy 72 = .ok (.invokestatic 57, 3) := by decide +kernel
theorem dX3_copy_75 : decode cX3_copy 75 = .ok (.aload_n 0, 1) := by decide +kernel
theorem dX3_copy_76 : decode cX3_copy 76 = .ok (.aload_n 1, 1) := by decide +kernel
theorem dX3_copy_77 : decode cX3_copy 77 = .ok (.getfield 36, 3) := by decide +kernel
theorem dX3_copy_80 : decode cX3_copy 80 = .ok (.putfield 36, 3) := by decide +kernel
theorem dX3_copy_83 : decode cX3_copy 83 = .ok (.aload_n 0, 1) := by decide +kernel
theorem dX3_copy_84 : decode cX3_copy 84 = .ok (.aload_n 1, 1) := by decide +kernel
theorem dX3_copy_85 : decode cX3_copy 85 = .ok (.getfield 40, 3) := by decide +kernel
theorem dX3_copy_88 : decode cX3_copy 88 = .ok (.putfield 40, 3) := by decide +kernel
theorem dX3_copy_91 : decode cX3_copy 91 = .ok (.return_, 1) := by decide +kernel
set_option maxRecDepth 20000 in
theorem ggX4_init_X3_init : GoodIn wsX4_init wsX3_init := goodIn_r _ [19, 20, 2, 3, 4, 21, 22, 23, 24, 25, 26, 27, 28, 11, 29, 30, 31, 32, 33, 34, 35, 44, 45, 46, 47, 48, 49, 50] (by decide +kernel) (by decide +kernel)
set_option maxRecDepth 20000 in
theorem gX4_init_X3_init : GoodIn wsX4_init (wsX3_init) := ggX4_init_X3_init
theorem dX4_init_0 : decode cX4_init 0 = .ok (.aload_n 0, 1) := by decide +kernel
theorem dX4_init_1 : decode cX4_init 1 = .ok (.invokespecial 3, 3) := by decide +kernel
theorem dX4_init_4 : decode cX4_init 4 = .ok (.aload_n 0, 1) := by decide +kernel
theorem dX4_init_5 : decode cX4_init 5 = .ok (.bipush 9, 2) := by decide +kernel
theorem dX4_init_7 : decode cX4_init 7 = .ok (.newarray .int, 2) := by decide +kernel
theorem dX4_init_9 : decode cX4_init 9 = .ok (.putfield 11, 3) := by decide +kernel
theorem dX4_init_12 : decode cX4_init 12 = .ok (.aload_n 0, 1) := by decide +kernel
theorem dX4_init_13 : decode cX4_init 13 = .ok (.bipush 60, 2) := by decide +kernel
theorem dX4_init_15 : decode cX4_init 15 = .ok (.newarray .int, 2) := by decide +kernel
theorem dX4_init_17 : decode cX4_init 17 = .ok (.putfield 17, 3) := by decide +kernel
theorem dX4_init_20 : decode cX4_init 20 = .ok (.aload_n 0, 1) := by decide +kernel
theorem dX4_init_21 : decode cX4_init 21 = .ok (.sipush 240, 3) := by decide +kernel
theorem dX4_init_24 : decode cX4_init 24 = .ok (.newarray .boolean, 2) := by decide +kernel
theorem dX4_init_26 : decode cX4_init 26 = .ok (.putfield 20, 3) := by decide +kernel
theorem dX4_init_29 : decode cX4_init 29 = .ok (.aload_n 0, 1) := by decide +kernel
theorem dX4_init_30 : decode cX4_init 30 = .ok (.new 24, 3) := by decide +kernel
theorem dX4_init_33 : decode cX4_init 33 = .ok (.dup, 1) := by decide +kernel
theorem dX4_init_34 : decode cX4_init 34 = .ok (.invokespecial 26, 3) := by decide +kernel
theorem dX4_init_37 : decode cX4_init 37 = .ok (.putfield 27, 3) := by decide +kernel
theorem dX4_init_40 : decode cX4_init 40 = .ok (.aload_n 0, 1) := by decide +kernel
theorem dX4_init_41 : decode cX4_init 41 = .ok (.new 24, 3) := by decide +kernel
theorem dX4_init_44 : decode cX4_init 44 = .ok (.dup, 1) := by decide +kernel
theorem dX4_init_45 : decode cX4_init 45 = .ok (.invokespecial 26, 3) := by decide +kernel
theorem dX4_init_48 : decode cX4_init 48 = .ok (.putfield 31, 3) := by decide +kernel
theorem dX4_init_51 : decode cX4_init 51 = .ok (.aload_n 0, 1) := by decide +kernel
theorem dX4_init_52 : decode cX4_init 52 = .ok (.aload_n 1, 1) := by decide +kernel
theorem dX4_init_53 : decode cX4_init 53 = .ok (.putfield 34, 3) := by decide +kernel
theorem dX4_init_56 : decode cX4_init 56 = .ok (.aload_n 0, 1) := by decide +kernel
theorem dX4_init_57 : decode cX4_init 57 = .ok (.aload_n 2, 1) := by decide +kernel
theorem dX4_init_58 : decode cX4_init 58 = .ok (.putfield 38, 3) := by decide +kernel
theorem dX4_init_61 : decode cX4_init 61 = .ok (.aload_n 0, 1) := by decide +kernel
theorem dX4_init_62 : decode cX4_init 62 = .ok (.aload_n 3, 1) := by decide +kernel
theorem dX4_init_63 : decode cX4_init 63 = .ok (.putfield 42, 3) := by decide +kernel
theorem dX4_init_66 : decode cX4_init 66 = .ok (.return_, 1) := by decide +kernel
set_option maxRecDepth 20000 in
theorem ggX4_begin_X3_clear : GoodIn wsX4_begin wsX3_clear := goodIn_r _ [10, 11, 12, 13, 14, 15, 16, 17, 18, 19, 20, 21, 65, 66, 67, 68, 69, 70, 71] (by decide +kernel) (by decide +kernel)
set_option maxRecDepth 20000 in
theorem gX4_begin_X3_clear : GoodIn wsX4_begin (wsV RX4 46 RX3 yX3_clear wsX3_clear) := goodIn_app (goodIn_of _ (by decide +kernel)) ggX4_begin_X3_clear
set_option maxRecDepth 20000 in
theorem ggX4_begin_X7_actAt : GoodIn wsX4_begin wsX7_actAt := goodIn_r _ [26, 27, 28, 72, 73, 74, 75, 76, 77] (by decide +kernel) (by decide +kernel)
set_option maxRecDepth 20000 in
theorem gX4_begin_X7_actAt : GoodIn wsX4_begin (wsV RX4 49 RX7 yX7_actAt wsX7_actAt) := goodIn_app (goodIn_of _ (by decide +kernel)) ggX4_begin_X7_actAt
set_option maxRecDepth 20000 in
theorem ggX4_begin_X7_minutesInBox : GoodIn wsX4_begin wsX7_minutesInBox := goodIn_r _ [32, 33, 34, 35, 25, 36, 37, 38, 39, 40, 41, 42, 43, 44, 45, 46, 47, 48, 49, 50, 51, 52, 53, 54, 55, 56, 78, 79, 80, 81, 82, 83, 84, 85, 86, 87, 88, 89, 72, 73, 74, 75, 76, 77] (by decide +kernel) (by decide +kernel)
set_option maxRecDepth 20000 in
theorem gX4_begin_X7_minutesInBox : GoodIn wsX4_begin (wsV RX4 55 RX7 yX7_minutesInBox wsX7_minutesInBox) := goodIn_app (goodIn_of _ (by decide +kernel)) ggX4_begin_X7_minutesInBox
theorem dX4_begin_0 : decode cX4_begin 0 = .ok (.aload_n 0, 1) := by decide +kernel
theorem dX4_begin_1 : decode cX4_begin 1 = .ok (.aload_n 1, 1) := by decide +kernel
theorem dX4_begin_2 : decode cX4_begin 2 = .ok (.putfield 42, 3) := by decide +kernel
theorem dX4_begin_5 : decode cX4_begin 5 = .ok (.aload_n 0, 1) := by decide +kernel
theorem dX4_begin_6 : decode cX4_begin 6 = .ok (.getfield 31, 3) := by decide +kernel
theorem dX4_begin_9 : decode cX4_begin 9 = .ok (.invokevirtual 46, 3) := by decide +kernel
theorem dX4_begin_12 : decode cX4_begin 12 = .ok (.iconst 0, 1) := by decide +kernel
theorem dX4_begin_13 : decode cX4_begin 13 = .ok (.istore_n 2, 1) := by decide +kernel
theorem dX4_begin_14 : decode cX4_begin 14 = .ok (.iload_n 2, 1) := by decide +kernel
theorem dX4_begin_15 : decode cX4_begin 15 = .ok (.sipush 240, 3) := by decide +kernel
theorem dX4_begin_18 : decode cX4_begin 18 = .ok (.if_icmp .ge 16, 3) := by decide +kernel
theorem dX4_begin_21 : decode cX4_begin 21 = .ok (.aload_n 0, 1) := by decide +kernel
theorem dX4_begin_22 : decode cX4_begin 22 = .ok (.getfield 20, 3) := by decide +kernel
theorem dX4_begin_25 : decode cX4_begin 25 = .ok (.iload_n 2, 1) := by decide +kernel
theorem dX4_begin_26 : decode cX4_begin 26 = .ok (.iconst 0, 1) := by decide +kernel
theorem dX4_begin_27 : decode cX4_begin 27 = .ok (.bastore, 1) := by decide +kernel
theorem dX4_begin_28 : decode cX4_begin 28 = .ok (.iinc 2 1, 3) := by decide +kernel
theorem dX4_begin_31 : decode cX4_begin 31 = .ok (.goto (-17), 3) := by decide +kernel
theorem dX4_begin_34 : decode cX4_begin 34 = .ok (.iconst 0, 1) := by decide +kernel
theorem dX4_begin_35 : decode cX4_begin 35 = .ok (.istore_n 2, 1) := by decide +kernel
theorem dX4_begin_36 : decode cX4_begin 36 = .ok (.iload_n 2, 1) := by decide +kernel
theorem dX4_begin_37 : decode cX4_begin 37 = .ok (.aload_n 0, 1) := by decide +kernel
theorem dX4_begin_38 : decode cX4_begin 38 = .ok (.getfield 17, 3) := by decide +kernel
theorem dX4_begin_41 : decode cX4_begin 41 = .ok (.arraylength, 1) := by decide +kernel
theorem dX4_begin_42 : decode cX4_begin 42 = .ok (.if_icmp .ge 47, 3) := by decide +kernel
theorem dX4_begin_45 : decode cX4_begin 45 = .ok (.aload_n 0, 1) := by decide +kernel
theorem dX4_begin_46 : decode cX4_begin 46 = .ok (.getfield 34, 3) := by decide +kernel
theorem dX4_begin_49 : decode cX4_begin 49 = .ok (.iload_n 2, 1) := by decide +kernel
theorem dX4_begin_50 : decode cX4_begin 50 = .ok (.bipush 10, 2) := by decide +kernel
theorem dX4_begin_52 : decode cX4_begin 52 = .ok (.idiv, 1) := by decide +kernel
theorem dX4_begin_53 : decode cX4_begin 53 = .ok (.invokevirtual 49, 3) := by decide +kernel
theorem dX4_begin_56 : decode cX4_begin 56 = .ok (.astore_n 3, 1) := by decide +kernel
theorem dX4_begin_57 : decode cX4_begin 57 = .ok (.aload_n 0, 1) := by decide +kernel
theorem dX4_begin_58 : decode cX4_begin 58 = .ok (.getfield 17, 3) := by decide +kernel
theorem dX4_begin_61 : decode cX4_begin 61 = .ok (.iload_n 2, 1) := by decide +kernel
theorem dX4_begin_62 : decode cX4_begin 62 = .ok (.aload_n 3, 1) := by decide +kernel
theorem dX4_begin_63 : decode cX4_begin 63 = .ok (.ifnonnull 7, 3) := by decide +kernel
theorem dX4_begin_66 : decode cX4_begin 66 = .ok (.iconst 0, 1) := by decide +kernel
theorem dX4_begin_67 : decode cX4_begin 67 = .ok (.goto 15, 3) := by decide +kernel
theorem dX4_begin_70 : decode cX4_begin 70 = .ok (.aload_n 0, 1) := by decide +kernel
theorem dX4_begin_71 : decode cX4_begin 71 = .ok (.getfield 34, 3) := by decide +kernel
theorem dX4_begin_74 : decode cX4_begin 74 = .ok (.aload_n 3, 1) := by decide +kernel
theorem dX4_begin_75 : decode cX4_begin 75 = .ok (.iload_n 2, 1) := by decide +kernel
theorem dX4_begin_76 : decode cX4_begin 76 = .ok (.bipush 10, 2) := by decide +kernel
theorem dX4_begin_78 : decode cX4_begin 78 = .ok (.irem, 1) := by decide +kernel
theorem dX4_begin_79 : decode cX4_begin 79 = .ok (.invokevirtual 55, 3) := by decide +kernel
theorem dX4_begin_82 : decode cX4_begin 82 = .ok (.iastore, 1) := by decide +kernel
theorem dX4_begin_83 : decode cX4_begin 83 = .ok (.iinc 2 1, 3) := by decide +kernel
theorem dX4_begin_86 : decode cX4_begin 86 = .ok (.goto (-50), 3) := by decide +kernel
theorem dX4_begin_89 : decode cX4_begin 89 = .ok (.return_, 1) := by decide +kernel
set_option maxRecDepth 20000 in
theorem ggX4_outRuleFor_X7_actAt : GoodIn wsX4_outRuleFor wsX7_actAt := goodIn_r _ [8, 9, 10, 79, 80, 81, 82, 83, 84] (by decide +kernel) (by decide +kernel)
set_option maxRecDepth 20000 in
theorem gX4_outRuleFor_X7_actAt : GoodIn wsX4_outRuleFor (wsV RX4 49 RX7 yX7_actAt wsX7_actAt) := goodIn_app (goodIn_of _ (by decide +kernel)) ggX4_outRuleFor_X7_actAt
set_option maxRecDepth 20000 in
theorem ggX4_outRuleFor_X4_minutesFrom : GoodIn wsX4_outRuleFor wsX4_minutesFrom := goodIn_r _ [15, 16, 17, 18, 71, 72, 73, 74, 75, 76, 77, 78, 85, 86, 87] (by decide +kernel) (by decide +kernel)
set_option maxRecDepth 20000 in
theorem gX4_outRuleFor_X4_minutesFrom : GoodIn wsX4_outRuleFor (wsV RX4 59 RX4 yX4_minutesFrom wsX4_minutesFrom) := goodIn_app (goodIn_of _ (by decide +kernel)) ggX4_outRuleFor_X4_minutesFrom
set_option maxRecDepth 20000 in
theorem ggX4_outRuleFor_X4_describe : GoodIn wsX4_outRuleFor wsX4_describe := goodIn_r _ [22, 1, 23, 3, 24, 25, 26, 27, 28, 29, 30, 31, 32, 33, 34, 4, 5, 6, 7, 8, 9, 10, 35, 36, 37, 14, 38, 39, 40, 41, 42, 43, 44, 71, 72, 73, 74, 75, 76, 77, 78, 88, 89, 90, 91, 92, 93, 94, 95, 79, 80, 81, 82, 83, 84, 96, 97, 98, 99, 100, 101, 102] (by decide +kernel) (by decide +kernel)
set_option maxRecDepth 20000 in
theorem gX4_outRuleFor_X4_describe : GoodIn wsX4_outRuleFor (wsV RX4 63 RX4 yX4_describe wsX4_describe) := goodIn_app (goodIn_of _ (by decide +kernel)) ggX4_outRuleFor_X4_describe
set_option maxRecDepth 20000 in
theorem ggX4_outRuleFor_X4_describeBegin : GoodIn wsX4_outRuleFor wsX4_describeBegin := goodIn_r _ [48, 3, 16, 17, 71, 72, 73, 74, 75, 76, 77, 78, 85, 86, 87] (by decide +kernel) (by decide +kernel)
set_option maxRecDepth 20000 in
theorem gX4_outRuleFor_X4_describeBegin : GoodIn wsX4_outRuleFor (wsV RX4 67 RX4 yX4_describeBegin wsX4_describeBegin) := goodIn_app (goodIn_of _ (by decide +kernel)) ggX4_outRuleFor_X4_describeBegin
set_option maxRecDepth 20000 in
theorem ggX4_outRuleFor_X10_firstThatHolds : GoodIn wsX4_outRuleFor wsX10_firstThatHolds := goodIn_r _ [53, 54, 55, 56, 57, 58, 59, 60, 52, 61, 62, 63, 64, 65, 66, 67, 68, 69, 70, 103, 104, 105, 106, 107, 108, 109, 110] (by decide +kernel) (by decide +kernel)
set_option maxRecDepth 20000 in
theorem gX4_outRuleFor_X10_firstThatHolds : GoodIn wsX4_outRuleFor (wsV RX4 73 RX10 yX10_firstThatHolds wsX10_firstThatHolds) := goodIn_app (goodIn_of _ (by decide +kernel)) ggX4_outRuleFor_X10_firstThatHolds
theorem dX4_outRuleFor_0 : decode cX4_outRuleFor 0 = .ok (.aload_n 0, 1) := by decide +kernel
theorem dX4_outRuleFor_1 : decode cX4_outRuleFor 1 = .ok (.getfield 34, 3) := by decide +kernel
theorem dX4_outRuleFor_4 : decode cX4_outRuleFor 4 = .ok (.iload_n 1, 1) := by decide +kernel
theorem dX4_outRuleFor_5 : decode cX4_outRuleFor 5 = .ok (.invokevirtual 49, 3) := by decide +kernel
theorem dX4_outRuleFor_8 : decode cX4_outRuleFor 8 = .ok (.astore_n 3, 1) := by decide +kernel
theorem dX4_outRuleFor_9 : decode cX4_outRuleFor 9 = .ok (.aload_n 0, 1) := by decide +kernel
theorem dX4_outRuleFor_10 : decode cX4_outRuleFor 10 = .ok (.iload_n 1, 1) := by decide +kernel
theorem dX4_outRuleFor_11 : decode cX4_outRuleFor 11 = .ok (.iload_n 2, 1) := by decide +kernel
theorem dX4_outRuleFor_12 : decode cX4_outRuleFor 12 = .ok (.invokevirtual 59, 3) := by decide +kernel
theorem dX4_outRuleFor_15 : decode cX4_outRuleFor 15 = .ok (.istore 4, 2) := by decide +kernel
theorem dX4_outRuleFor_17 : decode cX4_outRuleFor 17 = .ok (.aload_n 3, 1) := by decide +kernel
theorem dX4_outRuleFor_18 : decode cX4_outRuleFor 18 = .ok (.ifnull 8, 3) := by decide +kernel
theorem dX4_outRuleFor_21 : decode cX4_outRuleFor 21 = .ok (.iload 4, 2) := by decide +kernel
theorem dX4_outRuleFor_23 : decode cX4_outRuleFor 23 = .ok (.ifCond .ne 5, 3) := by decide +kernel
theorem dX4_outRuleFor_26 : decode cX4_outRuleFor 26 = .ok (.iconst (-1), 1) := by decide +kernel
theorem dX4_outRuleFor_27 : decode cX4_outRuleFor 27 = .ok (.ireturn, 1) := by decide +kernel
theorem dX4_outRuleFor_28 : decode cX4_outRuleFor 28 = .ok (.aload_n 0, 1) := by decide +kernel
theorem dX4_outRuleFor_29 : decode cX4_outRuleFor 29 = .ok (.aload_n 3, 1) := by decide +kernel
theorem dX4_outRuleFor_30 : decode cX4_outRuleFor 30 = .ok (.iload_n 1, 1) := by decide +kernel
theorem dX4_outRuleFor_31 : decode cX4_outRuleFor 31 = .ok (.invokevirtual 63, 3) := by decide +kernel
theorem dX4_outRuleFor_34 : decode cX4_outRuleFor 34 = .ok (.aload_n 0, 1) := by decide +kernel
theorem dX4_outRuleFor_35 : decode cX4_outRuleFor 35 = .ok (.iload_n 2, 1) := by decide +kernel
theorem dX4_outRuleFor_36 : decode cX4_outRuleFor 36 = .ok (.iload 4, 2) := by decide +kernel
theorem dX4_outRuleFor_38 : decode cX4_outRuleFor 38 = .ok (.invokevirtual 67, 3) := by decide +kernel
theorem dX4_outRuleFor_41 : decode cX4_outRuleFor 41 = .ok (.aload_n 0, 1) := by decide +kernel
theorem dX4_outRuleFor_42 : decode cX4_outRuleFor 42 = .ok (.getfield 42, 3) := by decide +kernel
theorem dX4_outRuleFor_45 : decode cX4_outRuleFor 45 = .ok (.iconst 0, 1) := by decide +kernel
theorem dX4_outRuleFor_46 : decode cX4_outRuleFor 46 = .ok (.aload_n 0, 1) := by decide +kernel
theorem dX4_outRuleFor_47 : decode cX4_outRuleFor 47 = .ok (.getfield 11, 3) := by decide +kernel
theorem dX4_outRuleFor_50 : decode cX4_outRuleFor 50 = .ok (.invokevirtual 73, 3) := by decide +kernel
theorem dX4_outRuleFor_53 : decode cX4_outRuleFor 53 = .ok (.ireturn, 1) := by decide +kernel
set_option maxRecDepth 20000 in
theorem ggX4_replace_X3_clear : GoodIn wsX4_replace wsX3_clear := goodIn_r _ [7, 8, 9, 10, 11, 12, 13, 14, 15, 16, 17, 18, 175, 176, 177, 178, 179, 180, 181] (by decide +kernel) (by decide +kernel)
set_option maxRecDepth 20000 in
theorem gX4_replace_X3_clear : GoodIn wsX4_replace (wsV RX4 46 RX3 yX3_clear wsX3_clear) := goodIn_app (goodIn_of _ (by decide +kernel)) ggX4_replace_X3_clear
set_option maxRecDepth 20000 in
theorem ggX4_replace_X4_extend : GoodIn wsX4_replace wsX4_extend := goodIn_r _ [23, 1, 24, 25, 26, 27, 28, 29, 22, 30, 2, 31, 32, 33, 6, 34, 10, 35, 36, 37, 38, 12, 39, 40, 41, 42, 43, 44, 45, 46, 8, 47, 48, 49, 50, 9, 11, 13, 14, 51, 52, 53, 54, 55, 56, 57, 58, 59, 60, 61, 62, 63, 64, 65, 66, 67, 68, 69, 70, 71, 72, 73, 74, 75, 76, 77, 78, 79, 80, 81, 82, 83, 84, 85, 86, 87, 88, 89, 90, 91, 92, 93, 94, 95, 96, 97, 98, 99, 100, 101, 102, 103, 104, 105, 106, 107, 108, 109, 110, 111, 112, 113, 114, 115, 116, 117, 118, 119, 120, 121, 122, 123, 124, 125, 126, 127, 128, 129, 130, 131, 132, 133, 134, 135, 136, 137, 138, 139, 140, 141, 142, 143, 144, 145, 146, 147, 148, 149, 150, 151, 152, 153, 154, 155, 156, 19, 20, 21, 157, 158, 159, 160, 161, 162, 163, 164, 165, 166, 167, 168, 169, 170, 171, 172, 173, 174, 182, 183, 184, 185, 186, 187, 175, 176, 177, 178, 179, 180, 181, 188, 189, 190, 191, 192, 193, 194, 195, 196, 197, 198, 199, 200, 201, 202, 203, 204, 205, 206] (by decide +kernel) (by decide +kernel)
set_option maxRecDepth 20000 in
theorem gX4_replace_X4_extend : GoodIn wsX4_replace (wsV RX4 77 RX4 yX4_extend wsX4_extend) := goodIn_app (goodIn_of _ (by decide +kernel)) ggX4_replace_X4_extend
set_option maxRecDepth 20000 in
theorem ggX4_replace_X3_copy : GoodIn wsX4_replace wsX3_copy := goodIn_r _ [46, 8, 47, 48, 49, 50, 9, 10, 11, 12, 13, 14, 175, 176, 177, 178, 179, 180, 181] (by decide +kernel) (by decide +kernel)
set_option maxRecDepth 20000 in
theorem gX4_replace_X3_copy : GoodIn wsX4_replace (wsV RX4 81 RX3 yX3_copy wsX3_copy) := goodIn_app (goodIn_of _ (by decide +kernel)) ggX4_replace_X3_copy
theorem dX4_replace_0 : decode cX4_replace 0 = .ok (.aload_n 0, 1) := by decide +kernel
theorem dX4_replace_1 : decode cX4_replace 1 = .ok (.getfield 27, 3) := by decide +kernel
theorem dX4_replace_4 : decode cX4_replace 4 = .ok (.invokevirtual 46, 3) := by decide +kernel
theorem dX4_replace_7 : decode cX4_replace 7 = .ok (.aload_n 0, 1) := by decide +kernel
theorem dX4_replace_8 : decode cX4_replace 8 = .ok (.aload_n 1, 1) := by decide +kernel
theorem dX4_replace_9 : decode cX4_replace 9 = .ok (.iconst 0, 1) := by decide +kernel
theorem dX4_replace_10 : decode cX4_replace 10 = .ok (.invokevirtual 77, 3) := by decide +kernel
theorem dX4_replace_13 : decode cX4_replace 13 = .ok (.aload_n 1, 1) := by decide +kernel
theorem dX4_replace_14 : decode cX4_replace 14 = .ok (.aload_n 0, 1) := by decide +kernel
theorem dX4_replace_15 : decode cX4_replace 15 = .ok (.getfield 27, 3) := by decide +kernel
theorem dX4_replace_18 : decode cX4_replace 18 = .ok (.invokevirtual 81, 3) := by decide +kernel
theorem dX4_replace_21 : decode cX4_replace 21 = .ok (.aload_n 0, 1) := by decide +kernel
theorem dX4_replace_22 : decode cX4_replace 22 = .ok (.getfield 27, 3) := by decide +kernel
theorem dX4_replace_25 : decode cX4_replace 25 = .ok (.getfield 85, 3) := by decide +kernel
theorem dX4_replace_28 : decode cX4_replace 28 = .ok (.ireturn, 1) := by decide +kernel
set_option maxRecDepth 20000 in
theorem ggX4_extend_X4_isBetter : GoodIn wsX4_extend wsX4_isBetter := goodIn_r _ [9, 2, 10, 1, 11, 12, 13, 14, 15, 16, 17, 18, 19, 20, 21, 22, 23, 24, 25, 158, 159, 160, 161, 162, 163, 164, 165, 172, 173, 174, 175, 176, 177, 178] (by decide +kernel) (by decide +kernel)
set_option maxRecDepth 20000 in
theorem gX4_extend_X4_isBetter : GoodIn wsX4_extend (wsV RX4 89 RX4 yX4_isBetter wsX4_isBetter) := goodIn_app (goodIn_of _ (by decide +kernel)) ggX4_extend_X4_isBetter
set_option maxRecDepth 20000 in
theorem ggX4_extend_X3_copy : GoodIn wsX4_extend wsX3_copy := goodIn_r _ [29, 30, 31, 32, 33, 34, 35, 16, 36, 21, 37, 38, 172, 173, 174, 175, 176, 177, 178] (by decide +kernel) (by decide +kernel)
set_option maxRecDepth 20000 in
theorem gX4_extend_X3_copy : GoodIn wsX4_extend (wsV RX4 81 RX3 yX3_copy wsX3_copy) := goodIn_app (goodIn_of _ (by decide +kernel)) ggX4_extend_X3_copy
set_option maxRecDepth 20000 in
theorem ggX4_extend_X4_isHopeless : GoodIn wsX4_extend wsX4_isHopeless := goodIn_r _ [42, 2, 10, 3, 4, 43, 1, 11, 12, 13, 14, 15, 16, 44, 45, 46, 47, 48, 49, 50, 51, 52, 53, 54, 17, 18, 19, 20, 21, 22, 23, 24, 25, 158, 159, 160, 161, 162, 163, 164, 165, 172, 173, 174, 175, 176, 177, 178, 166, 167, 168, 169, 170, 171, 179, 180, 181, 182, 183, 184, 185, 186] (by decide +kernel) (by decide +kernel)
set_option maxRecDepth 20000 in
theorem gX4_extend_X4_isHopeless : GoodIn wsX4_extend (wsV RX4 93 RX4 yX4_isHopeless wsX4_isHopeless) := goodIn_app (goodIn_of _ (by decide +kernel)) ggX4_extend_X4_isHopeless
set_option maxRecDepth 20000 in
theorem ggX4_extend_X3_has : GoodIn wsX4_extend wsX3_has := goodIn_r _ [54, 16, 172, 173, 174, 175, 176, 177, 178] (by decide +kernel) (by decide +kernel)
set_option maxRecDepth 20000 in
theorem gX4_extend_X3_has : GoodIn wsX4_extend (wsV RX4 99 RX3 yX3_has wsX3_has) := goodIn_app (goodIn_of _ (by decide +kernel)) ggX4_extend_X3_has
set_option maxRecDepth 20000 in
theorem ggX4_extend_X4_fly : GoodIn wsX4_extend wsX4_fly := goodIn_r _ [58, 3, 2, 59, 60, 61, 62, 23, 24, 25, 63, 44, 45, 46, 47, 48, 49, 50, 51, 52, 53, 14, 54, 16, 64, 65, 66, 8, 67, 68, 69, 70, 71, 43, 72, 73, 74, 75, 37, 30, 76, 77, 78, 79, 4, 80, 81, 82, 83, 36, 84, 85, 86, 87, 88, 89, 90, 91, 92, 93, 94, 95, 96, 97, 98, 99, 100, 101, 102, 103, 104, 105, 106, 107, 108, 109, 110, 111, 112, 113, 114, 115, 116, 117, 118, 119, 120, 121, 122, 123, 124, 125, 126, 127, 128, 129, 130, 131, 132, 133, 134, 135, 136, 137, 138, 139, 140, 141, 142, 143, 144, 35, 21, 38, 158, 159, 160, 161, 162, 163, 164, 165, 187, 188, 189, 179, 180, 181, 182, 183, 184, 185, 186, 166, 167, 168, 169, 170, 171, 172, 173, 174, 175, 176, 177, 178, 190, 191, 192, 193, 194, 195, 196, 197] (by decide +kernel) (by decide +kernel)
set_option maxRecDepth 20000 in
theorem gX4_extend_X4_fly : GoodIn wsX4_extend (wsV RX4 103 RX4 yX4_fly wsX4_fly) := goodIn_app (goodIn_of _ (by decide +kernel)) ggX4_extend_X4_fly
set_option maxRecDepth 20000 in
theorem ggX4_extend_X4_extend : GoodIn wsX4_extend wsX4_extend := goodIn_r _ [0, 1, 2, 3, 4, 5, 6, 7, 8, 9, 10, 11, 12, 13, 14, 15, 16, 17, 18, 19, 20, 21, 22, 23, 24, 25, 26, 27, 28, 29, 30, 31, 32, 33, 34, 35, 36, 37, 38, 39, 40, 41, 42, 43, 44, 45, 46, 47, 48, 49, 50, 51, 52, 53, 54, 55, 56, 57, 58, 59, 60, 61, 62, 63, 64, 65, 66, 67, 68, 69, 70, 71, 72, 73, 74, 75, 76, 77, 78, 79, 80, 81, 82, 83, 84, 85, 86, 87, 88, 89, 90, 91, 92, 93, 94, 95, 96, 97, 98, 99, 100, 101, 102, 103, 104, 105, 106, 107, 108, 109, 110, 111, 112, 113, 114, 115, 116, 117, 118, 119, 120, 121, 122, 123, 124, 125, 126, 127, 128, 129, 130, 131, 132, 133, 134, 135, 136, 137, 138, 139, 140, 141, 142, 143, 144, 145, 146, 147, 148, 149, 150, 151, 152, 153, 154, 155, 156, 157, 158, 159, 160, 161, 162, 163, 164, 165, 166, 167, 168, 169, 170, 171, 172, 173, 174, 175, 176, 177, 178, 179, 180, 181, 182, 183, 184, 185, 186, 187, 188, 189, 190, 191, 192, 193, 194, 195, 196, 197] (by decide +kernel) (by decide +kernel)
set_option maxRecDepth 20000 in
theorem gX4_extend_X4_extend : GoodIn wsX4_extend (wsV RX4 77 RX4 yX4_extend wsX4_extend) := goodIn_app (goodIn_of _ (by decide +kernel)) ggX4_extend_X4_extend
set_option maxRecDepth 20000 in
theorem ggX4_extend_X4_callBack : GoodIn wsX4_extend wsX4_callBack := goodIn_r _ [151, 2, 3, 100, 152, 153, 43, 72, 73, 74, 14, 75, 37, 30, 44, 45, 46, 47, 48, 49, 50, 51, 52, 53, 54, 16, 154, 155, 156, 157, 35, 36, 21, 38, 84, 85, 158, 159, 160, 161, 162, 163, 164, 165, 172, 173, 174, 175, 176, 177, 178, 179, 180, 181, 182, 183, 184, 185, 186, 166, 167, 168, 169, 170, 171] (by decide +kernel) (by decide +kernel)
set_option maxRecDepth 20000 in
theorem gX4_extend_X4_callBack : GoodIn wsX4_extend (wsV RX4 106 RX4 yX4_callBack wsX4_callBack) := goodIn_app (goodIn_of _ (by decide +kernel)) ggX4_extend_X4_callBack
theorem dX4_extend_0 : decode cX4_extend 0 = .ok (.aload_n 0, 1) := by decide +kernel
theorem dX4_extend_1 : decode cX4_extend 1 = .ok (.aload_n 1, 1) := by decide +kernel
theorem dX4_extend_2 : decode cX4_extend 2 = .ok (.invokevirtual 89, 3) := by decide +kernel
theorem dX4_extend_5 : decode cX4_extend 5 = .ok (.ifCond .eq 14, 3) := by decide +kernel
theorem dX4_extend_8 : decode cX4_extend 8 = .ok (.aload_n 0, 1) := by decide +kernel
theorem dX4_extend_9 : decode cX4_extend 9 = .ok (.getfield 27, 3) := by decide +kernel
theorem dX4_extend_12 : decode cX4_extend 12 = .ok (.aload_n 0, 1) := by decide +kernel
theorem dX4_extend_13 : decode cX4_extend 13 = .ok (.getfield 31, 3) := by decide +kernel
theorem dX4_extend_16 : decode cX4_extend 16 = .ok (.invokevirtual 81, 3) := by decide +kernel
theorem dX4_extend_19 : decode cX4_extend 19 = .ok (.iload_n 2, 1) := by decide +kernel
theorem dX4_extend_20 : decode cX4_extend 20 = .ok (.bipush 6, 2) := by decide +kernel
theorem dX4_extend_22 : decode cX4_extend 22 = .ok (.if_icmp .ge 11, 3) := by decide +kernel
theorem dX4_extend_25 : decode cX4_extend 25 = .ok (.aload_n 0, 1) := by decide +kernel
theorem dX4_extend_26 : decode cX4_extend 26 = .ok (.aload_n 1, 1) := by decide +kernel
theorem dX4_extend_27 : decode cX4_extend 27 = .ok (.invokevirtual 93, 3) := by decide +kernel
theorem dX4_extend_30 : decode cX4_extend 30 = .ok (.ifCond .eq 4, 3) := by decide +kernel
theorem dX4_extend_33 : decode cX4_extend 33 = .ok (.return_, 1) := by decide +kernel
theorem dX4_extend_34 : decode cX4_extend 34 = .ok (.iconst 0, 1) := by decide +kernel
theorem dX4_extend_35 : decode cX4_extend 35 = .ok (.istore_n 3, 1) := by decide +kernel
theorem dX4_extend_36 : decode cX4_extend 36 = .ok (.iload_n 3, 1) := by decide +kernel
theorem dX4_extend_37 : decode cX4_extend 37 = .ok (.aload_n 0, 1) := by decide +kernel
theorem dX4_extend_38 : decode cX4_extend 38 = .ok (.getfield 34, 3) := by decide +kernel
theorem dX4_extend_41 : decode cX4_extend 41 = .ok (.getfield 96, 3) := by decide +kernel
theorem dX4_extend_44 : decode cX4_extend 44 = .ok (.if_icmp .ge 40, 3) := by decide +kernel
theorem dX4_extend_47 : decode cX4_extend 47 = .ok (.aload_n 0, 1) := by decide +kernel
theorem dX4_extend_48 : decode cX4_extend 48 = .ok (.getfield 31, 3) := by decide +kernel
theorem dX4_extend_51 : decode cX4_extend 51 = .ok (.iload_n 3, 1) := by decide +kernel
theorem dX4_extend_52 : decode cX4_extend 52 = .ok (.invokevirtual 99, 3) := by decide +kernel
theorem dX4_extend_55 : decode cX4_extend 55 = .ok (.ifCond .ne 23, 3) := by decide +kernel
theorem dX4_extend_58 : decode cX4_extend 58 = .ok (.aload_n 0, 1) := by decide +kernel
theorem dX4_extend_59 : decode cX4_extend 59 = .ok (.iload_n 3, 1) := by decide +kernel
theorem dX4_extend_60 : decode cX4_extend 60 = .ok (.invokevirtual 103, 3) := by decide +kernel
theorem dX4_extend_63 : decode cX4_extend 63 = .ok (.ifCond .eq 15, 3) := by decide +kernel
theorem dX4_extend_66 : decode cX4_extend 66 = .ok (.aload_n 0, 1) := by decide +kernel
theorem dX4_extend_67 : decode cX4_extend 67 = .ok (.aload_n 1, 1) := by decide +kernel
theorem dX4_extend_68 : decode cX4_extend 68 = .ok (.iload_n 2, 1) := by decide +kernel
theorem dX4_extend_69 : decode cX4_extend 69 = .ok (.iconst 1, 1) := by decide +kernel
theorem dX4_extend_70 : decode cX4_extend 70 = .ok (.iadd, 1) := by decide +kernel
theorem dX4_extend_71 : decode cX4_extend 71 = .ok (.invokevirtual 77, 3) := by decide +kernel
theorem dX4_extend_74 : decode cX4_extend 74 = .ok (.aload_n 0, 1) := by decide +kernel
theorem dX4_extend_75 : decode cX4_extend 75 = .ok (.invokevirtual 106, 3) := by decide +kernel
theorem dX4_extend_78 : decode cX4_extend 78 = .ok (.iinc 3 1, 3) := by decide +kernel
theorem dX4_extend_81 : decode cX4_extend 81 = .ok (.goto (-45), 3) := by decide +kernel
theorem dX4_extend_84 : decode cX4_extend 84 = .ok (.return_, 1) := by decide +kernel
set_option maxRecDepth 20000 in
theorem ggX4_isBetter_X3_sameBegins : GoodIn wsX4_isBetter wsX3_sameBegins := goodIn_r _ [8, 9, 27, 28, 29, 30, 31, 32, 33] (by decide +kernel) (by decide +kernel)
set_option maxRecDepth 20000 in
theorem gX4_isBetter_X3_sameBegins : GoodIn wsX4_isBetter (wsV RX4 109 RX3 yX3_sameBegins wsX3_sameBegins) := goodIn_app (goodIn_of _ (by decide +kernel)) ggX4_isBetter_X3_sameBegins
set_option maxRecDepth 20000 in
theorem ggX4_isBetter_X3_lastLanding : GoodIn wsX4_isBetter wsX3_lastLanding := goodIn_r _ [13, 14, 15, 16, 17, 18, 27, 28, 29, 30, 31, 32, 33] (by decide +kernel) (by decide +kernel)
set_option maxRecDepth 20000 in
theorem gX4_isBetter_X3_lastLanding : GoodIn wsX4_isBetter (wsV RX4 113 RX3 yX3_lastLanding wsX3_lastLanding) := goodIn_app (goodIn_of _ (by decide +kernel)) ggX4_isBetter_X3_lastLanding
theorem dX4_isBetter_0 : decode cX4_isBetter 0 = .ok (.aload_n 0, 1) := by decide +kernel
theorem dX4_isBetter_1 : decode cX4_isBetter 1 = .ok (.getfield 31, 3) := by decide +kernel
theorem dX4_isBetter_4 : decode cX4_isBetter 4 = .ok (.getfield 85, 3) := by decide +kernel
theorem dX4_isBetter_7 : decode cX4_isBetter 7 = .ok (.aload_n 0, 1) := by decide +kernel
theorem dX4_isBetter_8 : decode cX4_isBetter 8 = .ok (.getfield 27, 3) := by decide +kernel
theorem dX4_isBetter_11 : decode cX4_isBetter 11 = .ok (.getfield 85, 3) := by decide +kernel
theorem dX4_isBetter_14 : decode cX4_isBetter 14 = .ok (.if_icmp .eq 26, 3) := by decide +kernel
theorem dX4_isBetter_17 : decode cX4_isBetter 17 = .ok (.aload_n 0, 1) := by decide +kernel
theorem dX4_isBetter_18 : decode cX4_isBetter 18 = .ok (.getfield 31, 3) := by decide +kernel
theorem dX4_isBetter_21 : decode cX4_isBetter 21 = .ok (.getfield 85, 3) := by decide +kernel
theorem dX4_isBetter_24 : decode cX4_isBetter 24 = .ok (.aload_n 0, 1) := by decide +kernel
theorem dX4_isBetter_25 : decode cX4_isBetter 25 = .ok (.getfield 27, 3) := by decide +kernel
theorem dX4_isBetter_28 : decode cX4_isBetter 28 = .ok (.getfield 85, 3) := by decide +kernel
theorem dX4_isBetter_31 : decode cX4_isBetter 31 = .ok (.if_icmp .le 7, 3) := by decide +kernel
theorem dX4_isBetter_34 : decode cX4_isBetter 34 = .ok (.iconst 1, 1) := by decide +kernel
theorem dX4_isBetter_35 : decode cX4_isBetter 35 = .ok (.goto 4, 3) := by decide +kernel
theorem dX4_isBetter_38 : decode cX4_isBetter 38 = .ok (.iconst 0, 1) := by decide +kernel
theorem dX4_isBetter_39 : decode cX4_isBetter 39 = .ok (.ireturn, 1) := by decide +kernel
theorem dX4_isBetter_40 : decode cX4_isBetter 40 = .ok (.aload_n 0, 1) := by decide +kernel
theorem dX4_isBetter_41 : decode cX4_isBetter 41 = .ok (.getfield 31, 3) := by decide +kernel
theorem dX4_isBetter_44 : decode cX4_isBetter 44 = .ok (.aload_n 1, 1) := by decide +kernel
theorem dX4_isBetter_45 : decode cX4_isBetter 45 = .ok (.invokevirtual 109, 3) := by decide +kernel
theorem dX4_isBetter_48 : decode cX4_isBetter 48 = .ok (.istore_n 2, 1) := by decide +kernel
theorem dX4_isBetter_49 : decode cX4_isBetter 49 = .ok (.aload_n 0, 1) := by decide +kernel
theorem dX4_isBetter_50 : decode cX4_isBetter 50 = .ok (.getfield 27, 3) := by decide +kernel
theorem dX4_isBetter_53 : decode cX4_isBetter 53 = .ok (.aload_n 1, 1) := by decide +kernel
theorem dX4_isBetter_54 : decode cX4_isBetter 54 = .ok (.invokevirtual 109, 3) := by decide +kernel
theorem dX4_isBetter_57 : decode cX4_isBetter 57 = .ok (.istore_n 3, 1) := by decide +kernel
theorem dX4_isBetter_58 : decode cX4_isBetter 58 = .ok (.iload_n 2, 1) := by decide +kernel
theorem dX4_isBetter_59 : decode cX4_isBetter 59 = .ok (.iload_n 3, 1) := by decide +kernel
theorem dX4_isBetter_60 : decode cX4_isBetter 60 = .ok (.if_icmp .eq 16, 3) := by decide +kernel
theorem dX4_isBetter_63 : decode cX4_isBetter 63 = .ok (.iload_n 2, 1) := by decide +kernel
theorem dX4_isBetter_64 : decode cX4_isBetter 64 = .ok (.iload_n 3, 1) := by decide +kernel
theorem dX4_isBetter_65 : decode cX4_isBetter 65 = .ok (.if_icmp .le 7, 3) := by decide +kernel
theorem dX4_isBetter_68 : decode cX4_isBetter 68 = .ok (.iconst 1, 1) := by decide +kernel
theorem dX4_isBetter_69 : decode cX4_isBetter 69 = .ok (.goto 29, 3) := by decide +kernel
theorem dX4_isBetter_72 : decode cX4_isBetter 72 = .ok (.iconst 0, 1) := by decide +kernel
theorem dX4_isBetter_73 : decode cX4_isBetter 73 = .ok (.goto 25, 3) := by decide +kernel
theorem dX4_isBetter_76 : decode cX4_isBetter 76 = .ok (.aload_n 0, 1) := by decide +kernel
theorem dX4_isBetter_77 : decode cX4_isBetter 77 = .ok (.getfield 31, 3) := by decide +kernel
theorem dX4_isBetter_80 : decode cX4_isBetter 80 = .ok (.invokevirtual 113, 3) := by decide +kernel
theorem dX4_isBetter_83 : decode cX4_isBetter 83 = .ok (.aload_n 0, 1) := by decide +kernel
theorem dX4_isBetter_84 : decode cX4_isBetter 84 = .ok (.getfield 27, 3) := by decide +kernel
theorem dX4_isBetter_87 : decode cX4_isBetter 87 = .ok (.invokevirtual 113, 3) := by decide +kernel
theorem dX4_isBetter_90 : decode cX4_isBetter 90 = .ok (.if_icmp .ge 7, 3) := by decide +kernel
theorem dX4_isBetter_93 : decode cX4_isBetter 93 = .ok (.iconst 1, 1) := by decide +kernel
theorem dX4_isBetter_94 : decode cX4_isBetter 94 = .ok (.goto 4, 3) := by decide +kernel
theorem dX4_isBetter_97 : decode cX4_isBetter 97 = .ok (.iconst 0, 1) := by decide +kernel
theorem dX4_isBetter_98 : decode cX4_isBetter 98 = .ok (.ireturn, 1) := by decide +kernel
set_option maxRecDepth 20000 in
theorem ggX4_isHopeless_X3_sameBegins : GoodIn wsX4_isHopeless wsX3_sameBegins := goodIn_r _ [11, 12, 41, 42, 43, 44, 45, 46, 47] (by decide +kernel) (by decide +kernel)
set_option maxRecDepth 20000 in
theorem gX4_isHopeless_X3_sameBegins : GoodIn wsX4_isHopeless (wsV RX4 109 RX3 yX3_sameBegins wsX3_sameBegins) := goodIn_app (goodIn_of _ (by decide +kernel)) ggX4_isHopeless_X3_sameBegins
set_option maxRecDepth 20000 in
theorem ggX4_isHopeless_X7_actAt : GoodIn wsX4_isHopeless wsX7_actAt := goodIn_r _ [17, 18, 19, 48, 49, 50, 51, 52, 53] (by decide +kernel) (by decide +kernel)
set_option maxRecDepth 20000 in
theorem gX4_isHopeless_X7_actAt : GoodIn wsX4_isHopeless (wsV RX4 49 RX7 yX7_actAt wsX7_actAt) := goodIn_app (goodIn_of _ (by decide +kernel)) ggX4_isHopeless_X7_actAt
set_option maxRecDepth 20000 in
theorem ggX4_isHopeless_X3_has : GoodIn wsX4_isHopeless wsX3_has := goodIn_r _ [23, 12, 41, 42, 43, 44, 45, 46, 47] (by decide +kernel) (by decide +kernel)
set_option maxRecDepth 20000 in
theorem gX4_isHopeless_X3_has : GoodIn wsX4_isHopeless (wsV RX4 99 RX3 yX3_has wsX3_has) := goodIn_app (goodIn_of _ (by decide +kernel)) ggX4_isHopeless_X3_has
set_option maxRecDepth 20000 in
theorem ggX4_isHopeless_X3_lastLanding : GoodIn wsX4_isHopeless wsX3_lastLanding := goodIn_r _ [27, 28, 29, 30, 31, 32, 41, 42, 43, 44, 45, 46, 47] (by decide +kernel) (by decide +kernel)
set_option maxRecDepth 20000 in
theorem gX4_isHopeless_X3_lastLanding : GoodIn wsX4_isHopeless (wsV RX4 113 RX3 yX3_lastLanding wsX3_lastLanding) := goodIn_app (goodIn_of _ (by decide +kernel)) ggX4_isHopeless_X3_lastLanding
theorem dX4_isHopeless_0 : decode cX4_isHopeless 0 = .ok (.aload_n 0, 1) := by decide +kernel
theorem dX4_isHopeless_1 : decode cX4_isHopeless 1 = .ok (.getfield 31, 3) := by decide +kernel
theorem dX4_isHopeless_4 : decode cX4_isHopeless 4 = .ok (.getfield 85, 3) := by decide +kernel
theorem dX4_isHopeless_7 : decode cX4_isHopeless 7 = .ok (.istore_n 2, 1) := by decide +kernel
theorem dX4_isHopeless_8 : decode cX4_isHopeless 8 = .ok (.aload_n 0, 1) := by decide +kernel
theorem dX4_isHopeless_9 : decode cX4_isHopeless 9 = .ok (.getfield 31, 3) := by decide +kernel
theorem dX4_isHopeless_12 : decode cX4_isHopeless 12 = .ok (.aload_n 1, 1) := by decide +kernel
theorem dX4_isHopeless_13 : decode cX4_isHopeless 13 = .ok (.invokevirtual 109, 3) := by decide +kernel
theorem dX4_isHopeless_16 : decode cX4_isHopeless 16 = .ok (.istore_n 3, 1) := by decide +kernel
theorem dX4_isHopeless_17 : decode cX4_isHopeless 17 = .ok (.iconst 0, 1) := by decide +kernel
theorem dX4_isHopeless_18 : decode cX4_isHopeless 18 = .ok (.istore 4, 2) := by decide +kernel
theorem dX4_isHopeless_20 : decode cX4_isHopeless 20 = .ok (.iload 4, 2) := by decide +kernel
theorem dX4_isHopeless_22 : decode cX4_isHopeless 22 = .ok (.aload_n 0, 1) := by decide +kernel
theorem dX4_isHopeless_23 : decode cX4_isHopeless 23 = .ok (.getfield 34, 3) := by decide +kernel
theorem dX4_isHopeless_26 : decode cX4_isHopeless 26 = .ok (.getfield 96, 3) := by decide +kernel
theorem dX4_isHopeless_29 : decode cX4_isHopeless 29 = .ok (.if_icmp .ge 62, 3) := by decide +kernel
theorem dX4_isHopeless_32 : decode cX4_isHopeless 32 = .ok (.aload_n 0, 1) := by decide +kernel
theorem dX4_isHopeless_33 : decode cX4_isHopeless 33 = .ok (.getfield 34, 3) := by decide +kernel
theorem dX4_isHopeless_36 : decode cX4_isHopeless 36 = .ok (.iload 4, 2) := by decide +kernel
theorem dX4_isHopeless_38 : decode cX4_isHopeless 38 = .ok (.invokevirtual 49, 3) := by decide +kernel
theorem dX4_isHopeless_41 : decode cX4_isHopeless 41 = .ok (.astore 5, 2) := by decide +kernel
theorem dX4_isHopeless_43 : decode cX4_isHopeless 43 = .ok (.aload 5, 2) := by decide +kernel
theorem dX4_isHopeless_45 : decode cX4_isHopeless 45 = .ok (.ifnull 40, 3) := by decide +kernel
theorem dX4_isHopeless_48 : decode cX4_isHopeless 48 = .ok (.aload_n 0, 1) := by decide +kernel
theorem dX4_isHopeless_49 : decode cX4_isHopeless 49 = .ok (.getfield 31, 3) := by decide +kernel
theorem dX4_isHopeless_52 : decode cX4_isHopeless 52 = .ok (.iload 4, 2) := by decide +kernel
theorem dX4_isHopeless_54 : decode cX4_isHopeless 54 = .ok (.invokevirtual 99, 3) := by decide +kernel
theorem dX4_isHopeless_57 : decode cX4_isHopeless 57 = .ok (.ifCond .ne 28, 3) := by decide +kernel
theorem dX4_isHopeless_60 : decode cX4_isHopeless 60 = .ok (.iload_n 2, 1) := by decide +kernel
theorem dX4_isHopeless_61 : decode cX4_isHopeless 61 = .ok (.aload 5, 2) := by decide +kernel
theorem dX4_isHopeless_63 : decode cX4_isHopeless 63 = .ok (.getfield 117, 3) := by decide +kernel
theorem dX4_isHopeless_66 : decode cX4_isHopeless 66 = .ok (.iadd, 1) := by decide +kernel
theorem dX4_isHopeless_67 : decode cX4_isHopeless 67 = .ok (.istore_n 2, 1) := by decide +kernel
theorem dX4_isHopeless_68 : decode cX4_isHopeless 68 = .ok (.iload_n 3, 1) := by decide +kernel
theorem dX4_isHopeless_69 : decode cX4_isHopeless 69 = .ok (.aload_n 1, 1) := by decide +kernel
theorem dX4_isHopeless_70 : decode cX4_isHopeless 70 = .ok (.iload 4, 2) := by decide +kernel
theorem dX4_isHopeless_72 : decode cX4_isHopeless 72 = .ok (.invokevirtual 99, 3) := by decide +kernel
theorem dX4_isHopeless_75 : decode cX4_isHopeless 75 = .ok (.ifCond .eq 7, 3) := by decide +kernel
theorem dX4_isHopeless_78 : decode cX4_isHopeless 78 = .ok (.iconst 1, 1) := by decide +kernel
theorem dX4_isHopeless_79 : decode cX4_isHopeless 79 = .ok (.goto 4, 3) := by decide +kernel
theorem dX4_isHopeless_82 : decode cX4_isHopeless 82 = .ok (.iconst 0, 1) := by decide +kernel
theorem dX4_isHopeless_83 : decode cX4_isHopeless 83 = .ok (.iadd, 1) := by decide +kernel
theorem dX4_isHopeless_84 : decode cX4_isHopeless 84 = .ok (.istore_n 3, 1) := by decide +kernel
theorem dX4_isHopeless_85 : decode cX4_isHopeless 85 = .ok (.iinc 4 1, 3) := by decide +kernel
theorem dX4_isHopeless_88 : decode cX4_isHopeless 88 = .ok (.goto (-68), 3) := by decide +kernel
theorem dX4_isHopeless_91 : decode cX4_isHopeless 91 = .ok (.iload_n 2, 1) := by decide +kernel
theorem dX4_isHopeless_92 : decode cX4_isHopeless 92 = .ok (.aload_n 0, 1) := by decide +kernel
theorem dX4_isHopeless_93 : decode cX4_isHopeless 93 = .ok (.getfield 27, 3) := by decide +kernel
theorem dX4_isHopeless_96 : decode cX4_isHopeless 96 = .ok (.getfield 85, 3) := by decide +kernel
theorem dX4_isHopeless_99 : decode cX4_isHopeless 99 = .ok (.if_icmp .eq 20, 3) := by decide +kernel
theorem dX4_isHopeless_102 : decode cX4_isHopeless 102 = .ok (.iload_n 2, 1) := by decide +kernel
theorem dX4_isHopeless_103 : decode cX4_isHopeless 103 = .ok (.aload_n 0, 1) := by decide +kernel
theorem dX4_isHopeless_104 : decode cX4_isHopeless 104 = .ok (.getfield 27, 3) := by decide +kernel
theorem dX4_isHopeless_107 : decode cX4_isHopeless 107 = .ok (.getfield 85, 3) := by decide +kernel
theorem dX4_isHopeless_110 : decode cX4_isHopeless 110 = .ok (.if_icmp .ge 7, 3) := by decide +kernel
theorem dX4_isHopeless_113 : decode cX4_isHopeless 113 = .ok (.iconst 1, 1) := by decide +kernel
theorem dX4_isHopeless_114 : decode cX4_isHopeless 114 = .ok (.goto 4, 3) := by decide +kernel
theorem dX4_isHopeless_117 : decode cX4_isHopeless 117 = .ok (.iconst 0, 1) := by decide +kernel
theorem dX4_isHopeless_118 : decode cX4_isHopeless 118 = .ok (.ireturn, 1) := by decide +kernel
theorem dX4_isHopeless_119 : decode cX4_isHopeless 119 = .ok (.aload_n 0, 1) := by decide +kernel
theorem dX4_isHopeless_120 : decode cX4_isHopeless 120 = .ok (.getfield 27, 3) := by decide +kernel
theorem dX4_isHopeless_123 : decode cX4_isHopeless 123 = .ok (.aload_n 1, 1) := by decide +kernel
theorem dX4_isHopeless_124 : decode cX4_isHopeless 124 = .ok (.invokevirtual 109, 3) := by decide +kernel
theorem dX4_isHopeless_127 : decode cX4_isHopeless 127 = .ok (.istore 4, 2) := by decide +kernel
theorem dX4_isHopeless_129 : decode cX4_isHopeless 129 = .ok (.iload_n 3, 1) := by decide +kernel
theorem dX4_isHopeless_130 : decode cX4_isHopeless 130 = .ok (.iload 4, 2) := by decide +kernel
theorem dX4_isHopeless_132 : decode cX4_isHopeless 132 = .ok (.if_icmp .eq 17, 3) := by decide +kernel
theorem dX4_isHopeless_135 : decode cX4_isHopeless 135 = .ok (.iload_n 3, 1) := by decide +kernel
theorem dX4_isHopeless_136 : decode cX4_isHopeless 136 = .ok (.iload 4, 2) := by decide +kernel
theorem dX4_isHopeless_138 : decode cX4_isHopeless 138 = .ok (.if_icmp .ge 7, 3) := by decide +kernel
theorem dX4_isHopeless_141 : decode cX4_isHopeless 141 = .ok (.iconst 1, 1) := by decide +kernel
theorem dX4_isHopeless_142 : decode cX4_isHopeless 142 = .ok (.goto 29, 3) := by decide +kernel
theorem dX4_isHopeless_145 : decode cX4_isHopeless 145 = .ok (.iconst 0, 1) := by decide +kernel
theorem dX4_isHopeless_146 : decode cX4_isHopeless 146 = .ok (.goto 25, 3) := by decide +kernel
theorem dX4_isHopeless_149 : decode cX4_isHopeless 149 = .ok (.aload_n 0, 1) := by decide +kernel
theorem dX4_isHopeless_150 : decode cX4_isHopeless 150 = .ok (.getfield 31, 3) := by decide +kernel
theorem dX4_isHopeless_153 : decode cX4_isHopeless 153 = .ok (.invokevirtual 113, 3) := by decide +kernel
theorem dX4_isHopeless_156 : decode cX4_isHopeless 156 = .ok (.aload_n 0, 1) := by decide +kernel
theorem dX4_isHopeless_157 : decode cX4_isHopeless 157 = .ok (.getfield 27, 3) := by decide +kernel
theorem dX4_isHopeless_160 : decode cX4_isHopeless 160 = .ok (.invokevirtual 113, 3) := by decide +kernel
theorem dX4_isHopeless_163 : decode cX4_isHopeless 163 = .ok (.if_icmp .lt 7, 3) := by decide +kernel
theorem dX4_isHopeless_166 : decode cX4_isHopeless 166 = .ok (.iconst 1, 1) := by decide +kernel
theorem dX4_isHopeless_167 : decode cX4_isHopeless 167 = .ok (.goto 4, 3) := by decide +kernel
theorem dX4_isHopeless_170 : decode cX4_isHopeless 170 = .ok (.iconst 0, 1) := by decide +kernel
theorem dX4_isHopeless_171 : decode cX4_isHopeless 171 = .ok (.ireturn, 1) := by decide +kernel
set_option maxRecDepth 20000 in
theorem ggX4_fly_X7_actAt : GoodIn wsX4_fly wsX7_actAt := goodIn_r _ [15, 16, 17, 133, 134, 135, 136, 137, 138] (by decide +kernel) (by decide +kernel)
set_option maxRecDepth 20000 in
theorem gX4_fly_X7_actAt : GoodIn wsX4_fly (wsV RX4 49 RX7 yX7_actAt wsX7_actAt) := goodIn_app (goodIn_of _ (by decide +kernel)) ggX4_fly_X7_actAt
set_option maxRecDepth 20000 in
theorem ggX4_fly_X3_has : GoodIn wsX4_fly wsX3_has := goodIn_r _ [22, 23, 139, 140, 141, 142, 143, 144, 145] (by decide +kernel) (by decide +kernel)
set_option maxRecDepth 20000 in
theorem gX4_fly_X3_has : GoodIn wsX4_fly (wsV RX4 99 RX3 yX3_has wsX3_has) := goodIn_app (goodIn_of _ (by decide +kernel)) ggX4_fly_X3_has
set_option maxRecDepth 20000 in
theorem ggX4_fly_X4_describe : GoodIn wsX4_fly wsX4_describe := goodIn_r _ [28, 1, 2, 29, 30, 31, 32, 33, 34, 35, 36, 21, 37, 38, 39, 11, 12, 13, 14, 15, 16, 17, 40, 41, 42, 27, 43, 44, 18, 19, 20, 22, 23, 114, 115, 116, 117, 118, 119, 120, 121, 125, 126, 127, 128, 129, 130, 131, 132, 133, 134, 135, 136, 137, 138, 139, 140, 141, 142, 143, 144, 145] (by decide +kernel) (by decide +kernel)
set_option maxRecDepth 20000 in
theorem gX4_fly_X4_describe : GoodIn wsX4_fly (wsV RX4 63 RX4 yX4_describe wsX4_describe) := goodIn_app (goodIn_of _ (by decide +kernel)) ggX4_fly_X4_describe
set_option maxRecDepth 20000 in
theorem ggX4_fly_X3_end : GoodIn wsX4_fly wsX3_end := goodIn_r _ [48, 23, 49, 50, 35, 36, 21, 37, 38, 39, 51, 19, 20, 22, 139, 140, 141, 142, 143, 144, 145] (by decide +kernel) (by decide +kernel)
set_option maxRecDepth 20000 in
theorem gX4_fly_X3_end : GoodIn wsX4_fly (wsV RX4 120 RX3 yX3_end wsX3_end) := goodIn_app (goodIn_of _ (by decide +kernel)) ggX4_fly_X3_end
set_option maxRecDepth 20000 in
theorem ggX4_fly_X4_minutesFrom : GoodIn wsX4_fly wsX4_minutesFrom := goodIn_r _ [55, 3, 56, 57, 114, 115, 116, 117, 118, 119, 120, 121, 122, 123, 124] (by decide +kernel) (by decide +kernel)
set_option maxRecDepth 20000 in
theorem gX4_fly_X4_minutesFrom : GoodIn wsX4_fly (wsV RX4 59 RX4 yX4_minutesFrom wsX4_minutesFrom) := goodIn_app (goodIn_of _ (by decide +kernel)) ggX4_fly_X4_minutesFrom
set_option maxRecDepth 20000 in
theorem ggX4_fly_X4_flyFrom : GoodIn wsX4_fly wsX4_flyFrom := goodIn_r _ [61, 3, 4, 5, 62, 63, 2, 64, 65, 29, 33, 66, 67, 68, 69, 27, 70, 71, 72, 8, 73, 74, 75, 76, 77, 6, 7, 9, 78, 79, 80, 81, 56, 82, 83, 84, 85, 86, 87, 88, 89, 90, 91, 92, 93, 94, 95, 96, 97, 98, 99, 100, 45, 46, 47, 21, 48, 23, 49, 50, 35, 36, 37, 38, 39, 51, 19, 20, 22, 101, 102, 103, 104, 105, 106, 107, 108, 109, 110, 111, 112, 113, 114, 115, 116, 117, 118, 119, 120, 121, 122, 123, 124, 125, 126, 127, 128, 129, 130, 131, 132, 139, 140, 141, 142, 143, 144, 145, 146, 147, 148, 149, 150, 151, 152, 153] (by decide +kernel) (by decide +kernel)
set_option maxRecDepth 20000 in
theorem gX4_fly_X4_flyFrom : GoodIn wsX4_fly (wsV RX4 139 RX4 yX4_flyFrom wsX4_flyFrom) := goodIn_app (goodIn_of _ (by decide +kernel)) ggX4_fly_X4_flyFrom
theorem dX4_fly_0 : decode cX4_fly 0 = .ok (.aload_n 0, 1) := by decide +kernel
theorem dX4_fly_1 : decode cX4_fly 1 = .ok (.getfield 34, 3) := by decide +kernel
theorem dX4_fly_4 : decode cX4_fly 4 = .ok (.iload_n 1, 1) := by decide +kernel
theorem dX4_fly_5 : decode cX4_fly 5 = .ok (.invokevirtual 49, 3) := by decide +kernel
theorem dX4_fly_8 : decode cX4_fly 8 = .ok (.astore_n 2, 1) := by decide +kernel
theorem dX4_fly_9 : decode cX4_fly 9 = .ok (.aload_n 2, 1) := by decide +kernel
theorem dX4_fly_10 : decode cX4_fly 10 = .ok (.ifnull 14, 3) := by decide +kernel
theorem dX4_fly_13 : decode cX4_fly 13 = .ok (.aload_n 0, 1) := by decide +kernel
theorem dX4_fly_14 : decode cX4_fly 14 = .ok (.getfield 31, 3) := by decide +kernel
theorem dX4_fly_17 : decode cX4_fly 17 = .ok (.iload_n 1, 1) := by decide +kernel
theorem dX4_fly_18 : decode cX4_fly 18 = .ok (.invokevirtual 99, 3) := by decide +kernel
theorem dX4_fly_21 : decode cX4_fly 21 = .ok (.ifCond .eq 5, 3) := by decide +kernel
theorem dX4_fly_24 : decode cX4_fly 24 = .ok (.iconst 0, 1) := by decide +kernel
theorem dX4_fly_25 : decode cX4_fly 25 = .ok (.ireturn, 1) := by decide +kernel
theorem dX4_fly_26 : decode cX4_fly 26 = .ok (.aload_n 0, 1) := by decide +kernel
theorem dX4_fly_27 : decode cX4_fly 27 = .ok (.aload_n 2, 1) := by decide +kernel
theorem dX4_fly_28 : decode cX4_fly 28 = .ok (.iload_n 1, 1) := by decide +kernel
theorem dX4_fly_29 : decode cX4_fly 29 = .ok (.invokevirtual 63, 3) := by decide +kernel
theorem dX4_fly_32 : decode cX4_fly 32 = .ok (.aload_n 0, 1) := by decide +kernel
theorem dX4_fly_33 : decode cX4_fly 33 = .ok (.getfield 31, 3) := by decide +kernel
theorem dX4_fly_36 : decode cX4_fly 36 = .ok (.invokevirtual 120, 3) := by decide +kernel
theorem dX4_fly_39 : decode cX4_fly 39 = .ok (.aload_n 0, 1) := by decide +kernel
theorem dX4_fly_40 : decode cX4_fly 40 = .ok (.getfield 38, 3) := by decide +kernel
theorem dX4_fly_43 : decode cX4_fly 43 = .ok (.getfield 123, 3) := by decide +kernel
theorem dX4_fly_46 : decode cX4_fly 46 = .ok (.iload_n 1, 1) := by decide +kernel
theorem dX4_fly_47 : decode cX4_fly 47 = .ok (.iaload, 1) := by decide +kernel
theorem dX4_fly_48 : decode cX4_fly 48 = .ok (.aload_n 2, 1) := by decide +kernel
theorem dX4_fly_49 : decode cX4_fly 49 = .ok (.getfield 128, 3) := by decide +kernel
theorem dX4_fly_52 : decode cX4_fly 52 = .ok (.iadd, 1) := by decide +kernel
theorem dX4_fly_53 : decode cX4_fly 53 = .ok (.invokestatic 131, 3) := by decide +kernel
theorem dX4_fly_56 : decode cX4_fly 56 = .ok (.istore_n 3, 1) := by decide +kernel
theorem dX4_fly_57 : decode cX4_fly 57 = .ok (.iconst 0, 1) := by decide +kernel
theorem dX4_fly_58 : decode cX4_fly 58 = .ok (.iload_n 3, 1) := by decide +kernel
theorem dX4_fly_59 : decode cX4_fly 59 = .ok (.invokestatic 131, 3) := by decide +kernel
theorem dX4_fly_62 : decode cX4_fly 62 = .ok (.istore 4, 2) := by decide +kernel
theorem dX4_fly_64 : decode cX4_fly 64 = .ok (.iload 4, 2) := by decide +kernel
theorem dX4_fly_66 : decode cX4_fly 66 = .ok (.sipush 240, 3) := by decide +kernel
theorem dX4_fly_69 : decode cX4_fly 69 = .ok (.if_icmp .ge 68, 3) := by decide +kernel
theorem dX4_fly_72 : decode cX4_fly 72 = .ok (.aload_n 0, 1) := by decide +kernel
theorem dX4_fly_73 : decode cX4_fly 73 = .ok (.iload_n 1, 1) := by decide +kernel
theorem dX4_fly_74 : decode cX4_fly 74 = .ok (.iload 4, 2) := by decide +kernel
theorem dX4_fly_76 : decode cX4_fly 76 = .ok (.invokevirtual 59, 3) := by decide +kernel
theorem dX4_fly_79 : decode cX4_fly 79 = .ok (.istore 5, 2) := by decide +kernel
theorem dX4_fly_81 : decode cX4_fly 81 = .ok (.iload 5, 2) := by decide +kernel
theorem dX4_fly_83 : decode cX4_fly 83 = .ok (.ifCond .le 25, 3) := by decide +kernel
theorem dX4_fly_86 : decode cX4_fly 86 = .ok (.iload 4, 2) := by decide +kernel
theorem dX4_fly_88 : decode cX4_fly 88 = .ok (.iload 5, 2) := by decide +kernel
theorem dX4_fly_90 : decode cX4_fly 90 = .ok (.iadd, 1) := by decide +kernel
theorem dX4_fly_91 : decode cX4_fly 91 = .ok (.aload_n 0, 1) := by decide +kernel
theorem dX4_fly_92 : decode cX4_fly 92 = .ok (.getfield 38, 3) := by decide +kernel
theorem dX4_fly_95 : decode cX4_fly 95 = .ok (.getfield 136, 3) := by decide +kernel
theorem dX4_fly_98 : decode cX4_fly 98 = .ok (.iload 4, 2) := by decide +kernel
theorem dX4_fly_100 : decode cX4_fly 100 = .ok (.iaload, 1) := by decide +kernel
theorem dX4_fly_101 : decode cX4_fly 101 = .ok (.if_icmp .gt 7, 3) := by decide +kernel
theorem dX4_fly_104 : decode cX4_fly 104 = .ok (.iconst 1, 1) := by decide +kernel
theorem dX4_fly_105 : decode cX4_fly 105 = .ok (.goto 4, 3) := by decide +kernel
theorem dX4_fly_108 : decode cX4_fly 108 = .ok (.iconst 0, 1) := by decide +kernel
theorem dX4_fly_109 : decode cX4_fly 109 = .ok (.istore 6, 2) := by decide +kernel
theorem dX4_fly_111 : decode cX4_fly 111 = .ok (.iload 6, 2) := by decide +kernel
theorem dX4_fly_113 : decode cX4_fly 113 = .ok (.ifCond .eq 18, 3) := by decide +kernel
theorem dX4_fly_116 : decode cX4_fly 116 = .ok (.aload_n 0, 1) := by decide +kernel
theorem dX4_fly_117 : decode cX4_fly 117 = .ok (.aload_n 2, 1) := by decide +kernel
theorem dX4_fly_118 : decode cX4_fly 118 = .ok (.iload_n 1, 1) := by decide +kernel
theorem dX4_fly_119 : decode cX4_fly 119 = .ok (.iload 4, 2) := by decide +kernel
theorem dX4_fly_121 : decode cX4_fly 121 = .ok (.iload 5, 2) := by decide +kernel
theorem dX4_fly_123 : decode cX4_fly 123 = .ok (.invokevirtual 139, 3) := by decide +kernel
theorem dX4_fly_126 : decode cX4_fly 126 = .ok (.ifCond .eq 5, 3) := by decide +kernel
theorem dX4_fly_129 : decode cX4_fly 129 = .ok (.iconst 1, 1) := by decide +kernel
theorem dX4_fly_130 : decode cX4_fly 130 = .ok (.ireturn, 1) := by decide +kernel
theorem dX4_fly_131 : decode cX4_fly 131 = .ok (.iinc 4 1, 3) := by decide +kernel
theorem dX4_fly_134 : decode cX4_fly 134 = .ok (.goto (-70), 3) := by decide +kernel
theorem dX4_fly_137 : decode cX4_fly 137 = .ok (.iconst 0, 1) := by decide +kernel
theorem dX4_fly_138 : decode cX4_fly 138 = .ok (.ireturn, 1) := by decide +kernel
set_option maxRecDepth 20000 in
theorem ggX4_flyFrom_X4_lastFree : GoodIn wsX4_flyFrom wsX4_lastFree := goodIn_r _ [16, 17, 18, 19, 20, 11, 82, 83, 84, 85, 86, 87, 88, 89] (by decide +kernel) (by decide +kernel)
set_option maxRecDepth 20000 in
theorem gX4_flyFrom_X4_lastFree : GoodIn wsX4_flyFrom (wsV RX4 143 RX4 yX4_lastFree wsX4_lastFree) := goodIn_app (goodIn_of _ (by decide +kernel)) ggX4_flyFrom_X4_lastFree
set_option maxRecDepth 20000 in
theorem ggX4_flyFrom_X4_firstFree : GoodIn wsX4_flyFrom wsX4_firstFree := goodIn_r _ [24, 25, 26, 19, 27, 11, 82, 83, 84, 85, 86, 87, 88, 89] (by decide +kernel) (by decide +kernel)
set_option maxRecDepth 20000 in
theorem gX4_flyFrom_X4_firstFree : GoodIn wsX4_flyFrom (wsV RX4 149 RX4 yX4_firstFree wsX4_firstFree) := goodIn_app (goodIn_of _ (by decide +kernel)) ggX4_flyFrom_X4_firstFree
set_option maxRecDepth 20000 in
theorem ggX4_flyFrom_X4_describeBegin : GoodIn wsX4_flyFrom wsX4_describeBegin := goodIn_r _ [31, 9, 1, 32, 82, 83, 84, 85, 86, 87, 88, 89, 90, 91, 92] (by decide +kernel) (by decide +kernel)
set_option maxRecDepth 20000 in
theorem gX4_flyFrom_X4_describeBegin : GoodIn wsX4_flyFrom (wsV RX4 67 RX4 yX4_describeBegin wsX4_describeBegin) := goodIn_app (goodIn_of _ (by decide +kernel)) ggX4_flyFrom_X4_describeBegin
set_option maxRecDepth 20000 in
theorem ggX4_flyFrom_X10_firstThatHolds : GoodIn wsX4_flyFrom wsX10_firstThatHolds := goodIn_r _ [37, 38, 39, 40, 41, 42, 43, 44, 36, 45, 46, 26, 19, 27, 47, 48, 49, 50, 51, 108, 109, 110, 111, 112, 113, 114, 115] (by decide +kernel) (by decide +kernel)
set_option maxRecDepth 20000 in
theorem gX4_flyFrom_X10_firstThatHolds : GoodIn wsX4_flyFrom (wsV RX4 73 RX10 yX10_firstThatHolds wsX10_firstThatHolds) := goodIn_app (goodIn_of _ (by decide +kernel)) ggX4_flyFrom_X10_firstThatHolds
set_option maxRecDepth 20000 in
theorem ggX4_flyFrom_X3_end : GoodIn wsX4_flyFrom wsX3_end := goodIn_r _ [56, 57, 58, 59, 60, 61, 55, 62, 63, 64, 65, 66, 67, 68, 101, 102, 103, 104, 105, 106, 107] (by decide +kernel) (by decide +kernel)
set_option maxRecDepth 20000 in
theorem gX4_flyFrom_X3_end : GoodIn wsX4_flyFrom (wsV RX4 120 RX3 yX3_end wsX3_end) := goodIn_app (goodIn_of _ (by decide +kernel)) ggX4_flyFrom_X3_end
set_option maxRecDepth 20000 in
theorem ggX4_flyFrom_X10_amountOf : GoodIn wsX4_flyFrom wsX10_amountOf := goodIn_r _ [72, 38, 73, 40, 74, 18, 19, 20, 46, 26, 27, 42, 43, 44, 36, 45, 47, 48, 49, 50, 51, 108, 109, 110, 111, 112, 113, 114, 115] (by decide +kernel) (by decide +kernel)
set_option maxRecDepth 20000 in
theorem gX4_flyFrom_X10_amountOf : GoodIn wsX4_flyFrom (wsV RX4 157 RX10 yX10_amountOf wsX10_amountOf) := goodIn_app (goodIn_of _ (by decide +kernel)) ggX4_flyFrom_X10_amountOf
set_option maxRecDepth 20000 in
theorem ggX4_flyFrom_X3_add : GoodIn wsX4_flyFrom wsX3_add := goodIn_r _ [78, 63, 64, 79, 57, 58, 80, 81, 101, 102, 103, 104, 105, 106, 107] (by decide +kernel) (by decide +kernel)
set_option maxRecDepth 20000 in
theorem gX4_flyFrom_X3_add : GoodIn wsX4_flyFrom (wsV RX4 160 RX3 yX3_add wsX3_add) := goodIn_app (goodIn_of _ (by decide +kernel)) ggX4_flyFrom_X3_add
theorem dX4_flyFrom_0 : decode cX4_flyFrom 0 = .ok (.aload_n 0, 1) := by decide +kernel
theorem dX4_flyFrom_1 : decode cX4_flyFrom 1 = .ok (.aload_n 0, 1) := by decide +kernel
theorem dX4_flyFrom_2 : decode cX4_flyFrom 2 = .ok (.getfield 38, 3) := by decide +kernel
theorem dX4_flyFrom_5 : decode cX4_flyFrom 5 = .ok (.getfield 123, 3) := by decide +kernel
theorem dX4_flyFrom_8 : decode cX4_flyFrom 8 = .ok (.iload_n 2, 1) := by decide +kernel
theorem dX4_flyFrom_9 : decode cX4_flyFrom 9 = .ok (.iaload, 1) := by decide +kernel
theorem dX4_flyFrom_10 : decode cX4_flyFrom 10 = .ok (.iload_n 3, 1) := by decide +kernel
theorem dX4_flyFrom_11 : decode cX4_flyFrom 11 = .ok (.aload_n 1, 1) := by decide +kernel
theorem dX4_flyFrom_12 : decode cX4_flyFrom 12 = .ok (.getfield 128, 3) := by decide +kernel
theorem dX4_flyFrom_15 : decode cX4_flyFrom 15 = .ok (.isub, 1) := by decide +kernel
theorem dX4_flyFrom_16 : decode cX4_flyFrom 16 = .ok (.invokevirtual 143, 3) := by decide +kernel
theorem dX4_flyFrom_19 : decode cX4_flyFrom 19 = .ok (.istore 5, 2) := by decide +kernel
theorem dX4_flyFrom_21 : decode cX4_flyFrom 21 = .ok (.aload_n 0, 1) := by decide +kernel
theorem dX4_flyFrom_22 : decode cX4_flyFrom 22 = .ok (.iload_n 3, 1) := by decide +kernel
theorem dX4_flyFrom_23 : decode cX4_flyFrom 23 = .ok (.iload 4, 2) := by decide +kernel
theorem dX4_flyFrom_25 : decode cX4_flyFrom 25 = .ok (.iadd, 1) := by decide +kernel
theorem dX4_flyFrom_26 : decode cX4_flyFrom 26 = .ok (.aload_n 1, 1) := by decide +kernel
theorem dX4_flyFrom_27 : decode cX4_flyFrom 27 = .ok (.getfield 146, 3) := by decide +kernel
theorem dX4_flyFrom_30 : decode cX4_flyFrom 30 = .ok (.iadd, 1) := by decide +kernel
theorem dX4_flyFrom_31 : decode cX4_flyFrom 31 = .ok (.invokevirtual 149, 3) := by decide +kernel
theorem dX4_flyFrom_34 : decode cX4_flyFrom 34 = .ok (.istore 6, 2) := by decide +kernel
theorem dX4_flyFrom_36 : decode cX4_flyFrom 36 = .ok (.iload 5, 2) := by decide +kernel
theorem dX4_flyFrom_38 : decode cX4_flyFrom 38 = .ok (.iconst (-1), 1) := by decide +kernel
theorem dX4_flyFrom_39 : decode cX4_flyFrom 39 = .ok (.if_icmp .eq 21, 3) := by decide +kernel
theorem dX4_flyFrom_42 : decode cX4_flyFrom 42 = .ok (.iload 6, 2) := by decide +kernel
theorem dX4_flyFrom_44 : decode cX4_flyFrom 44 = .ok (.iconst (-1), 1) := by decide +kernel
theorem dX4_flyFrom_45 : decode cX4_flyFrom 45 = .ok (.if_icmp .eq 15, 3) := by decide +kernel
theorem dX4_flyFrom_48 : decode cX4_flyFrom 48 = .ok (.iload 6, 2) := by decide +kernel
theorem dX4_flyFrom_50 : decode cX4_flyFrom 50 = .ok (.iload 5, 2) := by decide +kernel
theorem dX4_flyFrom_52 : decode cX4_flyFrom 52 = .ok (.isub, 1) := by decide +kernel
theorem dX4_flyFrom_53 : decode cX4_flyFrom 53 = .ok (.aload_n 1, 1) := by decide +kernel
theorem dX4_flyFrom_54 : decode cX4_flyFrom 54 = .ok (.getfield 153, 3) := by decide +kernel
theorem dX4_flyFrom_57 : decode cX4_flyFrom 57 = .ok (.if_icmp .le 5, 3) := by decide +kernel
theorem dX4_flyFrom_60 : decode cX4_flyFrom 60 = .ok (.iconst 0, 1) := by decide +kernel
theorem dX4_flyFrom_61 : decode cX4_flyFrom 61 = .ok (.ireturn, 1) := by decide +kernel
theorem dX4_flyFrom_62 : decode cX4_flyFrom 62 = .ok (.aload_n 0, 1) := by decide +kernel
theorem dX4_flyFrom_63 : decode cX4_flyFrom 63 = .ok (.iload_n 3, 1) := by decide +kernel
theorem dX4_flyFrom_64 : decode cX4_flyFrom 64 = .ok (.iload 4, 2) := by decide +kernel
theorem dX4_flyFrom_66 : decode cX4_flyFrom 66 = .ok (.invokevirtual 67, 3) := by decide +kernel
theorem dX4_flyFrom_69 : decode cX4_flyFrom 69 = .ok (.aload_n 0, 1) := by decide +kernel
theorem dX4_flyFrom_70 : decode cX4_flyFrom 70 = .ok (.getfield 31, 3) := by decide +kernel
theorem dX4_flyFrom_73 : decode cX4_flyFrom 73 = .ok (.getfield 156, 3) := by decide +kernel
theorem dX4_flyFrom_76 : decode cX4_flyFrom 76 = .ok (.ifCond .le 18, 3) := by decide +kernel
theorem dX4_flyFrom_79 : decode cX4_flyFrom 79 = .ok (.aload_n 0, 1) := by decide +kernel
theorem dX4_flyFrom_80 : decode cX4_flyFrom 80 = .ok (.getfield 42, 3) := by decide +kernel
theorem dX4_flyFrom_83 : decode cX4_flyFrom 83 = .ok (.iconst 1, 1) := by decide +kernel
theorem dX4_flyFrom_84 : decode cX4_flyFrom 84 = .ok (.aload_n 0, 1) := by decide +kernel
theorem dX4_flyFrom_85 : decode cX4_flyFrom 85 = .ok (.getfield 11, 3) := by decide +kernel
theorem dX4_flyFrom_88 : decode cX4_flyFrom 88 = .ok (.invokevirtual 73, 3) := by decide +kernel
theorem dX4_flyFrom_91 : decode cX4_flyFrom 91 = .ok (.goto 4, 3) := by decide +kernel
theorem dX4_flyFrom_94 : decode cX4_flyFrom 94 = .ok (.iconst (-1), 1) := by decide +kernel
theorem dX4_flyFrom_95 : decode cX4_flyFrom 95 = .ok (.istore 7, 2) := by decide +kernel
theorem dX4_flyFrom_97 : decode cX4_flyFrom 97 = .ok (.iload_n 3, 1) := by decide +kernel
theorem dX4_flyFrom_98 : decode cX4_flyFrom 98 = .ok (.aload_n 0, 1) := by decide +kernel
theorem dX4_flyFrom_99 : decode cX4_flyFrom 99 = .ok (.getfield 31, 3) := by decide +kernel
theorem dX4_flyFrom_102 : decode cX4_flyFrom 102 = .ok (.invokevirtual 120, 3) := by decide +kernel
theorem dX4_flyFrom_105 : decode cX4_flyFrom 105 = .ok (.isub, 1) := by decide +kernel
theorem dX4_flyFrom_106 : decode cX4_flyFrom 106 = .ok (.aload_n 0, 1) := by decide +kernel
theorem dX4_flyFrom_107 : decode cX4_flyFrom 107 = .ok (.getfield 42, 3) := by decide +kernel
theorem dX4_flyFrom_110 : decode cX4_flyFrom 110 = .ok (.iload 7, 2) := by decide +kernel
theorem dX4_flyFrom_112 : decode cX4_flyFrom 112 = .ok (.aload_n 0, 1) := by decide +kernel
theorem dX4_flyFrom_113 : decode cX4_flyFrom 113 = .ok (.getfield 11, 3) := by decide +kernel
theorem dX4_flyFrom_116 : decode cX4_flyFrom 116 = .ok (.invokevirtual 157, 3) := by decide +kernel
theorem dX4_flyFrom_119 : decode cX4_flyFrom 119 = .ok (.if_icmp .ge 5, 3) := by decide +kernel
theorem dX4_flyFrom_122 : decode cX4_flyFrom 122 = .ok (.iconst 0, 1) := by decide +kernel
theorem dX4_flyFrom_123 : decode cX4_flyFrom 123 = .ok (.ireturn, 1) := by decide +kernel
theorem dX4_flyFrom_124 : decode cX4_flyFrom 124 = .ok (.aload_n 0, 1) := by decide +kernel
theorem dX4_flyFrom_125 : decode cX4_flyFrom 125 = .ok (.getfield 42, 3) := by decide +kernel
theorem dX4_flyFrom_128 : decode cX4_flyFrom 128 = .ok (.iconst 2, 1) := by decide +kernel
theorem dX4_flyFrom_129 : decode cX4_flyFrom 129 = .ok (.aload_n 0, 1) := by decide +kernel
theorem dX4_flyFrom_130 : decode cX4_flyFrom 130 = .ok (.getfield 11, 3) := by decide +kernel
theorem dX4_flyFrom_133 : decode cX4_flyFrom 133 = .ok (.invokevirtual 73, 3) := by decide +kernel
theorem dX4_flyFrom_136 : decode cX4_flyFrom 136 = .ok (.istore 8, 2) := by decide +kernel
theorem dX4_flyFrom_138 : decode cX4_flyFrom 138 = .ok (.iload 6, 2) := by decide +kernel
theorem dX4_flyFrom_140 : decode cX4_flyFrom 140 = .ok (.iload 5, 2) := by decide +kernel
theorem dX4_flyFrom_142 : decode cX4_flyFrom 142 = .ok (.isub, 1) := by decide +kernel
theorem dX4_flyFrom_143 : decode cX4_flyFrom 143 = .ok (.aload_n 1, 1) := by decide +kernel
theorem dX4_flyFrom_144 : decode cX4_flyFrom 144 = .ok (.getfield 153, 3) := by decide +kernel
theorem dX4_flyFrom_147 : decode cX4_flyFrom 147 = .ok (.aload_n 0, 1) := by decide +kernel
theorem dX4_flyFrom_148 : decode cX4_flyFrom 148 = .ok (.getfield 42, 3) := by decide +kernel
theorem dX4_flyFrom_151 : decode cX4_flyFrom 151 = .ok (.iload 8, 2) := by decide +kernel
theorem dX4_flyFrom_153 : decode cX4_flyFrom 153 = .ok (.aload_n 0, 1) := by decide +kernel
theorem dX4_flyFrom_154 : decode cX4_flyFrom 154 = .ok (.getfield 11, 3) := by decide +kernel
theorem dX4_flyFrom_157 : decode cX4_flyFrom 157 = .ok (.invokevirtual 157, 3) := by decide +kernel
theorem dX4_flyFrom_160 : decode cX4_flyFrom 160 = .ok (.isub, 1) := by decide +kernel
theorem dX4_flyFrom_161 : decode cX4_flyFrom 161 = .ok (.if_icmp .le 5, 3) := by decide +kernel
theorem dX4_flyFrom_164 : decode cX4_flyFrom 164 = .ok (.iconst 0, 1) := by decide +kernel
theorem dX4_flyFrom_165 : decode cX4_flyFrom 165 = .ok (.ireturn, 1) := by decide +kernel
theorem dX4_flyFrom_166 : decode cX4_flyFrom 166 = .ok (.aload_n 0, 1) := by decide +kernel
theorem dX4_flyFrom_167 : decode cX4_flyFrom 167 = .ok (.getfield 42, 3) := by decide +kernel
theorem dX4_flyFrom_170 : decode cX4_flyFrom 170 = .ok (.iconst 0, 1) := by decide +kernel
theorem dX4_flyFrom_171 : decode cX4_flyFrom 171 = .ok (.aload_n 0, 1) := by decide +kernel
theorem dX4_flyFrom_172 : decode cX4_flyFrom 172 = .ok (.getfield 11, 3) := by decide +kernel
theorem dX4_flyFrom_175 : decode cX4_flyFrom 175 = .ok (.invokevirtual 73, 3) := by decide +kernel
theorem dX4_flyFrom_178 : decode cX4_flyFrom 178 = .ok (.iconst (-1), 1) := by decide +kernel
theorem dX4_flyFrom_179 : decode cX4_flyFrom 179 = .ok (.if_icmp .eq 5, 3) := by decide +kernel
theorem dX4_flyFrom_182 : decode cX4_flyFrom 182 = .ok (.iconst 0, 1) := by decide +kernel
theorem dX4_flyFrom_183 : decode cX4_flyFrom 183 = .ok (.ireturn, 1) := by decide +kernel
theorem dX4_flyFrom_184 : decode cX4_flyFrom 184 = .ok (.aload_n 0, 1) := by decide +kernel
theorem dX4_flyFrom_185 : decode cX4_flyFrom 185 = .ok (.getfield 31, 3) := by decide +kernel
theorem dX4_flyFrom_188 : decode cX4_flyFrom 188 = .ok (.iload_n 2, 1) := by decide +kernel
theorem dX4_flyFrom_189 : decode cX4_flyFrom 189 = .ok (.aload_n 1, 1) := by decide +kernel
theorem dX4_flyFrom_190 : decode cX4_flyFrom 190 = .ok (.getfield 117, 3) := by decide +kernel
theorem dX4_flyFrom_193 : decode cX4_flyFrom 193 = .ok (.iload 5, 2) := by decide +kernel
theorem dX4_flyFrom_195 : decode cX4_flyFrom 195 = .ok (.iload_n 3, 1) := by decide +kernel
theorem dX4_flyFrom_196 : decode cX4_flyFrom 196 = .ok (.iload 4, 2) := by decide +kernel
theorem dX4_flyFrom_198 : decode cX4_flyFrom 198 = .ok (.iload 6, 2) := by decide +kernel
theorem dX4_flyFrom_200 : decode cX4_flyFrom 200 = .ok (.invokevirtual 160, 3) := by decide +kernel
theorem dX4_flyFrom_203 : decode cX4_flyFrom 203 = .ok (.aload_n 0, 1) := by decide +kernel
theorem dX4_flyFrom_204 : decode cX4_flyFrom 204 = .ok (.getfield 20, 3) := by decide +kernel
theorem dX4_flyFrom_207 : decode cX4_flyFrom 207 = .ok (.iload 5, 2) := by decide +kernel
theorem dX4_flyFrom_209 : decode cX4_flyFrom 209 = .ok (.iconst 1, 1) := by decide +kernel
theorem dX4_flyFrom_210 : decode cX4_flyFrom 210 = .ok (.bastore, 1) := by decide +kernel
theorem dX4_flyFrom_211 : decode cX4_flyFrom 211 = .ok (.aload_n 0, 1) := by decide +kernel
theorem dX4_flyFrom_212 : decode cX4_flyFrom 212 = .ok (.getfield 20, 3) := by decide +kernel
theorem dX4_flyFrom_215 : decode cX4_flyFrom 215 = .ok (.iload 6, 2) := by decide +kernel
theorem dX4_flyFrom_217 : decode cX4_flyFrom 217 = .ok (.iconst 1, 1) := by decide +kernel
theorem dX4_flyFrom_218 : decode cX4_flyFrom 218 = .ok (.bastore, 1) := by decide +kernel
theorem dX4_flyFrom_219 : decode cX4_flyFrom 219 = .ok (.iconst 1, 1) := by decide +kernel
theorem dX4_flyFrom_220 : decode cX4_flyFrom 220 = .ok (.ireturn, 1) := by decide +kernel
set_option maxRecDepth 20000 in
theorem ggX4_callBack_X3_lastAct : GoodIn wsX4_callBack wsX3_lastAct := goodIn_r _ [11, 12, 13, 44, 45, 46, 47, 48, 49, 50] (by decide +kernel) (by decide +kernel)
set_option maxRecDepth 20000 in
theorem gX4_callBack_X3_lastAct : GoodIn wsX4_callBack (wsV RX4 164 RX3 yX3_lastAct wsX3_lastAct) := goodIn_app (goodIn_of _ (by decide +kernel)) ggX4_callBack_X3_lastAct
set_option maxRecDepth 20000 in
theorem ggX4_callBack_X7_actAt : GoodIn wsX4_callBack wsX7_actAt := goodIn_r _ [18, 19, 20, 59, 60, 61, 62, 63, 64] (by decide +kernel) (by decide +kernel)
set_option maxRecDepth 20000 in
theorem gX4_callBack_X7_actAt : GoodIn wsX4_callBack (wsV RX4 49 RX7 yX7_actAt wsX7_actAt) := goodIn_app (goodIn_of _ (by decide +kernel)) ggX4_callBack_X7_actAt
set_option maxRecDepth 20000 in
theorem ggX4_callBack_X3_has : GoodIn wsX4_callBack wsX3_has := goodIn_r _ [24, 25, 44, 45, 46, 47, 48, 49, 50] (by decide +kernel) (by decide +kernel)
set_option maxRecDepth 20000 in
theorem gX4_callBack_X3_has : GoodIn wsX4_callBack (wsV RX4 99 RX3 yX3_has wsX3_has) := goodIn_app (goodIn_of _ (by decide +kernel)) ggX4_callBack_X3_has
set_option maxRecDepth 20000 in
theorem ggX4_callBack_X3_dropLast : GoodIn wsX4_callBack wsX3_dropLast := goodIn_r _ [29, 30, 25, 31, 32, 12, 13, 33, 34, 8, 9, 10, 11, 35, 22, 23, 24, 44, 45, 46, 47, 48, 49, 50] (by decide +kernel) (by decide +kernel)
set_option maxRecDepth 20000 in
theorem gX4_callBack_X3_dropLast : GoodIn wsX4_callBack (wsV RX4 173 RX3 yX3_dropLast wsX3_dropLast) := goodIn_app (goodIn_of _ (by decide +kernel)) ggX4_callBack_X3_dropLast
theorem dX4_callBack_0 : decode cX4_callBack 0 = .ok (.aload_n 0, 1) := by decide +kernel
theorem dX4_callBack_1 : decode cX4_callBack 1 = .ok (.getfield 31, 3) := by decide +kernel
theorem dX4_callBack_4 : decode cX4_callBack 4 = .ok (.invokevirtual 164, 3) := by decide +kernel
theorem dX4_callBack_7 : decode cX4_callBack 7 = .ok (.istore_n 1, 1) := by decide +kernel
theorem dX4_callBack_8 : decode cX4_callBack 8 = .ok (.aload_n 0, 1) := by decide +kernel
theorem dX4_callBack_9 : decode cX4_callBack 9 = .ok (.getfield 34, 3) := by decide +kernel
theorem dX4_callBack_12 : decode cX4_callBack 12 = .ok (.iload_n 1, 1) := by decide +kernel
theorem dX4_callBack_13 : decode cX4_callBack 13 = .ok (.invokevirtual 49, 3) := by decide +kernel
theorem dX4_callBack_16 : decode cX4_callBack 16 = .ok (.astore_n 2, 1) := by decide +kernel
theorem dX4_callBack_17 : decode cX4_callBack 17 = .ok (.aload_n 2, 1) := by decide +kernel
theorem dX4_callBack_18 : decode cX4_callBack 18 = .ok (.ifnull 55, 3) := by decide +kernel
theorem dX4_callBack_21 : decode cX4_callBack 21 = .ok (.aload_n 0, 1) := by decide +kernel
theorem dX4_callBack_22 : decode cX4_callBack 22 = .ok (.getfield 31, 3) := by decide +kernel
theorem dX4_callBack_25 : decode cX4_callBack 25 = .ok (.iload_n 1, 1) := by decide +kernel
theorem dX4_callBack_26 : decode cX4_callBack 26 = .ok (.invokevirtual 99, 3) := by decide +kernel
theorem dX4_callBack_29 : decode cX4_callBack 29 = .ok (.ifCond .eq 44, 3) := by decide +kernel
theorem dX4_callBack_32 : decode cX4_callBack 32 = .ok (.aload_n 0, 1) := by decide +kernel
theorem dX4_callBack_33 : decode cX4_callBack 33 = .ok (.getfield 20, 3) := by decide +kernel
theorem dX4_callBack_36 : decode cX4_callBack 36 = .ok (.aload_n 0, 1) := by decide +kernel
theorem dX4_callBack_37 : decode cX4_callBack 37 = .ok (.getfield 31, 3) := by decide +kernel
theorem dX4_callBack_40 : decode cX4_callBack 40 = .ok (.getfield 167, 3) := by decide +kernel
theorem dX4_callBack_43 : decode cX4_callBack 43 = .ok (.iload_n 1, 1) := by decide +kernel
theorem dX4_callBack_44 : decode cX4_callBack 44 = .ok (.iaload, 1) := by decide +kernel
theorem dX4_callBack_45 : decode cX4_callBack 45 = .ok (.iconst 0, 1) := by decide +kernel
theorem dX4_callBack_46 : decode cX4_callBack 46 = .ok (.bastore, 1) := by decide +kernel
theorem dX4_callBack_47 : decode cX4_callBack 47 = .ok (.aload_n 0, 1) := by decide +kernel
theorem dX4_callBack_48 : decode cX4_callBack 48 = .ok (.getfield 20, 3) := by decide +kernel
theorem dX4_callBack_51 : decode cX4_callBack 51 = .ok (.aload_n 0, 1) := by decide +kernel
theorem dX4_callBack_52 : decode cX4_callBack 52 = .ok (.getfield 31, 3) := by decide +kernel
theorem dX4_callBack_55 : decode cX4_callBack 55 = .ok (.getfield 170, 3) := by decide +kernel
theorem dX4_callBack_58 : decode cX4_callBack 58 = .ok (.iload_n 1, 1) := by decide +kernel
theorem dX4_callBack_59 : decode cX4_callBack 59 = .ok (.iaload, 1) := by decide +kernel
theorem dX4_callBack_60 : decode cX4_callBack 60 = .ok (.iconst 0, 1) := by decide +kernel
theorem dX4_callBack_61 : decode cX4_callBack 61 = .ok (.bastore, 1) := by decide +kernel
theorem dX4_callBack_62 : decode cX4_callBack 62 = .ok (.aload_n 0, 1) := by decide +kernel
theorem dX4_callBack_63 : decode cX4_callBack 63 = .ok (.getfield 31, 3) := by decide +kernel
theorem dX4_callBack_66 : decode cX4_callBack 66 = .ok (.aload_n 2, 1) := by decide +kernel
theorem dX4_callBack_67 : decode cX4_callBack 67 = .ok (.getfield 117, 3) := by decide +kernel
theorem dX4_callBack_70 : decode cX4_callBack 70 = .ok (.invokevirtual 173, 3) := by decide +kernel
theorem dX4_callBack_73 : decode cX4_callBack 73 = .ok (.return_, 1) := by decide +kernel
theorem dX4_minutesFrom_0 : decode cX4_minutesFrom 0 = .ok (.iload_n 1, 1) := by decide +kernel
theorem dX4_minutesFrom_1 : decode cX4_minutesFrom 1 = .ok (.bipush 10, 2) := by decide +kernel
theorem dX4_minutesFrom_3 : decode cX4_minutesFrom 3 = .ok (.imul, 1) := by decide +kernel
theorem dX4_minutesFrom_4 : decode cX4_minutesFrom 4 = .ok (.aload_n 0, 1) := by decide +kernel
theorem dX4_minutesFrom_5 : decode cX4_minutesFrom 5 = .ok (.getfield 38, 3) := by decide +kernel
theorem dX4_minutesFrom_8 : decode cX4_minutesFrom 8 = .ok (.getfield 177, 3) := by decide +kernel
theorem dX4_minutesFrom_11 : decode cX4_minutesFrom 11 = .ok (.iload_n 2, 1) := by decide +kernel
theorem dX4_minutesFrom_12 : decode cX4_minutesFrom 12 = .ok (.iaload, 1) := by decide +kernel
theorem dX4_minutesFrom_13 : decode cX4_minutesFrom 13 = .ok (.iadd, 1) := by decide +kernel
theorem dX4_minutesFrom_14 : decode cX4_minutesFrom 14 = .ok (.istore_n 3, 1) := by decide +kernel
theorem dX4_minutesFrom_15 : decode cX4_minutesFrom 15 = .ok (.iload_n 3, 1) := by decide +kernel
theorem dX4_minutesFrom_16 : decode cX4_minutesFrom 16 = .ok (.ifCond .lt 21, 3) := by decide +kernel
theorem dX4_minutesFrom_19 : decode cX4_minutesFrom 19 = .ok (.iload_n 3, 1) := by decide +kernel
theorem dX4_minutesFrom_20 : decode cX4_minutesFrom 20 = .ok (.aload_n 0, 1) := by decide +kernel
theorem dX4_minutesFrom_21 : decode cX4_minutesFrom 21 = .ok (.getfield 17, 3) := by decide +kernel
theorem dX4_minutesFrom_24 : decode cX4_minutesFrom 24 = .ok (.arraylength, 1) := by decide +kernel
theorem dX4_minutesFrom_25 : decode cX4_minutesFrom 25 = .ok (.if_icmp .ge 12, 3) := by decide +kernel
theorem dX4_minutesFrom_28 : decode cX4_minutesFrom 28 = .ok (.aload_n 0, 1) := by decide +kernel
theorem dX4_minutesFrom_29 : decode cX4_minutesFrom 29 = .ok (.getfield 17, 3) := by decide +kernel
theorem dX4_minutesFrom_32 : decode cX4_minutesFrom 32 = .ok (.iload_n 3, 1) := by decide +kernel
theorem dX4_minutesFrom_33 : decode cX4_minutesFrom 33 = .ok (.iaload, 1) := by decide +kernel
theorem dX4_minutesFrom_34 : decode cX4_minutesFrom 34 = .ok (.goto 4, 3) := by decide +kernel
theorem dX4_minutesFrom_37 : decode cX4_minutesFrom 37 = .ok (.iconst 0, 1) := by decide +kernel
theorem dX4_minutesFrom_38 : decode cX4_minutesFrom 38 = .ok (.ireturn, 1) := by decide +kernel
theorem dX4_lastFree_0 : decode cX4_lastFree 0 = .ok (.iload_n 2, 1) := by decide +kernel
theorem dX4_lastFree_1 : decode cX4_lastFree 1 = .ok (.sipush 239, 3) := by decide +kernel
theorem dX4_lastFree_4 : decode cX4_lastFree 4 = .ok (.invokestatic 180, 3) := by decide +kernel
theorem dX4_lastFree_7 : decode cX4_lastFree 7 = .ok (.istore_n 3, 1) := by decide +kernel
theorem dX4_lastFree_8 : decode cX4_lastFree 8 = .ok (.iload_n 3, 1) := by decide +kernel
theorem dX4_lastFree_9 : decode cX4_lastFree 9 = .ok (.iload_n 1, 1) := by decide +kernel
theorem dX4_lastFree_10 : decode cX4_lastFree 10 = .ok (.if_icmp .lt 24, 3) := by decide +kernel
theorem dX4_lastFree_13 : decode cX4_lastFree 13 = .ok (.iload_n 3, 1) := by decide +kernel
theorem dX4_lastFree_14 : decode cX4_lastFree 14 = .ok (.ifCond .lt 20, 3) := by decide +kernel
theorem dX4_lastFree_17 : decode cX4_lastFree 17 = .ok (.aload_n 0, 1) := by decide +kernel
theorem dX4_lastFree_18 : decode cX4_lastFree 18 = .ok (.getfield 20, 3) := by decide +kernel
theorem dX4_lastFree_21 : decode cX4_lastFree 21 = .ok (.iload_n 3, 1) := by decide +kernel
theorem dX4_lastFree_22 : decode cX4_lastFree 22 = .ok (.baload, 1) := by decide +kernel
theorem dX4_lastFree_23 : decode cX4_lastFree 23 = .ok (.ifCond .ne 5, 3) := by decide +kernel
theorem dX4_lastFree_26 : decode cX4_lastFree 26 = .ok (.iload_n 3, 1) := by decide +kernel
theorem dX4_lastFree_27 : decode cX4_lastFree 27 = .ok (.ireturn, 1) := by decide +kernel
theorem dX4_lastFree_28 : decode cX4_lastFree 28 = .ok (.iinc 3 (-1), 3) := by decide +kernel
theorem dX4_lastFree_31 : decode cX4_lastFree 31 = .ok (.goto (-23), 3) := by decide +kernel
theorem dX4_lastFree_34 : decode cX4_lastFree 34 = .ok (.iconst (-1), 1) := by decide +kernel
theorem dX4_lastFree_35 : decode cX4_lastFree 35 = .ok (.ireturn, 1) := by decide +kernel
theorem dX4_firstFree_0 : decode cX4_firstFree 0 = .ok (.iconst 0, 1) := by decide +kernel
theorem dX4_firstFree_1 : decode cX4_firstFree 1 = .ok (.iload_n 1, 1) := by decide +kernel
theorem dX4_firstFree_2 : decode cX4_firstFree 2 = .ok (.invokestatic 131, 3) := by decide +kernel
theorem dX4_firstFree_5 : decode cX4_firstFree 5 = .ok (.istore_n 2, 1) := by decide +kernel
theorem dX4_firstFree_6 : decode cX4_firstFree 6 = .ok (.iload_n 2, 1) := by decide +kernel
theorem dX4_firstFree_7 : decode cX4_firstFree 7 = .ok (.sipush 240, 3) := by decide +kernel
theorem dX4_firstFree_10 : decode cX4_firstFree 10 = .ok (.if_icmp .ge 20, 3) := by decide +kernel
theorem dX4_firstFree_13 : decode cX4_firstFree 13 = .ok (.aload_n 0, 1) := by decide +kernel
theorem dX4_firstFree_14 : decode cX4_firstFree 14 = .ok (.getfield 20, 3) := by decide +kernel
theorem dX4_firstFree_17 : decode cX4_firstFree 17 = .ok (.iload_n 2, 1) := by decide +kernel
theorem dX4_firstFree_18 : decode cX4_firstFree 18 = .ok (.baload, 1) := by decide +kernel
theorem dX4_firstFree_19 : decode cX4_firstFree 19 = .ok (.ifCond .ne 5, 3) := by decide +kernel
theorem dX4_firstFree_22 : decode cX4_firstFree 22 = .ok (.iload_n 2, 1) := by decide +kernel
theorem dX4_firstFree_23 : decode cX4_firstFree 23 = .ok (.ireturn, 1) := by decide +kernel
theorem dX4_firstFree_24 : decode cX4_firstFree 24 = .ok (.iinc 2 1, 3) := by decide +kernel
theorem dX4_firstFree_27 : decode cX4_firstFree 27 = .ok (.goto (-21), 3) := by decide +kernel
theorem dX4_firstFree_30 : decode cX4_firstFree 30 = .ok (.iconst (-1), 1) := by decide +kernel
theorem dX4_firstFree_31 : decode cX4_firstFree 31 = .ok (.ireturn, 1) := by decide +kernel
set_option maxRecDepth 20000 in
theorem ggX4_describe_X3_lastAct : GoodIn wsX4_describe wsX3_lastAct := goodIn_r _ [12, 13, 14, 55, 56, 57, 58, 59, 60, 61] (by decide +kernel) (by decide +kernel)
set_option maxRecDepth 20000 in
theorem gX4_describe_X3_lastAct : GoodIn wsX4_describe (wsV RX4 164 RX3 yX3_lastAct wsX3_lastAct) := goodIn_app (goodIn_of _ (by decide +kernel)) ggX4_describe_X3_lastAct
set_option maxRecDepth 20000 in
theorem ggX4_describe_X7_actAt : GoodIn wsX4_describe wsX7_actAt := goodIn_r _ [19, 20, 21, 49, 50, 51, 52, 53, 54] (by decide +kernel) (by decide +kernel)
set_option maxRecDepth 20000 in
theorem gX4_describe_X7_actAt : GoodIn wsX4_describe (wsV RX4 49 RX7 yX7_actAt wsX7_actAt) := goodIn_app (goodIn_of _ (by decide +kernel)) ggX4_describe_X7_actAt
set_option maxRecDepth 20000 in
theorem ggX4_describe_X4_flownBy : GoodIn wsX4_describe wsX4_flownBy := goodIn_r _ [26, 1, 27, 5, 2, 15, 16, 17, 18, 19, 20, 21, 28, 29, 30, 11, 31, 32, 33, 34, 35, 36, 37, 38, 39, 40, 49, 50, 51, 52, 53, 54, 41, 42, 43, 44, 45, 46, 47, 48, 55, 56, 57, 58, 59, 60, 61] (by decide +kernel) (by decide +kernel)
set_option maxRecDepth 20000 in
theorem gX4_describe_X4_flownBy : GoodIn wsX4_describe (wsV RX4 189 RX4 yX4_flownBy wsX4_flownBy) := goodIn_app (goodIn_of _ (by decide +kernel)) ggX4_describe_X4_flownBy
theorem dX4_describe_0 : decode cX4_describe 0 = .ok (.aload_n 0, 1) := by decide +kernel
theorem dX4_describe_1 : decode cX4_describe 1 = .ok (.getfield 34, 3) := by decide +kernel
theorem dX4_describe_4 : decode cX4_describe 4 = .ok (.aload_n 0, 1) := by decide +kernel
theorem dX4_describe_5 : decode cX4_describe 5 = .ok (.getfield 31, 3) := by decide +kernel
theorem dX4_describe_8 : decode cX4_describe 8 = .ok (.invokevirtual 164, 3) := by decide +kernel
theorem dX4_describe_11 : decode cX4_describe 11 = .ok (.invokevirtual 49, 3) := by decide +kernel
theorem dX4_describe_14 : decode cX4_describe 14 = .ok (.astore_n 3, 1) := by decide +kernel
theorem dX4_describe_15 : decode cX4_describe 15 = .ok (.aload_n 0, 1) := by decide +kernel
theorem dX4_describe_16 : decode cX4_describe 16 = .ok (.getfield 11, 3) := by decide +kernel
theorem dX4_describe_19 : decode cX4_describe 19 = .ok (.iconst 0, 1) := by decide +kernel
theorem dX4_describe_20 : decode cX4_describe 20 = .ok (.iload_n 2, 1) := by decide +kernel
theorem dX4_describe_21 : decode cX4_describe 21 = .ok (.iastore, 1) := by decide +kernel
theorem dX4_describe_22 : decode cX4_describe 22 = .ok (.aload_n 0, 1) := by decide +kernel
theorem dX4_describe_23 : decode cX4_describe 23 = .ok (.getfield 11, 3) := by decide +kernel
theorem dX4_describe_26 : decode cX4_describe 26 = .ok (.iconst 1, 1) := by decide +kernel
theorem dX4_describe_27 : decode cX4_describe 27 = .ok (.aload_n 1, 1) := by decide +kernel
theorem dX4_describe_28 : decode cX4_describe 28 = .ok (.getfield 183, 3) := by decide +kernel
theorem dX4_describe_31 : decode cX4_describe 31 = .ok (.iastore, 1) := by decide +kernel
theorem dX4_describe_32 : decode cX4_describe 32 = .ok (.aload_n 0, 1) := by decide +kernel
theorem dX4_describe_33 : decode cX4_describe 33 = .ok (.getfield 11, 3) := by decide +kernel
theorem dX4_describe_36 : decode cX4_describe 36 = .ok (.iconst 2, 1) := by decide +kernel
theorem dX4_describe_37 : decode cX4_describe 37 = .ok (.aload_n 3, 1) := by decide +kernel
theorem dX4_describe_38 : decode cX4_describe 38 = .ok (.ifnonnull 7, 3) := by decide +kernel
theorem dX4_describe_41 : decode cX4_describe 41 = .ok (.iconst (-1), 1) := by decide +kernel
theorem dX4_describe_42 : decode cX4_describe 42 = .ok (.goto 7, 3) := by decide +kernel
theorem dX4_describe_45 : decode cX4_describe 45 = .ok (.aload_n 3, 1) := by decide +kernel
theorem dX4_describe_46 : decode cX4_describe 46 = .ok (.getfield 183, 3) := by decide +kernel
theorem dX4_describe_49 : decode cX4_describe 49 = .ok (.iastore, 1) := by decide +kernel
theorem dX4_describe_50 : decode cX4_describe 50 = .ok (.aload_n 0, 1) := by decide +kernel
theorem dX4_describe_51 : decode cX4_describe 51 = .ok (.getfield 11, 3) := by decide +kernel
theorem dX4_describe_54 : decode cX4_describe 54 = .ok (.iconst 3, 1) := by decide +kernel
theorem dX4_describe_55 : decode cX4_describe 55 = .ok (.aload_n 0, 1) := by decide +kernel
theorem dX4_describe_56 : decode cX4_describe 56 = .ok (.aload_n 1, 1) := by decide +kernel
theorem dX4_describe_57 : decode cX4_describe 57 = .ok (.getfield 186, 3) := by decide +kernel
theorem dX4_describe_60 : decode cX4_describe 60 = .ok (.invokevirtual 189, 3) := by decide +kernel
theorem dX4_describe_63 : decode cX4_describe 63 = .ok (.iastore, 1) := by decide +kernel
theorem dX4_describe_64 : decode cX4_describe 64 = .ok (.aload_n 0, 1) := by decide +kernel
theorem dX4_describe_65 : decode cX4_describe 65 = .ok (.getfield 11, 3) := by decide +kernel
theorem dX4_describe_68 : decode cX4_describe 68 = .ok (.bipush 6, 2) := by decide +kernel
theorem dX4_describe_70 : decode cX4_describe 70 = .ok (.aload_n 0, 1) := by decide +kernel
theorem dX4_describe_71 : decode cX4_describe 71 = .ok (.getfield 34, 3) := by decide +kernel
theorem dX4_describe_74 : decode cX4_describe 74 = .ok (.getfield 192, 3) := by decide +kernel
theorem dX4_describe_77 : decode cX4_describe 77 = .ok (.iastore, 1) := by decide +kernel
theorem dX4_describe_78 : decode cX4_describe 78 = .ok (.aload_n 0, 1) := by decide +kernel
theorem dX4_describe_79 : decode cX4_describe 79 = .ok (.getfield 11, 3) := by decide +kernel
theorem dX4_describe_82 : decode cX4_describe 82 = .ok (.bipush 8, 2) := by decide +kernel
theorem dX4_describe_84 : decode cX4_describe 84 = .ok (.aload_n 1, 1) := by decide +kernel
theorem dX4_describe_85 : decode cX4_describe 85 = .ok (.getfield 117, 3) := by decide +kernel
theorem dX4_describe_88 : decode cX4_describe 88 = .ok (.iastore, 1) := by decide +kernel
theorem dX4_describe_89 : decode cX4_describe 89 = .ok (.return_, 1) := by decide +kernel
theorem dX4_describeBegin_0 : decode cX4_describeBegin 0 = .ok (.aload_n 0, 1) := by decide +kernel
theorem dX4_describeBegin_1 : decode cX4_describeBegin 1 = .ok (.getfield 11, 3) := by decide +kernel
theorem dX4_describeBegin_4 : decode cX4_describeBegin 4 = .ok (.iconst 4, 1) := by decide +kernel
theorem dX4_describeBegin_5 : decode cX4_describeBegin 5 = .ok (.aload_n 0, 1) := by decide +kernel
theorem dX4_describeBegin_6 : decode cX4_describeBegin 6 = .ok (.getfield 38, 3) := by decide +kernel
theorem dX4_describeBegin_9 : decode cX4_describeBegin 9 = .ok (.getfield 177, 3) := by decide +kernel
theorem dX4_describeBegin_12 : decode cX4_describeBegin 12 = .ok (.iload_n 1, 1) := by decide +kernel
theorem dX4_describeBegin_13 : decode cX4_describeBegin 13 = .ok (.iaload, 1) := by decide +kernel
theorem dX4_describeBegin_14 : decode cX4_describeBegin 14 = .ok (.iastore, 1) := by decide +kernel
theorem dX4_describeBegin_15 : decode cX4_describeBegin 15 = .ok (.aload_n 0, 1) := by decide +kernel
theorem dX4_describeBegin_16 : decode cX4_describeBegin 16 = .ok (.getfield 11, 3) := by decide +kernel
theorem dX4_describeBegin_19 : decode cX4_describeBegin 19 = .ok (.iconst 5, 1) := by decide +kernel
theorem dX4_describeBegin_20 : decode cX4_describeBegin 20 = .ok (.iload_n 1, 1) := by decide +kernel
theorem dX4_describeBegin_21 : decode cX4_describeBegin 21 = .ok (.iastore, 1) := by decide +kernel
theorem dX4_describeBegin_22 : decode cX4_describeBegin 22 = .ok (.aload_n 0, 1) := by decide +kernel
theorem dX4_describeBegin_23 : decode cX4_describeBegin 23 = .ok (.getfield 11, 3) := by decide +kernel
theorem dX4_describeBegin_26 : decode cX4_describeBegin 26 = .ok (.bipush 7, 2) := by decide +kernel
theorem dX4_describeBegin_28 : decode cX4_describeBegin 28 = .ok (.iload_n 2, 1) := by decide +kernel
theorem dX4_describeBegin_29 : decode cX4_describeBegin 29 = .ok (.iastore, 1) := by decide +kernel
theorem dX4_describeBegin_30 : decode cX4_describeBegin 30 = .ok (.return_, 1) := by decide +kernel
set_option maxRecDepth 20000 in
theorem ggX4_flownBy_X7_actAt : GoodIn wsX4_flownBy wsX7_actAt := goodIn_r _ [9, 10, 11, 26, 27, 28, 29, 30, 31] (by decide +kernel) (by decide +kernel)
set_option maxRecDepth 20000 in
theorem gX4_flownBy_X7_actAt : GoodIn wsX4_flownBy (wsV RX4 49 RX7 yX7_actAt wsX7_actAt) := goodIn_app (goodIn_of _ (by decide +kernel)) ggX4_flownBy_X7_actAt
set_option maxRecDepth 20000 in
theorem ggX4_flownBy_X3_has : GoodIn wsX4_flownBy wsX3_has := goodIn_r _ [16, 17, 40, 41, 42, 43, 44, 45, 46] (by decide +kernel) (by decide +kernel)
set_option maxRecDepth 20000 in
theorem gX4_flownBy_X3_has : GoodIn wsX4_flownBy (wsV RX4 99 RX3 yX3_has wsX3_has) := goodIn_app (goodIn_of _ (by decide +kernel)) ggX4_flownBy_X3_has
theorem dX4_flownBy_0 : decode cX4_flownBy 0 = .ok (.iconst 0, 1) := by decide +kernel
theorem dX4_flownBy_1 : decode cX4_flownBy 1 = .ok (.istore_n 2, 1) := by decide +kernel
theorem dX4_flownBy_2 : decode cX4_flownBy 2 = .ok (.iconst 0, 1) := by decide +kernel
theorem dX4_flownBy_3 : decode cX4_flownBy 3 = .ok (.istore_n 3, 1) := by decide +kernel
theorem dX4_flownBy_4 : decode cX4_flownBy 4 = .ok (.iload_n 3, 1) := by decide +kernel
theorem dX4_flownBy_5 : decode cX4_flownBy 5 = .ok (.aload_n 0, 1) := by decide +kernel
theorem dX4_flownBy_6 : decode cX4_flownBy 6 = .ok (.getfield 34, 3) := by decide +kernel
theorem dX4_flownBy_9 : decode cX4_flownBy 9 = .ok (.getfield 96, 3) := by decide +kernel
theorem dX4_flownBy_12 : decode cX4_flownBy 12 = .ok (.if_icmp .ge 47, 3) := by decide +kernel
theorem dX4_flownBy_15 : decode cX4_flownBy 15 = .ok (.aload_n 0, 1) := by decide +kernel
theorem dX4_flownBy_16 : decode cX4_flownBy 16 = .ok (.getfield 34, 3) := by decide +kernel
theorem dX4_flownBy_19 : decode cX4_flownBy 19 = .ok (.iload_n 3, 1) := by decide +kernel
theorem dX4_flownBy_20 : decode cX4_flownBy 20 = .ok (.invokevirtual 49, 3) := by decide +kernel
theorem dX4_flownBy_23 : decode cX4_flownBy 23 = .ok (.astore 4, 2) := by decide +kernel
theorem dX4_flownBy_25 : decode cX4_flownBy 25 = .ok (.aload 4, 2) := by decide +kernel
theorem dX4_flownBy_27 : decode cX4_flownBy 27 = .ok (.ifnull 26, 3) := by decide +kernel
theorem dX4_flownBy_30 : decode cX4_flownBy 30 = .ok (.aload 4, 2) := by decide +kernel
theorem dX4_flownBy_32 : decode cX4_flownBy 32 = .ok (.getfield 186, 3) := by decide +kernel
theorem dX4_flownBy_35 : decode cX4_flownBy 35 = .ok (.iload_n 1, 1) := by decide +kernel
theorem dX4_flownBy_36 : decode cX4_flownBy 36 = .ok (.if_icmp .ne 17, 3) := by decide +kernel
theorem dX4_flownBy_39 : decode cX4_flownBy 39 = .ok (.aload_n 0, 1) := by decide +kernel
theorem dX4_flownBy_40 : decode cX4_flownBy 40 = .ok (.getfield 31, 3) := by decide +kernel
theorem dX4_flownBy_43 : decode cX4_flownBy 43 = .ok (.iload_n 3, 1) := by decide +kernel
theorem dX4_flownBy_44 : decode cX4_flownBy 44 = .ok (.invokevirtual 99, 3) := by decide +kernel
theorem dX4_flownBy_47 : decode cX4_flownBy 47 = .ok (.ifCond .eq 6, 3) := by decide +kernel
theorem dX4_flownBy_50 : decode cX4_flownBy 50 = .ok (.iinc 2 1, 3) := by decide +kernel
theorem dX4_flownBy_53 : decode cX4_flownBy 53 = .ok (.iinc 3 1, 3) := by decide +kernel
theorem dX4_flownBy_56 : decode cX4_flownBy 56 = .ok (.goto (-52), 3) := by decide +kernel
theorem dX4_flownBy_59 : decode cX4_flownBy 59 = .ok (.iload_n 2, 1) := by decide +kernel
theorem dX4_flownBy_60 : decode cX4_flownBy 60 = .ok (.ireturn, 1) := by decide +kernel
set_option maxRecDepth 20000 in
theorem ggX5_init_X6_init : GoodIn wsX5_init wsX6_init := goodIn_r _ [16, 17, 2, 3, 18, 19, 20, 21, 8, 22, 23, 24, 25, 26, 33, 34, 35, 36, 37] (by decide +kernel) (by decide +kernel)
set_option maxRecDepth 20000 in
theorem gX5_init_X6_init : GoodIn wsX5_init (wsX6_init) := ggX5_init_X6_init
theorem dX5_init_0 : decode cX5_init 0 = .ok (.aload_n 0, 1) := by decide +kernel
theorem dX5_init_1 : decode cX5_init 1 = .ok (.invokespecial 3, 3) := by decide +kernel
theorem dX5_init_4 : decode cX5_init 4 = .ok (.aload_n 0, 1) := by decide +kernel
theorem dX5_init_5 : decode cX5_init 5 = .ok (.bipush 24, 2) := by decide +kernel
theorem dX5_init_7 : decode cX5_init 7 = .ok (.newarray .int, 2) := by decide +kernel
theorem dX5_init_9 : decode cX5_init 9 = .ok (.putfield 9, 3) := by decide +kernel
theorem dX5_init_12 : decode cX5_init 12 = .ok (.aload_n 0, 1) := by decide +kernel
theorem dX5_init_13 : decode cX5_init 13 = .ok (.new 13, 3) := by decide +kernel
theorem dX5_init_16 : decode cX5_init 16 = .ok (.dup, 1) := by decide +kernel
theorem dX5_init_17 : decode cX5_init 17 = .ok (.aload_n 1, 1) := by decide +kernel
theorem dX5_init_18 : decode cX5_init 18 = .ok (.invokespecial 15, 3) := by decide +kernel
theorem dX5_init_21 : decode cX5_init 21 = .ok (.putfield 18, 3) := by decide +kernel
theorem dX5_init_24 : decode cX5_init 24 = .ok (.aload_n 0, 1) := by decide +kernel
theorem dX5_init_25 : decode cX5_init 25 = .ok (.iconst 0, 1) := by decide +kernel
theorem dX5_init_26 : decode cX5_init 26 = .ok (.putfield 22, 3) := by decide +kernel
theorem dX5_init_29 : decode cX5_init 29 = .ok (.aload_n 0, 1) := by decide +kernel
theorem dX5_init_30 : decode cX5_init 30 = .ok (.iconst 0, 1) := by decide +kernel
theorem dX5_init_31 : decode cX5_init 31 = .ok (.putfield 26, 3) := by decide +kernel
theorem dX5_init_34 : decode cX5_init 34 = .ok (.aload_n 0, 1) := by decide +kernel
theorem dX5_init_35 : decode cX5_init 35 = .ok (.iconst 0, 1) := by decide +kernel
theorem dX5_init_36 : decode cX5_init 36 = .ok (.putfield 29, 3) := by decide +kernel
theorem dX5_init_39 : decode cX5_init 39 = .ok (.aload_n 0, 1) := by decide +kernel
theorem dX5_init_40 : decode cX5_init 40 = .ok (.iconst 0, 1) := by decide +kernel
theorem dX5_init_41 : decode cX5_init 41 = .ok (.putfield 32, 3) := by decide +kernel
theorem dX5_init_44 : decode cX5_init 44 = .ok (.return_, 1) := by decide +kernel
theorem dX5_placeReached_0 : decode cX5_placeReached 0 = .ok (.aload_n 0, 1) := by decide +kernel
theorem dX5_placeReached_1 : decode cX5_placeReached 1 = .ok (.getfield 18, 3) := by decide +kernel
theorem dX5_placeReached_4 : decode cX5_placeReached 4 = .ok (.getfield 35, 3) := by decide +kernel
theorem dX5_placeReached_7 : decode cX5_placeReached 7 = .ok (.ireturn, 1) := by decide +kernel
set_option maxRecDepth 20000 in
theorem ggX5_compile_X5_start : GoodIn wsX5_compile wsX5_start := goodIn_r _ [8, 1, 9, 3, 10, 11, 12, 13, 14, 15, 16, 17, 18, 19, 20, 21, 22, 23, 24, 25, 26, 27, 193, 194, 195, 196, 197, 198, 204, 205, 206, 207, 208, 209, 210, 211, 199, 200, 201, 202, 203] (by decide +kernel) (by decide +kernel)
set_option maxRecDepth 20000 in
theorem gX5_compile_X5_start : GoodIn wsX5_compile (wsV RX5 38 RX5 yX5_start wsX5_start) := goodIn_app (goodIn_of _ (by decide +kernel)) ggX5_compile_X5_start
set_option maxRecDepth 20000 in
theorem ggX5_compile_X6_advance : GoodIn wsX5_compile wsX6_advance := goodIn_r _ [31, 24, 32, 33, 27, 26, 25, 34, 35, 36, 37, 38, 39, 40, 41, 42, 22, 43, 44, 45, 46, 47, 48, 49, 50, 51, 52, 53, 54, 55, 56, 57, 58, 59, 60, 61, 62, 63, 64, 65, 66, 67, 68, 69, 70, 71, 72, 73, 74, 75, 76, 77, 78, 79, 80, 81, 82, 83, 84, 85, 86, 87, 88, 89, 90, 91, 92, 93, 94, 95, 96, 97, 98, 99, 100, 101, 102, 103, 104, 105, 106, 107, 108, 109, 110, 111, 112, 113, 114, 115, 116, 117, 118, 119, 120, 199, 200, 201, 202, 203, 212, 213] (by decide +kernel) (by decide +kernel)
set_option maxRecDepth 20000 in
theorem gX5_compile_X6_advance : GoodIn wsX5_compile (wsV RX5 42 RX6 yX6_advance wsX6_advance) := goodIn_app (goodIn_of _ (by decide +kernel)) ggX5_compile_X6_advance
set_option maxRecDepth 20000 in
theorem ggX5_compile_X5_goesOnWith : GoodIn wsX5_compile wsX5_goesOnWith := goodIn_r _ [124, 3, 125, 126, 7, 127, 128, 129, 130, 131, 11, 10, 132, 133, 134, 193, 194, 195, 196, 197, 198] (by decide +kernel) (by decide +kernel)
set_option maxRecDepth 20000 in
theorem gX5_compile_X5_goesOnWith : GoodIn wsX5_compile (wsV RX5 48 RX5 yX5_goesOnWith wsX5_goesOnWith) := goodIn_app (goodIn_of _ (by decide +kernel)) ggX5_compile_X5_goesOnWith
set_option maxRecDepth 20000 in
theorem ggX5_compile_X5_lacksRoomFor : GoodIn wsX5_compile wsX5_lacksRoomFor := goodIn_r _ [138, 3, 11, 139, 140, 141, 15, 142, 18, 193, 194, 195, 196, 197, 198, 204, 205, 206, 207, 208, 209, 210, 211] (by decide +kernel) (by decide +kernel)
set_option maxRecDepth 20000 in
theorem gX5_compile_X5_lacksRoomFor : GoodIn wsX5_compile (wsV RX5 52 RX5 yX5_lacksRoomFor wsX5_lacksRoomFor) := goodIn_app (goodIn_of _ (by decide +kernel)) ggX5_compile_X5_lacksRoomFor
set_option maxRecDepth 20000 in
theorem ggX5_compile_X5_take : GoodIn wsX5_compile wsX5_take := goodIn_r _ [146, 3, 10, 147, 148, 149, 15, 150, 18, 151, 152, 17, 153, 154, 155, 156, 7, 157, 11, 1, 158, 159, 160, 161, 162, 9, 163, 164, 165, 166, 167, 168, 169, 170, 171, 172, 173, 174, 175, 176, 177, 178, 179, 132, 133, 134, 180, 181, 182, 183, 184, 185, 186, 187, 188, 189, 190, 191, 192, 193, 194, 195, 196, 197, 198, 204, 205, 206, 207, 208, 209, 210, 211, 199, 200, 201, 202, 203] (by decide +kernel) (by decide +kernel)
set_option maxRecDepth 20000 in
theorem gX5_compile_X5_take : GoodIn wsX5_compile (wsV RX5 56 RX5 yX5_take wsX5_take) := goodIn_app (goodIn_of _ (by decide +kernel)) ggX5_compile_X5_take
theorem dX5_compile_0 : decode cX5_compile 0 = .ok (.aload_n 0, 1) := by decide +kernel
theorem dX5_compile_1 : decode cX5_compile 1 = .ok (.aload_n 1, 1) := by decide +kernel
theorem dX5_compile_2 : decode cX5_compile 2 = .ok (.invokevirtual 38, 3) := by decide +kernel
theorem dX5_compile_5 : decode cX5_compile 5 = .ok (.iconst 0, 1) := by decide +kernel
theorem dX5_compile_6 : decode cX5_compile 6 = .ok (.istore_n 2, 1) := by decide +kernel
theorem dX5_compile_7 : decode cX5_compile 7 = .ok (.iload_n 2, 1) := by decide +kernel
theorem dX5_compile_8 : decode cX5_compile 8 = .ok (.sipush 400, 3) := by decide +kernel
theorem dX5_compile_11 : decode cX5_compile 11 = .ok (.if_icmp .gt 89, 3) := by decide +kernel
theorem dX5_compile_14 : decode cX5_compile 14 = .ok (.aload_n 0, 1) := by decide +kernel
theorem dX5_compile_15 : decode cX5_compile 15 = .ok (.getfield 18, 3) := by decide +kernel
theorem dX5_compile_18 : decode cX5_compile 18 = .ok (.invokevirtual 42, 3) := by decide +kernel
theorem dX5_compile_21 : decode cX5_compile 21 = .ok (.aload_n 0, 1) := by decide +kernel
theorem dX5_compile_22 : decode cX5_compile 22 = .ok (.getfield 18, 3) := by decide +kernel
theorem dX5_compile_25 : decode cX5_compile 25 = .ok (.getfield 45, 3) := by decide +kernel
theorem dX5_compile_28 : decode cX5_compile 28 = .ok (.bipush 26, 2) := by decide +kernel
theorem dX5_compile_30 : decode cX5_compile 30 = .ok (.if_icmp .ne 12, 3) := by decide +kernel
theorem dX5_compile_33 : decode cX5_compile 33 = .ok (.aload_n 0, 1) := by decide +kernel
theorem dX5_compile_34 : decode cX5_compile 34 = .ok (.getfield 26, 3) := by decide +kernel
theorem dX5_compile_37 : decode cX5_compile 37 = .ok (.ifCond .ne 5, 3) := by decide +kernel
theorem dX5_compile_40 : decode cX5_compile 40 = .ok (.iconst 0, 1) := by decide +kernel
theorem dX5_compile_41 : decode cX5_compile 41 = .ok (.ireturn, 1) := by decide +kernel
theorem dX5_compile_42 : decode cX5_compile 42 = .ok (.aload_n 0, 1) := by decide +kernel
theorem dX5_compile_43 : decode cX5_compile 43 = .ok (.aload_n 0, 1) := by decide +kernel
theorem dX5_compile_44 : decode cX5_compile 44 = .ok (.getfield 18, 3) := by decide +kernel
theorem dX5_compile_47 : decode cX5_compile 47 = .ok (.getfield 45, 3) := by decide +kernel
theorem dX5_compile_50 : decode cX5_compile 50 = .ok (.invokevirtual 48, 3) := by decide +kernel
theorem dX5_compile_53 : decode cX5_compile 53 = .ok (.ifCond .ne 5, 3) := by decide +kernel
theorem dX5_compile_56 : decode cX5_compile 56 = .ok (.iconst 1, 1) := by decide +kernel
theorem dX5_compile_57 : decode cX5_compile 57 = .ok (.ireturn, 1) := by decide +kernel
theorem dX5_compile_58 : decode cX5_compile 58 = .ok (.iload_n 2, 1) := by decide +kernel
theorem dX5_compile_59 : decode cX5_compile 59 = .ok (.sipush 400, 3) := by decide +kernel
theorem dX5_compile_62 : decode cX5_compile 62 = .ok (.if_icmp .eq 18, 3) := by decide +kernel
theorem dX5_compile_65 : decode cX5_compile 65 = .ok (.aload_n 0, 1) := by decide +kernel
theorem dX5_compile_66 : decode cX5_compile 66 = .ok (.aload_n 1, 1) := by decide +kernel
theorem dX5_compile_67 : decode cX5_compile 67 = .ok (.aload_n 0, 1) := by decide +kernel
theorem dX5_compile_68 : decode cX5_compile 68 = .ok (.getfield 18, 3) := by decide +kernel
theorem dX5_compile_71 : decode cX5_compile 71 = .ok (.getfield 45, 3) := by decide +kernel
theorem dX5_compile_74 : decode cX5_compile 74 = .ok (.invokevirtual 52, 3) := by decide +kernel
theorem dX5_compile_77 : decode cX5_compile 77 = .ok (.ifCond .eq 5, 3) := by decide +kernel
theorem dX5_compile_80 : decode cX5_compile 80 = .ok (.iconst 2, 1) := by decide +kernel
theorem dX5_compile_81 : decode cX5_compile 81 = .ok (.ireturn, 1) := by decide +kernel
theorem dX5_compile_82 : decode cX5_compile 82 = .ok (.aload_n 0, 1) := by decide +kernel
theorem dX5_compile_83 : decode cX5_compile 83 = .ok (.aload_n 1, 1) := by decide +kernel
theorem dX5_compile_84 : decode cX5_compile 84 = .ok (.aload_n 0, 1) := by decide +kernel
theorem dX5_compile_85 : decode cX5_compile 85 = .ok (.getfield 18, 3) := by decide +kernel
theorem dX5_compile_88 : decode cX5_compile 88 = .ok (.getfield 45, 3) := by decide +kernel
theorem dX5_compile_91 : decode cX5_compile 91 = .ok (.invokevirtual 56, 3) := by decide +kernel
theorem dX5_compile_94 : decode cX5_compile 94 = .ok (.iinc 2 1, 3) := by decide +kernel
theorem dX5_compile_97 : decode cX5_compile 97 = .ok (.goto (-90), 3) := by decide +kernel
theorem dX5_compile_100 : decode cX5_compile 100 = .ok (.iconst 2, 1) := by decide +kernel
theorem dX5_compile_101 : decode cX5_compile 101 = .ok (.ireturn, 1) := by decide +kernel
set_option maxRecDepth 20000 in
theorem ggX5_start_X10_clear : GoodIn wsX5_start wsX10_clear := goodIn_r _ [10, 11, 12, 28, 29, 30, 31, 32, 33, 34, 35] (by decide +kernel) (by decide +kernel)
set_option maxRecDepth 20000 in
theorem gX5_start_X10_clear : GoodIn wsX5_start (wsV RX5 60 RX10 yX10_clear wsX10_clear) := goodIn_app (goodIn_of _ (by decide +kernel)) ggX5_start_X10_clear
set_option maxRecDepth 20000 in
theorem ggX5_start_X6_restart : GoodIn wsX5_start wsX6_restart := goodIn_r _ [17, 18, 19, 20, 21, 36, 37, 38, 39, 40] (by decide +kernel) (by decide +kernel)
set_option maxRecDepth 20000 in
theorem gX5_start_X6_restart : GoodIn wsX5_start (wsV RX5 65 RX6 yX6_restart wsX6_restart) := goodIn_app (goodIn_of _ (by decide +kernel)) ggX5_start_X6_restart
theorem dX5_start_0 : decode cX5_start 0 = .ok (.aload_n 1, 1) := by decide +kernel
theorem dX5_start_1 : decode cX5_start 1 = .ok (.invokevirtual 60, 3) := by decide +kernel
theorem dX5_start_4 : decode cX5_start 4 = .ok (.aload_n 0, 1) := by decide +kernel
theorem dX5_start_5 : decode cX5_start 5 = .ok (.getfield 18, 3) := by decide +kernel
theorem dX5_start_8 : decode cX5_start 8 = .ok (.invokevirtual 65, 3) := by decide +kernel
theorem dX5_start_11 : decode cX5_start 11 = .ok (.aload_n 0, 1) := by decide +kernel
theorem dX5_start_12 : decode cX5_start 12 = .ok (.iconst 0, 1) := by decide +kernel
theorem dX5_start_13 : decode cX5_start 13 = .ok (.putfield 22, 3) := by decide +kernel
theorem dX5_start_16 : decode cX5_start 16 = .ok (.aload_n 0, 1) := by decide +kernel
theorem dX5_start_17 : decode cX5_start 17 = .ok (.iconst 0, 1) := by decide +kernel
theorem dX5_start_18 : decode cX5_start 18 = .ok (.putfield 26, 3) := by decide +kernel
theorem dX5_start_21 : decode cX5_start 21 = .ok (.aload_n 0, 1) := by decide +kernel
theorem dX5_start_22 : decode cX5_start 22 = .ok (.iconst 0, 1) := by decide +kernel
theorem dX5_start_23 : decode cX5_start 23 = .ok (.putfield 29, 3) := by decide +kernel
theorem dX5_start_26 : decode cX5_start 26 = .ok (.aload_n 0, 1) := by decide +kernel
theorem dX5_start_27 : decode cX5_start 27 = .ok (.iconst 0, 1) := by decide +kernel
theorem dX5_start_28 : decode cX5_start 28 = .ok (.putfield 32, 3) := by decide +kernel
theorem dX5_start_31 : decode cX5_start 31 = .ok (.return_, 1) := by decide +kernel
set_option maxRecDepth 20000 in
theorem ggX5_goesOnWith_X5_isVar : GoodIn wsX5_goesOnWith wsX5_isVar := goodIn_r _ [5] (by decide +kernel) (by decide +kernel)
set_option maxRecDepth 20000 in
theorem gX5_goesOnWith_X5_isVar : GoodIn wsX5_goesOnWith (va_wsS RX5 68 yX5_isVar wsX5_isVar) := goodIn_app (goodIn_of _ (by decide +kernel)) ggX5_goesOnWith_X5_isVar
set_option maxRecDepth 20000 in
theorem ggX5_goesOnWith_X5_goesOnBehindUnit : GoodIn wsX5_goesOnWith wsX5_goesOnBehindUnit := goodIn_r _ [9, 10, 11, 12, 13, 4, 14, 15, 16, 17, 18, 19, 20] (by decide +kernel) (by decide +kernel)
set_option maxRecDepth 20000 in
theorem gX5_goesOnWith_X5_goesOnBehindUnit : GoodIn wsX5_goesOnWith (wsV RX5 71 RX5 yX5_goesOnBehindUnit wsX5_goesOnBehindUnit) := goodIn_app (goodIn_of _ (by decide +kernel)) ggX5_goesOnWith_X5_goesOnBehindUnit
theorem dX5_goesOnWith_0 : decode cX5_goesOnWith 0 = .ok (.aload_n 0, 1) := by decide +kernel
theorem dX5_goesOnWith_1 : decode cX5_goesOnWith 1 = .ok (.getfield 26, 3) := by decide +kernel
theorem dX5_goesOnWith_4 : decode cX5_goesOnWith 4 = .ok (.tableswitch 84 0 2 #[28, 48, 59], 28) := by decide +kernel
theorem dX5_goesOnWith_32 : decode cX5_goesOnWith 32 = .ok (.iload_n 1, 1) := by decide +kernel
theorem dX5_goesOnWith_33 : decode cX5_goesOnWith 33 = .ok (.ifCond .eq 13, 3) := by decide +kernel
theorem dX5_goesOnWith_36 : decode cX5_goesOnWith 36 = .ok (.iload_n 1, 1) := by decide +kernel
theorem dX5_goesOnWith_37 : decode cX5_goesOnWith 37 = .ok (.iconst 1, 1) := by decide +kernel
theorem dX5_goesOnWith_38 : decode cX5_goesOnWith 38 = .ok (.if_icmp .eq 8, 3) := by decide +kernel
theorem dX5_goesOnWith_41 : decode cX5_goesOnWith 41 = .ok (.iload_n 1, 1) := by decide +kernel
theorem dX5_goesOnWith_42 : decode cX5_goesOnWith 42 = .ok (.iconst 2, 1) := by decide +kernel
theorem dX5_goesOnWith_43 : decode cX5_goesOnWith 43 = .ok (.if_icmp .ne 7, 3) := by decide +kernel
