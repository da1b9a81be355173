theorem dX0_init_0 : decode cX0_init 0 = .ok (.aload_n 0, 1) := by decide +kernel
theorem dX0_init_1 : decode cX0_init 1 = .ok (.invokespecial 3, 3) := by decide +kernel
theorem dX0_init_4 : decode cX0_init 4 = .ok (.aload_n 0, 1) := by decide +kernel
theorem dX0_init_5 : decode cX0_init 5 = .ok (.bipush 6, 2) := by decide +kernel
theorem dX0_init_7 : decode cX0_init 7 = .ok (.anewarray 9, 3) := by decide +kernel
theorem dX0_init_10 : decode cX0_init 10 = .ok (.putfield 11, 3) := by decide +kernel
theorem dX0_init_13 : decode cX0_init 13 = .ok (.aload_n 0, 1) := by decide +kernel
theorem dX0_init_14 : decode cX0_init 14 = .ok (.iload_n 1, 1) := by decide +kernel
theorem dX0_init_15 : decode cX0_init 15 = .ok (.putfield 17, 3) := by decide +kernel
theorem dX0_init_18 : decode cX0_init 18 = .ok (.aload_n 0, 1) := by decide +kernel
theorem dX0_init_19 : decode cX0_init 19 = .ok (.iload_n 2, 1) := by decide +kernel
theorem dX0_init_20 : decode cX0_init 20 = .ok (.putfield 21, 3) := by decide +kernel
theorem dX0_init_23 : decode cX0_init 23 = .ok (.aload_n 0, 1) := by decide +kernel
theorem dX0_init_24 : decode cX0_init 24 = .ok (.iload_n 3, 1) := by decide +kernel
theorem dX0_init_25 : decode cX0_init 25 = .ok (.putfield 24, 3) := by decide +kernel
theorem dX0_init_28 : decode cX0_init 28 = .ok (.aload_n 0, 1) := by decide +kernel
theorem dX0_init_29 : decode cX0_init 29 = .ok (.iload 4, 2) := by decide +kernel
theorem dX0_init_31 : decode cX0_init 31 = .ok (.putfield 27, 3) := by decide +kernel
theorem dX0_init_34 : decode cX0_init 34 = .ok (.aload_n 0, 1) := by decide +kernel
theorem dX0_init_35 : decode cX0_init 35 = .ok (.iload 5, 2) := by decide +kernel
theorem dX0_init_37 : decode cX0_init 37 = .ok (.putfield 30, 3) := by decide +kernel
theorem dX0_init_40 : decode cX0_init 40 = .ok (.aload_n 0, 1) := by decide +kernel
theorem dX0_init_41 : decode cX0_init 41 = .ok (.iload 6, 2) := by decide +kernel
theorem dX0_init_43 : decode cX0_init 43 = .ok (.putfield 33, 3) := by decide +kernel
theorem dX0_init_46 : decode cX0_init 46 = .ok (.aload_n 0, 1) := by decide +kernel
theorem dX0_init_47 : decode cX0_init 47 = .ok (.iconst 0, 1) := by decide +kernel
theorem dX0_init_48 : decode cX0_init 48 = .ok (.putfield 36, 3) := by decide +kernel
theorem dX0_init_51 : decode cX0_init 51 = .ok (.return_, 1) := by decide +kernel
theorem dX0_add_0 : decode cX0_add 0 = .ok (.aload_n 0, 1) := by decide +kernel
theorem dX0_add_1 : decode cX0_add 1 = .ok (.getfield 36, 3) := by decide +kernel
theorem dX0_add_4 : decode cX0_add 4 = .ok (.bipush 6, 2) := by decide +kernel
theorem dX0_add_6 : decode cX0_add 6 = .ok (.if_icmp .lt 5, 3) := by decide +kernel
theorem dX0_add_9 : decode cX0_add 9 = .ok (.iconst (-1), 1) := by decide +kernel
theorem dX0_add_10 : decode cX0_add 10 = .ok (.ireturn, 1) := by decide +kernel
theorem dX0_add_11 : decode cX0_add 11 = .ok (.aload_n 0, 1) := by decide +kernel
theorem dX0_add_12 : decode cX0_add 12 = .ok (.getfield 11, 3) := by decide +kernel
theorem dX0_add_15 : decode cX0_add 15 = .ok (.aload_n 0, 1) := by decide +kernel
theorem dX0_add_16 : decode cX0_add 16 = .ok (.getfield 36, 3) := by decide +kernel
theorem dX0_add_19 : decode cX0_add 19 = .ok (.aload_n 1, 1) := by decide +kernel
theorem dX0_add_20 : decode cX0_add 20 = .ok (.aastore, 1) := by decide +kernel
theorem dX0_add_21 : decode cX0_add 21 = .ok (.aload_n 0, 1) := by decide +kernel
theorem dX0_add_22 : decode cX0_add 22 = .ok (.dup, 1) := by decide +kernel
theorem dX0_add_23 : decode cX0_add 23 = .ok (.getfield 36, 3) := by decide +kernel
theorem dX0_add_26 : decode cX0_add 26 = .ok (.iconst 1, 1) := by decide +kernel
theorem dX0_add_27 : decode cX0_add 27 = .ok (.iadd, 1) := by decide +kernel
theorem dX0_add_28 : decode cX0_add 28 = .ok (.putfield 36, 3) := by decide +kernel
theorem dX0_add_31 : decode cX0_add 31 = .ok (.aload_n 0, 1) := by decide +kernel
theorem dX0_add_32 : decode cX0_add 32 = .ok (.getfield 36, 3) := by decide +kernel
theorem dX0_add_35 : decode cX0_add 35 = .ok (.iconst 1, 1) := by decide +kernel
theorem dX0_add_36 : decode cX0_add 36 = .ok (.isub, 1) := by decide +kernel
theorem dX0_add_37 : decode cX0_add 37 = .ok (.ireturn, 1) := by decide +kernel
theorem dX0_figureAt_0 : decode cX0_figureAt 0 = .ok (.iload_n 1, 1) := by decide +kernel
theorem dX0_figureAt_1 : decode cX0_figureAt 1 = .ok (.ifCond .lt 26, 3) := by decide +kernel
theorem dX0_figureAt_4 : decode cX0_figureAt 4 = .ok (.iload_n 1, 1) := by decide +kernel
theorem dX0_figureAt_5 : decode cX0_figureAt 5 = .ok (.aload_n 0, 1) := by decide +kernel
theorem dX0_figureAt_6 : decode cX0_figureAt 6 = .ok (.getfield 36, 3) := by decide +kernel
theorem dX0_figureAt_9 : decode cX0_figureAt 9 = .ok (.if_icmp .ge 18, 3) := by decide +kernel
theorem dX0_figureAt_12 : decode cX0_figureAt 12 = .ok (.iload_n 1, 1) := by decide +kernel
theorem dX0_figureAt_13 : decode cX0_figureAt 13 = .ok (.bipush 6, 2) := by decide +kernel
theorem dX0_figureAt_15 : decode cX0_figureAt 15 = .ok (.if_icmp .ge 12, 3) := by decide +kernel
theorem dX0_figureAt_18 : decode cX0_figureAt 18 = .ok (.aload_n 0, 1) := by decide +kernel
theorem dX0_figureAt_19 : decode cX0_figureAt 19 = .ok (.getfield 11, 3) := by decide +kernel
theorem dX0_figureAt_22 : decode cX0_figureAt 22 = .ok (.iload_n 1, 1) := by decide +kernel
theorem dX0_figureAt_23 : decode cX0_figureAt 23 = .ok (.aaload, 1) := by decide +kernel
theorem dX0_figureAt_24 : decode cX0_figureAt 24 = .ok (.goto 4, 3) := by decide +kernel
theorem dX0_figureAt_27 : decode cX0_figureAt 27 = .ok (.aconst_null, 1) := by decide +kernel
theorem dX0_figureAt_28 : decode cX0_figureAt 28 = .ok (.areturn, 1) := by decide +kernel
theorem dX1_init_0 : decode cX1_init 0 = .ok (.aload_n 0, 1) := by decide +kernel
theorem dX1_init_1 : decode cX1_init 1 = .ok (.invokespecial 3, 3) := by decide +kernel
theorem dX1_init_4 : decode cX1_init 4 = .ok (.aload_n 0, 1) := by decide +kernel
theorem dX1_init_5 : decode cX1_init 5 = .ok (.bipush 100, 2) := by decide +kernel
theorem dX1_init_7 : decode cX1_init 7 = .ok (.newarray .int, 2) := by decide +kernel
theorem dX1_init_9 : decode cX1_init 9 = .ok (.putfield 11, 3) := by decide +kernel
theorem dX1_init_12 : decode cX1_init 12 = .ok (.aload_n 0, 1) := by decide +kernel
theorem dX1_init_13 : decode cX1_init 13 = .ok (.bipush 100, 2) := by decide +kernel
theorem dX1_init_15 : decode cX1_init 15 = .ok (.newarray .int, 2) := by decide +kernel
theorem dX1_init_17 : decode cX1_init 17 = .ok (.putfield 15, 3) := by decide +kernel
theorem dX1_init_20 : decode cX1_init 20 = .ok (.aload_n 0, 1) := by decide +kernel
theorem dX1_init_21 : decode cX1_init 21 = .ok (.bipush 100, 2) := by decide +kernel
theorem dX1_init_23 : decode cX1_init 23 = .ok (.newarray .int, 2) := by decide +kernel
theorem dX1_init_25 : decode cX1_init 25 = .ok (.putfield 18, 3) := by decide +kernel
theorem dX1_init_28 : decode cX1_init 28 = .ok (.aload_n 0, 1) := by decide +kernel
theorem dX1_init_29 : decode cX1_init 29 = .ok (.iconst 0, 1) := by decide +kernel
theorem dX1_init_30 : decode cX1_init 30 = .ok (.putfield 21, 3) := by decide +kernel
theorem dX1_init_33 : decode cX1_init 33 = .ok (.return_, 1) := by decide +kernel
theorem dX1_add_0 : decode cX1_add 0 = .ok (.aload_n 0, 1) := by decide +kernel
theorem dX1_add_1 : decode cX1_add 1 = .ok (.getfield 21, 3) := by decide +kernel
theorem dX1_add_4 : decode cX1_add 4 = .ok (.bipush 100, 2) := by decide +kernel
theorem dX1_add_6 : decode cX1_add 6 = .ok (.if_icmp .lt 5, 3) := by decide +kernel
theorem dX1_add_9 : decode cX1_add 9 = .ok (.iconst (-1), 1) := by decide +kernel
theorem dX1_add_10 : decode cX1_add 10 = .ok (.ireturn, 1) := by decide +kernel
theorem dX1_add_11 : decode cX1_add 11 = .ok (.aload_n 0, 1) := by decide +kernel
theorem dX1_add_12 : decode cX1_add 12 = .ok (.getfield 11, 3) := by decide +kernel
theorem dX1_add_15 : decode cX1_add 15 = .ok (.aload_n 0, 1) := by decide +kernel
theorem dX1_add_16 : decode cX1_add 16 = .ok (.getfield 21, 3) := by decide +kernel
theorem dX1_add_19 : decode cX1_add 19 = .ok (.iload_n 1, 1) := by decide +kernel
theorem dX1_add_20 : decode cX1_add 20 = .ok (.iastore, 1) := by decide +kernel
theorem dX1_add_21 : decode cX1_add 21 = .ok (.aload_n 0, 1) := by decide +kernel
theorem dX1_add_22 : decode cX1_add 22 = .ok (.getfield 15, 3) := by decide +kernel
theorem dX1_add_25 : decode cX1_add 25 = .ok (.aload_n 0, 1) := by decide +kernel
theorem dX1_add_26 : decode cX1_add 26 = .ok (.getfield 21, 3) := by decide +kernel
theorem dX1_add_29 : decode cX1_add 29 = .ok (.iload_n 2, 1) := by decide +kernel
theorem dX1_add_30 : decode cX1_add 30 = .ok (.iastore, 1) := by decide +kernel
theorem dX1_add_31 : decode cX1_add 31 = .ok (.aload_n 0, 1) := by decide +kernel
theorem dX1_add_32 : decode cX1_add 32 = .ok (.getfield 18, 3) := by decide +kernel
theorem dX1_add_35 : decode cX1_add 35 = .ok (.aload_n 0, 1) := by decide +kernel
theorem dX1_add_36 : decode cX1_add 36 = .ok (.getfield 21, 3) := by decide +kernel
theorem dX1_add_39 : decode cX1_add 39 = .ok (.iload_n 3, 1) := by decide +kernel
theorem dX1_add_40 : decode cX1_add 40 = .ok (.iastore, 1) := by decide +kernel
theorem dX1_add_41 : decode cX1_add 41 = .ok (.aload_n 0, 1) := by decide +kernel
theorem dX1_add_42 : decode cX1_add 42 = .ok (.dup, 1) := by decide +kernel
theorem dX1_add_43 : decode cX1_add 43 = .ok (.getfield 21, 3) := by decide +kernel
theorem dX1_add_46 : decode cX1_add 46 = .ok (.iconst 1, 1) := by decide +kernel
theorem dX1_add_47 : decode cX1_add 47 = .ok (.iadd, 1) := by decide +kernel
theorem dX1_add_48 : decode cX1_add 48 = .ok (.putfield 21, 3) := by decide +kernel
theorem dX1_add_51 : decode cX1_add 51 = .ok (.aload_n 0, 1) := by decide +kernel
theorem dX1_add_52 : decode cX1_add 52 = .ok (.getfield 21, 3) := by decide +kernel
theorem dX1_add_55 : decode cX1_add 55 = .ok (.iconst 1, 1) := by decide +kernel
theorem dX1_add_56 : decode cX1_add 56 = .ok (.isub, 1) := by decide +kernel
theorem dX1_add_57 : decode cX1_add 57 = .ok (.ireturn, 1) := by decide +kernel
theorem dX1_has_0 : decode cX1_has 0 = .ok (.iload_n 1, 1) := by decide +kernel
theorem dX1_has_1 : decode cX1_has 1 = .ok (.ifCond .lt 15, 3) := by decide +kernel
theorem dX1_has_4 : decode cX1_has 4 = .ok (.iload_n 1, 1) := by decide +kernel
theorem dX1_has_5 : decode cX1_has 5 = .ok (.aload_n 0, 1) := by decide +kernel
theorem dX1_has_6 : decode cX1_has 6 = .ok (.getfield 21, 3) := by decide +kernel
theorem dX1_has_9 : decode cX1_has 9 = .ok (.if_icmp .gt 7, 3) := by decide +kernel
theorem dX1_has_12 : decode cX1_has 12 = .ok (.iconst 1, 1) := by decide +kernel
theorem dX1_has_13 : decode cX1_has 13 = .ok (.goto 4, 3) := by decide +kernel
theorem dX1_has_16 : decode cX1_has 16 = .ok (.iconst 0, 1) := by decide +kernel
theorem dX1_has_17 : decode cX1_has 17 = .ok (.ireturn, 1) := by decide +kernel
theorem dX2_init_0 : decode cX2_init 0 = .ok (.aload_n 0, 1) := by decide +kernel
theorem dX2_init_1 : decode cX2_init 1 = .ok (.invokespecial 1, 3) := by decide +kernel
theorem dX2_init_4 : decode cX2_init 4 = .ok (.aload_n 0, 1) := by decide +kernel
theorem dX2_init_5 : decode cX2_init 5 = .ok (.iload_n 1, 1) := by decide +kernel
theorem dX2_init_6 : decode cX2_init 6 = .ok (.putfield 7, 3) := by decide +kernel
theorem dX2_init_9 : decode cX2_init 9 = .ok (.aload_n 0, 1) := by decide +kernel
theorem dX2_init_10 : decode cX2_init 10 = .ok (.iload_n 2, 1) := by decide +kernel
theorem dX2_init_11 : decode cX2_init 11 = .ok (.putfield 13, 3) := by decide +kernel
theorem dX2_init_14 : decode cX2_init 14 = .ok (.aload_n 0, 1) := by decide +kernel
theorem dX2_init_15 : decode cX2_init 15 = .ok (.iload_n 3, 1) := by decide +kernel
theorem dX2_init_16 : decode cX2_init 16 = .ok (.putfield 16, 3) := by decide +kernel
theorem dX2_init_19 : decode cX2_init 19 = .ok (.aload_n 0, 1) := by decide +kernel
theorem dX2_init_20 : decode cX2_init 20 = .ok (.iload 4, 2) := by decide +kernel
theorem dX2_init_22 : decode cX2_init 22 = .ok (.putfield 19, 3) := by decide +kernel
theorem dX2_init_25 : decode cX2_init 25 = .ok (.return_, 1) := by decide +kernel
theorem dX3_init_0 : decode cX3_init 0 = .ok (.aload_n 0, 1) := by decide +kernel
theorem dX3_init_1 : decode cX3_init 1 = .ok (.invokespecial 3, 3) := by decide +kernel
theorem dX3_init_4 : decode cX3_init 4 = .ok (.aload_n 0, 1) := by decide +kernel
theorem dX3_init_5 : decode cX3_init 5 = .ok (.bipush 6, 2) := by decide +kernel
theorem dX3_init_7 : decode cX3_init 7 = .ok (.newarray .int, 2) := by decide +kernel
theorem dX3_init_9 : decode cX3_init 9 = .ok (.putfield 9, 3) := by decide +kernel
theorem dX3_init_12 : decode cX3_init 12 = .ok (.aload_n 0, 1) := by decide +kernel
theorem dX3_init_13 : decode cX3_init 13 = .ok (.bipush 6, 2) := by decide +kernel
theorem dX3_init_15 : decode cX3_init 15 = .ok (.newarray .int, 2) := by decide +kernel
theorem dX3_init_17 : decode cX3_init 17 = .ok (.putfield 15, 3) := by decide +kernel
theorem dX3_init_20 : decode cX3_init 20 = .ok (.aload_n 0, 1) := by decide +kernel
theorem dX3_init_21 : decode cX3_init 21 = .ok (.bipush 6, 2) := by decide +kernel
theorem dX3_init_23 : decode cX3_init 23 = .ok (.newarray .int, 2) := by decide +kernel
theorem dX3_init_25 : decode cX3_init 25 = .ok (.putfield 18, 3) := by decide +kernel
theorem dX3_init_28 : decode cX3_init 28 = .ok (.aload_n 0, 1) := by decide +kernel
theorem dX3_init_29 : decode cX3_init 29 = .ok (.bipush 6, 2) := by decide +kernel
theorem dX3_init_31 : decode cX3_init 31 = .ok (.newarray .int, 2) := by decide +kernel
theorem dX3_init_33 : decode cX3_init 33 = .ok (.putfield 21, 3) := by decide +kernel
theorem dX3_init_36 : decode cX3_init 36 = .ok (.aload_n 0, 1) := by decide +kernel
theorem dX3_init_37 : decode cX3_init 37 = .ok (.bipush 6, 2) := by decide +kernel
theorem dX3_init_39 : decode cX3_init 39 = .ok (.newarray .int, 2) := by decide +kernel
theorem dX3_init_41 : decode cX3_init 41 = .ok (.putfield 24, 3) := by decide +kernel
theorem dX3_init_44 : decode cX3_init 44 = .ok (.aload_n 0, 1) := by decide +kernel
theorem dX3_init_45 : decode cX3_init 45 = .ok (.invokevirtual 27, 3) := by decide +kernel
theorem dX3_init_48 : decode cX3_init 48 = .ok (.return_, 1) := by decide +kernel
theorem dX3_clear_0 : decode cX3_clear 0 = .ok (.aload_n 0, 1) := by decide +kernel
theorem dX3_clear_1 : decode cX3_clear 1 = .ok (.getfield 9, 3) := by decide +kernel
theorem dX3_clear_4 : decode cX3_clear 4 = .ok (.iconst (-1), 1) := by decide +kernel
theorem dX3_clear_5 : decode cX3_clear 5 = .ok (.invokestatic 30, 3) := by decide +kernel
theorem dX3_clear_8 : decode cX3_clear 8 = .ok (.aload_n 0, 1) := by decide +kernel
theorem dX3_clear_9 : decode cX3_clear 9 = .ok (.getfield 15, 3) := by decide +kernel
theorem dX3_clear_12 : decode cX3_clear 12 = .ok (.iconst (-1), 1) := by decide +kernel
theorem dX3_clear_13 : decode cX3_clear 13 = .ok (.invokestatic 30, 3) := by decide +kernel
theorem dX3_clear_16 : decode cX3_clear 16 = .ok (.aload_n 0, 1) := by decide +kernel
theorem dX3_clear_17 : decode cX3_clear 17 = .ok (.getfield 18, 3) := by decide +kernel
theorem dX3_clear_20 : decode cX3_clear 20 = .ok (.iconst (-1), 1) := by decide +kernel
theorem dX3_clear_21 : decode cX3_clear 21 = .ok (.invokestatic 30, 3) := by decide +kernel
theorem dX3_clear_24 : decode cX3_clear 24 = .ok (.aload_n 0, 1) := by decide +kernel
theorem dX3_clear_25 : decode cX3_clear 25 = .ok (.getfield 21, 3) := by decide +kernel
theorem dX3_clear_28 : decode cX3_clear 28 = .ok (.iconst (-1), 1) := by decide +kernel
theorem dX3_clear_29 : decode cX3_clear 29 = .ok (.invokestatic 30, 3) := by decide +kernel
theorem dX3_clear_32 : decode cX3_clear 32 = .ok (.aload_n 0, 1) := by decide +kernel
theorem dX3_clear_33 : decode cX3_clear 33 = .ok (.getfield 24, 3) := by decide +kernel
theorem dX3_clear_36 : decode cX3_clear 36 = .ok (.iconst (-1), 1) := by decide +kernel
theorem dX3_clear_37 : decode cX3_clear 37 = .ok (.invokestatic 30, 3) := by decide +kernel
theorem dX3_clear_40 : decode cX3_clear 40 = .ok (.aload_n 0, 1) := by decide +kernel
theorem dX3_clear_41 : decode cX3_clear 41 = .ok (.iconst 0, 1) := by decide +kernel
theorem dX3_clear_42 : decode cX3_clear 42 = .ok (.putfield 36, 3) := by decide +kernel
theorem dX3_clear_45 : decode cX3_clear 45 = .ok (.aload_n 0, 1) := by decide +kernel
theorem dX3_clear_46 : decode cX3_clear 46 = .ok (.iconst 0, 1) := by decide +kernel
theorem dX3_clear_47 : decode cX3_clear 47 = .ok (.putfield 40, 3) := by decide +kernel
theorem dX3_clear_50 : decode cX3_clear 50 = .ok (.return_, 1) := by decide +kernel
theorem dX3_has_0 : decode cX3_has 0 = .ok (.iload_n 1, 1) := by decide +kernel
theorem dX3_has_1 : decode cX3_has 1 = .ok (.ifCond .lt 23, 3) := by decide +kernel
theorem dX3_has_4 : decode cX3_has 4 = .ok (.iload_n 1, 1) := by decide +kernel
theorem dX3_has_5 : decode cX3_has 5 = .ok (.bipush 6, 2) := by decide +kernel
theorem dX3_has_7 : decode cX3_has 7 = .ok (.if_icmp .ge 17, 3) := by decide +kernel
theorem dX3_has_10 : decode cX3_has 10 = .ok (.aload_n 0, 1) := by decide +kernel
theorem dX3_has_11 : decode cX3_has 11 = .ok (.getfield 18, 3) := by decide +kernel
theorem dX3_has_14 : decode cX3_has 14 = .ok (.iload_n 1, 1) := by decide +kernel
theorem dX3_has_15 : decode cX3_has 15 = .ok (.iaload, 1) := by decide +kernel
theorem dX3_has_16 : decode cX3_has 16 = .ok (.iconst (-1), 1) := by decide +kernel
theorem dX3_has_17 : decode cX3_has 17 = .ok (.if_icmp .eq 7, 3) := by decide +kernel
theorem dX3_has_20 : decode cX3_has 20 = .ok (.iconst 1, 1) := by decide +kernel
theorem dX3_has_21 : decode cX3_has 21 = .ok (.goto 4, 3) := by decide +kernel
theorem dX3_has_24 : decode cX3_has 24 = .ok (.iconst 0, 1) := by decide +kernel
theorem dX3_has_25 : decode cX3_has 25 = .ok (.ireturn, 1) := by decide +kernel
theorem dX3_lastAct_0 : decode cX3_lastAct 0 = .ok (.aload_n 0, 1) := by decide +kernel
theorem dX3_lastAct_1 : decode cX3_lastAct 1 = .ok (.getfield 36, 3) := by decide +kernel
theorem dX3_lastAct_4 : decode cX3_lastAct 4 = .ok (.ifCond .le 26, 3) := by decide +kernel
theorem dX3_lastAct_7 : decode cX3_lastAct 7 = .ok (.aload_n 0, 1) := by decide +kernel
theorem dX3_lastAct_8 : decode cX3_lastAct 8 = .ok (.getfield 36, 3) := by decide +kernel
theorem dX3_lastAct_11 : decode cX3_lastAct 11 = .ok (.bipush 6, 2) := by decide +kernel
theorem dX3_lastAct_13 : decode cX3_lastAct 13 = .ok (.if_icmp .gt 17, 3) := by decide +kernel
theorem dX3_lastAct_16 : decode cX3_lastAct 16 = .ok (.aload_n 0, 1) := by decide +kernel
theorem dX3_lastAct_17 : decode cX3_lastAct 17 = .ok (.getfield 9, 3) := by decide +kernel
theorem dX3_lastAct_20 : decode cX3_lastAct 20 = .ok (.aload_n 0, 1) := by decide +kernel
theorem dX3_lastAct_21 : decode cX3_lastAct 21 = .ok (.getfield 36, 3) := by decide +kernel
theorem dX3_lastAct_24 : decode cX3_lastAct 24 = .ok (.iconst 1, 1) := by decide +kernel
theorem dX3_lastAct_25 : decode cX3_lastAct 25 = .ok (.isub, 1) := by decide +kernel
theorem dX3_lastAct_26 : decode cX3_lastAct 26 = .ok (.iaload, 1) := by decide +kernel
theorem dX3_lastAct_27 : decode cX3_lastAct 27 = .ok (.goto 4, 3) := by decide +kernel
theorem dX3_lastAct_30 : decode cX3_lastAct 30 = .ok (.iconst (-1), 1) := by decide +kernel
theorem dX3_lastAct_31 : decode cX3_lastAct 31 = .ok (.ireturn, 1) := by decide +kernel
theorem dX3_end_0 : decode cX3_end 0 = .ok (.aload_n 0, 1) := by decide +kernel
theorem dX3_end_1 : decode cX3_end 1 = .ok (.invokevirtual 43, 3) := by decide +kernel
theorem dX3_end_4 : decode cX3_end 4 = .ok (.istore_n 1, 1) := by decide +kernel
theorem dX3_end_5 : decode cX3_end 5 = .ok (.aload_n 0, 1) := by decide +kernel
theorem dX3_end_6 : decode cX3_end 6 = .ok (.iload_n 1, 1) := by decide +kernel
theorem dX3_end_7 : decode cX3_end 7 = .ok (.invokevirtual 47, 3) := by decide +kernel
theorem dX3_end_10 : decode cX3_end 10 = .ok (.ifCond .eq 19, 3) := by decide +kernel
theorem dX3_end_13 : decode cX3_end 13 = .ok (.aload_n 0, 1) := by decide +kernel
theorem dX3_end_14 : decode cX3_end 14 = .ok (.getfield 18, 3) := by decide +kernel
theorem dX3_end_17 : decode cX3_end 17 = .ok (.iload_n 1, 1) := by decide +kernel
theorem dX3_end_18 : decode cX3_end 18 = .ok (.iaload, 1) := by decide +kernel
theorem dX3_end_19 : decode cX3_end 19 = .ok (.aload_n 0, 1) := by decide +kernel
theorem dX3_end_20 : decode cX3_end 20 = .ok (.getfield 21, 3) := by decide +kernel
theorem dX3_end_23 : decode cX3_end 23 = .ok (.iload_n 1, 1) := by decide +kernel
theorem dX3_end_24 : decode cX3_end 24 = .ok (.iaload, 1) := by decide +kernel
theorem dX3_end_25 : decode cX3_end 25 = .ok (.iadd, 1) := by decide +kernel
theorem dX3_end_26 : decode cX3_end 26 = .ok (.goto 4, 3) := by decide +kernel
theorem dX3_end_29 : decode cX3_end 29 = .ok (.iconst 0, 1) := by decide +kernel
theorem dX3_end_30 : decode cX3_end 30 = .ok (.ireturn, 1) := by decide +kernel
theorem dX3_lastLanding_0 : decode cX3_lastLanding 0 = .ok (.iconst (-1), 1) := by decide +kernel
theorem dX3_lastLanding_1 : decode cX3_lastLanding 1 = .ok (.istore_n 1, 1) := by decide +kernel
theorem dX3_lastLanding_2 : decode cX3_lastLanding 2 = .ok (.iconst 0, 1) := by decide +kernel
theorem dX3_lastLanding_3 : decode cX3_lastLanding 3 = .ok (.istore_n 2, 1) := by decide +kernel
theorem dX3_lastLanding_4 : decode cX3_lastLanding 4 = .ok (.iload_n 2, 1) := by decide +kernel
theorem dX3_lastLanding_5 : decode cX3_lastLanding 5 = .ok (.bipush 6, 2) := by decide +kernel
theorem dX3_lastLanding_7 : decode cX3_lastLanding 7 = .ok (.if_icmp .ge 20, 3) := by decide +kernel
theorem dX3_lastLanding_10 : decode cX3_lastLanding 10 = .ok (.iload_n 1, 1) := by decide +kernel
theorem dX3_lastLanding_11 : decode cX3_lastLanding 11 = .ok (.aload_n 0, 1) := by decide +kernel
theorem dX3_lastLanding_12 : decode cX3_lastLanding 12 = .ok (.getfield 24, 3) := by decide +kernel
theorem dX3_lastLanding_15 : decode cX3_lastLanding 15 = .ok (.iload_n 2, 1) := by decide +kernel
theorem dX3_lastLanding_16 : decode cX3_lastLanding 16 = .ok (.iaload, 1) := by decide +kernel
theorem dX3_lastLanding_17 : decode cX3_lastLanding 17 = .ok (.invokestatic 51, 3) := by decide +kernel
theorem dX3_lastLanding_20 : decode cX3_lastLanding 20 = .ok (.istore_n 1, 1) := by decide +kernel
theorem dX3_lastLanding_21 : decode cX3_lastLanding 21 = .ok (.iinc 2 1, 3) := by decide +kernel
theorem dX3_lastLanding_24 : decode cX3_lastLanding 24 = .ok (.goto (-20), 3) := by decide +kernel
theorem dX3_lastLanding_27 : decode cX3_lastLanding 27 = .ok (.iload_n 1, 1) := by decide +kernel
theorem dX3_lastLanding_28 : decode cX3_lastLanding 28 = .ok (.ireturn, 1) := by decide +kernel
theorem dX3_add_0 : decode cX3_add 0 = .ok (.aload_n 0, 1) := by decide +kernel
theorem dX3_add_1 : decode cX3_add 1 = .ok (.getfield 36, 3) := by decide +kernel
theorem dX3_add_4 : decode cX3_add 4 = .ok (.bipush 6, 2) := by decide +kernel
theorem dX3_add_6 : decode cX3_add 6 = .ok (.if_icmp .ge 74, 3) := by decide +kernel
theorem dX3_add_9 : decode cX3_add 9 = .ok (.iload_n 1, 1) := by decide +kernel
theorem dX3_add_10 : decode cX3_add 10 = .ok (.ifCond .lt 70, 3) := by decide +kernel
theorem dX3_add_13 : decode cX3_add 13 = .ok (.iload_n 1, 1) := by decide +kernel
theorem dX3_add_14 : decode cX3_add 14 = .ok (.bipush 6, 2) := by decide +kernel
theorem dX3_add_16 : decode cX3_add 16 = .ok (.if_icmp .ge 64, 3) := by decide +kernel
theorem dX3_add_19 : decode cX3_add 19 = .ok (.aload_n 0, 1) := by decide +kernel
theorem dX3_add_20 : decode cX3_add 20 = .ok (.getfield 9, 3) := by decide +kernel
theorem dX3_add_23 : decode cX3_add 23 = .ok (.aload_n 0, 1) := by decide +kernel
theorem dX3_add_24 : decode cX3_add 24 = .ok (.getfield 36, 3) := by decide +kernel
theorem dX3_add_27 : decode cX3_add 27 = .ok (.iload_n 1, 1) := by decide +kernel
theorem dX3_add_28 : decode cX3_add 28 = .ok (.iastore, 1) := by decide +kernel
theorem dX3_add_29 : decode cX3_add 29 = .ok (.aload_n 0, 1) := by decide +kernel
theorem dX3_add_30 : decode cX3_add 30 = .ok (.getfield 15, 3) := by decide +kernel
theorem dX3_add_33 : decode cX3_add 33 = .ok (.iload_n 1, 1) := by decide +kernel
theorem dX3_add_34 : decode cX3_add 34 = .ok (.iload_n 3, 1) := by decide +kernel
theorem dX3_add_35 : decode cX3_add 35 = .ok (.iastore, 1) := by decide +kernel
theorem dX3_add_36 : decode cX3_add 36 = .ok (.aload_n 0, 1) := by decide +kernel
theorem dX3_add_37 : decode cX3_add 37 = .ok (.getfield 18, 3) := by decide +kernel
theorem dX3_add_40 : decode cX3_add 40 = .ok (.iload_n 1, 1) := by decide +kernel
theorem dX3_add_41 : decode cX3_add 41 = .ok (.iload 4, 2) := by decide +kernel
theorem dX3_add_43 : decode cX3_add 43 = .ok (.iastore, 1) := by decide +kernel
theorem dX3_add_44 : decode cX3_add 44 = .ok (.aload_n 0, 1) := by decide +kernel
theorem dX3_add_45 : decode cX3_add 45 = .ok (.getfield 21, 3) := by decide +kernel
theorem dX3_add_48 : decode cX3_add 48 = .ok (.iload_n 1, 1) := by decide +kernel
theorem dX3_add_49 : decode cX3_add 49 = .ok (.iload 5, 2) := by decide +kernel
theorem dX3_add_51 : decode cX3_add 51 = .ok (.iastore, 1) := by decide +kernel
theorem dX3_add_52 : decode cX3_add 52 = .ok (.aload_n 0, 1) := by decide +kernel
theorem dX3_add_53 : decode cX3_add 53 = .ok (.getfield 24, 3) := by decide +kernel
theorem dX3_add_56 : decode cX3_add 56 = .ok (.iload_n 1, 1) := by decide +kernel
theorem dX3_add_57 : decode cX3_add 57 = .ok (.iload 6, 2) := by decide +kernel
theorem dX3_add_59 : decode cX3_add 59 = .ok (.iastore, 1) := by decide +kernel
theorem dX3_add_60 : decode cX3_add 60 = .ok (.aload_n 0, 1) := by decide +kernel
theorem dX3_add_61 : decode cX3_add 61 = .ok (.dup, 1) := by decide +kernel
theorem dX3_add_62 : decode cX3_add 62 = .ok (.getfield 36, 3) := by decide +kernel
theorem dX3_add_65 : decode cX3_add 65 = .ok (.iconst 1, 1) := by decide +kernel
theorem dX3_add_66 : decode cX3_add 66 = .ok (.iadd, 1) := by decide +kernel
theorem dX3_add_67 : decode cX3_add 67 = .ok (.putfield 36, 3) := by decide +kernel
theorem dX3_add_70 : decode cX3_add 70 = .ok (.aload_n 0, 1) := by decide +kernel
theorem dX3_add_71 : decode cX3_add 71 = .ok (.dup, 1) := by decide +kernel
theorem dX3_add_72 : decode cX3_add 72 = .ok (.getfield 40, 3) := by decide +kernel
theorem dX3_add_75 : decode cX3_add 75 = .ok (.iload_n 2, 1) := by decide +kernel
theorem dX3_add_76 : decode cX3_add 76 = .ok (.iadd, 1) := by decide +kernel
theorem dX3_add_77 : decode cX3_add 77 = .ok (.putfield 40, 3) := by decide +kernel
theorem dX3_add_80 : decode cX3_add 80 = .ok (.return_, 1) := by decide +kernel
theorem dX3_dropLast_0 : decode cX3_dropLast 0 = .ok (.aload_n 0, 1) := by decide +kernel
theorem dX3_dropLast_1 : decode cX3_dropLast 1 = .ok (.invokevirtual 43, 3) := by decide +kernel
theorem dX3_dropLast_4 : decode cX3_dropLast 4 = .ok (.istore_n 2, 1) := by decide +kernel
theorem dX3_dropLast_5 : decode cX3_dropLast 5 = .ok (.aload_n 0, 1) := by decide +kernel
theorem dX3_dropLast_6 : decode cX3_dropLast 6 = .ok (.iload_n 2, 1) := by decide +kernel
theorem dX3_dropLast_7 : decode cX3_dropLast 7 = .ok (.invokevirtual 47, 3) := by decide +kernel
theorem dX3_dropLast_10 : decode cX3_dropLast 10 = .ok (.ifCond .eq 61, 3) := by decide +kernel
theorem dX3_dropLast_13 : decode cX3_dropLast 13 = .ok (.aload_n 0, 1) := by decide +kernel
theorem dX3_dropLast_14 : decode cX3_dropLast 14 = .ok (.getfield 15, 3) := by decide +kernel
theorem dX3_dropLast_17 : decode cX3_dropLast 17 = .ok (.iload_n 2, 1) := by decide +kernel
theorem dX3_dropLast_18 : decode cX3_dropLast 18 = .ok (.iconst (-1), 1) := by decide +kernel
theorem dX3_dropLast_19 : decode cX3_dropLast 19 = .ok (.iastore, 1) := by decide +kernel
theorem dX3_dropLast_20 : decode cX3_dropLast 20 = .ok (.aload_n 0, 1) := by decide +kernel
theorem dX3_dropLast_21 : decode cX3_dropLast 21 = .ok (.getfield 18, 3) := by decide +kernel
theorem dX3_dropLast_24 : decode cX3_dropLast 24 = .ok (.iload_n 2, 1) := by decide +kernel
theorem dX3_dropLast_25 : decode cX3_dropLast 25 = .ok (.iconst (-1), 1) := by decide +kernel
theorem dX3_dropLast_26 : decode cX3_dropLast 26 = .ok (.iastore, 1) := by decide +kernel
theorem dX3_dropLast_27 : decode cX3_dropLast 27 = .ok (.aload_n 0, 1) := by decide +kernel
theorem dX3_dropLast_28 : decode cX3_dropLast 28 = .ok (.getfield 21, 3) := by decide +kernel
theorem dX3_dropLast_31 : decode cX3_dropLast 31 = .ok (.iload_n 2, 1) := by decide +kernel
theorem dX3_dropLast_32 : decode cX3_dropLast 32 = .ok (.iconst (-1), 1) := by decide +kernel
theorem dX3_dropLast_33 : decode cX3_dropLast 33 = .ok (.iastore, 1) := by decide +kernel
theorem dX3_dropLast_34 : decode cX3_dropLast 34 = .ok (.aload_n 0, 1) := by decide +kernel
theorem dX3_dropLast_35 : decode cX3_dropLast 35 = .ok (.getfield 24, 3) := by decide +kernel
theorem dX3_dropLast_38 : decode cX3_dropLast 38 = .ok (.iload_n 2, 1) := by decide +kernel
theorem dX3_dropLast_39 : decode cX3_dropLast 39 = .ok (.iconst (-1), 1) := by decide +kernel
theorem dX3_dropLast_40 : decode cX3_dropLast 40 = .ok (.iastore, 1) := by decide +kernel
theorem dX3_dropLast_41 : decode cX3_dropLast 41 = .ok (.aload_n 0, 1) := by decide +kernel
theorem dX3_dropLast_42 : decode cX3_dropLast 42 = .ok (.dup, 1) := by decide +kernel
theorem dX3_dropLast_43 : decode cX3_dropLast 43 = .ok (.getfield 36, 3) := by decide +kernel
theorem dX3_dropLast_46 : decode cX3_dropLast 46 = .ok (.iconst 1, 1) := by decide +kernel
theorem dX3_dropLast_47 : decode cX3_dropLast 47 = .ok (.isub, 1) := by decide +kernel
theorem dX3_dropLast_48 : decode cX3_dropLast 48 = .ok (.putfield 36, 3) := by decide +kernel
theorem dX3_dropLast_51 : decode cX3_dropLast 51 = .ok (.aload_n 0, 1) := by decide +kernel
theorem dX3_dropLast_52 : decode cX3_dropLast 52 = .ok (.getfield 9, 3) := by decide +kernel
theorem dX3_dropLast_55 : decode cX3_dropLast 55 = .ok (.aload_n 0, 1) := by decide +kernel
theorem dX3_dropLast_56 : decode cX3_dropLast 56 = .ok (.getfield 36, 3) := by decide +kernel
theorem dX3_dropLast_59 : decode cX3_dropLast 59 = .ok (.iconst (-1), 1) := by decide +kernel
theorem dX3_dropLast_60 : decode cX3_dropLast 60 = .ok (.iastore, 1) := by decide +kernel
theorem dX3_dropLast_61 : decode cX3_dropLast 61 = .ok (.aload_n 0, 1) := by decide +kernel
theorem dX3_dropLast_62 : decode cX3_dropLast 62 = .ok (.dup, 1) := by decide +kernel
theorem dX3_dropLast_63 : decode cX3_dropLast 63 = .ok (.getfield 40, 3) := by decide +kernel
theorem dX3_dropLast_66 : decode cX3_dropLast 66 = .ok (.iload_n 1, 1) := by decide +kernel
theorem dX3_dropLast_67 : decode cX3_dropLast 67 = .ok (.isub, 1) := by decide +kernel
theorem dX3_dropLast_68 : decode cX3_dropLast 68 = .ok (.putfield 40, 3) := by decide +kernel
theorem dX3_dropLast_71 : decode cX3_dropLast 71 = .ok (.return_, 1) := by decide +kernel
theorem dX3_sameBegins_0 : decode cX3_sameBegins 0 = .ok (.iconst 0, 1) := by decide +kernel
theorem dX3_sameBegins_1 : decode cX3_sameBegins 1 = .ok (.istore_n 2, 1) := by decide +kernel
theorem dX3_sameBegins_2 : decode cX3_sameBegins 2 = .ok (.iconst 0, 1) := by decide +kernel
theorem dX3_sameBegins_3 : decode cX3_sameBegins 3 = .ok (.istore_n 3, 1) := by decide +kernel
theorem dX3_sameBegins_4 : decode cX3_sameBegins 4 = .ok (.iload_n 3, 1) := by decide +kernel
theorem dX3_sameBegins_5 : decode cX3_sameBegins 5 = .ok (.bipush 6, 2) := by decide +kernel
theorem dX3_sameBegins_7 : decode cX3_sameBegins 7 = .ok (.if_icmp .ge 37, 3) := by decide +kernel
theorem dX3_sameBegins_10 : decode cX3_sameBegins 10 = .ok (.aload_n 0, 1) := by decide +kernel
theorem dX3_sameBegins_11 : decode cX3_sameBegins 11 = .ok (.getfield 18, 3) := by decide +kernel
theorem dX3_sameBegins_14 : decode cX3_sameBegins 14 = .ok (.iload_n 3, 1) := by decide +kernel
theorem dX3_sameBegins_15 : decode cX3_sameBegins 15 = .ok (.iaload, 1) := by decide +kernel
theorem dX3_sameBegins_16 : decode cX3_sameBegins 16 = .ok (.iconst (-1), 1) := by decide +kernel
theorem dX3_sameBegins_17 : decode cX3_sameBegins 17 = .ok (.if_icmp .eq 21, 3) := by decide +kernel
theorem dX3_sameBegins_20 : decode cX3_sameBegins 20 = .ok (.aload_n 0, 1) := by decide +kernel
theorem dX3_sameBegins_21 : decode cX3_sameBegins 21 = .ok (.getfield 18, 3) := by decide +kernel
theorem dX3_sameBegins_24 : decode cX3_sameBegins 24 = .ok (.iload_n 3, 1) := by decide +kernel
theorem dX3_sameBegins_25 : decode cX3_sameBegins 25 = .ok (.iaload, 1) := by decide +kernel
theorem dX3_sameBegins_26 : decode cX3_sameBegins 26 = .ok (.aload_n 1, 1) := by decide +kernel
theorem dX3_sameBegins_27 : decode cX3_sameBegins 27 = .ok (.getfield 18, 3) := by decide +kernel
theorem dX3_sameBegins_30 : decode cX3_sameBegins 30 = .ok (.iload_n 3, 1) := by decide +kernel
theorem dX3_sameBegins_31 : decode cX3_sameBegins 31 = .ok (.iaload, 1) := by decide +kernel
theorem dX3_sameBegins_32 : decode cX3_sameBegins 32 = .ok (.if_icmp .ne 6, 3) := by decide +kernel
theorem dX3_sameBegins_35 : decode cX3_sameBegins 35 = .ok (.iinc 2 1, 3) := by decide +kernel
theorem dX3_sameBegins_38 : decode cX3_sameBegins 38 = .ok (.iinc 3 1, 3) := by decide +kernel
theorem dX3_sameBegins_41 : decode cX3_sameBegins 41 = .ok (.goto (-37), 3) := by decide +kernel
theorem dX3_sameBegins_44 : decode cX3_sameBegins 44 = .ok (.iload_n 2, 1) := by decide +kernel
theorem dX3_sameBegins_45 : decode cX3_sameBegins 45 = .ok (.ireturn, 1) := by decide +kernel
theorem dX3_copy_0 : decode cX3_copy 0 = .ok (.aload_n 1, 1) := by decide +kernel
theorem dX3_copy_1 : decode cX3_copy 1 = .ok (.getfield 9, 3) := by decide +kernel
theorem dX3_copy_4 : decode cX3_copy 4 = .ok (.iconst 0, 1) := by decide +kernel
theorem dX3_copy_5 : decode cX3_copy 5 = .ok (.aload_n 0, 1) := by decide +kernel
theorem dX3_copy_6 : decode cX3_copy 6 = .ok (.getfield 9, 3) := by decide +kernel
theorem dX3_copy_9 : decode cX3_copy 9 = .ok (.iconst 0, 1) := by decide +kernel
theorem dX3_copy_10 : decode cX3_copy 10 = .ok (.bipush 6, 2) := by decide +kernel
theorem dX3_copy_12 : decode cX3_copy 12 = .ok (.invokestatic 57, 3) := by decide +kernel
theorem dX3_copy_15 : decode cX3_copy 15 = .ok (.aload_n 1, 1) := by decide +kernel
theorem dX3_copy_16 : decode cX3_copy 16 = .ok (.getfield 15, 3) := by decide +kernel
theorem dX3_copy_19 : decode cX3_copy 19 = .ok (.iconst 0, 1) := by decide +kernel
theorem dX3_copy_20 : decode cX3_copy 20 = .ok (.aload_n 0, 1) := by decide +kernel
theorem dX3_copy_21 : decode cX3_copy 21 = .ok (.getfield 15, 3) := by decide +kernel
theorem dX3_copy_24 : decode cX3_copy 24 = .ok (.iconst 0, 1) := by decide +kernel
theorem dX3_copy_25 : decode cX3_copy 25 = .ok (.bipush 6, 2) := by decide +kernel
theorem dX3_copy_27 : decode cX3_copy 27 = .ok (.invokestatic 57, 3) := by decide +kernel
theorem dX3_copy_30 : decode cX3_copy 30 = .ok (.aload_n 1, 1) := by decide +kernel
theorem dX3_copy_31 : decode cX3_copy 31 = .ok (.getfield 18, 3) := by decide +kernel
theorem dX3_copy_34 : decode cX3_copy 34 = .ok (.iconst 0, 1) := by decide +kernel
theorem dX3_copy_35 : decode cX3_copy 35 = .ok (.aload_n 0, 1) := by decide +kernel
theorem dX3_copy_36 : decode cX3_copy 36 = .ok (.getfield 18, 3) := by decide +kernel
theorem dX3_copy_39 : decode cX3_copy 39 = .ok (.iconst 0, 1) := by decide +kernel
theorem dX3_copy_40 : decode cX3_copy 40 = .ok (.bipush 6, 2) := by decide +kernel
theorem dX3_copy_42 : decode cX3_copy 42 = .ok (.invokestatic 57, 3) := by decide +kernel
theorem dX3_copy_45 : decode cX3_copy 45 = .ok (.aload_n 1, 1) := by decide +kernel
theorem dX3_copy_46 : decode cX3_copy 46 = .ok (.getfield 21, 3) := by decide +kernel
theorem dX3_copy_49 : decode cX3_copy 49 = .ok (.iconst 0, 1) := by decide +kernel
theorem dX3_copy_50 : decode cX3_copy 50 = .ok (.aload_n 0, 1) := by decide +kernel
theorem dX3_copy_51 : decode cX3_copy 51 = .ok (.getfield 21, 3) := by decide +kernel
theorem dX3_copy_54 : decode cX3_copy 54 = .ok (.iconst 0, 1) := by decide +kernel
theorem dX3_copy_55 : decode cX3_copy 55 = .ok (.bipush 6, 2) := by decide +kernel
theorem dX3_copy_57 : decode cX3_copy 57 = .ok (.invokestatic 57, 3) := by decide +kernel
theorem dX3_copy_60 : decode cX3_copy 60 = .ok (.aload_n 1, 1) := by decide +kernel
theorem dX3_copy_61 : decode cX3_copy 61 = .ok (.getfield 24, 3) := by decide +kernel
theorem dX3_copy_64 : decode cX3_copy 64 = .ok (.iconst 0, 1) := by decide +kernel
theorem dX3_copy_65 : decode cX3_copy 65 = .ok (.aload_n 0, 1) := by decide +kernel
theorem dX3_copy_66 : decode cX3_copy 66 = .ok (.getfield 24, 3) := by decide +kernel
theorem dX3_copy_69 : decode cX3_copy 69 = .ok (.iconst 0, 1) := by decide +kernel
theorem dX3_copy_70 : decode cX3_copy 70 = .ok (.bipush 6, 2) := by decide +kernel
theorem dX3_copy_72 : decode cX3_copy 72 = .ok (.invokestatic 57, 3) := by decide +kernel
theorem dX3_copy_75 : decode cX3_copy 75 = .ok (.aload_n 0, 1) := by decide +kernel
theorem dX3_copy_76 : decode cX3_copy 76 = .ok (.aload_n 1, 1) := by decide +kernel
theorem dX3_copy_77 : decode cX3_copy 77 = .ok (.getfield 36, 3) := by decide +kernel
theorem dX3_copy_80 : decode cX3_copy 80 = .ok (.putfield 36, 3) := by decide +kernel
theorem dX3_copy_83 : decode cX3_copy 83 = .ok (.aload_n 0, 1) := by decide +kernel
theorem dX3_copy_84 : decode cX3_copy 84 = .ok (.aload_n 1, 1) := by decide +kernel
theorem dX3_copy_85 : decode cX3_copy 85 = .ok (.getfield 40, 3) := by decide +kernel
theorem dX3_copy_88 : decode cX3_copy 88 = .ok (.putfield 40, 3) := by decide +kernel
theorem dX3_copy_91 : decode cX3_copy 91 = .ok (.return_, 1) := by decide +kernel
theorem dX4_init_0 : decode cX4_init 0 = .ok (.aload_n 0, 1) := by decide +kernel
theorem dX4_init_1 : decode cX4_init 1 = .ok (.invokespecial 3, 3) := by decide +kernel
theorem dX4_init_4 : decode cX4_init 4 = .ok (.aload_n 0, 1) := by decide +kernel
theorem dX4_init_5 : decode cX4_init 5 = .ok (.bipush 9, 2) := by decide +kernel
theorem dX4_init_7 : decode cX4_init 7 = .ok (.newarray .int, 2) := by decide +kernel
theorem dX4_init_9 : decode cX4_init 9 = .ok (.putfield 11, 3) := by decide +kernel
theorem dX4_init_12 : decode cX4_init 12 = .ok (.aload_n 0, 1) := by decide +kernel
theorem dX4_init_13 : decode cX4_init 13 = .ok (.bipush 60, 2) := by decide +kernel
theorem dX4_init_15 : decode cX4_init 15 = .ok (.newarray .int, 2) := by decide +kernel
theorem dX4_init_17 : decode cX4_init 17 = .ok (.putfield 17, 3) := by decide +kernel
theorem dX4_init_20 : decode cX4_init 20 = .ok (.aload_n 0, 1) := by decide +kernel
theorem dX4_init_21 : decode cX4_init 21 = .ok (.sipush 240, 3) := by decide +kernel
theorem dX4_init_24 : decode cX4_init 24 = .ok (.newarray .boolean, 2) := by decide +kernel
theorem dX4_init_26 : decode cX4_init 26 = .ok (.putfield 20, 3) := by decide +kernel
theorem dX4_init_29 : decode cX4_init 29 = .ok (.aload_n 0, 1) := by decide +kernel
theorem dX4_init_30 : decode cX4_init 30 = .ok (.new 24, 3) := by decide +kernel
theorem dX4_init_33 : decode cX4_init 33 = .ok (.dup, 1) := by decide +kernel
theorem dX4_init_34 : decode cX4_init 34 = .ok (.invokespecial 26, 3) := by decide +kernel
theorem dX4_init_37 : decode cX4_init 37 = .ok (.putfield 27, 3) := by decide +kernel
theorem dX4_init_40 : decode cX4_init 40 = .ok (.aload_n 0, 1) := by decide +kernel
theorem dX4_init_41 : decode cX4_init 41 = .ok (.new 24, 3) := by decide +kernel
theorem dX4_init_44 : decode cX4_init 44 = .ok (.dup, 1) := by decide +kernel
theorem dX4_init_45 : decode cX4_init 45 = .ok (.invokespecial 26, 3) := by decide +kernel
theorem dX4_init_48 : decode cX4_init 48 = .ok (.putfield 31, 3) := by decide +kernel
theorem dX4_init_51 : decode cX4_init 51 = .ok (.aload_n 0, 1) := by decide +kernel
theorem dX4_init_52 : decode cX4_init 52 = .ok (.aload_n 1, 1) := by decide +kernel
theorem dX4_init_53 : decode cX4_init 53 = .ok (.putfield 34, 3) := by decide +kernel
theorem dX4_init_56 : decode cX4_init 56 = .ok (.aload_n 0, 1) := by decide +kernel
theorem dX4_init_57 : decode cX4_init 57 = .ok (.aload_n 2, 1) := by decide +kernel
theorem dX4_init_58 : decode cX4_init 58 = .ok (.putfield 38, 3) := by decide +kernel
theorem dX4_init_61 : decode cX4_init 61 = .ok (.aload_n 0, 1) := by decide +kernel
theorem dX4_init_62 : decode cX4_init 62 = .ok (.aload_n 3, 1) := by decide +kernel
theorem dX4_init_63 : decode cX4_init 63 = .ok (.putfield 42, 3) := by decide +kernel
theorem dX4_init_66 : decode cX4_init 66 = .ok (.return_, 1) := by decide +kernel
theorem dX4_begin_0 : decode cX4_begin 0 = .ok (.aload_n 0, 1) := by decide +kernel
theorem dX4_begin_1 : decode cX4_begin 1 = .ok (.aload_n 1, 1) := by decide +kernel
theorem dX4_begin_2 : decode cX4_begin 2 = .ok (.putfield 42, 3) := by decide +kernel
theorem dX4_begin_5 : decode cX4_begin 5 = .ok (.aload_n 0, 1) := by decide +kernel
theorem dX4_begin_6 : decode cX4_begin 6 = .ok (.getfield 31, 3) := by decide +kernel
theorem dX4_begin_9 : decode cX4_begin 9 = .ok (.invokevirtual 46, 3) := by decide +kernel
theorem dX4_begin_12 : decode cX4_begin 12 = .ok (.iconst 0, 1) := by decide +kernel
theorem dX4_begin_13 : decode cX4_begin 13 = .ok (.istore_n 2, 1) := by decide +kernel
theorem dX4_begin_14 : decode cX4_begin 14 = .ok (.iload_n 2, 1) := by decide +kernel
theorem dX4_begin_15 : decode cX4_begin 15 = .ok (.sipush 240, 3) := by decide +kernel
theorem dX4_begin_18 : decode cX4_begin 18 = .ok (.if_icmp .ge 16, 3) := by decide +kernel
theorem dX4_begin_21 : decode cX4_begin 21 = .ok (.aload_n 0, 1) := by decide +kernel
theorem dX4_begin_22 : decode cX4_begin 22 = .ok (.getfield 20, 3) := by decide +kernel
theorem dX4_begin_25 : decode cX4_begin 25 = .ok (.iload_n 2, 1) := by decide +kernel
theorem dX4_begin_26 : decode cX4_begin 26 = .ok (.iconst 0, 1) := by decide +kernel
theorem dX4_begin_27 : decode cX4_begin 27 = .ok (.bastore, 1) := by decide +kernel
theorem dX4_begin_28 : decode cX4_begin 28 = .ok (.iinc 2 1, 3) := by decide +kernel
theorem dX4_begin_31 : decode cX4_begin 31 = .ok (.goto (-17), 3) := by decide +kernel
theorem dX4_begin_34 : decode cX4_begin 34 = .ok (.iconst 0, 1) := by decide +kernel
theorem dX4_begin_35 : decode cX4_begin 35 = .ok (.istore_n 2, 1) := by decide +kernel
theorem dX4_begin_36 : decode cX4_begin 36 = .ok (.iload_n 2, 1) := by decide +kernel
theorem dX4_begin_37 : decode cX4_begin 37 = .ok (.aload_n 0, 1) := by decide +kernel
theorem dX4_begin_38 : decode cX4_begin 38 = .ok (.getfield 17, 3) := by decide +kernel
theorem dX4_begin_41 : decode cX4_begin 41 = .ok (.arraylength, 1) := by decide +kernel
theorem dX4_begin_42 : decode cX4_begin 42 = .ok (.if_icmp .ge 47, 3) := by decide +kernel
theorem dX4_begin_45 : decode cX4_begin 45 = .ok (.aload_n 0, 1) := by decide +kernel
theorem dX4_begin_46 : decode cX4_begin 46 = .ok (.getfield 34, 3) := by decide +kernel
theorem dX4_begin_49 : decode cX4_begin 49 = .ok (.iload_n 2, 1) := by decide +kernel
theorem dX4_begin_50 : decode cX4_begin 50 = .ok (.bipush 10, 2) := by decide +kernel
theorem dX4_begin_52 : decode cX4_begin 52 = .ok (.idiv, 1) := by decide +kernel
theorem dX4_begin_53 : decode cX4_begin 53 = .ok (.invokevirtual 49, 3) := by decide +kernel
theorem dX4_begin_56 : decode cX4_begin 56 = .ok (.astore_n 3, 1) := by decide +kernel
theorem dX4_begin_57 : decode cX4_begin 57 = .ok (.aload_n 0, 1) := by decide +kernel
theorem dX4_begin_58 : decode cX4_begin 58 = .ok (.getfield 17, 3) := by decide +kernel
theorem dX4_begin_61 : decode cX4_begin 61 = .ok (.iload_n 2, 1) := by decide +kernel
theorem dX4_begin_62 : decode cX4_begin 62 = .ok (.aload_n 3, 1) := by decide +kernel
theorem dX4_begin_63 : decode cX4_begin 63 = .ok (.ifnonnull 7, 3) := by decide +kernel
theorem dX4_begin_66 : decode cX4_begin 66 = .ok (.iconst 0, 1) := by decide +kernel
theorem dX4_begin_67 : decode cX4_begin 67 = .ok (.goto 15, 3) := by decide +kernel
theorem dX4_begin_70 : decode cX4_begin 70 = .ok (.aload_n 0, 1) := by decide +kernel
theorem dX4_begin_71 : decode cX4_begin 71 = .ok (.getfield 34, 3) := by decide +kernel
theorem dX4_begin_74 : decode cX4_begin 74 = .ok (.aload_n 3, 1) := by decide +kernel
theorem dX4_begin_75 : decode cX4_begin 75 = .ok (.iload_n 2, 1) := by decide +kernel
theorem dX4_begin_76 : decode cX4_begin 76 = .ok (.bipush 10, 2) := by decide +kernel
theorem dX4_begin_78 : decode cX4_begin 78 = .ok (.irem, 1) := by decide +kernel
theorem dX4_begin_79 : decode cX4_begin 79 = .ok (.invokevirtual 55, 3) := by decide +kernel
theorem dX4_begin_82 : decode cX4_begin 82 = .ok (.iastore, 1) := by decide +kernel
theorem dX4_begin_83 : decode cX4_begin 83 = .ok (.iinc 2 1, 3) := by decide +kernel
theorem dX4_begin_86 : decode cX4_begin 86 = .ok (.goto (-50), 3) := by decide +kernel
theorem dX4_begin_89 : decode cX4_begin 89 = .ok (.return_, 1) := by decide +kernel
theorem dX4_outRuleFor_0 : decode cX4_outRuleFor 0 = .ok (.aload_n 0, 1) := by decide +kernel
theorem dX4_outRuleFor_1 : decode cX4_outRuleFor 1 = .ok (.getfield 34, 3) := by decide +kernel
theorem dX4_outRuleFor_4 : decode cX4_outRuleFor 4 = .ok (.iload_n 1, 1) := by decide +kernel
theorem dX4_outRuleFor_5 : decode cX4_outRuleFor 5 = .ok (.invokevirtual 49, 3) := by decide +kernel
theorem dX4_outRuleFor_8 : decode cX4_outRuleFor 8 = .ok (.astore_n 3, 1) := by decide +kernel
theorem dX4_outRuleFor_9 : decode cX4_outRuleFor 9 = .ok (.aload_n 0, 1) := by decide +kernel
theorem dX4_outRuleFor_10 : decode cX4_outRuleFor 10 = .ok (.iload_n 1, 1) := by decide +kernel
theorem dX4_outRuleFor_11 : decode cX4_outRuleFor 11 = .ok (.iload_n 2, 1) := by decide +kernel
theorem dX4_outRuleFor_12 : decode cX4_outRuleFor 12 = .ok (.invokevirtual 59, 3) := by decide +kernel
theorem dX4_outRuleFor_15 : decode cX4_outRuleFor 15 = .ok (.istore 4, 2) := by decide +kernel
theorem dX4_outRuleFor_17 : decode cX4_outRuleFor 17 = .ok (.aload_n 3, 1) := by decide +kernel
theorem dX4_outRuleFor_18 : decode cX4_outRuleFor 18 = .ok (.ifnull 8, 3) := by decide +kernel
theorem dX4_outRuleFor_21 : decode cX4_outRuleFor 21 = .ok (.iload 4, 2) := by decide +kernel
theorem dX4_outRuleFor_23 : decode cX4_outRuleFor 23 = .ok (.ifCond .ne 5, 3) := by decide +kernel
theorem dX4_outRuleFor_26 : decode cX4_outRuleFor 26 = .ok (.iconst (-1), 1) := by decide +kernel
theorem dX4_outRuleFor_27 : decode cX4_outRuleFor 27 = .ok (.ireturn, 1) := by decide +kernel
theorem dX4_outRuleFor_28 : decode cX4_outRuleFor 28 = .ok (.aload_n 0, 1) := by decide +kernel
theorem dX4_outRuleFor_29 : decode cX4_outRuleFor 29 = .ok (.aload_n 3, 1) := by decide +kernel
theorem dX4_outRuleFor_30 : decode cX4_outRuleFor 30 = .ok (.iload_n 1, 1) := by decide +kernel
theorem dX4_outRuleFor_31 : decode cX4_outRuleFor 31 = .ok (.invokevirtual 63, 3) := by decide +kernel
theorem dX4_outRuleFor_34 : decode cX4_outRuleFor 34 = .ok (.aload_n 0, 1) := by decide +kernel
theorem dX4_outRuleFor_35 : decode cX4_outRuleFor 35 = .ok (.iload_n 2, 1) := by decide +kernel
theorem dX4_outRuleFor_36 : decode cX4_outRuleFor 36 = .ok (.iload 4, 2) := by decide +kernel
theorem dX4_outRuleFor_38 : decode cX4_outRuleFor 38 = .ok (.invokevirtual 67, 3) := by decide +kernel
theorem dX4_outRuleFor_41 : decode cX4_outRuleFor 41 = .ok (.aload_n 0, 1) := by decide +kernel
theorem dX4_outRuleFor_42 : decode cX4_outRuleFor 42 = .ok (.getfield 42, 3) := by decide +kernel
theorem dX4_outRuleFor_45 : decode cX4_outRuleFor 45 = .ok (.iconst 0, 1) := by decide +kernel
theorem dX4_outRuleFor_46 : decode cX4_outRuleFor 46 = .ok (.aload_n 0, 1) := by decide +kernel
theorem dX4_outRuleFor_47 : decode cX4_outRuleFor 47 = .ok (.getfield 11, 3) := by decide +kernel
theorem dX4_outRuleFor_50 : decode cX4_outRuleFor 50 = .ok (.invokevirtual 73, 3) := by decide +kernel
theorem dX4_outRuleFor_53 : decode cX4_outRuleFor 53 = .ok (.ireturn, 1) := by decide +kernel
theorem dX4_replace_0 : decode cX4_replace 0 = .ok (.aload_n 0, 1) := by decide +kernel
theorem dX4_replace_1 : decode cX4_replace 1 = .ok (.getfield 27, 3) := by decide +kernel
theorem dX4_replace_4 : decode cX4_replace 4 = .ok (.invokevirtual 46, 3) := by decide +kernel
theorem dX4_replace_7 : decode cX4_replace 7 = .ok (.aload_n 0, 1) := by decide +kernel
theorem dX4_replace_8 : decode cX4_replace 8 = .ok (.aload_n 1, 1) := by decide +kernel
theorem dX4_replace_9 : decode cX4_replace 9 = .ok (.iconst 0, 1) := by decide +kernel
theorem dX4_replace_10 : decode cX4_replace 10 = .ok (.invokevirtual 77, 3) := by decide +kernel
theorem dX4_replace_13 : decode cX4_replace 13 = .ok (.aload_n 1, 1) := by decide +kernel
theorem dX4_replace_14 : decode cX4_replace 14 = .ok (.aload_n 0, 1) := by decide +kernel
theorem dX4_replace_15 : decode cX4_replace 15 = .ok (.getfield 27, 3) := by decide +kernel
theorem dX4_replace_18 : decode cX4_replace 18 = .ok (.invokevirtual 81, 3) := by decide +kernel
theorem dX4_replace_21 : decode cX4_replace 21 = .ok (.aload_n 0, 1) := by decide +kernel
theorem dX4_replace_22 : decode cX4_replace 22 = .ok (.getfield 27, 3) := by decide +kernel
theorem dX4_replace_25 : decode cX4_replace 25 = .ok (.getfield 85, 3) := by decide +kernel
theorem dX4_replace_28 : decode cX4_replace 28 = .ok (.ireturn, 1) := by decide +kernel
theorem dX4_extend_0 : decode cX4_extend 0 = .ok (.aload_n 0, 1) := by decide +kernel
theorem dX4_extend_1 : decode cX4_extend 1 = .ok (.aload_n 1, 1) := by decide +kernel
theorem dX4_extend_2 : decode cX4_extend 2 = .ok (.invokevirtual 89, 3) := by decide +kernel
theorem dX4_extend_5 : decode cX4_extend 5 = .ok (.ifCond .eq 14, 3) := by decide +kernel
theorem dX4_extend_8 : decode cX4_extend 8 = .ok (.aload_n 0, 1) := by decide +kernel
theorem dX4_extend_9 : decode cX4_extend 9 = .ok (.getfield 27, 3) := by decide +kernel
theorem dX4_extend_12 : decode cX4_extend 12 = .ok (.aload_n 0, 1) := by decide +kernel
theorem dX4_extend_13 : decode cX4_extend 13 = .ok (.getfield 31, 3) := by decide +kernel
theorem dX4_extend_16 : decode cX4_extend 16 = .ok (.invokevirtual 81, 3) := by decide +kernel
theorem dX4_extend_19 : decode cX4_extend 19 = .ok (.iload_n 2, 1) := by decide +kernel
theorem dX4_extend_20 : decode cX4_extend 20 = .ok (.bipush 6, 2) := by decide +kernel
theorem dX4_extend_22 : decode cX4_extend 22 = .ok (.if_icmp .ge 11, 3) := by decide +kernel
theorem dX4_extend_25 : decode cX4_extend 25 = .ok (.aload_n 0, 1) := by decide +kernel
theorem dX4_extend_26 : decode cX4_extend 26 = .ok (.aload_n 1, 1) := by decide +kernel
theorem dX4_extend_27 : decode cX4_extend 27 = .ok (.invokevirtual 93, 3) := by decide +kernel
theorem dX4_extend_30 : decode cX4_extend 30 = .ok (.ifCond .eq 4, 3) := by decide +kernel
theorem dX4_extend_33 : decode cX4_extend 33 = .ok (.return_, 1) := by decide +kernel
theorem dX4_extend_34 : decode cX4_extend 34 = .ok (.iconst 0, 1) := by decide +kernel
theorem dX4_extend_35 : decode cX4_extend 35 = .ok (.istore_n 3, 1) := by decide +kernel
theorem dX4_extend_36 : decode cX4_extend 36 = .ok (.iload_n 3, 1) := by decide +kernel
theorem dX4_extend_37 : decode cX4_extend 37 = .ok (.aload_n 0, 1) := by decide +kernel
theorem dX4_extend_38 : decode cX4_extend 38 = .ok (.getfield 34, 3) := by decide +kernel
theorem dX4_extend_41 : decode cX4_extend 41 = .ok (.getfield 96, 3) := by decide +kernel
theorem dX4_extend_44 : decode cX4_extend 44 = .ok (.if_icmp .ge 40, 3) := by decide +kernel
theorem dX4_extend_47 : decode cX4_extend 47 = .ok (.aload_n 0, 1) := by decide +kernel
theorem dX4_extend_48 : decode cX4_extend 48 = .ok (.getfield 31, 3) := by decide +kernel
theorem dX4_extend_51 : decode cX4_extend 51 = .ok (.iload_n 3, 1) := by decide +kernel
theorem dX4_extend_52 : decode cX4_extend 52 = .ok (.invokevirtual 99, 3) := by decide +kernel
theorem dX4_extend_55 : decode cX4_extend 55 = .ok (.ifCond .ne 23, 3) := by decide +kernel
theorem dX4_extend_58 : decode cX4_extend 58 = .ok (.aload_n 0, 1) := by decide +kernel
theorem dX4_extend_59 : decode cX4_extend 59 = .ok (.iload_n 3, 1) := by decide +kernel
theorem dX4_extend_60 : decode cX4_extend 60 = .ok (.invokevirtual 103, 3) := by decide +kernel
theorem dX4_extend_63 : decode cX4_extend 63 = .ok (.ifCond .eq 15, 3) := by decide +kernel
theorem dX4_extend_66 : decode cX4_extend 66 = .ok (.aload_n 0, 1) := by decide +kernel
theorem dX4_extend_67 : decode cX4_extend 67 = .ok (.aload_n 1, 1) := by decide +kernel
theorem dX4_extend_68 : decode cX4_extend 68 = .ok (.iload_n 2, 1) := by decide +kernel
theorem dX4_extend_69 : decode cX4_extend 69 = .ok (.iconst 1, 1) := by decide +kernel
theorem dX4_extend_70 : decode cX4_extend 70 = .ok (.iadd, 1) := by decide +kernel
theorem dX4_extend_71 : decode cX4_extend 71 = .ok (.invokevirtual 77, 3) := by decide +kernel
theorem dX4_extend_74 : decode cX4_extend 74 = .ok (.aload_n 0, 1) := by decide +kernel
theorem dX4_extend_75 : decode cX4_extend 75 = .ok (.invokevirtual 106, 3) := by decide +kernel
theorem dX4_extend_78 : decode cX4_extend 78 = .ok (.iinc 3 1, 3) := by decide +kernel
theorem dX4_extend_81 : decode cX4_extend 81 = .ok (.goto (-45), 3) := by decide +kernel
theorem dX4_extend_84 : decode cX4_extend 84 = .ok (.return_, 1) := by decide +kernel
theorem dX4_isBetter_0 : decode cX4_isBetter 0 = .ok (.aload_n 0, 1) := by decide +kernel
theorem dX4_isBetter_1 : decode cX4_isBetter 1 = .ok (.getfield 31, 3) := by decide +kernel
theorem dX4_isBetter_4 : decode cX4_isBetter 4 = .ok (.getfield 85, 3) := by decide +kernel
theorem dX4_isBetter_7 : decode cX4_isBetter 7 = .ok (.aload_n 0, 1) := by decide +kernel
theorem dX4_isBetter_8 : decode cX4_isBetter 8 = .ok (.getfield 27, 3) := by decide +kernel
theorem dX4_isBetter_11 : decode cX4_isBetter 11 = .ok (.getfield 85, 3) := by decide +kernel
theorem dX4_isBetter_14 : decode cX4_isBetter 14 = .ok (.if_icmp .eq 26, 3) := by decide +kernel
theorem dX4_isBetter_17 : decode cX4_isBetter 17 = .ok (.aload_n 0, 1) := by decide +kernel
theorem dX4_isBetter_18 : decode cX4_isBetter 18 = .ok (.getfield 31, 3) := by decide +kernel
theorem dX4_isBetter_21 : decode cX4_isBetter 21 = .ok (.getfield 85, 3) := by decide +kernel
theorem dX4_isBetter_24 : decode cX4_isBetter 24 = .ok (.aload_n 0, 1) := by decide +kernel
theorem dX4_isBetter_25 : decode cX4_isBetter 25 = .ok (.getfield 27, 3) := by decide +kernel
theorem dX4_isBetter_28 : decode cX4_isBetter 28 = .ok (.getfield 85, 3) := by decide +kernel
theorem dX4_isBetter_31 : decode cX4_isBetter 31 = .ok (.if_icmp .le 7, 3) := by decide +kernel
theorem dX4_isBetter_34 : decode cX4_isBetter 34 = .ok (.iconst 1, 1) := by decide +kernel
theorem dX4_isBetter_35 : decode cX4_isBetter 35 = .ok (.goto 4, 3) := by decide +kernel
theorem dX4_isBetter_38 : decode cX4_isBetter 38 = .ok (.iconst 0, 1) := by decide +kernel
theorem dX4_isBetter_39 : decode cX4_isBetter 39 = .ok (.ireturn, 1) := by decide +kernel
theorem dX4_isBetter_40 : decode cX4_isBetter 40 = .ok (.aload_n 0, 1) := by decide +kernel
theorem dX4_isBetter_41 : decode cX4_isBetter 41 = .ok (.getfield 31, 3) := by decide +kernel
theorem dX4_isBetter_44 : decode cX4_isBetter 44 = .ok (.aload_n 1, 1) := by decide +kernel
theorem dX4_isBetter_45 : decode cX4_isBetter 45 = .ok (.invokevirtual 109, 3) := by decide +kernel
theorem dX4_isBetter_48 : decode cX4_isBetter 48 = .ok (.istore_n 2, 1) := by decide +kernel
theorem dX4_isBetter_49 : decode cX4_isBetter 49 = .ok (.aload_n 0, 1) := by decide +kernel
theorem dX4_isBetter_50 : decode cX4_isBetter 50 = .ok (.getfield 27, 3) := by decide +kernel
theorem dX4_isBetter_53 : decode cX4_isBetter 53 = .ok (.aload_n 1, 1) := by decide +kernel
theorem dX4_isBetter_54 : decode cX4_isBetter 54 = .ok (.invokevirtual 109, 3) := by decide +kernel
theorem dX4_isBetter_57 : decode cX4_isBetter 57 = .ok (.istore_n 3, 1) := by decide +kernel
theorem dX4_isBetter_58 : decode cX4_isBetter 58 = .ok (.iload_n 2, 1) := by decide +kernel
theorem dX4_isBetter_59 : decode cX4_isBetter 59 = .ok (.iload_n 3, 1) := by decide +kernel
theorem dX4_isBetter_60 : decode cX4_isBetter 60 = .ok (.if_icmp .eq 16, 3) := by decide +kernel
theorem dX4_isBetter_63 : decode cX4_isBetter 63 = .ok (.iload_n 2, 1) := by decide +kernel
theorem dX4_isBetter_64 : decode cX4_isBetter 64 = .ok (.iload_n 3, 1) := by decide +kernel
theorem dX4_isBetter_65 : decode cX4_isBetter 65 = .ok (.if_icmp .le 7, 3) := by decide +kernel
theorem dX4_isBetter_68 : decode cX4_isBetter 68 = .ok (.iconst 1, 1) := by decide +kernel
theorem dX4_isBetter_69 : decode cX4_isBetter 69 = .ok (.goto 29, 3) := by decide +kernel
theorem dX4_isBetter_72 : decode cX4_isBetter 72 = .ok (.iconst 0, 1) := by decide +kernel
theorem dX4_isBetter_73 : decode cX4_isBetter 73 = .ok (.goto 25, 3) := by decide +kernel
theorem dX4_isBetter_76 : decode cX4_isBetter 76 = .ok (.aload_n 0, 1) := by decide +kernel
theorem dX4_isBetter_77 : decode cX4_isBetter 77 = .ok (.getfield 31, 3) := by decide +kernel
theorem dX4_isBetter_80 : decode cX4_isBetter 80 = .ok (.invokevirtual 113, 3) := by decide +kernel
theorem dX4_isBetter_83 : decode cX4_isBetter 83 = .ok (.aload_n 0, 1) := by decide +kernel
theorem dX4_isBetter_84 : decode cX4_isBetter 84 = .ok (.getfield 27, 3) := by decide +kernel
theorem dX4_isBetter_87 : decode cX4_isBetter 87 = .ok (.invokevirtual 113, 3) := by decide +kernel
theorem dX4_isBetter_90 : decode cX4_isBetter 90 = .ok (.if_icmp .ge 7, 3) := by decide +kernel
theorem dX4_isBetter_93 : decode cX4_isBetter 93 = .ok (.iconst 1, 1) := by decide +kernel
theorem dX4_isBetter_94 : decode cX4_isBetter 94 = .ok (.goto 4, 3) := by decide +kernel
theorem dX4_isBetter_97 : decode cX4_isBetter 97 = .ok (.iconst 0, 1) := by decide +kernel
theorem dX4_isBetter_98 : decode cX4_isBetter 98 = .ok (.ireturn, 1) := by decide +kernel
theorem dX4_isHopeless_0 : decode cX4_isHopeless 0 = .ok (.aload_n 0, 1) := by decide +kernel
theorem dX4_isHopeless_1 : decode cX4_isHopeless 1 = .ok (.getfield 31, 3) := by decide +kernel
theorem dX4_isHopeless_4 : decode cX4_isHopeless 4 = .ok (.getfield 85, 3) := by decide +kernel
theorem dX4_isHopeless_7 : decode cX4_isHopeless 7 = .ok (.istore_n 2, 1) := by decide +kernel
theorem dX4_isHopeless_8 : decode cX4_isHopeless 8 = .ok (.aload_n 0, 1) := by decide +kernel
theorem dX4_isHopeless_9 : decode cX4_isHopeless 9 = .ok (.getfield 31, 3) := by decide +kernel
theorem dX4_isHopeless_12 : decode cX4_isHopeless 12 = .ok (.aload_n 1, 1) := by decide +kernel
theorem dX4_isHopeless_13 : decode cX4_isHopeless 13 = .ok (.invokevirtual 109, 3) := by decide +kernel
theorem dX4_isHopeless_16 : decode cX4_isHopeless 16 = .ok (.istore_n 3, 1) := by decide +kernel
theorem dX4_isHopeless_17 : decode cX4_isHopeless 17 = .ok (.iconst 0, 1) := by decide +kernel
theorem dX4_isHopeless_18 : decode cX4_isHopeless 18 = .ok (.istore 4, 2) := by decide +kernel
theorem dX4_isHopeless_20 : decode cX4_isHopeless 20 = .ok (.iload 4, 2) := by decide +kernel
theorem dX4_isHopeless_22 : decode cX4_isHopeless 22 = .ok (.aload_n 0, 1) := by decide +kernel
theorem dX4_isHopeless_23 : decode cX4_isHopeless 23 = .ok (.getfield 34, 3) := by decide +kernel
theorem dX4_isHopeless_26 : decode cX4_isHopeless 26 = .ok (.getfield 96, 3) := by decide +kernel
theorem dX4_isHopeless_29 : decode cX4_isHopeless 29 = .ok (.if_icmp .ge 62, 3) := by decide +kernel
theorem dX4_isHopeless_32 : decode cX4_isHopeless 32 = .ok (.aload_n 0, 1) := by decide +kernel
theorem dX4_isHopeless_33 : decode cX4_isHopeless 33 = .ok (.getfield 34, 3) := by decide +kernel
theorem dX4_isHopeless_36 : decode cX4_isHopeless 36 = .ok (.iload 4, 2) := by decide +kernel
theorem dX4_isHopeless_38 : decode cX4_isHopeless 38 = .ok (.invokevirtual 49, 3) := by decide +kernel
theorem dX4_isHopeless_41 : decode cX4_isHopeless 41 = .ok (.astore 5, 2) := by decide +kernel
theorem dX4_isHopeless_43 : decode cX4_isHopeless 43 = .ok (.aload 5, 2) := by decide +kernel
theorem dX4_isHopeless_45 : decode cX4_isHopeless 45 = .ok (.ifnull 40, 3) := by decide +kernel
theorem dX4_isHopeless_48 : decode cX4_isHopeless 48 = .ok (.aload_n 0, 1) := by decide +kernel
theorem dX4_isHopeless_49 : decode cX4_isHopeless 49 = .ok (.getfield 31, 3) := by decide +kernel
theorem dX4_isHopeless_52 : decode cX4_isHopeless 52 = .ok (.iload 4, 2) := by decide +kernel
theorem dX4_isHopeless_54 : decode cX4_isHopeless 54 = .ok (.invokevirtual 99, 3) := by decide +kernel
theorem dX4_isHopeless_57 : decode cX4_isHopeless 57 = .ok (.ifCond .ne 28, 3) := by decide +kernel
theorem dX4_isHopeless_60 : decode cX4_isHopeless 60 = .ok (.iload_n 2, 1) := by decide +kernel
theorem dX4_isHopeless_61 : decode cX4_isHopeless 61 = .ok (.aload 5, 2) := by decide +kernel
theorem dX4_isHopeless_63 : decode cX4_isHopeless 63 = .ok (.getfield 117, 3) := by decide +kernel
theorem dX4_isHopeless_66 : decode cX4_isHopeless 66 = .ok (.iadd, 1) := by decide +kernel
theorem dX4_isHopeless_67 : decode cX4_isHopeless 67 = .ok (.istore_n 2, 1) := by decide +kernel
theorem dX4_isHopeless_68 : decode cX4_isHopeless 68 = .ok (.iload_n 3, 1) := by decide +kernel
theorem dX4_isHopeless_69 : decode cX4_isHopeless 69 = .ok (.aload_n 1, 1) := by decide +kernel
theorem dX4_isHopeless_70 : decode cX4_isHopeless 70 = .ok (.iload 4, 2) := by decide +kernel
theorem dX4_isHopeless_72 : decode cX4_isHopeless 72 = .ok (.invokevirtual 99, 3) := by decide +kernel
theorem dX4_isHopeless_75 : decode cX4_isHopeless 75 = .ok (.ifCond .eq 7, 3) := by decide +kernel
theorem dX4_isHopeless_78 : decode cX4_isHopeless 78 = .ok (.iconst 1, 1) := by decide +kernel
theorem dX4_isHopeless_79 : decode cX4_isHopeless 79 = .ok (.goto 4, 3) := by decide +kernel
theorem dX4_isHopeless_82 : decode cX4_isHopeless 82 = .ok (.iconst 0, 1) := by decide +kernel
theorem dX4_isHopeless_83 : decode cX4_isHopeless 83 = .ok (.iadd, 1) := by decide +kernel
theorem dX4_isHopeless_84 : decode cX4_isHopeless 84 = .ok (.istore_n 3, 1) := by decide +kernel
theorem dX4_isHopeless_85 : decode cX4_isHopeless 85 = .ok (.iinc 4 1, 3) := by decide +kernel
theorem dX4_isHopeless_88 : decode cX4_isHopeless 88 = .ok (.goto (-68), 3) := by decide +kernel
theorem dX4_isHopeless_91 : decode cX4_isHopeless 91 = .ok (.iload_n 2, 1) := by decide +kernel
theorem dX4_isHopeless_92 : decode cX4_isHopeless 92 = .ok (.aload_n 0, 1) := by decide +kernel
theorem dX4_isHopeless_93 : decode cX4_isHopeless 93 = .ok (.getfield 27, 3) := by decide +kernel
theorem dX4_isHopeless_96 : decode cX4_isHopeless 96 = .ok (.getfield 85, 3) := by decide +kernel
theorem dX4_isHopeless_99 : decode cX4_isHopeless 99 = .ok (.if_icmp .eq 20, 3) := by decide +kernel
theorem dX4_isHopeless_102 : decode cX4_isHopeless 102 = .ok (.iload_n 2, 1) := by decide +kernel
theorem dX4_isHopeless_103 : decode cX4_isHopeless 103 = .ok (.aload_n 0, 1) := by decide +kernel
theorem dX4_isHopeless_104 : decode cX4_isHopeless 104 = .ok (.getfield 27, 3) := by decide +kernel
theorem dX4_isHopeless_107 : decode cX4_isHopeless 107 = .ok (.getfield 85, 3) := by decide +kernel
theorem dX4_isHopeless_110 : decode cX4_isHopeless 110 = .ok (.if_icmp .ge 7, 3) := by decide +kernel
theorem dX4_isHopeless_113 : decode cX4_isHopeless 113 = .ok (.iconst 1, 1) := by decide +kernel
theorem dX4_isHopeless_114 : decode cX4_isHopeless 114 = .ok (.goto 4, 3) := by decide +kernel
theorem dX4_isHopeless_117 : decode cX4_isHopeless 117 = .ok (.iconst 0, 1) := by decide +kernel
theorem dX4_isHopeless_118 : decode cX4_isHopeless 118 = .ok (.ireturn, 1) := by decide +kernel
theorem dX4_isHopeless_119 : decode cX4_isHopeless 119 = .ok (.aload_n 0, 1) := by decide +kernel
theorem dX4_isHopeless_120 : decode cX4_isHopeless 120 = .ok (.getfield 27, 3) := by decide +kernel
theorem dX4_isHopeless_123 : decode cX4_isHopeless 123 = .ok (.aload_n 1, 1) := by decide +kernel
theorem dX4_isHopeless_124 : decode cX4_isHopeless 124 = .ok (.invokevirtual 109, 3) := by decide +kernel
theorem dX4_isHopeless_127 : decode cX4_isHopeless 127 = .ok (.istore 4, 2) := by decide +kernel
theorem dX4_isHopeless_129 : decode cX4_isHopeless 129 = .ok (.iload_n 3, 1) := by decide +kernel
theorem dX4_isHopeless_130 : decode cX4_isHopeless 130 = .ok (.iload 4, 2) := by decide +kernel
theorem dX4_isHopeless_132 : decode cX4_isHopeless 132 = .ok (.if_icmp .eq 17, 3) := by decide +kernel
theorem dX4_isHopeless_135 : decode cX4_isHopeless 135 = .ok (.iload_n 3, 1) := by decide +kernel
theorem dX4_isHopeless_136 : decode cX4_isHopeless 136 = .ok (.iload 4, 2) := by decide +kernel
theorem dX4_isHopeless_138 : decode cX4_isHopeless 138 = .ok (.if_icmp .ge 7, 3) := by decide +kernel
theorem dX4_isHopeless_141 : decode cX4_isHopeless 141 = .ok (.iconst 1, 1) := by decide +kernel
theorem dX4_isHopeless_142 : decode cX4_isHopeless 142 = .ok (.goto 29, 3) := by decide +kernel
theorem dX4_isHopeless_145 : decode cX4_isHopeless 145 = .ok (.iconst 0, 1) := by decide +kernel
theorem dX4_isHopeless_146 : decode cX4_isHopeless 146 = .ok (.goto 25, 3) := by decide +kernel
theorem dX4_isHopeless_149 : decode cX4_isHopeless 149 = .ok (.aload_n 0, 1) := by decide +kernel
theorem dX4_isHopeless_150 : decode cX4_isHopeless 150 = .ok (.getfield 31, 3) := by decide +kernel
theorem dX4_isHopeless_153 : decode cX4_isHopeless 153 = .ok (.invokevirtual 113, 3) := by decide +kernel
theorem dX4_isHopeless_156 : decode cX4_isHopeless 156 = .ok (.aload_n 0, 1) := by decide +kernel
theorem dX4_isHopeless_157 : decode cX4_isHopeless 157 = .ok (.getfield 27, 3) := by decide +kernel
theorem dX4_isHopeless_160 : decode cX4_isHopeless 160 = .ok (.invokevirtual 113, 3) := by decide +kernel
theorem dX4_isHopeless_163 : decode cX4_isHopeless 163 = .ok (.if_icmp .lt 7, 3) := by decide +kernel
theorem dX4_isHopeless_166 : decode cX4_isHopeless 166 = .ok (.iconst 1, 1) := by decide +kernel
theorem dX4_isHopeless_167 : decode cX4_isHopeless 167 = .ok (.goto 4, 3) := by decide +kernel
theorem dX4_isHopeless_170 : decode cX4_isHopeless 170 = .ok (.iconst 0, 1) := by decide +kernel
theorem dX4_isHopeless_171 : decode cX4_isHopeless 171 = .ok (.ireturn, 1) := by decide +kernel
theorem dX4_fly_0 : decode cX4_fly 0 = .ok (.aload_n 0, 1) := by decide +kernel
theorem dX4_fly_1 : decode cX4_fly 1 = .ok (.getfield 34, 3) := by decide +kernel
theorem dX4_fly_4 : decode cX4_fly 4 = .ok (.iload_n 1, 1) := by decide +kernel
theorem dX4_fly_5 : decode cX4_fly 5 = .ok (.invokevirtual 49, 3) := by decide +kernel
theorem dX4_fly_8 : decode cX4_fly 8 = .ok (.astore_n 2, 1) := by decide +kernel
theorem dX4_fly_9 : decode cX4_fly 9 = .ok (.aload_n 2, 1) := by decide +kernel
theorem dX4_fly_10 : decode cX4_fly 10 = .ok (.ifnull 14, 3) := by decide +kernel
theorem dX4_fly_13 : decode cX4_fly 13 = .ok (.aload_n 0, 1) := by decide +kernel
theorem dX4_fly_14 : decode cX4_fly 14 = .ok (.getfield 31, 3) := by decide +kernel
theorem dX4_fly_17 : decode cX4_fly 17 = .ok (.iload_n 1, 1) := by decide +kernel
theorem dX4_fly_18 : decode cX4_fly 18 = .ok (.invokevirtual 99, 3) := by decide +kernel
theorem dX4_fly_21 : decode cX4_fly 21 = .ok (.ifCond .eq 5, 3) := by decide +kernel
theorem dX4_fly_24 : decode cX4_fly 24 = .ok (.iconst 0, 1) := by decide +kernel
theorem dX4_fly_25 : decode cX4_fly 25 = .ok (.ireturn, 1) := by decide +kernel
theorem dX4_fly_26 : decode cX4_fly 26 = .ok (.aload_n 0, 1) := by decide +kernel
theorem dX4_fly_27 : decode cX4_fly 27 = .ok (.aload_n 2, 1) := by decide +kernel
theorem dX4_fly_28 : decode cX4_fly 28 = .ok (.iload_n 1, 1) := by decide +kernel
theorem dX4_fly_29 : decode cX4_fly 29 = .ok (.invokevirtual 63, 3) := by decide +kernel
theorem dX4_fly_32 : decode cX4_fly 32 = .ok (.aload_n 0, 1) := by decide +kernel
theorem dX4_fly_33 : decode cX4_fly 33 = .ok (.getfield 31, 3) := by decide +kernel
theorem dX4_fly_36 : decode cX4_fly 36 = .ok (.invokevirtual 120, 3) := by decide +kernel
theorem dX4_fly_39 : decode cX4_fly 39 = .ok (.aload_n 0, 1) := by decide +kernel
theorem dX4_fly_40 : decode cX4_fly 40 = .ok (.getfield 38, 3) := by decide +kernel
theorem dX4_fly_43 : decode cX4_fly 43 = .ok (.getfield 123, 3) := by decide +kernel
theorem dX4_fly_46 : decode cX4_fly 46 = .ok (.iload_n 1, 1) := by decide +kernel
theorem dX4_fly_47 : decode cX4_fly 47 = .ok (.iaload, 1) := by decide +kernel
theorem dX4_fly_48 : decode cX4_fly 48 = .ok (.aload_n 2, 1) := by decide +kernel
theorem dX4_fly_49 : decode cX4_fly 49 = .ok (.getfield 128, 3) := by decide +kernel
theorem dX4_fly_52 : decode cX4_fly 52 = .ok (.iadd, 1) := by decide +kernel
theorem dX4_fly_53 : decode cX4_fly 53 = .ok (.invokestatic 131, 3) := by decide +kernel
theorem dX4_fly_56 : decode cX4_fly 56 = .ok (.istore_n 3, 1) := by decide +kernel
theorem dX4_fly_57 : decode cX4_fly 57 = .ok (.iconst 0, 1) := by decide +kernel
theorem dX4_fly_58 : decode cX4_fly 58 = .ok (.iload_n 3, 1) := by decide +kernel
theorem dX4_fly_59 : decode cX4_fly 59 = .ok (.invokestatic 131, 3) := by decide +kernel
theorem dX4_fly_62 : decode cX4_fly 62 = .ok (.istore 4, 2) := by decide +kernel
theorem dX4_fly_64 : decode cX4_fly 64 = .ok (.iload 4, 2) := by decide +kernel
theorem dX4_fly_66 : decode cX4_fly 66 = .ok (.sipush 240, 3) := by decide +kernel
theorem dX4_fly_69 : decode cX4_fly 69 = .ok (.if_icmp .ge 68, 3) := by decide +kernel
theorem dX4_fly_72 : decode cX4_fly 72 = .ok (.aload_n 0, 1) := by decide +kernel
theorem dX4_fly_73 : decode cX4_fly 73 = .ok (.iload_n 1, 1) := by decide +kernel
theorem dX4_fly_74 : decode cX4_fly 74 = .ok (.iload 4, 2) := by decide +kernel
theorem dX4_fly_76 : decode cX4_fly 76 = .ok (.invokevirtual 59, 3) := by decide +kernel
theorem dX4_fly_79 : decode cX4_fly 79 = .ok (.istore 5, 2) := by decide +kernel
theorem dX4_fly_81 : decode cX4_fly 81 = .ok (.iload 5, 2) := by decide +kernel
theorem dX4_fly_83 : decode cX4_fly 83 = .ok (.ifCond .le 25, 3) := by decide +kernel
theorem dX4_fly_86 : decode cX4_fly 86 = .ok (.iload 4, 2) := by decide +kernel
theorem dX4_fly_88 : decode cX4_fly 88 = .ok (.iload 5, 2) := by decide +kernel
theorem dX4_fly_90 : decode cX4_fly 90 = .ok (.iadd, 1) := by decide +kernel
theorem dX4_fly_91 : decode cX4_fly 91 = .ok (.aload_n 0, 1) := by decide +kernel
theorem dX4_fly_92 : decode cX4_fly 92 = .ok (.getfield 38, 3) := by decide +kernel
theorem dX4_fly_95 : decode cX4_fly 95 = .ok (.getfield 136, 3) := by decide +kernel
theorem dX4_fly_98 : decode cX4_fly 98 = .ok (.iload 4, 2) := by decide +kernel
theorem dX4_fly_100 : decode cX4_fly 100 = .ok (.iaload, 1) := by decide +kernel
theorem dX4_fly_101 : decode cX4_fly 101 = .ok (.if_icmp .gt 7, 3) := by decide +kernel
theorem dX4_fly_104 : decode cX4_fly 104 = .ok (.iconst 1, 1) := by decide +kernel
theorem dX4_fly_105 : decode cX4_fly 105 = .ok (.goto 4, 3) := by decide +kernel
theorem dX4_fly_108 : decode cX4_fly 108 = .ok (.iconst 0, 1) := by decide +kernel
theorem dX4_fly_109 : decode cX4_fly 109 = .ok (.istore 6, 2) := by decide +kernel
theorem dX4_fly_111 : decode cX4_fly 111 = .ok (.iload 6, 2) := by decide +kernel
theorem dX4_fly_113 : decode cX4_fly 113 = .ok (.ifCond .eq 18, 3) := by decide +kernel
theorem dX4_fly_116 : decode cX4_fly 116 = .ok (.aload_n 0, 1) := by decide +kernel
theorem dX4_fly_117 : decode cX4_fly 117 = .ok (.aload_n 2, 1) := by decide +kernel
theorem dX4_fly_118 : decode cX4_fly 118 = .ok (.iload_n 1, 1) := by decide +kernel
theorem dX4_fly_119 : decode cX4_fly 119 = .ok (.iload 4, 2) := by decide +kernel
theorem dX4_fly_121 : decode cX4_fly 121 = .ok (.iload 5, 2) := by decide +kernel
theorem dX4_fly_123 : decode cX4_fly 123 = .ok (.invokevirtual 139, 3) := by decide +kernel
theorem dX4_fly_126 : decode cX4_fly 126 = .ok (.ifCond .eq 5, 3) := by decide +kernel
theorem dX4_fly_129 : decode cX4_fly 129 = .ok (.iconst 1, 1) := by decide +kernel
theorem dX4_fly_130 : decode cX4_fly 130 = .ok (.ireturn, 1) := by decide +kernel
theorem dX4_fly_131 : decode cX4_fly 131 = .ok (.iinc 4 1, 3) := by decide +kernel
theorem dX4_fly_134 : decode cX4_fly 134 = .ok (.goto (-70), 3) := by decide +kernel
theorem dX4_fly_137 : decode cX4_fly 137 = .ok (.iconst 0, 1) := by decide +kernel
theorem dX4_fly_138 : decode cX4_fly 138 = .ok (.ireturn, 1) := by decide +kernel
theorem dX4_flyFrom_0 : decode cX4_flyFrom 0 = .ok (.aload_n 0, 1) := by decide +kernel
theorem dX4_flyFrom_1 : decode cX4_flyFrom 1 = .ok (.aload_n 0, 1) := by decide +kernel
theorem dX4_flyFrom_2 : decode cX4_flyFrom 2 = .ok (.getfield 38, 3) := by decide +kernel
theorem dX4_flyFrom_5 : decode cX4_flyFrom 5 = .ok (.getfield 123, 3) := by decide +kernel
theorem dX4_flyFrom_8 : decode cX4_flyFrom 8 = .ok (.iload_n 2, 1) := by decide +kernel
theorem dX4_flyFrom_9 : decode cX4_flyFrom 9 = .ok (.iaload, 1) := by decide +kernel
theorem dX4_flyFrom_10 : decode cX4_flyFrom 10 = .ok (.iload_n 3, 1) := by decide +kernel
theorem dX4_flyFrom_11 : decode cX4_flyFrom 11 = .ok (.aload_n 1, 1) := by decide +kernel
theorem dX4_flyFrom_12 : decode cX4_flyFrom 12 = .ok (.getfield 128, 3) := by decide +kernel
theorem dX4_flyFrom_15 : decode cX4_flyFrom 15 = .ok (.isub, 1) := by decide +kernel
theorem dX4_flyFrom_16 : decode cX4_flyFrom 16 = .ok (.invokevirtual 143, 3) := by decide +kernel
theorem dX4_flyFrom_19 : decode cX4_flyFrom 19 = .ok (.istore 5, 2) := by decide +kernel
theorem dX4_flyFrom_21 : decode cX4_flyFrom 21 = .ok (.aload_n 0, 1) := by decide +kernel
theorem dX4_flyFrom_22 : decode cX4_flyFrom 22 = .ok (.iload_n 3, 1) := by decide +kernel
theorem dX4_flyFrom_23 : decode cX4_flyFrom 23 = .ok (.iload 4, 2) := by decide +kernel
theorem dX4_flyFrom_25 : decode cX4_flyFrom 25 = .ok (.iadd, 1) := by decide +kernel
theorem dX4_flyFrom_26 : decode cX4_flyFrom 26 = .ok (.aload_n 1, 1) := by decide +kernel
theorem dX4_flyFrom_27 : decode cX4_flyFrom 27 = .ok (.getfield 146, 3) := by decide +kernel
theorem dX4_flyFrom_30 : decode cX4_flyFrom 30 = .ok (.iadd, 1) := by decide +kernel
theorem dX4_flyFrom_31 : decode cX4_flyFrom 31 = .ok (.invokevirtual 149, 3) := by decide +kernel
theorem dX4_flyFrom_34 : decode cX4_flyFrom 34 = .ok (.istore 6, 2) := by decide +kernel
theorem dX4_flyFrom_36 : decode cX4_flyFrom 36 = .ok (.iload 5, 2) := by decide +kernel
theorem dX4_flyFrom_38 : decode cX4_flyFrom 38 = .ok (.iconst (-1), 1) := by decide +kernel
theorem dX4_flyFrom_39 : decode cX4_flyFrom 39 = .ok (.if_icmp .eq 21, 3) := by decide +kernel
theorem dX4_flyFrom_42 : decode cX4_flyFrom 42 = .ok (.iload 6, 2) := by decide +kernel
theorem dX4_flyFrom_44 : decode cX4_flyFrom 44 = .ok (.iconst (-1), 1) := by decide +kernel
theorem dX4_flyFrom_45 : decode cX4_flyFrom 45 = .ok (.if_icmp .eq 15, 3) := by decide +kernel
theorem dX4_flyFrom_48 : decode cX4_flyFrom 48 = .ok (.iload 6, 2) := by decide +kernel
theorem dX4_flyFrom_50 : decode cX4_flyFrom 50 = .ok (.iload 5, 2) := by decide +kernel
theorem dX4_flyFrom_52 : decode cX4_flyFrom 52 = .ok (.isub, 1) := by decide +kernel
theorem dX4_flyFrom_53 : decode cX4_flyFrom 53 = .ok (.aload_n 1, 1) := by decide +kernel
theorem dX4_flyFrom_54 : decode cX4_flyFrom 54 = .ok (.getfield 153, 3) := by decide +kernel
theorem dX4_flyFrom_57 : decode cX4_flyFrom 57 = .ok (.if_icmp .le 5, 3) := by decide +kernel
theorem dX4_flyFrom_60 : decode cX4_flyFrom 60 = .ok (.iconst 0, 1) := by decide +kernel
theorem dX4_flyFrom_61 : decode cX4_flyFrom 61 = .ok (.ireturn, 1) := by decide +kernel
theorem dX4_flyFrom_62 : decode cX4_flyFrom 62 = .ok (.aload_n 0, 1) := by decide +kernel
theorem dX4_flyFrom_63 : decode cX4_flyFrom 63 = .ok (.iload_n 3, 1) := by decide +kernel
theorem dX4_flyFrom_64 : decode cX4_flyFrom 64 = .ok (.iload 4, 2) := by decide +kernel
theorem dX4_flyFrom_66 : decode cX4_flyFrom 66 = .ok (.invokevirtual 67, 3) := by decide +kernel
theorem dX4_flyFrom_69 : decode cX4_flyFrom 69 = .ok (.aload_n 0, 1) := by decide +kernel
theorem dX4_flyFrom_70 : decode cX4_flyFrom 70 = .ok (.getfield 31, 3) := by decide +kernel
theorem dX4_flyFrom_73 : decode cX4_flyFrom 73 = .ok (.getfield 156, 3) := by decide +kernel
theorem dX4_flyFrom_76 : decode cX4_flyFrom 76 = .ok (.ifCond .le 18, 3) := by decide +kernel
theorem dX4_flyFrom_79 : decode cX4_flyFrom 79 = .ok (.aload_n 0, 1) := by decide +kernel
theorem dX4_flyFrom_80 : decode cX4_flyFrom 80 = .ok (.getfield 42, 3) := by decide +kernel
theorem dX4_flyFrom_83 : decode cX4_flyFrom 83 = .ok (.iconst 1, 1) := by decide +kernel
theorem dX4_flyFrom_84 : decode cX4_flyFrom 84 = .ok (.aload_n 0, 1) := by decide +kernel
theorem dX4_flyFrom_85 : decode cX4_flyFrom 85 = .ok (.getfield 11, 3) := by decide +kernel
theorem dX4_flyFrom_88 : decode cX4_flyFrom 88 = .ok (.invokevirtual 73, 3) := by decide +kernel
theorem dX4_flyFrom_91 : decode cX4_flyFrom 91 = .ok (.goto 4, 3) := by decide +kernel
theorem dX4_flyFrom_94 : decode cX4_flyFrom 94 = .ok (.iconst (-1), 1) := by decide +kernel
theorem dX4_flyFrom_95 : decode cX4_flyFrom 95 = .ok (.istore 7, 2) := by decide +kernel
theorem dX4_flyFrom_97 : decode cX4_flyFrom 97 = .ok (.iload_n 3, 1) := by decide +kernel
theorem dX4_flyFrom_98 : decode cX4_flyFrom 98 = .ok (.aload_n 0, 1) := by decide +kernel
theorem dX4_flyFrom_99 : decode cX4_flyFrom 99 = .ok (.getfield 31, 3) := by decide +kernel
theorem dX4_flyFrom_102 : decode cX4_flyFrom 102 = .ok (.invokevirtual 120, 3) := by decide +kernel
theorem dX4_flyFrom_105 : decode cX4_flyFrom 105 = .ok (.isub, 1) := by decide +kernel
theorem dX4_flyFrom_106 : decode cX4_flyFrom 106 = .ok (.aload_n 0, 1) := by decide +kernel
theorem dX4_flyFrom_107 : decode cX4_flyFrom 107 = .ok (.getfield 42, 3) := by decide +kernel
theorem dX4_flyFrom_110 : decode cX4_flyFrom 110 = .ok (.iload 7, 2) := by decide +kernel
theorem dX4_flyFrom_112 : decode cX4_flyFrom 112 = .ok (.aload_n 0, 1) := by decide +kernel
theorem dX4_flyFrom_113 : decode cX4_flyFrom 113 = .ok (.getfield 11, 3) := by decide +kernel
theorem dX4_flyFrom_116 : decode cX4_flyFrom 116 = .ok (.invokevirtual 157, 3) := by decide +kernel
theorem dX4_flyFrom_119 : decode cX4_flyFrom 119 = .ok (.if_icmp .ge 5, 3) := by decide +kernel
theorem dX4_flyFrom_122 : decode cX4_flyFrom 122 = .ok (.iconst 0, 1) := by decide +kernel
theorem dX4_flyFrom_123 : decode cX4_flyFrom 123 = .ok (.ireturn, 1) := by decide +kernel
theorem dX4_flyFrom_124 : decode cX4_flyFrom 124 = .ok (.aload_n 0, 1) := by decide +kernel
theorem dX4_flyFrom_125 : decode cX4_flyFrom 125 = .ok (.getfield 42, 3) := by decide +kernel
theorem dX4_flyFrom_128 : decode cX4_flyFrom 128 = .ok (.iconst 2, 1) := by decide +kernel
theorem dX4_flyFrom_129 : decode cX4_flyFrom 129 = .ok (.aload_n 0, 1) := by decide +kernel
theorem dX4_flyFrom_130 : decode cX4_flyFrom 130 = .ok (.getfield 11, 3) := by decide +kernel
theorem dX4_flyFrom_133 : decode cX4_flyFrom 133 = .ok (.invokevirtual 73, 3) := by decide +kernel
theorem dX4_flyFrom_136 : decode cX4_flyFrom 136 = .ok (.istore 8, 2) := by decide +kernel
theorem dX4_flyFrom_138 : decode cX4_flyFrom 138 = .ok (.iload 6, 2) := by decide +kernel
theorem dX4_flyFrom_140 : decode cX4_flyFrom 140 = .ok (.iload 5, 2) := by decide +kernel
theorem dX4_flyFrom_142 : decode cX4_flyFrom 142 = .ok (.isub, 1) := by decide +kernel
theorem dX4_flyFrom_143 : decode cX4_flyFrom 143 = .ok (.aload_n 1, 1) := by decide +kernel
theorem dX4_flyFrom_144 : decode cX4_flyFrom 144 = .ok (.getfield 153, 3) := by decide +kernel
theorem dX4_flyFrom_147 : decode cX4_flyFrom 147 = .ok (.aload_n 0, 1) := by decide +kernel
theorem dX4_flyFrom_148 : decode cX4_flyFrom 148 = .ok (.getfield 42, 3) := by decide +kernel
theorem dX4_flyFrom_151 : decode cX4_flyFrom 151 = .ok (.iload 8, 2) := by decide +kernel
theorem dX4_flyFrom_153 : decode cX4_flyFrom 153 = .ok (.aload_n 0, 1) := by decide +kernel
theorem dX4_flyFrom_154 : decode cX4_flyFrom 154 = .ok (.getfield 11, 3) := by decide +kernel
theorem dX4_flyFrom_157 : decode cX4_flyFrom 157 = .ok (.invokevirtual 157, 3) := by decide +kernel
theorem dX4_flyFrom_160 : decode cX4_flyFrom 160 = .ok (.isub, 1) := by decide +kernel
theorem dX4_flyFrom_161 : decode cX4_flyFrom 161 = .ok (.if_icmp .le 5, 3) := by decide +kernel
theorem dX4_flyFrom_164 : decode cX4_flyFrom 164 = .ok (.iconst 0, 1) := by decide +kernel
theorem dX4_flyFrom_165 : decode cX4_flyFrom 165 = .ok (.ireturn, 1) := by decide +kernel
theorem dX4_flyFrom_166 : decode cX4_flyFrom 166 = .ok (.aload_n 0, 1) := by decide +kernel
theorem dX4_flyFrom_167 : decode cX4_flyFrom 167 = .ok (.getfield 42, 3) := by decide +kernel
theorem dX4_flyFrom_170 : decode cX4_flyFrom 170 = .ok (.iconst 0, 1) := by decide +kernel
theorem dX4_flyFrom_171 : decode cX4_flyFrom 171 = .ok (.aload_n 0, 1) := by decide +kernel
theorem dX4_flyFrom_172 : decode cX4_flyFrom 172 = .ok (.getfield 11, 3) := by decide +kernel
theorem dX4_flyFrom_175 : decode cX4_flyFrom 175 = .ok (.invokevirtual 73, 3) := by decide +kernel
theorem dX4_flyFrom_178 : decode cX4_flyFrom 178 = .ok (.iconst (-1), 1) := by decide +kernel
theorem dX4_flyFrom_179 : decode cX4_flyFrom 179 = .ok (.if_icmp .eq 5, 3) := by decide +kernel
theorem dX4_flyFrom_182 : decode cX4_flyFrom 182 = .ok (.iconst 0, 1) := by decide +kernel
theorem dX4_flyFrom_183 : decode cX4_flyFrom 183 = .ok (.ireturn, 1) := by decide +kernel
theorem dX4_flyFrom_184 : decode cX4_flyFrom 184 = .ok (.aload_n 0, 1) := by decide +kernel
theorem dX4_flyFrom_185 : decode cX4_flyFrom 185 = .ok (.getfield 31, 3) := by decide +kernel
theorem dX4_flyFrom_188 : decode cX4_flyFrom 188 = .ok (.iload_n 2, 1) := by decide +kernel
theorem dX4_flyFrom_189 : decode cX4_flyFrom 189 = .ok (.aload_n 1, 1) := by decide +kernel
theorem dX4_flyFrom_190 : decode cX4_flyFrom 190 = .ok (.getfield 117, 3) := by decide +kernel
theorem dX4_flyFrom_193 : decode cX4_flyFrom 193 = .ok (.iload 5, 2) := by decide +kernel
theorem dX4_flyFrom_195 : decode cX4_flyFrom 195 = .ok (.iload_n 3, 1) := by decide +kernel
theorem dX4_flyFrom_196 : decode cX4_flyFrom 196 = .ok (.iload 4, 2) := by decide +kernel
theorem dX4_flyFrom_198 : decode cX4_flyFrom 198 = .ok (.iload 6, 2) := by decide +kernel
theorem dX4_flyFrom_200 : decode cX4_flyFrom 200 = .ok (.invokevirtual 160, 3) := by decide +kernel
theorem dX4_flyFrom_203 : decode cX4_flyFrom 203 = .ok (.aload_n 0, 1) := by decide +kernel
theorem dX4_flyFrom_204 : decode cX4_flyFrom 204 = .ok (.getfield 20, 3) := by decide +kernel
theorem dX4_flyFrom_207 : decode cX4_flyFrom 207 = .ok (.iload 5, 2) := by decide +kernel
theorem dX4_flyFrom_209 : decode cX4_flyFrom 209 = .ok (.iconst 1, 1) := by decide +kernel
theorem dX4_flyFrom_210 : decode cX4_flyFrom 210 = .ok (.bastore, 1) := by decide +kernel
theorem dX4_flyFrom_211 : decode cX4_flyFrom 211 = .ok (.aload_n 0, 1) := by decide +kernel
theorem dX4_flyFrom_212 : decode cX4_flyFrom 212 = .ok (.getfield 20, 3) := by decide +kernel
theorem dX4_flyFrom_215 : decode cX4_flyFrom 215 = .ok (.iload 6, 2) := by decide +kernel
theorem dX4_flyFrom_217 : decode cX4_flyFrom 217 = .ok (.iconst 1, 1) := by decide +kernel
theorem dX4_flyFrom_218 : decode cX4_flyFrom 218 = .ok (.bastore, 1) := by decide +kernel
theorem dX4_flyFrom_219 : decode cX4_flyFrom 219 = .ok (.iconst 1, 1) := by decide +kernel
theorem dX4_flyFrom_220 : decode cX4_flyFrom 220 = .ok (.ireturn, 1) := by decide +kernel
theorem dX4_callBack_0 : decode cX4_callBack 0 = .ok (.aload_n 0, 1) := by decide +kernel
theorem dX4_callBack_1 : decode cX4_callBack 1 = .ok (.getfield 31, 3) := by decide +kernel
theorem dX4_callBack_4 : decode cX4_callBack 4 = .ok (.invokevirtual 164, 3) := by decide +kernel
theorem dX4_callBack_7 : decode cX4_callBack 7 = .ok (.istore_n 1, 1) := by decide +kernel
theorem dX4_callBack_8 : decode cX4_callBack 8 = .ok (.aload_n 0, 1) := by decide +kernel
theorem dX4_callBack_9 : decode cX4_callBack 9 = .ok (.getfield 34, 3) := by decide +kernel
theorem dX4_callBack_12 : decode cX4_callBack 12 = .ok (.iload_n 1, 1) := by decide +kernel
theorem dX4_callBack_13 : decode cX4_callBack 13 = .ok (.invokevirtual 49, 3) := by decide +kernel
theorem dX4_callBack_16 : decode cX4_callBack 16 = .ok (.astore_n 2, 1) := by decide +kernel
theorem dX4_callBack_17 : decode cX4_callBack 17 = .ok (.aload_n 2, 1) := by decide +kernel
theorem dX4_callBack_18 : decode cX4_callBack 18 = .ok (.ifnull 55, 3) := by decide +kernel
theorem dX4_callBack_21 : decode cX4_callBack 21 = .ok (.aload_n 0, 1) := by decide +kernel
theorem dX4_callBack_22 : decode cX4_callBack 22 = .ok (.getfield 31, 3) := by decide +kernel
theorem dX4_callBack_25 : decode cX4_callBack 25 = .ok (.iload_n 1, 1) := by decide +kernel
theorem dX4_callBack_26 : decode cX4_callBack 26 = .ok (.invokevirtual 99, 3) := by decide +kernel
theorem dX4_callBack_29 : decode cX4_callBack 29 = .ok (.ifCond .eq 44, 3) := by decide +kernel
theorem dX4_callBack_32 : decode cX4_callBack 32 = .ok (.aload_n 0, 1) := by decide +kernel
theorem dX4_callBack_33 : decode cX4_callBack 33 = .ok (.getfield 20, 3) := by decide +kernel
theorem dX4_callBack_36 : decode cX4_callBack 36 = .ok (.aload_n 0, 1) := by decide +kernel
theorem dX4_callBack_37 : decode cX4_callBack 37 = .ok (.getfield 31, 3) := by decide +kernel
theorem dX4_callBack_40 : decode cX4_callBack 40 = .ok (.getfield 167, 3) := by decide +kernel
theorem dX4_callBack_43 : decode cX4_callBack 43 = .ok (.iload_n 1, 1) := by decide +kernel
theorem dX4_callBack_44 : decode cX4_callBack 44 = .ok (.iaload, 1) := by decide +kernel
theorem dX4_callBack_45 : decode cX4_callBack 45 = .ok (.iconst 0, 1) := by decide +kernel
theorem dX4_callBack_46 : decode cX4_callBack 46 = .ok (.bastore, 1) := by decide +kernel
theorem dX4_callBack_47 : decode cX4_callBack 47 = .ok (.aload_n 0, 1) := by decide +kernel
theorem dX4_callBack_48 : decode cX4_callBack 48 = .ok (.getfield 20, 3) := by decide +kernel
theorem dX4_callBack_51 : decode cX4_callBack 51 = .ok (.aload_n 0, 1) := by decide +kernel
theorem dX4_callBack_52 : decode cX4_callBack 52 = .ok (.getfield 31, 3) := by decide +kernel
theorem dX4_callBack_55 : decode cX4_callBack 55 = .ok (.getfield 170, 3) := by decide +kernel
theorem dX4_callBack_58 : decode cX4_callBack 58 = .ok (.iload_n 1, 1) := by decide +kernel
theorem dX4_callBack_59 : decode cX4_callBack 59 = .ok (.iaload, 1) := by decide +kernel
theorem dX4_callBack_60 : decode cX4_callBack 60 = .ok (.iconst 0, 1) := by decide +kernel
theorem dX4_callBack_61 : decode cX4_callBack 61 = .ok (.bastore, 1) := by decide +kernel
theorem dX4_callBack_62 : decode cX4_callBack 62 = .ok (.aload_n 0, 1) := by decide +kernel
theorem dX4_callBack_63 : decode cX4_callBack 63 = .ok (.getfield 31, 3) := by decide +kernel
theorem dX4_callBack_66 : decode cX4_callBack 66 = .ok (.aload_n 2, 1) := by decide +kernel
theorem dX4_callBack_67 : decode cX4_callBack 67 = .ok (.getfield 117, 3) := by decide +kernel
theorem dX4_callBack_70 : decode cX4_callBack 70 = .ok (.invokevirtual 173, 3) := by decide +kernel
theorem dX4_callBack_73 : decode cX4_callBack 73 = .ok (.return_, 1) := by decide +kernel
theorem dX4_minutesFrom_0 : decode cX4_minutesFrom 0 = .ok (.iload_n 1, 1) := by decide +kernel
theorem dX4_minutesFrom_1 : decode cX4_minutesFrom 1 = .ok (.bipush 10, 2) := by decide +kernel
theorem dX4_minutesFrom_3 : decode cX4_minutesFrom 3 = .ok (.imul, 1) := by decide +kernel
theorem dX4_minutesFrom_4 : decode cX4_minutesFrom 4 = .ok (.aload_n 0, 1) := by decide +kernel
theorem dX4_minutesFrom_5 : decode cX4_minutesFrom 5 = .ok (.getfield 38, 3) := by decide +kernel
theorem dX4_minutesFrom_8 : decode cX4_minutesFrom 8 = .ok (.getfield 177, 3) := by decide +kernel
theorem dX4_minutesFrom_11 : decode cX4_minutesFrom 11 = .ok (.iload_n 2, 1) := by decide +kernel
theorem dX4_minutesFrom_12 : decode cX4_minutesFrom 12 = .ok (.iaload, 1) := by decide +kernel
theorem dX4_minutesFrom_13 : decode cX4_minutesFrom 13 = .ok (.iadd, 1) := by decide +kernel
theorem dX4_minutesFrom_14 : decode cX4_minutesFrom 14 = .ok (.istore_n 3, 1) := by decide +kernel
theorem dX4_minutesFrom_15 : decode cX4_minutesFrom 15 = .ok (.iload_n 3, 1) := by decide +kernel
theorem dX4_minutesFrom_16 : decode cX4_minutesFrom 16 = .ok (.ifCond .lt 21, 3) := by decide +kernel
theorem dX4_minutesFrom_19 : decode cX4_minutesFrom 19 = .ok (.iload_n 3, 1) := by decide +kernel
theorem dX4_minutesFrom_20 : decode cX4_minutesFrom 20 = .ok (.aload_n 0, 1) := by decide +kernel
theorem dX4_minutesFrom_21 : decode cX4_minutesFrom 21 = .ok (.getfield 17, 3) := by decide +kernel
theorem dX4_minutesFrom_24 : decode cX4_minutesFrom 24 = .ok (.arraylength, 1) := by decide +kernel
theorem dX4_minutesFrom_25 : decode cX4_minutesFrom 25 = .ok (.if_icmp .ge 12, 3) := by decide +kernel
theorem dX4_minutesFrom_28 : decode cX4_minutesFrom 28 = .ok (.aload_n 0, 1) := by decide +kernel
theorem dX4_minutesFrom_29 : decode cX4_minutesFrom 29 = .ok (.getfield 17, 3) := by decide +kernel
theorem dX4_minutesFrom_32 : decode cX4_minutesFrom 32 = .ok (.iload_n 3, 1) := by decide +kernel
theorem dX4_minutesFrom_33 : decode cX4_minutesFrom 33 = .ok (.iaload, 1) := by decide +kernel
theorem dX4_minutesFrom_34 : decode cX4_minutesFrom 34 = .ok (.goto 4, 3) := by decide +kernel
theorem dX4_minutesFrom_37 : decode cX4_minutesFrom 37 = .ok (.iconst 0, 1) := by decide +kernel
theorem dX4_minutesFrom_38 : decode cX4_minutesFrom 38 = .ok (.ireturn, 1) := by decide +kernel
theorem dX4_lastFree_0 : decode cX4_lastFree 0 = .ok (.iload_n 2, 1) := by decide +kernel
theorem dX4_lastFree_1 : decode cX4_lastFree 1 = .ok (.sipush 239, 3) := by decide +kernel
theorem dX4_lastFree_4 : decode cX4_lastFree 4 = .ok (.invokestatic 180, 3) := by decide +kernel
theorem dX4_lastFree_7 : decode cX4_lastFree 7 = .ok (.istore_n 3, 1) := by decide +kernel
theorem dX4_lastFree_8 : decode cX4_lastFree 8 = .ok (.iload_n 3, 1) := by decide +kernel
theorem dX4_lastFree_9 : decode cX4_lastFree 9 = .ok (.iload_n 1, 1) := by decide +kernel
theorem dX4_lastFree_10 : decode cX4_lastFree 10 = .ok (.if_icmp .lt 24, 3) := by decide +kernel
theorem dX4_lastFree_13 : decode cX4_lastFree 13 = .ok (.iload_n 3, 1) := by decide +kernel
theorem dX4_lastFree_14 : decode cX4_lastFree 14 = .ok (.ifCond .lt 20, 3) := by decide +kernel
theorem dX4_lastFree_17 : decode cX4_lastFree 17 = .ok (.aload_n 0, 1) := by decide +kernel
theorem dX4_lastFree_18 : decode cX4_lastFree 18 = .ok (.getfield 20, 3) := by decide +kernel
theorem dX4_lastFree_21 : decode cX4_lastFree 21 = .ok (.iload_n 3, 1) := by decide +kernel
theorem dX4_lastFree_22 : decode cX4_lastFree 22 = .ok (.baload, 1) := by decide +kernel
theorem dX4_lastFree_23 : decode cX4_lastFree 23 = .ok (.ifCond .ne 5, 3) := by decide +kernel
theorem dX4_lastFree_26 : decode cX4_lastFree 26 = .ok (.iload_n 3, 1) := by decide +kernel
theorem dX4_lastFree_27 : decode cX4_lastFree 27 = .ok (.ireturn, 1) := by decide +kernel
theorem dX4_lastFree_28 : decode cX4_lastFree 28 = .ok (.iinc 3 (-1), 3) := by decide +kernel
theorem dX4_lastFree_31 : decode cX4_lastFree 31 = .ok (.goto (-23), 3) := by decide +kernel
theorem dX4_lastFree_34 : decode cX4_lastFree 34 = .ok (.iconst (-1), 1) := by decide +kernel
theorem dX4_lastFree_35 : decode cX4_lastFree 35 = .ok (.ireturn, 1) := by decide +kernel
theorem dX4_firstFree_0 : decode cX4_firstFree 0 = .ok (.iconst 0, 1) := by decide +kernel
theorem dX4_firstFree_1 : decode cX4_firstFree 1 = .ok (.iload_n 1, 1) := by decide +kernel
theorem dX4_firstFree_2 : decode cX4_firstFree 2 = .ok (.invokestatic 131, 3) := by decide +kernel
theorem dX4_firstFree_5 : decode cX4_firstFree 5 = .ok (.istore_n 2, 1) := by decide +kernel
theorem dX4_firstFree_6 : decode cX4_firstFree 6 = .ok (.iload_n 2, 1) := by decide +kernel
theorem dX4_firstFree_7 : decode cX4_firstFree 7 = .ok (.sipush 240, 3) := by decide +kernel
theorem dX4_firstFree_10 : decode cX4_firstFree 10 = .ok (.if_icmp .ge 20, 3) := by decide +kernel
theorem dX4_firstFree_13 : decode cX4_firstFree 13 = .ok (.aload_n 0, 1) := by decide +kernel
theorem dX4_firstFree_14 : decode cX4_firstFree 14 = .ok (.getfield 20, 3) := by decide +kernel
theorem dX4_firstFree_17 : decode cX4_firstFree 17 = .ok (.iload_n 2, 1) := by decide +kernel
theorem dX4_firstFree_18 : decode cX4_firstFree 18 = .ok (.baload, 1) := by decide +kernel
theorem dX4_firstFree_19 : decode cX4_firstFree 19 = .ok (.ifCond .ne 5, 3) := by decide +kernel
theorem dX4_firstFree_22 : decode cX4_firstFree 22 = .ok (.iload_n 2, 1) := by decide +kernel
theorem dX4_firstFree_23 : decode cX4_firstFree 23 = .ok (.ireturn, 1) := by decide +kernel
theorem dX4_firstFree_24 : decode cX4_firstFree 24 = .ok (.iinc 2 1, 3) := by decide +kernel
theorem dX4_firstFree_27 : decode cX4_firstFree 27 = .ok (.goto (-21), 3) := by decide +kernel
theorem dX4_firstFree_30 : decode cX4_firstFree 30 = .ok (.iconst (-1), 1) := by decide +kernel
theorem dX4_firstFree_31 : decode cX4_firstFree 31 = .ok (.ireturn, 1) := by decide +kernel
theorem dX4_describe_0 : decode cX4_describe 0 = .ok (.aload_n 0, 1) := by decide +kernel
theorem dX4_describe_1 : decode cX4_describe 1 = .ok (.getfield 34, 3) := by decide +kernel
theorem dX4_describe_4 : decode cX4_describe 4 = .ok (.aload_n 0, 1) := by decide +kernel
theorem dX4_describe_5 : decode cX4_describe 5 = .ok (.getfield 31, 3) := by decide +kernel
theorem dX4_describe_8 : decode cX4_describe 8 = .ok (.invokevirtual 164, 3) := by decide +kernel
theorem dX4_describe_11 : decode cX4_describe 11 = .ok (.invokevirtual 49, 3) := by decide +kernel
theorem dX4_describe_14 : decode cX4_describe 14 = .ok (.astore_n 3, 1) := by decide +kernel
theorem dX4_describe_15 : decode cX4_describe 15 = .ok (.aload_n 0, 1) := by decide +kernel
theorem dX4_describe_16 : decode cX4_describe 16 = .ok (.getfield 11, 3) := by decide +kernel
theorem dX4_describe_19 : decode cX4_describe 19 = .ok (.iconst 0, 1) := by decide +kernel
theorem dX4_describe_20 : decode cX4_describe 20 = .ok (.iload_n 2, 1) := by decide +kernel
theorem dX4_describe_21 : decode cX4_describe 21 = .ok (.iastore, 1) := by decide +kernel
theorem dX4_describe_22 : decode cX4_describe 22 = .ok (.aload_n 0, 1) := by decide +kernel
theorem dX4_describe_23 : decode cX4_describe 23 = .ok (.getfield 11, 3) := by decide +kernel
theorem dX4_describe_26 : decode cX4_describe 26 = .ok (.iconst 1, 1) := by decide +kernel
theorem dX4_describe_27 : decode cX4_describe 27 = .ok (.aload_n 1, 1) := by decide +kernel
theorem dX4_describe_28 : decode cX4_describe 28 = .ok (.getfield 183, 3) := by decide +kernel
theorem dX4_describe_31 : decode cX4_describe 31 = .ok (.iastore, 1) := by decide +kernel
theorem dX4_describe_32 : decode cX4_describe 32 = .ok (.aload_n 0, 1) := by decide +kernel
theorem dX4_describe_33 : decode cX4_describe 33 = .ok (.getfield 11, 3) := by decide +kernel
theorem dX4_describe_36 : decode cX4_describe 36 = .ok (.iconst 2, 1) := by decide +kernel
theorem dX4_describe_37 : decode cX4_describe 37 = .ok (.aload_n 3, 1) := by decide +kernel
theorem dX4_describe_38 : decode cX4_describe 38 = .ok (.ifnonnull 7, 3) := by decide +kernel
theorem dX4_describe_41 : decode cX4_describe 41 = .ok (.iconst (-1), 1) := by decide +kernel
theorem dX4_describe_42 : decode cX4_describe 42 = .ok (.goto 7, 3) := by decide +kernel
theorem dX4_describe_45 : decode cX4_describe 45 = .ok (.aload_n 3, 1) := by decide +kernel
theorem dX4_describe_46 : decode cX4_describe 46 = .ok (.getfield 183, 3) := by decide +kernel
theorem dX4_describe_49 : decode cX4_describe 49 = .ok (.iastore, 1) := by decide +kernel
theorem dX4_describe_50 : decode cX4_describe 50 = .ok (.aload_n 0, 1) := by decide +kernel
theorem dX4_describe_51 : decode cX4_describe 51 = .ok (.getfield 11, 3) := by decide +kernel
theorem dX4_describe_54 : decode cX4_describe 54 = .ok (.iconst 3, 1) := by decide +kernel
theorem dX4_describe_55 : decode cX4_describe 55 = .ok (.aload_n 0, 1) := by decide +kernel
theorem dX4_describe_56 : decode cX4_describe 56 = .ok (.aload_n 1, 1) := by decide +kernel
theorem dX4_describe_57 : decode cX4_describe 57 = .ok (.getfield 186, 3) := by decide +kernel
theorem dX4_describe_60 : decode cX4_describe 60 = .ok (.invokevirtual 189, 3) := by decide +kernel
theorem dX4_describe_63 : decode cX4_describe 63 = .ok (.iastore, 1) := by decide +kernel
theorem dX4_describe_64 : decode cX4_describe 64 = .ok (.aload_n 0, 1) := by decide +kernel
theorem dX4_describe_65 : decode cX4_describe 65 = .ok (.getfield 11, 3) := by decide +kernel
theorem dX4_describe_68 : decode cX4_describe 68 = .ok (.bipush 6, 2) := by decide +kernel
theorem dX4_describe_70 : decode cX4_describe 70 = .ok (.aload_n 0, 1) := by decide +kernel
theorem dX4_describe_71 : decode cX4_describe 71 = .ok (.getfield 34, 3) := by decide +kernel
theorem dX4_describe_74 : decode cX4_describe 74 = .ok (.getfield 192, 3) := by decide +kernel
theorem dX4_describe_77 : decode cX4_describe 77 = .ok (.iastore, 1) := by decide +kernel
theorem dX4_describe_78 : decode cX4_describe 78 = .ok (.aload_n 0, 1) := by decide +kernel
theorem dX4_describe_79 : decode cX4_describe 79 = .ok (.getfield 11, 3) := by decide +kernel
theorem dX4_describe_82 : decode cX4_describe 82 = .ok (.bipush 8, 2) := by decide +kernel
theorem dX4_describe_84 : decode cX4_describe 84 = .ok (.aload_n 1, 1) := by decide +kernel
theorem dX4_describe_85 : decode cX4_describe 85 = .ok (.getfield 117, 3) := by decide +kernel
theorem dX4_describe_88 : decode cX4_describe 88 = .ok (.iastore, 1) := by decide +kernel
theorem dX4_describe_89 : decode cX4_describe 89 = .ok (.return_, 1) := by decide +kernel
theorem dX4_describeBegin_0 : decode cX4_describeBegin 0 = .ok (.aload_n 0, 1) := by decide +kernel
theorem dX4_describeBegin_1 : decode cX4_describeBegin 1 = .ok (.getfield 11, 3) := by decide +kernel
theorem dX4_describeBegin_4 : decode cX4_describeBegin 4 = .ok (.iconst 4, 1) := by decide +kernel
theorem dX4_describeBegin_5 : decode cX4_describeBegin 5 = .ok (.aload_n 0, 1) := by decide +kernel
theorem dX4_describeBegin_6 : decode cX4_describeBegin 6 = .ok (.getfield 38, 3) := by decide +kernel
theorem dX4_describeBegin_9 : decode cX4_describeBegin 9 = .ok (.getfield 177, 3) := by decide +kernel
theorem dX4_describeBegin_12 : decode cX4_describeBegin 12 = .ok (.iload_n 1, 1) := by decide +kernel
theorem dX4_describeBegin_13 : decode cX4_describeBegin 13 = .ok (.iaload, 1) := by decide +kernel
theorem dX4_describeBegin_14 : decode cX4_describeBegin 14 = .ok (.iastore, 1) := by decide +kernel
theorem dX4_describeBegin_15 : decode cX4_describeBegin 15 = .ok (.aload_n 0, 1) := by decide +kernel
theorem dX4_describeBegin_16 : decode cX4_describeBegin 16 = .ok (.getfield 11, 3) := by decide +kernel
theorem dX4_describeBegin_19 : decode cX4_describeBegin 19 = .ok (.iconst 5, 1) := by decide +kernel
theorem dX4_describeBegin_20 : decode cX4_describeBegin 20 = .ok (.iload_n 1, 1) := by decide +kernel
theorem dX4_describeBegin_21 : decode cX4_describeBegin 21 = .ok (.iastore, 1) := by decide +kernel
theorem dX4_describeBegin_22 : decode cX4_describeBegin 22 = .ok (.aload_n 0, 1) := by decide +kernel
theorem dX4_describeBegin_23 : decode cX4_describeBegin 23 = .ok (.getfield 11, 3) := by decide +kernel
theorem dX4_describeBegin_26 : decode cX4_describeBegin 26 = .ok (.bipush 7, 2) := by decide +kernel
theorem dX4_describeBegin_28 : decode cX4_describeBegin 28 = .ok (.iload_n 2, 1) := by decide +kernel
theorem dX4_describeBegin_29 : decode cX4_describeBegin 29 = .ok (.iastore, 1) := by decide +kernel
theorem dX4_describeBegin_30 : decode cX4_describeBegin 30 = .ok (.return_, 1) := by decide +kernel
theorem dX4_flownBy_0 : decode cX4_flownBy 0 = .ok (.iconst 0, 1) := by decide +kernel
theorem dX4_flownBy_1 : decode cX4_flownBy 1 = .ok (.istore_n 2, 1) := by decide +kernel
theorem dX4_flownBy_2 : decode cX4_flownBy 2 = .ok (.iconst 0, 1) := by decide +kernel
theorem dX4_flownBy_3 : decode cX4_flownBy 3 = .ok (.istore_n 3, 1) := by decide +kernel
theorem dX4_flownBy_4 : decode cX4_flownBy 4 = .ok (.iload_n 3, 1) := by decide +kernel
theorem dX4_flownBy_5 : decode cX4_flownBy 5 = .ok (.aload_n 0, 1) := by decide +kernel
theorem dX4_flownBy_6 : decode cX4_flownBy 6 = .ok (.getfield 34, 3) := by decide +kernel
theorem dX4_flownBy_9 : decode cX4_flownBy 9 = .ok (.getfield 96, 3) := by decide +kernel
theorem dX4_flownBy_12 : decode cX4_flownBy 12 = .ok (.if_icmp .ge 47, 3) := by decide +kernel
theorem dX4_flownBy_15 : decode cX4_flownBy 15 = .ok (.aload_n 0, 1) := by decide +kernel
theorem dX4_flownBy_16 : decode cX4_flownBy 16 = .ok (.getfield 34, 3) := by decide +kernel
theorem dX4_flownBy_19 : decode cX4_flownBy 19 = .ok (.iload_n 3, 1) := by decide +kernel
theorem dX4_flownBy_20 : decode cX4_flownBy 20 = .ok (.invokevirtual 49, 3) := by decide +kernel
theorem dX4_flownBy_23 : decode cX4_flownBy 23 = .ok (.astore 4, 2) := by decide +kernel
theorem dX4_flownBy_25 : decode cX4_flownBy 25 = .ok (.aload 4, 2) := by decide +kernel
theorem dX4_flownBy_27 : decode cX4_flownBy 27 = .ok (.ifnull 26, 3) := by decide +kernel
theorem dX4_flownBy_30 : decode cX4_flownBy 30 = .ok (.aload 4, 2) := by decide +kernel
theorem dX4_flownBy_32 : decode cX4_flownBy 32 = .ok (.getfield 186, 3) := by decide +kernel
theorem dX4_flownBy_35 : decode cX4_flownBy 35 = .ok (.iload_n 1, 1) := by decide +kernel
theorem dX4_flownBy_36 : decode cX4_flownBy 36 = .ok (.if_icmp .ne 17, 3) := by decide +kernel
theorem dX4_flownBy_39 : decode cX4_flownBy 39 = .ok (.aload_n 0, 1) := by decide +kernel
theorem dX4_flownBy_40 : decode cX4_flownBy 40 = .ok (.getfield 31, 3) := by decide +kernel
theorem dX4_flownBy_43 : decode cX4_flownBy 43 = .ok (.iload_n 3, 1) := by decide +kernel
theorem dX4_flownBy_44 : decode cX4_flownBy 44 = .ok (.invokevirtual 99, 3) := by decide +kernel
theorem dX4_flownBy_47 : decode cX4_flownBy 47 = .ok (.ifCond .eq 6, 3) := by decide +kernel
theorem dX4_flownBy_50 : decode cX4_flownBy 50 = .ok (.iinc 2 1, 3) := by decide +kernel
theorem dX4_flownBy_53 : decode cX4_flownBy 53 = .ok (.iinc 3 1, 3) := by decide +kernel
theorem dX4_flownBy_56 : decode cX4_flownBy 56 = .ok (.goto (-52), 3) := by decide +kernel
theorem dX4_flownBy_59 : decode cX4_flownBy 59 = .ok (.iload_n 2, 1) := by decide +kernel
theorem dX4_flownBy_60 : decode cX4_flownBy 60 = .ok (.ireturn, 1) := by decide +kernel
theorem dX5_init_0 : decode cX5_init 0 = .ok (.aload_n 0, 1) := by decide +kernel
theorem dX5_init_1 : decode cX5_init 1 = .ok (.invokespecial 3, 3) := by decide +kernel
theorem dX5_init_4 : decode cX5_init 4 = .ok (.aload_n 0, 1) := by decide +kernel
theorem dX5_init_5 : decode cX5_init 5 = .ok (.bipush 24, 2) := by decide +kernel
theorem dX5_init_7 : decode cX5_init 7 = .ok (.newarray .int, 2) := by decide +kernel
theorem dX5_init_9 : decode cX5_init 9 = .ok (.putfield 9, 3) := by decide +kernel
theorem dX5_init_12 : decode cX5_init 12 = .ok (.aload_n 0, 1) := by decide +kernel
theorem dX5_init_13 : decode cX5_init 13 = .ok (.new 13, 3) := by decide +kernel
theorem dX5_init_16 : decode cX5_init 16 = .ok (.dup, 1) := by decide +kernel
theorem dX5_init_17 : decode cX5_init 17 = .ok (.aload_n 1, 1) := by decide +kernel
theorem dX5_init_18 : decode cX5_init 18 = .ok (.invokespecial 15, 3) := by decide +kernel
theorem dX5_init_21 : decode cX5_init 21 = .ok (.putfield 18, 3) := by decide +kernel
theorem dX5_init_24 : decode cX5_init 24 = .ok (.aload_n 0, 1) := by decide +kernel
theorem dX5_init_25 : decode cX5_init 25 = .ok (.iconst 0, 1) := by decide +kernel
theorem dX5_init_26 : decode cX5_init 26 = .ok (.putfield 22, 3) := by decide +kernel
theorem dX5_init_29 : decode cX5_init 29 = .ok (.aload_n 0, 1) := by decide +kernel
theorem dX5_init_30 : decode cX5_init 30 = .ok (.iconst 0, 1) := by decide +kernel
theorem dX5_init_31 : decode cX5_init 31 = .ok (.putfield 26, 3) := by decide +kernel
theorem dX5_init_34 : decode cX5_init 34 = .ok (.aload_n 0, 1) := by decide +kernel
theorem dX5_init_35 : decode cX5_init 35 = .ok (.iconst 0, 1) := by decide +kernel
theorem dX5_init_36 : decode cX5_init 36 = .ok (.putfield 29, 3) := by decide +kernel
theorem dX5_init_39 : decode cX5_init 39 = .ok (.aload_n 0, 1) := by decide +kernel
theorem dX5_init_40 : decode cX5_init 40 = .ok (.iconst 0, 1) := by decide +kernel
theorem dX5_init_41 : decode cX5_init 41 = .ok (.putfield 32, 3) := by decide +kernel
theorem dX5_init_44 : decode cX5_init 44 = .ok (.return_, 1) := by decide +kernel
theorem dX5_placeReached_0 : decode cX5_placeReached 0 = .ok (.aload_n 0, 1) := by decide +kernel
theorem dX5_placeReached_1 : decode cX5_placeReached 1 = .ok (.getfield 18, 3) := by decide +kernel
theorem dX5_placeReached_4 : decode cX5_placeReached 4 = .ok (.getfield 35, 3) := by decide +kernel
theorem dX5_placeReached_7 : decode cX5_placeReached 7 = .ok (.ireturn, 1) := by decide +kernel
theorem dX5_compile_0 : decode cX5_compile 0 = .ok (.aload_n 0, 1) := by decide +kernel
theorem dX5_compile_1 : decode cX5_compile 1 = .ok (.aload_n 1, 1) := by decide +kernel
theorem dX5_compile_2 : decode cX5_compile 2 = .ok (.invokevirtual 38, 3) := by decide +kernel
theorem dX5_compile_5 : decode cX5_compile 5 = .ok (.iconst 0, 1) := by decide +kernel
theorem dX5_compile_6 : decode cX5_compile 6 = .ok (.istore_n 2, 1) := by decide +kernel
theorem dX5_compile_7 : decode cX5_compile 7 = .ok (.iload_n 2, 1) := by decide +kernel
theorem dX5_compile_8 : decode cX5_compile 8 = .ok (.sipush 400, 3) := by decide +kernel
theorem dX5_compile_11 : decode cX5_compile 11 = .ok (.if_icmp .gt 89, 3) := by decide +kernel
theorem dX5_compile_14 : decode cX5_compile 14 = .ok (.aload_n 0, 1) := by decide +kernel
theorem dX5_compile_15 : decode cX5_compile 15 = .ok (.getfield 18, 3) := by decide +kernel
theorem dX5_compile_18 : decode cX5_compile 18 = .ok (.invokevirtual 42, 3) := by decide +kernel
theorem dX5_compile_21 : decode cX5_compile 21 = .ok (.aload_n 0, 1) := by decide +kernel
theorem dX5_compile_22 : decode cX5_compile 22 = .ok (.getfield 18, 3) := by decide +kernel
theorem dX5_compile_25 : decode cX5_compile 25 = .ok (.getfield 45, 3) := by decide +kernel
theorem dX5_compile_28 : decode cX5_compile 28 = .ok (.bipush 26, 2) := by decide +kernel
theorem dX5_compile_30 : decode cX5_compile 30 = .ok (.if_icmp .ne 12, 3) := by decide +kernel
theorem dX5_compile_33 : decode cX5_compile 33 = .ok (.aload_n 0, 1) := by decide +kernel
theorem dX5_compile_34 : decode cX5_compile 34 = .ok (.getfield 26, 3) := by decide +kernel
theorem dX5_compile_37 : decode cX5_compile 37 = .ok (.ifCond .ne 5, 3) := by decide +kernel
theorem dX5_compile_40 : decode cX5_compile 40 = .ok (.iconst 0, 1) := by decide +kernel
theorem dX5_compile_41 : decode cX5_compile 41 = .ok (.ireturn, 1) := by decide +kernel
theorem dX5_compile_42 : decode cX5_compile 42 = .ok (.aload_n 0, 1) := by decide +kernel
theorem dX5_compile_43 : decode cX5_compile 43 = .ok (.aload_n 0, 1) := by decide +kernel
theorem dX5_compile_44 : decode cX5_compile 44 = .ok (.getfield 18, 3) := by decide +kernel
theorem dX5_compile_47 : decode cX5_compile 47 = .ok (.getfield 45, 3) := by decide +kernel
theorem dX5_compile_50 : decode cX5_compile 50 = .ok (.invokevirtual 48, 3) := by decide +kernel
theorem dX5_compile_53 : decode cX5_compile 53 = .ok (.ifCond .ne 5, 3) := by decide +kernel
theorem dX5_compile_56 : decode cX5_compile 56 = .ok (.iconst 1, 1) := by decide +kernel
theorem dX5_compile_57 : decode cX5_compile 57 = .ok (.ireturn, 1) := by decide +kernel
theorem dX5_compile_58 : decode cX5_compile 58 = .ok (.iload_n 2, 1) := by decide +kernel
theorem dX5_compile_59 : decode cX5_compile 59 = .ok (.sipush 400, 3) := by decide +kernel
theorem dX5_compile_62 : decode cX5_compile 62 = .ok (.if_icmp .eq 18, 3) := by decide +kernel
theorem dX5_compile_65 : decode cX5_compile 65 = .ok (.aload_n 0, 1) := by decide +kernel
theorem dX5_compile_66 : decode cX5_compile 66 = .ok (.aload_n 1, 1) := by decide +kernel
theorem dX5_compile_67 : decode cX5_compile 67 = .ok (.aload_n 0, 1) := by decide +kernel
theorem dX5_compile_68 : decode cX5_compile 68 = .ok (.getfield 18, 3) := by decide +kernel
theorem dX5_compile_71 : decode cX5_compile 71 = .ok (.getfield 45, 3) := by decide +kernel
theorem dX5_compile_74 : decode cX5_compile 74 = .ok (.invokevirtual 52, 3) := by decide +kernel
theorem dX5_compile_77 : decode cX5_compile 77 = .ok (.ifCond .eq 5, 3) := by decide +kernel
theorem dX5_compile_80 : decode cX5_compile 80 = .ok (.iconst 2, 1) := by decide +kernel
theorem dX5_compile_81 : decode cX5_compile 81 = .ok (.ireturn, 1) := by decide +kernel
theorem dX5_compile_82 : decode cX5_compile 82 = .ok (.aload_n 0, 1) := by decide +kernel
theorem dX5_compile_83 : decode cX5_compile 83 = .ok (.aload_n 1, 1) := by decide +kernel
theorem dX5_compile_84 : decode cX5_compile 84 = .ok (.aload_n 0, 1) := by decide +kernel
theorem dX5_compile_85 : decode cX5_compile 85 = .ok (.getfield 18, 3) := by decide +kernel
theorem dX5_compile_88 : decode cX5_compile 88 = .ok (.getfield 45, 3) := by decide +kernel
theorem dX5_compile_91 : decode cX5_compile 91 = .ok (.invokevirtual 56, 3) := by decide +kernel
theorem dX5_compile_94 : decode cX5_compile 94 = .ok (.iinc 2 1, 3) := by decide +kernel
theorem dX5_compile_97 : decode cX5_compile 97 = .ok (.goto (-90), 3) := by decide +kernel
theorem dX5_compile_100 : decode cX5_compile 100 = .ok (.iconst 2, 1) := by decide +kernel
theorem dX5_compile_101 : decode cX5_compile 101 = .ok (.ireturn, 1) := by decide +kernel
theorem dX5_start_0 : decode cX5_start 0 = .ok (.aload_n 1, 1) := by decide +kernel
theorem dX5_start_1 : decode cX5_start 1 = .ok (.invokevirtual 60, 3) := by decide +kernel
theorem dX5_start_4 : decode cX5_start 4 = .ok (.aload_n 0, 1) := by decide +kernel
theorem dX5_start_5 : decode cX5_start 5 = .ok (.getfield 18, 3) := by decide +kernel
theorem dX5_start_8 : decode cX5_start 8 = .ok (.invokevirtual 65, 3) := by decide +kernel
theorem dX5_start_11 : decode cX5_start 11 = .ok (.aload_n 0, 1) := by decide +kernel
theorem dX5_start_12 : decode cX5_start 12 = .ok (.iconst 0, 1) := by decide +kernel
theorem dX5_start_13 : decode cX5_start 13 = .ok (.putfield 22, 3) := by decide +kernel
theorem dX5_start_16 : decode cX5_start 16 = .ok (.aload_n 0, 1) := by decide +kernel
theorem dX5_start_17 : decode cX5_start 17 = .ok (.iconst 0, 1) := by decide +kernel
theorem dX5_start_18 : decode cX5_start 18 = .ok (.putfield 26, 3) := by decide +kernel
theorem dX5_start_21 : decode cX5_start 21 = .ok (.aload_n 0, 1) := by decide +kernel
theorem dX5_start_22 : decode cX5_start 22 = .ok (.iconst 0, 1) := by decide +kernel
theorem dX5_start_23 : decode cX5_start 23 = .ok (.putfield 29, 3) := by decide +kernel
theorem dX5_start_26 : decode cX5_start 26 = .ok (.aload_n 0, 1) := by decide +kernel
theorem dX5_start_27 : decode cX5_start 27 = .ok (.iconst 0, 1) := by decide +kernel
theorem dX5_start_28 : decode cX5_start 28 = .ok (.putfield 32, 3) := by decide +kernel
theorem dX5_start_31 : decode cX5_start 31 = .ok (.return_, 1) := by decide +kernel
theorem dX5_goesOnWith_0 : decode cX5_goesOnWith 0 = .ok (.aload_n 0, 1) := by decide +kernel
theorem dX5_goesOnWith_1 : decode cX5_goesOnWith 1 = .ok (.getfield 26, 3) := by decide +kernel
theorem dX5_goesOnWith_4 : decode cX5_goesOnWith 4 = .ok (.tableswitch 84 0 2 #[28, 48, 59], 28) := by decide +kernel
theorem dX5_goesOnWith_32 : decode cX5_goesOnWith 32 = .ok (.iload_n 1, 1) := by decide +kernel
theorem dX5_goesOnWith_33 : decode cX5_goesOnWith 33 = .ok (.ifCond .eq 13, 3) := by decide +kernel
theorem dX5_goesOnWith_36 : decode cX5_goesOnWith 36 = .ok (.iload_n 1, 1) := by decide +kernel
theorem dX5_goesOnWith_37 : decode cX5_goesOnWith 37 = .ok (.iconst 1, 1) := by decide +kernel
theorem dX5_goesOnWith_38 : decode cX5_goesOnWith 38 = .ok (.if_icmp .eq 8, 3) := by decide +kernel
theorem dX5_goesOnWith_41 : decode cX5_goesOnWith 41 = .ok (.iload_n 1, 1) := by decide +kernel
theorem dX5_goesOnWith_42 : decode cX5_goesOnWith 42 = .ok (.iconst 2, 1) := by decide +kernel
theorem dX5_goesOnWith_43 : decode cX5_goesOnWith 43 = .ok (.if_icmp .ne 7, 3) := by decide +kernel
theorem dX5_goesOnWith_46 : decode cX5_goesOnWith 46 = .ok (.iconst 1, 1) := by decide +kernel
theorem dX5_goesOnWith_47 : decode cX5_goesOnWith 47 = .ok (.goto 4, 3) := by decide +kernel
theorem dX5_goesOnWith_50 : decode cX5_goesOnWith 50 = .ok (.iconst 0, 1) := by decide +kernel
theorem dX5_goesOnWith_51 : decode cX5_goesOnWith 51 = .ok (.ireturn, 1) := by decide +kernel
theorem dX5_goesOnWith_52 : decode cX5_goesOnWith 52 = .ok (.iload_n 1, 1) := by decide +kernel
theorem dX5_goesOnWith_53 : decode cX5_goesOnWith 53 = .ok (.iconst 3, 1) := by decide +kernel
theorem dX5_goesOnWith_54 : decode cX5_goesOnWith 54 = .ok (.if_icmp .ne 7, 3) := by decide +kernel
theorem dX5_goesOnWith_57 : decode cX5_goesOnWith 57 = .ok (.iconst 1, 1) := by decide +kernel
theorem dX5_goesOnWith_58 : decode cX5_goesOnWith 58 = .ok (.goto 4, 3) := by decide +kernel
theorem dX5_goesOnWith_61 : decode cX5_goesOnWith 61 = .ok (.iconst 0, 1) := by decide +kernel
theorem dX5_goesOnWith_62 : decode cX5_goesOnWith 62 = .ok (.ireturn, 1) := by decide +kernel
theorem dX5_goesOnWith_63 : decode cX5_goesOnWith 63 = .ok (.iload_n 1, 1) := by decide +kernel
theorem dX5_goesOnWith_64 : decode cX5_goesOnWith 64 = .ok (.bipush 25, 2) := by decide +kernel
theorem dX5_goesOnWith_66 : decode cX5_goesOnWith 66 = .ok (.if_icmp .eq 16, 3) := by decide +kernel
theorem dX5_goesOnWith_69 : decode cX5_goesOnWith 69 = .ok (.iload_n 1, 1) := by decide +kernel
theorem dX5_goesOnWith_70 : decode cX5_goesOnWith 70 = .ok (.bipush 23, 2) := by decide +kernel
theorem dX5_goesOnWith_72 : decode cX5_goesOnWith 72 = .ok (.if_icmp .eq 10, 3) := by decide +kernel
theorem dX5_goesOnWith_75 : decode cX5_goesOnWith 75 = .ok (.iload_n 1, 1) := by decide +kernel
theorem dX5_goesOnWith_76 : decode cX5_goesOnWith 76 = .ok (.invokestatic 68, 3) := by decide +kernel
theorem dX5_goesOnWith_79 : decode cX5_goesOnWith 79 = .ok (.ifCond .eq 7, 3) := by decide +kernel
theorem dX5_goesOnWith_82 : decode cX5_goesOnWith 82 = .ok (.iconst 1, 1) := by decide +kernel
theorem dX5_goesOnWith_83 : decode cX5_goesOnWith 83 = .ok (.goto 4, 3) := by decide +kernel
theorem dX5_goesOnWith_86 : decode cX5_goesOnWith 86 = .ok (.iconst 0, 1) := by decide +kernel
theorem dX5_goesOnWith_87 : decode cX5_goesOnWith 87 = .ok (.ireturn, 1) := by decide +kernel
theorem dX5_goesOnWith_88 : decode cX5_goesOnWith 88 = .ok (.aload_n 0, 1) := by decide +kernel
theorem dX5_goesOnWith_89 : decode cX5_goesOnWith 89 = .ok (.iload_n 1, 1) := by decide +kernel
theorem dX5_goesOnWith_90 : decode cX5_goesOnWith 90 = .ok (.invokevirtual 71, 3) := by decide +kernel
theorem dX5_goesOnWith_93 : decode cX5_goesOnWith 93 = .ok (.ireturn, 1) := by decide +kernel
theorem dX5_goesOnBehindUnit_0 : decode cX5_goesOnBehindUnit 0 = .ok (.iload_n 1, 1) := by decide +kernel
theorem dX5_goesOnBehindUnit_1 : decode cX5_goesOnBehindUnit 1 = .ok (.bipush 16, 2) := by decide +kernel
theorem dX5_goesOnBehindUnit_3 : decode cX5_goesOnBehindUnit 3 = .ok (.if_icmp .eq 15, 3) := by decide +kernel
theorem dX5_goesOnBehindUnit_6 : decode cX5_goesOnBehindUnit 6 = .ok (.iload_n 1, 1) := by decide +kernel
theorem dX5_goesOnBehindUnit_7 : decode cX5_goesOnBehindUnit 7 = .ok (.bipush 17, 2) := by decide +kernel
theorem dX5_goesOnBehindUnit_9 : decode cX5_goesOnBehindUnit 9 = .ok (.if_icmp .eq 9, 3) := by decide +kernel
theorem dX5_goesOnBehindUnit_12 : decode cX5_goesOnBehindUnit 12 = .ok (.iload_n 1, 1) := by decide +kernel
theorem dX5_goesOnBehindUnit_13 : decode cX5_goesOnBehindUnit 13 = .ok (.bipush 18, 2) := by decide +kernel
theorem dX5_goesOnBehindUnit_15 : decode cX5_goesOnBehindUnit 15 = .ok (.if_icmp .ne 5, 3) := by decide +kernel
theorem dX5_goesOnBehindUnit_18 : decode cX5_goesOnBehindUnit 18 = .ok (.iconst 1, 1) := by decide +kernel
theorem dX5_goesOnBehindUnit_19 : decode cX5_goesOnBehindUnit 19 = .ok (.ireturn, 1) := by decide +kernel
theorem dX5_goesOnBehindUnit_20 : decode cX5_goesOnBehindUnit 20 = .ok (.aload_n 0, 1) := by decide +kernel
theorem dX5_goesOnBehindUnit_21 : decode cX5_goesOnBehindUnit 21 = .ok (.getfield 32, 3) := by decide +kernel
theorem dX5_goesOnBehindUnit_24 : decode cX5_goesOnBehindUnit 24 = .ok (.ifCond .le 15, 3) := by decide +kernel
theorem dX5_goesOnBehindUnit_27 : decode cX5_goesOnBehindUnit 27 = .ok (.iload_n 1, 1) := by decide +kernel
theorem dX5_goesOnBehindUnit_28 : decode cX5_goesOnBehindUnit 28 = .ok (.bipush 24, 2) := by decide +kernel
theorem dX5_goesOnBehindUnit_30 : decode cX5_goesOnBehindUnit 30 = .ok (.if_icmp .ne 7, 3) := by decide +kernel
theorem dX5_goesOnBehindUnit_33 : decode cX5_goesOnBehindUnit 33 = .ok (.iconst 1, 1) := by decide +kernel
theorem dX5_goesOnBehindUnit_34 : decode cX5_goesOnBehindUnit 34 = .ok (.goto 4, 3) := by decide +kernel
theorem dX5_goesOnBehindUnit_37 : decode cX5_goesOnBehindUnit 37 = .ok (.iconst 0, 1) := by decide +kernel
theorem dX5_goesOnBehindUnit_38 : decode cX5_goesOnBehindUnit 38 = .ok (.ireturn, 1) := by decide +kernel
theorem dX5_goesOnBehindUnit_39 : decode cX5_goesOnBehindUnit 39 = .ok (.aload_n 0, 1) := by decide +kernel
theorem dX5_goesOnBehindUnit_40 : decode cX5_goesOnBehindUnit 40 = .ok (.getfield 29, 3) := by decide +kernel
theorem dX5_goesOnBehindUnit_43 : decode cX5_goesOnBehindUnit 43 = .ok (.lookupswitch 47 #[(0, 25), (1, 42)], 25) := by decide +kernel
theorem dX5_goesOnBehindUnit_68 : decode cX5_goesOnBehindUnit 68 = .ok (.iload_n 1, 1) := by decide +kernel
theorem dX5_goesOnBehindUnit_69 : decode cX5_goesOnBehindUnit 69 = .ok (.iconst 3, 1) := by decide +kernel
theorem dX5_goesOnBehindUnit_70 : decode cX5_goesOnBehindUnit 70 = .ok (.if_icmp .eq 9, 3) := by decide +kernel
theorem dX5_goesOnBehindUnit_73 : decode cX5_goesOnBehindUnit 73 = .ok (.iload_n 1, 1) := by decide +kernel
theorem dX5_goesOnBehindUnit_74 : decode cX5_goesOnBehindUnit 74 = .ok (.bipush 15, 2) := by decide +kernel
theorem dX5_goesOnBehindUnit_76 : decode cX5_goesOnBehindUnit 76 = .ok (.if_icmp .ne 7, 3) := by decide +kernel
theorem dX5_goesOnBehindUnit_79 : decode cX5_goesOnBehindUnit 79 = .ok (.iconst 1, 1) := by decide +kernel
theorem dX5_goesOnBehindUnit_80 : decode cX5_goesOnBehindUnit 80 = .ok (.goto 4, 3) := by decide +kernel
theorem dX5_goesOnBehindUnit_83 : decode cX5_goesOnBehindUnit 83 = .ok (.iconst 0, 1) := by decide +kernel
theorem dX5_goesOnBehindUnit_84 : decode cX5_goesOnBehindUnit 84 = .ok (.ireturn, 1) := by decide +kernel
theorem dX5_goesOnBehindUnit_85 : decode cX5_goesOnBehindUnit 85 = .ok (.iload_n 1, 1) := by decide +kernel
theorem dX5_goesOnBehindUnit_86 : decode cX5_goesOnBehindUnit 86 = .ok (.invokestatic 74, 3) := by decide +kernel
theorem dX5_goesOnBehindUnit_89 : decode cX5_goesOnBehindUnit 89 = .ok (.ireturn, 1) := by decide +kernel
theorem dX5_goesOnBehindUnit_90 : decode cX5_goesOnBehindUnit 90 = .ok (.iload_n 1, 1) := by decide +kernel
theorem dX5_goesOnBehindUnit_91 : decode cX5_goesOnBehindUnit 91 = .ok (.iconst 5, 1) := by decide +kernel
theorem dX5_goesOnBehindUnit_92 : decode cX5_goesOnBehindUnit 92 = .ok (.if_icmp .eq 14, 3) := by decide +kernel
theorem dX5_goesOnBehindUnit_95 : decode cX5_goesOnBehindUnit 95 = .ok (.iload_n 1, 1) := by decide +kernel
theorem dX5_goesOnBehindUnit_96 : decode cX5_goesOnBehindUnit 96 = .ok (.iconst 4, 1) := by decide +kernel
theorem dX5_goesOnBehindUnit_97 : decode cX5_goesOnBehindUnit 97 = .ok (.if_icmp .eq 9, 3) := by decide +kernel
theorem dX5_goesOnBehindUnit_100 : decode cX5_goesOnBehindUnit 100 = .ok (.iload_n 1, 1) := by decide +kernel
theorem dX5_goesOnBehindUnit_101 : decode cX5_goesOnBehindUnit 101 = .ok (.bipush 15, 2) := by decide +kernel
theorem dX5_goesOnBehindUnit_103 : decode cX5_goesOnBehindUnit 103 = .ok (.if_icmp .ne 7, 3) := by decide +kernel
theorem dX5_goesOnBehindUnit_106 : decode cX5_goesOnBehindUnit 106 = .ok (.iconst 1, 1) := by decide +kernel
theorem dX5_goesOnBehindUnit_107 : decode cX5_goesOnBehindUnit 107 = .ok (.goto 4, 3) := by decide +kernel
theorem dX5_goesOnBehindUnit_110 : decode cX5_goesOnBehindUnit 110 = .ok (.iconst 0, 1) := by decide +kernel
theorem dX5_goesOnBehindUnit_111 : decode cX5_goesOnBehindUnit 111 = .ok (.ireturn, 1) := by decide +kernel
theorem dX5_lacksRoomFor_0 : decode cX5_lacksRoomFor 0 = .ok (.aload_n 0, 1) := by decide +kernel
theorem dX5_lacksRoomFor_1 : decode cX5_lacksRoomFor 1 = .ok (.getfield 26, 3) := by decide +kernel
theorem dX5_lacksRoomFor_4 : decode cX5_lacksRoomFor 4 = .ok (.ifCond .ne 14, 3) := by decide +kernel
theorem dX5_lacksRoomFor_7 : decode cX5_lacksRoomFor 7 = .ok (.aload_n 1, 1) := by decide +kernel
theorem dX5_lacksRoomFor_8 : decode cX5_lacksRoomFor 8 = .ok (.invokevirtual 77, 3) := by decide +kernel
theorem dX5_lacksRoomFor_11 : decode cX5_lacksRoomFor 11 = .ok (.ifCond .eq 7, 3) := by decide +kernel
theorem dX5_lacksRoomFor_14 : decode cX5_lacksRoomFor 14 = .ok (.iconst 1, 1) := by decide +kernel
theorem dX5_lacksRoomFor_15 : decode cX5_lacksRoomFor 15 = .ok (.goto 4, 3) := by decide +kernel
theorem dX5_lacksRoomFor_18 : decode cX5_lacksRoomFor 18 = .ok (.iconst 0, 1) := by decide +kernel
theorem dX5_lacksRoomFor_19 : decode cX5_lacksRoomFor 19 = .ok (.istore_n 3, 1) := by decide +kernel
theorem dX5_lacksRoomFor_20 : decode cX5_lacksRoomFor 20 = .ok (.iload_n 3, 1) := by decide +kernel
theorem dX5_lacksRoomFor_21 : decode cX5_lacksRoomFor 21 = .ok (.ifCond .ne 18, 3) := by decide +kernel
theorem dX5_lacksRoomFor_24 : decode cX5_lacksRoomFor 24 = .ok (.iload_n 2, 1) := by decide +kernel
theorem dX5_lacksRoomFor_25 : decode cX5_lacksRoomFor 25 = .ok (.bipush 23, 2) := by decide +kernel
theorem dX5_lacksRoomFor_27 : decode cX5_lacksRoomFor 27 = .ok (.if_icmp .ne 16, 3) := by decide +kernel
theorem dX5_lacksRoomFor_30 : decode cX5_lacksRoomFor 30 = .ok (.aload_n 0, 1) := by decide +kernel
theorem dX5_lacksRoomFor_31 : decode cX5_lacksRoomFor 31 = .ok (.getfield 32, 3) := by decide +kernel
theorem dX5_lacksRoomFor_34 : decode cX5_lacksRoomFor 34 = .ok (.bipush 6, 2) := by decide +kernel
theorem dX5_lacksRoomFor_36 : decode cX5_lacksRoomFor 36 = .ok (.if_icmp .lt 7, 3) := by decide +kernel
theorem dX5_lacksRoomFor_39 : decode cX5_lacksRoomFor 39 = .ok (.iconst 1, 1) := by decide +kernel
theorem dX5_lacksRoomFor_40 : decode cX5_lacksRoomFor 40 = .ok (.goto 4, 3) := by decide +kernel
theorem dX5_lacksRoomFor_43 : decode cX5_lacksRoomFor 43 = .ok (.iconst 0, 1) := by decide +kernel
theorem dX5_lacksRoomFor_44 : decode cX5_lacksRoomFor 44 = .ok (.ireturn, 1) := by decide +kernel
theorem dX5_take_0 : decode cX5_take 0 = .ok (.aload_n 0, 1) := by decide +kernel
theorem dX5_take_1 : decode cX5_take 1 = .ok (.getfield 26, 3) := by decide +kernel
theorem dX5_take_4 : decode cX5_take 4 = .ok (.tableswitch 79 0 2 #[28, 62, 70], 28) := by decide +kernel
theorem dX5_take_32 : decode cX5_take 32 = .ok (.aload_n 1, 1) := by decide +kernel
theorem dX5_take_33 : decode cX5_take 33 = .ok (.iload_n 2, 1) := by decide +kernel
theorem dX5_take_34 : decode cX5_take 34 = .ok (.invokevirtual 81, 3) := by decide +kernel
theorem dX5_take_37 : decode cX5_take 37 = .ok (.aload_n 0, 1) := by decide +kernel
theorem dX5_take_38 : decode cX5_take 38 = .ok (.iload_n 2, 1) := by decide +kernel
theorem dX5_take_39 : decode cX5_take 39 = .ok (.ifCond .ne 7, 3) := by decide +kernel
theorem dX5_take_42 : decode cX5_take 42 = .ok (.iconst 1, 1) := by decide +kernel
theorem dX5_take_43 : decode cX5_take 43 = .ok (.goto 4, 3) := by decide +kernel
theorem dX5_take_46 : decode cX5_take 46 = .ok (.iconst 0, 1) := by decide +kernel
theorem dX5_take_47 : decode cX5_take 47 = .ok (.putfield 29, 3) := by decide +kernel
theorem dX5_take_50 : decode cX5_take 50 = .ok (.aload_n 0, 1) := by decide +kernel
theorem dX5_take_51 : decode cX5_take 51 = .ok (.iload_n 2, 1) := by decide +kernel
theorem dX5_take_52 : decode cX5_take 52 = .ok (.ifCond .ne 7, 3) := by decide +kernel
theorem dX5_take_55 : decode cX5_take 55 = .ok (.iconst 1, 1) := by decide +kernel
theorem dX5_take_56 : decode cX5_take 56 = .ok (.goto 4, 3) := by decide +kernel
theorem dX5_take_59 : decode cX5_take 59 = .ok (.iconst 2, 1) := by decide +kernel
theorem dX5_take_60 : decode cX5_take 60 = .ok (.putfield 26, 3) := by decide +kernel
theorem dX5_take_63 : decode cX5_take 63 = .ok (.goto 26, 3) := by decide +kernel
theorem dX5_take_66 : decode cX5_take 66 = .ok (.aload_n 0, 1) := by decide +kernel
theorem dX5_take_67 : decode cX5_take 67 = .ok (.iconst 2, 1) := by decide +kernel
theorem dX5_take_68 : decode cX5_take 68 = .ok (.putfield 26, 3) := by decide +kernel
theorem dX5_take_71 : decode cX5_take 71 = .ok (.goto 18, 3) := by decide +kernel
theorem dX5_take_74 : decode cX5_take 74 = .ok (.aload_n 0, 1) := by decide +kernel
theorem dX5_take_75 : decode cX5_take 75 = .ok (.aload_n 1, 1) := by decide +kernel
theorem dX5_take_76 : decode cX5_take 76 = .ok (.iload_n 2, 1) := by decide +kernel
theorem dX5_take_77 : decode cX5_take 77 = .ok (.invokevirtual 85, 3) := by decide +kernel
theorem dX5_take_80 : decode cX5_take 80 = .ok (.goto 9, 3) := by decide +kernel
theorem dX5_take_83 : decode cX5_take 83 = .ok (.aload_n 0, 1) := by decide +kernel
theorem dX5_take_84 : decode cX5_take 84 = .ok (.aload_n 1, 1) := by decide +kernel
theorem dX5_take_85 : decode cX5_take 85 = .ok (.iload_n 2, 1) := by decide +kernel
theorem dX5_take_86 : decode cX5_take 86 = .ok (.invokevirtual 88, 3) := by decide +kernel
theorem dX5_take_89 : decode cX5_take 89 = .ok (.return_, 1) := by decide +kernel
theorem dX5_takeUnit_0 : decode cX5_takeUnit 0 = .ok (.iload_n 2, 1) := by decide +kernel
theorem dX5_takeUnit_1 : decode cX5_takeUnit 1 = .ok (.bipush 23, 2) := by decide +kernel
theorem dX5_takeUnit_3 : decode cX5_takeUnit 3 = .ok (.if_icmp .ne 21, 3) := by decide +kernel
theorem dX5_takeUnit_6 : decode cX5_takeUnit 6 = .ok (.aload_n 0, 1) := by decide +kernel
theorem dX5_takeUnit_7 : decode cX5_takeUnit 7 = .ok (.iload_n 2, 1) := by decide +kernel
theorem dX5_takeUnit_8 : decode cX5_takeUnit 8 = .ok (.invokevirtual 91, 3) := by decide +kernel
theorem dX5_takeUnit_11 : decode cX5_takeUnit 11 = .ok (.aload_n 0, 1) := by decide +kernel
theorem dX5_takeUnit_12 : decode cX5_takeUnit 12 = .ok (.dup, 1) := by decide +kernel
theorem dX5_takeUnit_13 : decode cX5_takeUnit 13 = .ok (.getfield 32, 3) := by decide +kernel
theorem dX5_takeUnit_16 : decode cX5_takeUnit 16 = .ok (.iconst 1, 1) := by decide +kernel
theorem dX5_takeUnit_17 : decode cX5_takeUnit 17 = .ok (.iadd, 1) := by decide +kernel
theorem dX5_takeUnit_18 : decode cX5_takeUnit 18 = .ok (.putfield 32, 3) := by decide +kernel
theorem dX5_takeUnit_21 : decode cX5_takeUnit 21 = .ok (.goto 20, 3) := by decide +kernel
theorem dX5_takeUnit_24 : decode cX5_takeUnit 24 = .ok (.aload_n 1, 1) := by decide +kernel
theorem dX5_takeUnit_25 : decode cX5_takeUnit 25 = .ok (.iload_n 2, 1) := by decide +kernel
theorem dX5_takeUnit_26 : decode cX5_takeUnit 26 = .ok (.aload_n 0, 1) := by decide +kernel
theorem dX5_takeUnit_27 : decode cX5_takeUnit 27 = .ok (.getfield 18, 3) := by decide +kernel
theorem dX5_takeUnit_30 : decode cX5_takeUnit 30 = .ok (.getfield 94, 3) := by decide +kernel
theorem dX5_takeUnit_33 : decode cX5_takeUnit 33 = .ok (.invokevirtual 97, 3) := by decide +kernel
theorem dX5_takeUnit_36 : decode cX5_takeUnit 36 = .ok (.aload_n 0, 1) := by decide +kernel
theorem dX5_takeUnit_37 : decode cX5_takeUnit 37 = .ok (.iconst 3, 1) := by decide +kernel
theorem dX5_takeUnit_38 : decode cX5_takeUnit 38 = .ok (.putfield 26, 3) := by decide +kernel
theorem dX5_takeUnit_41 : decode cX5_takeUnit 41 = .ok (.return_, 1) := by decide +kernel
theorem dX5_takeBehindUnit_0 : decode cX5_takeBehindUnit 0 = .ok (.aload_n 0, 1) := by decide +kernel
theorem dX5_takeBehindUnit_1 : decode cX5_takeBehindUnit 1 = .ok (.aload_n 1, 1) := by decide +kernel
theorem dX5_takeBehindUnit_2 : decode cX5_takeBehindUnit 2 = .ok (.iload_n 2, 1) := by decide +kernel
theorem dX5_takeBehindUnit_3 : decode cX5_takeBehindUnit 3 = .ok (.invokestatic 101, 3) := by decide +kernel
theorem dX5_takeBehindUnit_6 : decode cX5_takeBehindUnit 6 = .ok (.invokevirtual 105, 3) := by decide +kernel
theorem dX5_takeBehindUnit_9 : decode cX5_takeBehindUnit 9 = .ok (.iload_n 2, 1) := by decide +kernel
theorem dX5_takeBehindUnit_10 : decode cX5_takeBehindUnit 10 = .ok (.bipush 24, 2) := by decide +kernel
theorem dX5_takeBehindUnit_12 : decode cX5_takeBehindUnit 12 = .ok (.if_icmp .ne 30, 3) := by decide +kernel
theorem dX5_takeBehindUnit_15 : decode cX5_takeBehindUnit 15 = .ok (.aload_n 0, 1) := by decide +kernel
theorem dX5_takeBehindUnit_16 : decode cX5_takeBehindUnit 16 = .ok (.iconst 0, 1) := by decide +kernel
theorem dX5_takeBehindUnit_17 : decode cX5_takeBehindUnit 17 = .ok (.aload_n 0, 1) := by decide +kernel
theorem dX5_takeBehindUnit_18 : decode cX5_takeBehindUnit 18 = .ok (.getfield 22, 3) := by decide +kernel
theorem dX5_takeBehindUnit_21 : decode cX5_takeBehindUnit 21 = .ok (.iconst 1, 1) := by decide +kernel
theorem dX5_takeBehindUnit_22 : decode cX5_takeBehindUnit 22 = .ok (.isub, 1) := by decide +kernel
theorem dX5_takeBehindUnit_23 : decode cX5_takeBehindUnit 23 = .ok (.invokestatic 108, 3) := by decide +kernel
theorem dX5_takeBehindUnit_26 : decode cX5_takeBehindUnit 26 = .ok (.putfield 22, 3) := by decide +kernel
theorem dX5_takeBehindUnit_29 : decode cX5_takeBehindUnit 29 = .ok (.aload_n 0, 1) := by decide +kernel
theorem dX5_takeBehindUnit_30 : decode cX5_takeBehindUnit 30 = .ok (.dup, 1) := by decide +kernel
theorem dX5_takeBehindUnit_31 : decode cX5_takeBehindUnit 31 = .ok (.getfield 32, 3) := by decide +kernel
theorem dX5_takeBehindUnit_34 : decode cX5_takeBehindUnit 34 = .ok (.iconst 1, 1) := by decide +kernel
theorem dX5_takeBehindUnit_35 : decode cX5_takeBehindUnit 35 = .ok (.isub, 1) := by decide +kernel
theorem dX5_takeBehindUnit_36 : decode cX5_takeBehindUnit 36 = .ok (.putfield 32, 3) := by decide +kernel
theorem dX5_takeBehindUnit_39 : decode cX5_takeBehindUnit 39 = .ok (.goto 83, 3) := by decide +kernel
theorem dX5_takeBehindUnit_42 : decode cX5_takeBehindUnit 42 = .ok (.iload_n 2, 1) := by decide +kernel
theorem dX5_takeBehindUnit_43 : decode cX5_takeBehindUnit 43 = .ok (.bipush 15, 2) := by decide +kernel
theorem dX5_takeBehindUnit_45 : decode cX5_takeBehindUnit 45 = .ok (.if_icmp .ne 15, 3) := by decide +kernel
theorem dX5_takeBehindUnit_48 : decode cX5_takeBehindUnit 48 = .ok (.aload_n 1, 1) := by decide +kernel
theorem dX5_takeBehindUnit_49 : decode cX5_takeBehindUnit 49 = .ok (.invokevirtual 114, 3) := by decide +kernel
theorem dX5_takeBehindUnit_52 : decode cX5_takeBehindUnit 52 = .ok (.aload_n 0, 1) := by decide +kernel
theorem dX5_takeBehindUnit_53 : decode cX5_takeBehindUnit 53 = .ok (.iconst 0, 1) := by decide +kernel
theorem dX5_takeBehindUnit_54 : decode cX5_takeBehindUnit 54 = .ok (.putfield 26, 3) := by decide +kernel
theorem dX5_takeBehindUnit_57 : decode cX5_takeBehindUnit 57 = .ok (.goto 65, 3) := by decide +kernel
theorem dX5_takeBehindUnit_60 : decode cX5_takeBehindUnit 60 = .ok (.iload_n 2, 1) := by decide +kernel
theorem dX5_takeBehindUnit_61 : decode cX5_takeBehindUnit 61 = .ok (.iconst 3, 1) := by decide +kernel
theorem dX5_takeBehindUnit_62 : decode cX5_takeBehindUnit 62 = .ok (.if_icmp .ne 20, 3) := by decide +kernel
theorem dX5_takeBehindUnit_65 : decode cX5_takeBehindUnit 65 = .ok (.aload_n 1, 1) := by decide +kernel
theorem dX5_takeBehindUnit_66 : decode cX5_takeBehindUnit 66 = .ok (.invokevirtual 117, 3) := by decide +kernel
theorem dX5_takeBehindUnit_69 : decode cX5_takeBehindUnit 69 = .ok (.aload_n 0, 1) := by decide +kernel
theorem dX5_takeBehindUnit_70 : decode cX5_takeBehindUnit 70 = .ok (.iconst 1, 1) := by decide +kernel
theorem dX5_takeBehindUnit_71 : decode cX5_takeBehindUnit 71 = .ok (.putfield 29, 3) := by decide +kernel
theorem dX5_takeBehindUnit_74 : decode cX5_takeBehindUnit 74 = .ok (.aload_n 0, 1) := by decide +kernel
theorem dX5_takeBehindUnit_75 : decode cX5_takeBehindUnit 75 = .ok (.iconst 2, 1) := by decide +kernel
theorem dX5_takeBehindUnit_76 : decode cX5_takeBehindUnit 76 = .ok (.putfield 26, 3) := by decide +kernel
theorem dX5_takeBehindUnit_79 : decode cX5_takeBehindUnit 79 = .ok (.goto 43, 3) := by decide +kernel
theorem dX5_takeBehindUnit_82 : decode cX5_takeBehindUnit 82 = .ok (.aload_n 0, 1) := by decide +kernel
theorem dX5_takeBehindUnit_83 : decode cX5_takeBehindUnit 83 = .ok (.iload_n 2, 1) := by decide +kernel
theorem dX5_takeBehindUnit_84 : decode cX5_takeBehindUnit 84 = .ok (.invokevirtual 91, 3) := by decide +kernel
theorem dX5_takeBehindUnit_87 : decode cX5_takeBehindUnit 87 = .ok (.aload_n 0, 1) := by decide +kernel
theorem dX5_takeBehindUnit_88 : decode cX5_takeBehindUnit 88 = .ok (.iconst 2, 1) := by decide +kernel
theorem dX5_takeBehindUnit_89 : decode cX5_takeBehindUnit 89 = .ok (.putfield 26, 3) := by decide +kernel
theorem dX5_takeBehindUnit_92 : decode cX5_takeBehindUnit 92 = .ok (.iload_n 2, 1) := by decide +kernel
theorem dX5_takeBehindUnit_93 : decode cX5_takeBehindUnit 93 = .ok (.invokestatic 74, 3) := by decide +kernel
theorem dX5_takeBehindUnit_96 : decode cX5_takeBehindUnit 96 = .ok (.ifCond .eq 11, 3) := by decide +kernel
theorem dX5_takeBehindUnit_99 : decode cX5_takeBehindUnit 99 = .ok (.aload_n 0, 1) := by decide +kernel
theorem dX5_takeBehindUnit_100 : decode cX5_takeBehindUnit 100 = .ok (.iconst 2, 1) := by decide +kernel
theorem dX5_takeBehindUnit_101 : decode cX5_takeBehindUnit 101 = .ok (.putfield 29, 3) := by decide +kernel
theorem dX5_takeBehindUnit_104 : decode cX5_takeBehindUnit 104 = .ok (.goto 18, 3) := by decide +kernel
theorem dX5_takeBehindUnit_107 : decode cX5_takeBehindUnit 107 = .ok (.iload_n 2, 1) := by decide +kernel
theorem dX5_takeBehindUnit_108 : decode cX5_takeBehindUnit 108 = .ok (.iconst 5, 1) := by decide +kernel
theorem dX5_takeBehindUnit_109 : decode cX5_takeBehindUnit 109 = .ok (.if_icmp .eq 8, 3) := by decide +kernel
theorem dX5_takeBehindUnit_112 : decode cX5_takeBehindUnit 112 = .ok (.iload_n 2, 1) := by decide +kernel
theorem dX5_takeBehindUnit_113 : decode cX5_takeBehindUnit 113 = .ok (.iconst 4, 1) := by decide +kernel
theorem dX5_takeBehindUnit_114 : decode cX5_takeBehindUnit 114 = .ok (.if_icmp .ne 8, 3) := by decide +kernel
theorem dX5_takeBehindUnit_117 : decode cX5_takeBehindUnit 117 = .ok (.aload_n 0, 1) := by decide +kernel
theorem dX5_takeBehindUnit_118 : decode cX5_takeBehindUnit 118 = .ok (.iconst 1, 1) := by decide +kernel
theorem dX5_takeBehindUnit_119 : decode cX5_takeBehindUnit 119 = .ok (.putfield 29, 3) := by decide +kernel
theorem dX5_takeBehindUnit_122 : decode cX5_takeBehindUnit 122 = .ok (.return_, 1) := by decide +kernel
theorem dX5_hold_0 : decode cX5_hold 0 = .ok (.aload_n 0, 1) := by decide +kernel
theorem dX5_hold_1 : decode cX5_hold 1 = .ok (.getfield 22, 3) := by decide +kernel
theorem dX5_hold_4 : decode cX5_hold 4 = .ok (.bipush 24, 2) := by decide +kernel
theorem dX5_hold_6 : decode cX5_hold 6 = .ok (.if_icmp .ge 23, 3) := by decide +kernel
theorem dX5_hold_9 : decode cX5_hold 9 = .ok (.aload_n 0, 1) := by decide +kernel
theorem dX5_hold_10 : decode cX5_hold 10 = .ok (.getfield 9, 3) := by decide +kernel
theorem dX5_hold_13 : decode cX5_hold 13 = .ok (.aload_n 0, 1) := by decide +kernel
theorem dX5_hold_14 : decode cX5_hold 14 = .ok (.getfield 22, 3) := by decide +kernel
theorem dX5_hold_17 : decode cX5_hold 17 = .ok (.iload_n 1, 1) := by decide +kernel
theorem dX5_hold_18 : decode cX5_hold 18 = .ok (.iastore, 1) := by decide +kernel
theorem dX5_hold_19 : decode cX5_hold 19 = .ok (.aload_n 0, 1) := by decide +kernel
theorem dX5_hold_20 : decode cX5_hold 20 = .ok (.dup, 1) := by decide +kernel
theorem dX5_hold_21 : decode cX5_hold 21 = .ok (.getfield 22, 3) := by decide +kernel
theorem dX5_hold_24 : decode cX5_hold 24 = .ok (.iconst 1, 1) := by decide +kernel
theorem dX5_hold_25 : decode cX5_hold 25 = .ok (.iadd, 1) := by decide +kernel
theorem dX5_hold_26 : decode cX5_hold 26 = .ok (.putfield 22, 3) := by decide +kernel
theorem dX5_hold_29 : decode cX5_hold 29 = .ok (.return_, 1) := by decide +kernel
theorem dX5_release_0 : decode cX5_release 0 = .ok (.aload_n 0, 1) := by decide +kernel
theorem dX5_release_1 : decode cX5_release 1 = .ok (.getfield 22, 3) := by decide +kernel
theorem dX5_release_4 : decode cX5_release 4 = .ok (.ifCond .le 64, 3) := by decide +kernel
theorem dX5_release_7 : decode cX5_release 7 = .ok (.aload_n 0, 1) := by decide +kernel
theorem dX5_release_8 : decode cX5_release 8 = .ok (.getfield 9, 3) := by decide +kernel
theorem dX5_release_11 : decode cX5_release 11 = .ok (.aload_n 0, 1) := by decide +kernel
theorem dX5_release_12 : decode cX5_release 12 = .ok (.getfield 22, 3) := by decide +kernel
theorem dX5_release_15 : decode cX5_release 15 = .ok (.iconst 1, 1) := by decide +kernel
theorem dX5_release_16 : decode cX5_release 16 = .ok (.isub, 1) := by decide +kernel
theorem dX5_release_17 : decode cX5_release 17 = .ok (.iaload, 1) := by decide +kernel
theorem dX5_release_18 : decode cX5_release 18 = .ok (.bipush 23, 2) := by decide +kernel
theorem dX5_release_20 : decode cX5_release 20 = .ok (.if_icmp .eq 48, 3) := by decide +kernel
theorem dX5_release_23 : decode cX5_release 23 = .ok (.aload_n 0, 1) := by decide +kernel
theorem dX5_release_24 : decode cX5_release 24 = .ok (.getfield 9, 3) := by decide +kernel
theorem dX5_release_27 : decode cX5_release 27 = .ok (.aload_n 0, 1) := by decide +kernel
theorem dX5_release_28 : decode cX5_release 28 = .ok (.getfield 22, 3) := by decide +kernel
theorem dX5_release_31 : decode cX5_release 31 = .ok (.iconst 1, 1) := by decide +kernel
theorem dX5_release_32 : decode cX5_release 32 = .ok (.isub, 1) := by decide +kernel
theorem dX5_release_33 : decode cX5_release 33 = .ok (.iaload, 1) := by decide +kernel
theorem dX5_release_34 : decode cX5_release 34 = .ok (.invokestatic 101, 3) := by decide +kernel
theorem dX5_release_37 : decode cX5_release 37 = .ok (.iload_n 2, 1) := by decide +kernel
theorem dX5_release_38 : decode cX5_release 38 = .ok (.if_icmp .lt 30, 3) := by decide +kernel
theorem dX5_release_41 : decode cX5_release 41 = .ok (.aload_n 0, 1) := by decide +kernel
theorem dX5_release_42 : decode cX5_release 42 = .ok (.dup, 1) := by decide +kernel
theorem dX5_release_43 : decode cX5_release 43 = .ok (.getfield 22, 3) := by decide +kernel
theorem dX5_release_46 : decode cX5_release 46 = .ok (.iconst 1, 1) := by decide +kernel
theorem dX5_release_47 : decode cX5_release 47 = .ok (.isub, 1) := by decide +kernel
theorem dX5_release_48 : decode cX5_release 48 = .ok (.putfield 22, 3) := by decide +kernel
theorem dX5_release_51 : decode cX5_release 51 = .ok (.aload_n 1, 1) := by decide +kernel
theorem dX5_release_52 : decode cX5_release 52 = .ok (.aload_n 0, 1) := by decide +kernel
theorem dX5_release_53 : decode cX5_release 53 = .ok (.getfield 9, 3) := by decide +kernel
theorem dX5_release_56 : decode cX5_release 56 = .ok (.aload_n 0, 1) := by decide +kernel
theorem dX5_release_57 : decode cX5_release 57 = .ok (.getfield 22, 3) := by decide +kernel
theorem dX5_release_60 : decode cX5_release 60 = .ok (.iaload, 1) := by decide +kernel
theorem dX5_release_61 : decode cX5_release 61 = .ok (.iconst 0, 1) := by decide +kernel
theorem dX5_release_62 : decode cX5_release 62 = .ok (.invokevirtual 97, 3) := by decide +kernel
theorem dX5_release_65 : decode cX5_release 65 = .ok (.goto (-65), 3) := by decide +kernel
theorem dX5_release_68 : decode cX5_release 68 = .ok (.return_, 1) := by decide +kernel
theorem dX5_rankOf_0 : decode cX5_rankOf 0 = .ok (.iload_n 0, 1) := by decide +kernel
theorem dX5_rankOf_1 : decode cX5_rankOf 1 = .ok (.tableswitch 83 4 18 #[81, 79, 83, 83, 83, 83, 83, 83, 83, 83, 83, 83, 77, 77, 75], 75) := by decide +kernel
theorem dX5_rankOf_76 : decode cX5_rankOf 76 = .ok (.iconst 5, 1) := by decide +kernel
theorem dX5_rankOf_77 : decode cX5_rankOf 77 = .ok (.ireturn, 1) := by decide +kernel
theorem dX5_rankOf_78 : decode cX5_rankOf 78 = .ok (.iconst 4, 1) := by decide +kernel
theorem dX5_rankOf_79 : decode cX5_rankOf 79 = .ok (.ireturn, 1) := by decide +kernel
theorem dX5_rankOf_80 : decode cX5_rankOf 80 = .ok (.iconst 2, 1) := by decide +kernel
theorem dX5_rankOf_81 : decode cX5_rankOf 81 = .ok (.ireturn, 1) := by decide +kernel
theorem dX5_rankOf_82 : decode cX5_rankOf 82 = .ok (.iconst 1, 1) := by decide +kernel
theorem dX5_rankOf_83 : decode cX5_rankOf 83 = .ok (.ireturn, 1) := by decide +kernel
theorem dX5_rankOf_84 : decode cX5_rankOf 84 = .ok (.iload_n 0, 1) := by decide +kernel
theorem dX5_rankOf_85 : decode cX5_rankOf 85 = .ok (.invokestatic 74, 3) := by decide +kernel
theorem dX5_rankOf_88 : decode cX5_rankOf 88 = .ok (.ifCond .eq 7, 3) := by decide +kernel
theorem dX5_rankOf_91 : decode cX5_rankOf 91 = .ok (.iconst 3, 1) := by decide +kernel
theorem dX5_rankOf_92 : decode cX5_rankOf 92 = .ok (.goto 4, 3) := by decide +kernel
theorem dX5_rankOf_95 : decode cX5_rankOf 95 = .ok (.iconst 0, 1) := by decide +kernel
theorem dX5_rankOf_96 : decode cX5_rankOf 96 = .ok (.ireturn, 1) := by decide +kernel
theorem dX5_isVar_0 : decode cX5_isVar 0 = .ok (.iload_n 0, 1) := by decide +kernel
theorem dX5_isVar_1 : decode cX5_isVar 1 = .ok (.bipush 6, 2) := by decide +kernel
theorem dX5_isVar_3 : decode cX5_isVar 3 = .ok (.if_icmp .lt 13, 3) := by decide +kernel
theorem dX5_isVar_6 : decode cX5_isVar 6 = .ok (.iload_n 0, 1) := by decide +kernel
theorem dX5_isVar_7 : decode cX5_isVar 7 = .ok (.bipush 14, 2) := by decide +kernel
theorem dX5_isVar_9 : decode cX5_isVar 9 = .ok (.if_icmp .gt 7, 3) := by decide +kernel
theorem dX5_isVar_12 : decode cX5_isVar 12 = .ok (.iconst 1, 1) := by decide +kernel
theorem dX5_isVar_13 : decode cX5_isVar 13 = .ok (.goto 4, 3) := by decide +kernel
theorem dX5_isVar_16 : decode cX5_isVar 16 = .ok (.iconst 0, 1) := by decide +kernel
theorem dX5_isVar_17 : decode cX5_isVar 17 = .ok (.ireturn, 1) := by decide +kernel
theorem dX5_isRelation_0 : decode cX5_isRelation 0 = .ok (.iload_n 0, 1) := by decide +kernel
theorem dX5_isRelation_1 : decode cX5_isRelation 1 = .ok (.bipush 19, 2) := by decide +kernel
theorem dX5_isRelation_3 : decode cX5_isRelation 3 = .ok (.if_icmp .lt 13, 3) := by decide +kernel
theorem dX5_isRelation_6 : decode cX5_isRelation 6 = .ok (.iload_n 0, 1) := by decide +kernel
theorem dX5_isRelation_7 : decode cX5_isRelation 7 = .ok (.bipush 22, 2) := by decide +kernel
theorem dX5_isRelation_9 : decode cX5_isRelation 9 = .ok (.if_icmp .gt 7, 3) := by decide +kernel
theorem dX5_isRelation_12 : decode cX5_isRelation 12 = .ok (.iconst 1, 1) := by decide +kernel
theorem dX5_isRelation_13 : decode cX5_isRelation 13 = .ok (.goto 4, 3) := by decide +kernel
theorem dX5_isRelation_16 : decode cX5_isRelation 16 = .ok (.iconst 0, 1) := by decide +kernel
theorem dX5_isRelation_17 : decode cX5_isRelation 17 = .ok (.ireturn, 1) := by decide +kernel
theorem dX6_init_0 : decode cX6_init 0 = .ok (.aload_n 0, 1) := by decide +kernel
theorem dX6_init_1 : decode cX6_init 1 = .ok (.invokespecial 1, 3) := by decide +kernel
theorem dX6_init_4 : decode cX6_init 4 = .ok (.aload_n 0, 1) := by decide +kernel
theorem dX6_init_5 : decode cX6_init 5 = .ok (.aload_n 1, 1) := by decide +kernel
theorem dX6_init_6 : decode cX6_init 6 = .ok (.putfield 7, 3) := by decide +kernel
theorem dX6_init_9 : decode cX6_init 9 = .ok (.aload_n 0, 1) := by decide +kernel
theorem dX6_init_10 : decode cX6_init 10 = .ok (.invokevirtual 13, 3) := by decide +kernel
theorem dX6_init_13 : decode cX6_init 13 = .ok (.return_, 1) := by decide +kernel
theorem dX6_restart_0 : decode cX6_restart 0 = .ok (.aload_n 0, 1) := by decide +kernel
theorem dX6_restart_1 : decode cX6_restart 1 = .ok (.iconst 0, 1) := by decide +kernel
theorem dX6_restart_2 : decode cX6_restart 2 = .ok (.putfield 16, 3) := by decide +kernel
theorem dX6_restart_5 : decode cX6_restart 5 = .ok (.aload_n 0, 1) := by decide +kernel
theorem dX6_restart_6 : decode cX6_restart 6 = .ok (.bipush 26, 2) := by decide +kernel
theorem dX6_restart_8 : decode cX6_restart 8 = .ok (.putfield 20, 3) := by decide +kernel
theorem dX6_restart_11 : decode cX6_restart 11 = .ok (.aload_n 0, 1) := by decide +kernel
theorem dX6_restart_12 : decode cX6_restart 12 = .ok (.iconst 0, 1) := by decide +kernel
theorem dX6_restart_13 : decode cX6_restart 13 = .ok (.putfield 23, 3) := by decide +kernel
theorem dX6_restart_16 : decode cX6_restart 16 = .ok (.aload_n 0, 1) := by decide +kernel
theorem dX6_restart_17 : decode cX6_restart 17 = .ok (.iconst 0, 1) := by decide +kernel
theorem dX6_restart_18 : decode cX6_restart 18 = .ok (.putfield 26, 3) := by decide +kernel
theorem dX6_restart_21 : decode cX6_restart 21 = .ok (.return_, 1) := by decide +kernel
theorem dX6_advance_0 : decode cX6_advance 0 = .ok (.aload_n 0, 1) := by decide +kernel
theorem dX6_advance_1 : decode cX6_advance 1 = .ok (.getfield 16, 3) := by decide +kernel
theorem dX6_advance_4 : decode cX6_advance 4 = .ok (.aload_n 0, 1) := by decide +kernel
theorem dX6_advance_5 : decode cX6_advance 5 = .ok (.getfield 7, 3) := by decide +kernel
theorem dX6_advance_8 : decode cX6_advance 8 = .ok (.getfield 29, 3) := by decide +kernel
theorem dX6_advance_11 : decode cX6_advance 11 = .ok (.if_icmp .ge 33, 3) := by decide +kernel
theorem dX6_advance_14 : decode cX6_advance 14 = .ok (.aload_n 0, 1) := by decide +kernel
theorem dX6_advance_15 : decode cX6_advance 15 = .ok (.getfield 7, 3) := by decide +kernel
theorem dX6_advance_18 : decode cX6_advance 18 = .ok (.aload_n 0, 1) := by decide +kernel
theorem dX6_advance_19 : decode cX6_advance 19 = .ok (.getfield 16, 3) := by decide +kernel
theorem dX6_advance_22 : decode cX6_advance 22 = .ok (.invokevirtual 34, 3) := by decide +kernel
theorem dX6_advance_25 : decode cX6_advance 25 = .ok (.invokestatic 38, 3) := by decide +kernel
theorem dX6_advance_28 : decode cX6_advance 28 = .ok (.ifCond .eq 16, 3) := by decide +kernel
theorem dX6_advance_31 : decode cX6_advance 31 = .ok (.aload_n 0, 1) := by decide +kernel
theorem dX6_advance_32 : decode cX6_advance 32 = .ok (.dup, 1) := by decide +kernel
theorem dX6_advance_33 : decode cX6_advance 33 = .ok (.getfield 16, 3) := by decide +kernel
theorem dX6_advance_36 : decode cX6_advance 36 = .ok (.iconst 1, 1) := by decide +kernel
theorem dX6_advance_37 : decode cX6_advance 37 = .ok (.iadd, 1) := by decide +kernel
theorem dX6_advance_38 : decode cX6_advance 38 = .ok (.putfield 16, 3) := by decide +kernel
theorem dX6_advance_41 : decode cX6_advance 41 = .ok (.goto (-41), 3) := by decide +kernel
theorem dX6_advance_44 : decode cX6_advance 44 = .ok (.aload_n 0, 1) := by decide +kernel
theorem dX6_advance_45 : decode cX6_advance 45 = .ok (.aload_n 0, 1) := by decide +kernel
theorem dX6_advance_46 : decode cX6_advance 46 = .ok (.getfield 16, 3) := by decide +kernel
theorem dX6_advance_49 : decode cX6_advance 49 = .ok (.putfield 26, 3) := by decide +kernel
theorem dX6_advance_52 : decode cX6_advance 52 = .ok (.aload_n 0, 1) := by decide +kernel
theorem dX6_advance_53 : decode cX6_advance 53 = .ok (.iconst 0, 1) := by decide +kernel
theorem dX6_advance_54 : decode cX6_advance 54 = .ok (.putfield 23, 3) := by decide +kernel
theorem dX6_advance_57 : decode cX6_advance 57 = .ok (.aload_n 0, 1) := by decide +kernel
theorem dX6_advance_58 : decode cX6_advance 58 = .ok (.getfield 7, 3) := by decide +kernel
theorem dX6_advance_61 : decode cX6_advance 61 = .ok (.aload_n 0, 1) := by decide +kernel
theorem dX6_advance_62 : decode cX6_advance 62 = .ok (.getfield 16, 3) := by decide +kernel
theorem dX6_advance_65 : decode cX6_advance 65 = .ok (.invokevirtual 34, 3) := by decide +kernel
theorem dX6_advance_68 : decode cX6_advance 68 = .ok (.istore_n 1, 1) := by decide +kernel
theorem dX6_advance_69 : decode cX6_advance 69 = .ok (.aload_n 0, 1) := by decide +kernel
theorem dX6_advance_70 : decode cX6_advance 70 = .ok (.getfield 16, 3) := by decide +kernel
theorem dX6_advance_73 : decode cX6_advance 73 = .ok (.aload_n 0, 1) := by decide +kernel
theorem dX6_advance_74 : decode cX6_advance 74 = .ok (.getfield 7, 3) := by decide +kernel
theorem dX6_advance_77 : decode cX6_advance 77 = .ok (.getfield 29, 3) := by decide +kernel
theorem dX6_advance_80 : decode cX6_advance 80 = .ok (.if_icmp .lt 12, 3) := by decide +kernel
theorem dX6_advance_83 : decode cX6_advance 83 = .ok (.aload_n 0, 1) := by decide +kernel
theorem dX6_advance_84 : decode cX6_advance 84 = .ok (.bipush 26, 2) := by decide +kernel
theorem dX6_advance_86 : decode cX6_advance 86 = .ok (.putfield 20, 3) := by decide +kernel
theorem dX6_advance_89 : decode cX6_advance 89 = .ok (.goto 36, 3) := by decide +kernel
theorem dX6_advance_92 : decode cX6_advance 92 = .ok (.iload_n 1, 1) := by decide +kernel
theorem dX6_advance_93 : decode cX6_advance 93 = .ok (.invokestatic 42, 3) := by decide +kernel
theorem dX6_advance_96 : decode cX6_advance 96 = .ok (.ifCond .eq 10, 3) := by decide +kernel
theorem dX6_advance_99 : decode cX6_advance 99 = .ok (.aload_n 0, 1) := by decide +kernel
theorem dX6_advance_100 : decode cX6_advance 100 = .ok (.invokevirtual 45, 3) := by decide +kernel
theorem dX6_advance_103 : decode cX6_advance 103 = .ok (.goto 22, 3) := by decide +kernel
theorem dX6_advance_106 : decode cX6_advance 106 = .ok (.iload_n 1, 1) := by decide +kernel
theorem dX6_advance_107 : decode cX6_advance 107 = .ok (.invokestatic 48, 3) := by decide +kernel
theorem dX6_advance_110 : decode cX6_advance 110 = .ok (.ifCond .eq 10, 3) := by decide +kernel
theorem dX6_advance_113 : decode cX6_advance 113 = .ok (.aload_n 0, 1) := by decide +kernel
theorem dX6_advance_114 : decode cX6_advance 114 = .ok (.invokevirtual 51, 3) := by decide +kernel
theorem dX6_advance_117 : decode cX6_advance 117 = .ok (.goto 8, 3) := by decide +kernel
theorem dX6_advance_120 : decode cX6_advance 120 = .ok (.aload_n 0, 1) := by decide +kernel
theorem dX6_advance_121 : decode cX6_advance 121 = .ok (.iload_n 1, 1) := by decide +kernel
theorem dX6_advance_122 : decode cX6_advance 122 = .ok (.invokevirtual 54, 3) := by decide +kernel
theorem dX6_advance_125 : decode cX6_advance 125 = .ok (.return_, 1) := by decide +kernel
theorem dX6_takeWord_0 : decode cX6_takeWord 0 = .ok (.aload_n 0, 1) := by decide +kernel
theorem dX6_takeWord_1 : decode cX6_takeWord 1 = .ok (.getfield 16, 3) := by decide +kernel
theorem dX6_takeWord_4 : decode cX6_takeWord 4 = .ok (.aload_n 0, 1) := by decide +kernel
theorem dX6_takeWord_5 : decode cX6_takeWord 5 = .ok (.getfield 7, 3) := by decide +kernel
theorem dX6_takeWord_8 : decode cX6_takeWord 8 = .ok (.getfield 29, 3) := by decide +kernel
theorem dX6_takeWord_11 : decode cX6_takeWord 11 = .ok (.if_icmp .ge 33, 3) := by decide +kernel
theorem dX6_takeWord_14 : decode cX6_takeWord 14 = .ok (.aload_n 0, 1) := by decide +kernel
theorem dX6_takeWord_15 : decode cX6_takeWord 15 = .ok (.getfield 7, 3) := by decide +kernel
theorem dX6_takeWord_18 : decode cX6_takeWord 18 = .ok (.aload_n 0, 1) := by decide +kernel
theorem dX6_takeWord_19 : decode cX6_takeWord 19 = .ok (.getfield 16, 3) := by decide +kernel
theorem dX6_takeWord_22 : decode cX6_takeWord 22 = .ok (.invokevirtual 34, 3) := by decide +kernel
theorem dX6_takeWord_25 : decode cX6_takeWord 25 = .ok (.invokestatic 42, 3) := by decide +kernel
theorem dX6_takeWord_28 : decode cX6_takeWord 28 = .ok (.ifCond .eq 16, 3) := by decide +kernel
theorem dX6_takeWord_31 : decode cX6_takeWord 31 = .ok (.aload_n 0, 1) := by decide +kernel
theorem dX6_takeWord_32 : decode cX6_takeWord 32 = .ok (.dup, 1) := by decide +kernel
theorem dX6_takeWord_33 : decode cX6_takeWord 33 = .ok (.getfield 16, 3) := by decide +kernel
theorem dX6_takeWord_36 : decode cX6_takeWord 36 = .ok (.iconst 1, 1) := by decide +kernel
theorem dX6_takeWord_37 : decode cX6_takeWord 37 = .ok (.iadd, 1) := by decide +kernel
theorem dX6_takeWord_38 : decode cX6_takeWord 38 = .ok (.putfield 16, 3) := by decide +kernel
theorem dX6_takeWord_41 : decode cX6_takeWord 41 = .ok (.goto (-41), 3) := by decide +kernel
theorem dX6_takeWord_44 : decode cX6_takeWord 44 = .ok (.aload_n 0, 1) := by decide +kernel
theorem dX6_takeWord_45 : decode cX6_takeWord 45 = .ok (.bipush 27, 2) := by decide +kernel
theorem dX6_takeWord_47 : decode cX6_takeWord 47 = .ok (.putfield 20, 3) := by decide +kernel
theorem dX6_takeWord_50 : decode cX6_takeWord 50 = .ok (.iconst 0, 1) := by decide +kernel
theorem dX6_takeWord_51 : decode cX6_takeWord 51 = .ok (.istore_n 1, 1) := by decide +kernel
theorem dX6_takeWord_52 : decode cX6_takeWord 52 = .ok (.iload_n 1, 1) := by decide +kernel
theorem dX6_takeWord_53 : decode cX6_takeWord 53 = .ok (.bipush 14, 2) := by decide +kernel
theorem dX6_takeWord_55 : decode cX6_takeWord 55 = .ok (.if_icmp .gt 31, 3) := by decide +kernel
theorem dX6_takeWord_58 : decode cX6_takeWord 58 = .ok (.aload_n 0, 1) := by decide +kernel
theorem dX6_takeWord_59 : decode cX6_takeWord 59 = .ok (.getfield 20, 3) := by decide +kernel
theorem dX6_takeWord_62 : decode cX6_takeWord 62 = .ok (.bipush 27, 2) := by decide +kernel
theorem dX6_takeWord_64 : decode cX6_takeWord 64 = .ok (.if_icmp .ne 22, 3) := by decide +kernel
theorem dX6_takeWord_67 : decode cX6_takeWord 67 = .ok (.aload_n 0, 1) := by decide +kernel
theorem dX6_takeWord_68 : decode cX6_takeWord 68 = .ok (.iload_n 1, 1) := by decide +kernel
theorem dX6_takeWord_69 : decode cX6_takeWord 69 = .ok (.invokevirtual 58, 3) := by decide +kernel
theorem dX6_takeWord_72 : decode cX6_takeWord 72 = .ok (.ifCond .eq 8, 3) := by decide +kernel
theorem dX6_takeWord_75 : decode cX6_takeWord 75 = .ok (.aload_n 0, 1) := by decide +kernel
theorem dX6_takeWord_76 : decode cX6_takeWord 76 = .ok (.iload_n 1, 1) := by decide +kernel
theorem dX6_takeWord_77 : decode cX6_takeWord 77 = .ok (.putfield 20, 3) := by decide +kernel
theorem dX6_takeWord_80 : decode cX6_takeWord 80 = .ok (.iinc 1 1, 3) := by decide +kernel
theorem dX6_takeWord_83 : decode cX6_takeWord 83 = .ok (.goto (-31), 3) := by decide +kernel
theorem dX6_takeWord_86 : decode cX6_takeWord 86 = .ok (.return_, 1) := by decide +kernel
theorem dX6_isWord_0 : decode cX6_isWord 0 = .ok (.aload_n 0, 1) := by decide +kernel
theorem dX6_isWord_1 : decode cX6_isWord 1 = .ok (.getfield 16, 3) := by decide +kernel
theorem dX6_isWord_4 : decode cX6_isWord 4 = .ok (.aload_n 0, 1) := by decide +kernel
theorem dX6_isWord_5 : decode cX6_isWord 5 = .ok (.getfield 26, 3) := by decide +kernel
theorem dX6_isWord_8 : decode cX6_isWord 8 = .ok (.isub, 1) := by decide +kernel
theorem dX6_isWord_9 : decode cX6_isWord 9 = .ok (.bipush 8, 2) := by decide +kernel
theorem dX6_isWord_11 : decode cX6_isWord 11 = .ok (.if_icmp .le 5, 3) := by decide +kernel
theorem dX6_isWord_14 : decode cX6_isWord 14 = .ok (.iconst 0, 1) := by decide +kernel
theorem dX6_isWord_15 : decode cX6_isWord 15 = .ok (.ireturn, 1) := by decide +kernel
theorem dX6_isWord_16 : decode cX6_isWord 16 = .ok (.iconst 0, 1) := by decide +kernel
theorem dX6_isWord_17 : decode cX6_isWord 17 = .ok (.istore_n 2, 1) := by decide +kernel
theorem dX6_isWord_18 : decode cX6_isWord 18 = .ok (.iload_n 2, 1) := by decide +kernel
theorem dX6_isWord_19 : decode cX6_isWord 19 = .ok (.bipush 8, 2) := by decide +kernel
theorem dX6_isWord_21 : decode cX6_isWord 21 = .ok (.if_icmp .ge 72, 3) := by decide +kernel
theorem dX6_isWord_24 : decode cX6_isWord 24 = .ok (.aload_n 0, 1) := by decide +kernel
theorem dX6_isWord_25 : decode cX6_isWord 25 = .ok (.getfield 26, 3) := by decide +kernel
theorem dX6_isWord_28 : decode cX6_isWord 28 = .ok (.iload_n 2, 1) := by decide +kernel
theorem dX6_isWord_29 : decode cX6_isWord 29 = .ok (.iadd, 1) := by decide +kernel
theorem dX6_isWord_30 : decode cX6_isWord 30 = .ok (.aload_n 0, 1) := by decide +kernel
theorem dX6_isWord_31 : decode cX6_isWord 31 = .ok (.getfield 16, 3) := by decide +kernel
theorem dX6_isWord_34 : decode cX6_isWord 34 = .ok (.if_icmp .ge 19, 3) := by decide +kernel
theorem dX6_isWord_37 : decode cX6_isWord 37 = .ok (.aload_n 0, 1) := by decide +kernel
theorem dX6_isWord_38 : decode cX6_isWord 38 = .ok (.getfield 7, 3) := by decide +kernel
theorem dX6_isWord_41 : decode cX6_isWord 41 = .ok (.aload_n 0, 1) := by decide +kernel
theorem dX6_isWord_42 : decode cX6_isWord 42 = .ok (.getfield 26, 3) := by decide +kernel
theorem dX6_isWord_45 : decode cX6_isWord 45 = .ok (.iload_n 2, 1) := by decide +kernel
theorem dX6_isWord_46 : decode cX6_isWord 46 = .ok (.iadd, 1) := by decide +kernel
theorem dX6_isWord_47 : decode cX6_isWord 47 = .ok (.invokevirtual 34, 3) := by decide +kernel
theorem dX6_isWord_50 : decode cX6_isWord 50 = .ok (.goto 5, 3) := by decide +kernel
theorem dX6_isWord_53 : decode cX6_isWord 53 = .ok (.bipush 32, 2) := by decide +kernel
theorem dX6_isWord_55 : decode cX6_isWord 55 = .ok (.istore_n 3, 1) := by decide +kernel
theorem dX6_isWord_56 : decode cX6_isWord 56 = .ok (.iload_n 1, 1) := by decide +kernel
theorem dX6_isWord_57 : decode cX6_isWord 57 = .ok (.bipush 8, 2) := by decide +kernel
theorem dX6_isWord_59 : decode cX6_isWord 59 = .ok (.imul, 1) := by decide +kernel
theorem dX6_isWord_60 : decode cX6_isWord 60 = .ok (.iload_n 2, 1) := by decide +kernel
theorem dX6_isWord_61 : decode cX6_isWord 61 = .ok (.iadd, 1) := by decide +kernel
theorem dX6_isWord_62 : decode cX6_isWord 62 = .ok (.istore 4, 2) := by decide +kernel
theorem dX6_isWord_64 : decode cX6_isWord 64 = .ok (.iload 4, 2) := by decide +kernel
theorem dX6_isWord_66 : decode cX6_isWord 66 = .ok (.ldc 61, 2) := by decide +kernel
theorem dX6_isWord_68 : decode cX6_isWord 68 = .ok (.invokevirtual 63, 3) := by decide +kernel
theorem dX6_isWord_71 : decode cX6_isWord 71 = .ok (.if_icmp .ge 14, 3) := by decide +kernel
theorem dX6_isWord_74 : decode cX6_isWord 74 = .ok (.ldc 61, 2) := by decide +kernel
theorem dX6_isWord_76 : decode cX6_isWord 76 = .ok (.iload 4, 2) := by decide +kernel
theorem dX6_isWord_78 : decode cX6_isWord 78 = .ok (.invokevirtual 69, 3) := by decide +kernel
theorem dX6_isWord_81 : decode cX6_isWord 81 = .ok (.iload_n 3, 1) := by decide +kernel
theorem dX6_isWord_82 : decode cX6_isWord 82 = .ok (.if_icmp .eq 5, 3) := by decide +kernel
theorem dX6_isWord_85 : decode cX6_isWord 85 = .ok (.iconst 0, 1) := by decide +kernel
theorem dX6_isWord_86 : decode cX6_isWord 86 = .ok (.ireturn, 1) := by decide +kernel
theorem dX6_isWord_87 : decode cX6_isWord 87 = .ok (.iinc 2 1, 3) := by decide +kernel
theorem dX6_isWord_90 : decode cX6_isWord 90 = .ok (.goto (-72), 3) := by decide +kernel
theorem dX6_isWord_93 : decode cX6_isWord 93 = .ok (.iconst 1, 1) := by decide +kernel
theorem dX6_isWord_94 : decode cX6_isWord 94 = .ok (.ireturn, 1) := by decide +kernel
theorem dX6_takeInt_0 : decode cX6_takeInt 0 = .ok (.aload_n 0, 1) := by decide +kernel
theorem dX6_takeInt_1 : decode cX6_takeInt 1 = .ok (.getfield 16, 3) := by decide +kernel
theorem dX6_takeInt_4 : decode cX6_takeInt 4 = .ok (.aload_n 0, 1) := by decide +kernel
theorem dX6_takeInt_5 : decode cX6_takeInt 5 = .ok (.getfield 7, 3) := by decide +kernel
theorem dX6_takeInt_8 : decode cX6_takeInt 8 = .ok (.getfield 29, 3) := by decide +kernel
theorem dX6_takeInt_11 : decode cX6_takeInt 11 = .ok (.if_icmp .ge 59, 3) := by decide +kernel
theorem dX6_takeInt_14 : decode cX6_takeInt 14 = .ok (.aload_n 0, 1) := by decide +kernel
theorem dX6_takeInt_15 : decode cX6_takeInt 15 = .ok (.getfield 7, 3) := by decide +kernel
theorem dX6_takeInt_18 : decode cX6_takeInt 18 = .ok (.aload_n 0, 1) := by decide +kernel
theorem dX6_takeInt_19 : decode cX6_takeInt 19 = .ok (.getfield 16, 3) := by decide +kernel
theorem dX6_takeInt_22 : decode cX6_takeInt 22 = .ok (.invokevirtual 34, 3) := by decide +kernel
theorem dX6_takeInt_25 : decode cX6_takeInt 25 = .ok (.invokestatic 48, 3) := by decide +kernel
theorem dX6_takeInt_28 : decode cX6_takeInt 28 = .ok (.ifCond .eq 42, 3) := by decide +kernel
theorem dX6_takeInt_31 : decode cX6_takeInt 31 = .ok (.aload_n 0, 1) := by decide +kernel
theorem dX6_takeInt_32 : decode cX6_takeInt 32 = .ok (.aload_n 0, 1) := by decide +kernel
theorem dX6_takeInt_33 : decode cX6_takeInt 33 = .ok (.getfield 23, 3) := by decide +kernel
theorem dX6_takeInt_36 : decode cX6_takeInt 36 = .ok (.bipush 10, 2) := by decide +kernel
theorem dX6_takeInt_38 : decode cX6_takeInt 38 = .ok (.imul, 1) := by decide +kernel
theorem dX6_takeInt_39 : decode cX6_takeInt 39 = .ok (.aload_n 0, 1) := by decide +kernel
theorem dX6_takeInt_40 : decode cX6_takeInt 40 = .ok (.getfield 7, 3) := by decide +kernel
theorem dX6_takeInt_43 : decode cX6_takeInt 43 = .ok (.aload_n 0, 1) := by decide +kernel
theorem dX6_takeInt_44 : decode cX6_takeInt 44 = .ok (.getfield 16, 3) := by decide +kernel
theorem dX6_takeInt_47 : decode cX6_takeInt 47 = .ok (.invokevirtual 34, 3) := by decide +kernel
theorem dX6_takeInt_50 : decode cX6_takeInt 50 = .ok (.iadd, 1) := by decide +kernel
theorem dX6_takeInt_51 : decode cX6_takeInt 51 = .ok (.bipush 48, 2) := by decide +kernel
theorem dX6_takeInt_53 : decode cX6_takeInt 53 = .ok (.isub, 1) := by decide +kernel
theorem dX6_takeInt_54 : decode cX6_takeInt 54 = .ok (.putfield 23, 3) := by decide +kernel
theorem dX6_takeInt_57 : decode cX6_takeInt 57 = .ok (.aload_n 0, 1) := by decide +kernel
theorem dX6_takeInt_58 : decode cX6_takeInt 58 = .ok (.dup, 1) := by decide +kernel
theorem dX6_takeInt_59 : decode cX6_takeInt 59 = .ok (.getfield 16, 3) := by decide +kernel
theorem dX6_takeInt_62 : decode cX6_takeInt 62 = .ok (.iconst 1, 1) := by decide +kernel
theorem dX6_takeInt_63 : decode cX6_takeInt 63 = .ok (.iadd, 1) := by decide +kernel
theorem dX6_takeInt_64 : decode cX6_takeInt 64 = .ok (.putfield 16, 3) := by decide +kernel
theorem dX6_takeInt_67 : decode cX6_takeInt 67 = .ok (.goto (-67), 3) := by decide +kernel
theorem dX6_takeInt_70 : decode cX6_takeInt 70 = .ok (.aload_n 0, 1) := by decide +kernel
theorem dX6_takeInt_71 : decode cX6_takeInt 71 = .ok (.aload_n 0, 1) := by decide +kernel
theorem dX6_takeInt_72 : decode cX6_takeInt 72 = .ok (.getfield 16, 3) := by decide +kernel
theorem dX6_takeInt_75 : decode cX6_takeInt 75 = .ok (.aload_n 0, 1) := by decide +kernel
theorem dX6_takeInt_76 : decode cX6_takeInt 76 = .ok (.getfield 26, 3) := by decide +kernel
theorem dX6_takeInt_79 : decode cX6_takeInt 79 = .ok (.isub, 1) := by decide +kernel
theorem dX6_takeInt_80 : decode cX6_takeInt 80 = .ok (.iconst 4, 1) := by decide +kernel
theorem dX6_takeInt_81 : decode cX6_takeInt 81 = .ok (.if_icmp .gt 8, 3) := by decide +kernel
theorem dX6_takeInt_84 : decode cX6_takeInt 84 = .ok (.bipush 25, 2) := by decide +kernel
theorem dX6_takeInt_86 : decode cX6_takeInt 86 = .ok (.goto 5, 3) := by decide +kernel
theorem dX6_takeInt_89 : decode cX6_takeInt 89 = .ok (.bipush 27, 2) := by decide +kernel
theorem dX6_takeInt_91 : decode cX6_takeInt 91 = .ok (.putfield 20, 3) := by decide +kernel
theorem dX6_takeInt_94 : decode cX6_takeInt 94 = .ok (.return_, 1) := by decide +kernel
theorem dX6_takeSign_0 : decode cX6_takeSign 0 = .ok (.aload_n 0, 1) := by decide +kernel
theorem dX6_takeSign_1 : decode cX6_takeSign 1 = .ok (.dup, 1) := by decide +kernel
theorem dX6_takeSign_2 : decode cX6_takeSign 2 = .ok (.getfield 16, 3) := by decide +kernel
theorem dX6_takeSign_5 : decode cX6_takeSign 5 = .ok (.iconst 1, 1) := by decide +kernel
theorem dX6_takeSign_6 : decode cX6_takeSign 6 = .ok (.iadd, 1) := by decide +kernel
theorem dX6_takeSign_7 : decode cX6_takeSign 7 = .ok (.putfield 16, 3) := by decide +kernel
theorem dX6_takeSign_10 : decode cX6_takeSign 10 = .ok (.aload_n 0, 1) := by decide +kernel
theorem dX6_takeSign_11 : decode cX6_takeSign 11 = .ok (.getfield 7, 3) := by decide +kernel
theorem dX6_takeSign_14 : decode cX6_takeSign 14 = .ok (.aload_n 0, 1) := by decide +kernel
theorem dX6_takeSign_15 : decode cX6_takeSign 15 = .ok (.getfield 16, 3) := by decide +kernel
theorem dX6_takeSign_18 : decode cX6_takeSign 18 = .ok (.invokevirtual 34, 3) := by decide +kernel
theorem dX6_takeSign_21 : decode cX6_takeSign 21 = .ok (.bipush 61, 2) := by decide +kernel
theorem dX6_takeSign_23 : decode cX6_takeSign 23 = .ok (.if_icmp .ne 7, 3) := by decide +kernel
theorem dX6_takeSign_26 : decode cX6_takeSign 26 = .ok (.iconst 1, 1) := by decide +kernel
theorem dX6_takeSign_27 : decode cX6_takeSign 27 = .ok (.goto 4, 3) := by decide +kernel
theorem dX6_takeSign_30 : decode cX6_takeSign 30 = .ok (.iconst 0, 1) := by decide +kernel
theorem dX6_takeSign_31 : decode cX6_takeSign 31 = .ok (.istore_n 2, 1) := by decide +kernel
theorem dX6_takeSign_32 : decode cX6_takeSign 32 = .ok (.aload_n 0, 1) := by decide +kernel
theorem dX6_takeSign_33 : decode cX6_takeSign 33 = .ok (.iload_n 2, 1) := by decide +kernel
theorem dX6_takeSign_34 : decode cX6_takeSign 34 = .ok (.ifCond .eq 10, 3) := by decide +kernel
theorem dX6_takeSign_37 : decode cX6_takeSign 37 = .ok (.iload_n 1, 1) := by decide +kernel
theorem dX6_takeSign_38 : decode cX6_takeSign 38 = .ok (.invokestatic 73, 3) := by decide +kernel
theorem dX6_takeSign_41 : decode cX6_takeSign 41 = .ok (.goto 5, 3) := by decide +kernel
theorem dX6_takeSign_44 : decode cX6_takeSign 44 = .ok (.bipush 27, 2) := by decide +kernel
theorem dX6_takeSign_46 : decode cX6_takeSign 46 = .ok (.putfield 20, 3) := by decide +kernel
theorem dX6_takeSign_49 : decode cX6_takeSign 49 = .ok (.aload_n 0, 1) := by decide +kernel
theorem dX6_takeSign_50 : decode cX6_takeSign 50 = .ok (.getfield 20, 3) := by decide +kernel
theorem dX6_takeSign_53 : decode cX6_takeSign 53 = .ok (.bipush 27, 2) := by decide +kernel
theorem dX6_takeSign_55 : decode cX6_takeSign 55 = .ok (.if_icmp .ne 14, 3) := by decide +kernel
theorem dX6_takeSign_58 : decode cX6_takeSign 58 = .ok (.aload_n 0, 1) := by decide +kernel
theorem dX6_takeSign_59 : decode cX6_takeSign 59 = .ok (.iload_n 1, 1) := by decide +kernel
theorem dX6_takeSign_60 : decode cX6_takeSign 60 = .ok (.invokestatic 76, 3) := by decide +kernel
theorem dX6_takeSign_63 : decode cX6_takeSign 63 = .ok (.putfield 20, 3) := by decide +kernel
theorem dX6_takeSign_66 : decode cX6_takeSign 66 = .ok (.goto 13, 3) := by decide +kernel
theorem dX6_takeSign_69 : decode cX6_takeSign 69 = .ok (.aload_n 0, 1) := by decide +kernel
theorem dX6_takeSign_70 : decode cX6_takeSign 70 = .ok (.dup, 1) := by decide +kernel
theorem dX6_takeSign_71 : decode cX6_takeSign 71 = .ok (.getfield 16, 3) := by decide +kernel
theorem dX6_takeSign_74 : decode cX6_takeSign 74 = .ok (.iconst 1, 1) := by decide +kernel
theorem dX6_takeSign_75 : decode cX6_takeSign 75 = .ok (.iadd, 1) := by decide +kernel
theorem dX6_takeSign_76 : decode cX6_takeSign 76 = .ok (.putfield 16, 3) := by decide +kernel
theorem dX6_takeSign_79 : decode cX6_takeSign 79 = .ok (.return_, 1) := by decide +kernel
theorem dX6_kindOfPair_0 : decode cX6_kindOfPair 0 = .ok (.iload_n 0, 1) := by decide +kernel
theorem dX6_kindOfPair_1 : decode cX6_kindOfPair 1 = .ok (.lookupswitch 44 #[(33, 38), (60, 41), (61, 35)], 35) := by decide +kernel
theorem dX6_kindOfPair_36 : decode cX6_kindOfPair 36 = .ok (.bipush 19, 2) := by decide +kernel
theorem dX6_kindOfPair_38 : decode cX6_kindOfPair 38 = .ok (.ireturn, 1) := by decide +kernel
theorem dX6_kindOfPair_39 : decode cX6_kindOfPair 39 = .ok (.bipush 20, 2) := by decide +kernel
theorem dX6_kindOfPair_41 : decode cX6_kindOfPair 41 = .ok (.ireturn, 1) := by decide +kernel
theorem dX6_kindOfPair_42 : decode cX6_kindOfPair 42 = .ok (.bipush 22, 2) := by decide +kernel
theorem dX6_kindOfPair_44 : decode cX6_kindOfPair 44 = .ok (.ireturn, 1) := by decide +kernel
theorem dX6_kindOfPair_45 : decode cX6_kindOfPair 45 = .ok (.bipush 27, 2) := by decide +kernel
theorem dX6_kindOfPair_47 : decode cX6_kindOfPair 47 = .ok (.ireturn, 1) := by decide +kernel
theorem dX6_kindOfSingle_0 : decode cX6_kindOfSingle 0 = .ok (.iload_n 0, 1) := by decide +kernel
theorem dX6_kindOfSingle_1 : decode cX6_kindOfSingle 1 = .ok (.tableswitch 120 40 60 #[114, 117, 108, 102, 120, 105, 120, 120, 120, 120, 120, 120, 120, 120, 120, 120, 120, 120, 120, 99, 111], 99) := by decide +kernel
theorem dX6_kindOfSingle_100 : decode cX6_kindOfSingle 100 = .ok (.bipush 15, 2) := by decide +kernel
theorem dX6_kindOfSingle_102 : decode cX6_kindOfSingle 102 = .ok (.ireturn, 1) := by decide +kernel
theorem dX6_kindOfSingle_103 : decode cX6_kindOfSingle 103 = .ok (.bipush 16, 2) := by decide +kernel
theorem dX6_kindOfSingle_105 : decode cX6_kindOfSingle 105 = .ok (.ireturn, 1) := by decide +kernel
theorem dX6_kindOfSingle_106 : decode cX6_kindOfSingle 106 = .ok (.bipush 17, 2) := by decide +kernel
theorem dX6_kindOfSingle_108 : decode cX6_kindOfSingle 108 = .ok (.ireturn, 1) := by decide +kernel
theorem dX6_kindOfSingle_109 : decode cX6_kindOfSingle 109 = .ok (.bipush 18, 2) := by decide +kernel
theorem dX6_kindOfSingle_111 : decode cX6_kindOfSingle 111 = .ok (.ireturn, 1) := by decide +kernel
theorem dX6_kindOfSingle_112 : decode cX6_kindOfSingle 112 = .ok (.bipush 21, 2) := by decide +kernel
theorem dX6_kindOfSingle_114 : decode cX6_kindOfSingle 114 = .ok (.ireturn, 1) := by decide +kernel
theorem dX6_kindOfSingle_115 : decode cX6_kindOfSingle 115 = .ok (.bipush 23, 2) := by decide +kernel
theorem dX6_kindOfSingle_117 : decode cX6_kindOfSingle 117 = .ok (.ireturn, 1) := by decide +kernel
theorem dX6_kindOfSingle_118 : decode cX6_kindOfSingle 118 = .ok (.bipush 24, 2) := by decide +kernel
theorem dX6_kindOfSingle_120 : decode cX6_kindOfSingle 120 = .ok (.ireturn, 1) := by decide +kernel
theorem dX6_kindOfSingle_121 : decode cX6_kindOfSingle 121 = .ok (.bipush 27, 2) := by decide +kernel
theorem dX6_kindOfSingle_123 : decode cX6_kindOfSingle 123 = .ok (.ireturn, 1) := by decide +kernel
theorem dX6_isBlank_0 : decode cX6_isBlank 0 = .ok (.iload_n 0, 1) := by decide +kernel
theorem dX6_isBlank_1 : decode cX6_isBlank 1 = .ok (.bipush 9, 2) := by decide +kernel
theorem dX6_isBlank_3 : decode cX6_isBlank 3 = .ok (.if_icmp .eq 21, 3) := by decide +kernel
theorem dX6_isBlank_6 : decode cX6_isBlank 6 = .ok (.iload_n 0, 1) := by decide +kernel
theorem dX6_isBlank_7 : decode cX6_isBlank 7 = .ok (.bipush 10, 2) := by decide +kernel
theorem dX6_isBlank_9 : decode cX6_isBlank 9 = .ok (.if_icmp .eq 15, 3) := by decide +kernel
theorem dX6_isBlank_12 : decode cX6_isBlank 12 = .ok (.iload_n 0, 1) := by decide +kernel
theorem dX6_isBlank_13 : decode cX6_isBlank 13 = .ok (.bipush 13, 2) := by decide +kernel
theorem dX6_isBlank_15 : decode cX6_isBlank 15 = .ok (.if_icmp .eq 9, 3) := by decide +kernel
theorem dX6_isBlank_18 : decode cX6_isBlank 18 = .ok (.iload_n 0, 1) := by decide +kernel
theorem dX6_isBlank_19 : decode cX6_isBlank 19 = .ok (.bipush 32, 2) := by decide +kernel
theorem dX6_isBlank_21 : decode cX6_isBlank 21 = .ok (.if_icmp .ne 7, 3) := by decide +kernel
theorem dX6_isBlank_24 : decode cX6_isBlank 24 = .ok (.iconst 1, 1) := by decide +kernel
theorem dX6_isBlank_25 : decode cX6_isBlank 25 = .ok (.goto 4, 3) := by decide +kernel
theorem dX6_isBlank_28 : decode cX6_isBlank 28 = .ok (.iconst 0, 1) := by decide +kernel
theorem dX6_isBlank_29 : decode cX6_isBlank 29 = .ok (.ireturn, 1) := by decide +kernel
theorem dX6_isLetter_0 : decode cX6_isLetter 0 = .ok (.iload_n 0, 1) := by decide +kernel
theorem dX6_isLetter_1 : decode cX6_isLetter 1 = .ok (.bipush 97, 2) := by decide +kernel
theorem dX6_isLetter_3 : decode cX6_isLetter 3 = .ok (.if_icmp .lt 13, 3) := by decide +kernel
theorem dX6_isLetter_6 : decode cX6_isLetter 6 = .ok (.iload_n 0, 1) := by decide +kernel
theorem dX6_isLetter_7 : decode cX6_isLetter 7 = .ok (.bipush 122, 2) := by decide +kernel
theorem dX6_isLetter_9 : decode cX6_isLetter 9 = .ok (.if_icmp .gt 7, 3) := by decide +kernel
theorem dX6_isLetter_12 : decode cX6_isLetter 12 = .ok (.iconst 1, 1) := by decide +kernel
theorem dX6_isLetter_13 : decode cX6_isLetter 13 = .ok (.goto 4, 3) := by decide +kernel
theorem dX6_isLetter_16 : decode cX6_isLetter 16 = .ok (.iconst 0, 1) := by decide +kernel
theorem dX6_isLetter_17 : decode cX6_isLetter 17 = .ok (.ireturn, 1) := by decide +kernel
theorem dX6_isDigit_0 : decode cX6_isDigit 0 = .ok (.iload_n 0, 1) := by decide +kernel
theorem dX6_isDigit_1 : decode cX6_isDigit 1 = .ok (.bipush 48, 2) := by decide +kernel
theorem dX6_isDigit_3 : decode cX6_isDigit 3 = .ok (.if_icmp .lt 13, 3) := by decide +kernel
theorem dX6_isDigit_6 : decode cX6_isDigit 6 = .ok (.iload_n 0, 1) := by decide +kernel
theorem dX6_isDigit_7 : decode cX6_isDigit 7 = .ok (.bipush 57, 2) := by decide +kernel
theorem dX6_isDigit_9 : decode cX6_isDigit 9 = .ok (.if_icmp .gt 7, 3) := by decide +kernel
theorem dX6_isDigit_12 : decode cX6_isDigit 12 = .ok (.iconst 1, 1) := by decide +kernel
theorem dX6_isDigit_13 : decode cX6_isDigit 13 = .ok (.goto 4, 3) := by decide +kernel
theorem dX6_isDigit_16 : decode cX6_isDigit 16 = .ok (.iconst 0, 1) := by decide +kernel
theorem dX6_isDigit_17 : decode cX6_isDigit 17 = .ok (.ireturn, 1) := by decide +kernel
theorem dX7_init_0 : decode cX7_init 0 = .ok (.aload_n 0, 1) := by decide +kernel
theorem dX7_init_1 : decode cX7_init 1 = .ok (.invokespecial 3, 3) := by decide +kernel
theorem dX7_init_4 : decode cX7_init 4 = .ok (.aload_n 0, 1) := by decide +kernel
theorem dX7_init_5 : decode cX7_init 5 = .ok (.bipush 6, 2) := by decide +kernel
theorem dX7_init_7 : decode cX7_init 7 = .ok (.anewarray 9, 3) := by decide +kernel
theorem dX7_init_10 : decode cX7_init 10 = .ok (.putfield 11, 3) := by decide +kernel
theorem dX7_init_13 : decode cX7_init 13 = .ok (.aload_n 0, 1) := by decide +kernel
theorem dX7_init_14 : decode cX7_init 14 = .ok (.bipush 10, 2) := by decide +kernel
theorem dX7_init_16 : decode cX7_init 16 = .ok (.newarray .int, 2) := by decide +kernel
theorem dX7_init_18 : decode cX7_init 18 = .ok (.putfield 17, 3) := by decide +kernel
theorem dX7_init_21 : decode cX7_init 21 = .ok (.aload_n 0, 1) := by decide +kernel
theorem dX7_init_22 : decode cX7_init 22 = .ok (.iconst 0, 1) := by decide +kernel
theorem dX7_init_23 : decode cX7_init 23 = .ok (.putfield 21, 3) := by decide +kernel
theorem dX7_init_26 : decode cX7_init 26 = .ok (.aload_n 0, 1) := by decide +kernel
theorem dX7_init_27 : decode cX7_init 27 = .ok (.iconst 1, 1) := by decide +kernel
theorem dX7_init_28 : decode cX7_init 28 = .ok (.putfield 25, 3) := by decide +kernel
theorem dX7_init_31 : decode cX7_init 31 = .ok (.aload_n 0, 1) := by decide +kernel
theorem dX7_init_32 : decode cX7_init 32 = .ok (.iconst 0, 1) := by decide +kernel
theorem dX7_init_33 : decode cX7_init 33 = .ok (.putfield 29, 3) := by decide +kernel
theorem dX7_init_36 : decode cX7_init 36 = .ok (.aload_n 0, 1) := by decide +kernel
theorem dX7_init_37 : decode cX7_init 37 = .ok (.bipush 100, 2) := by decide +kernel
theorem dX7_init_39 : decode cX7_init 39 = .ok (.putfield 32, 3) := by decide +kernel
theorem dX7_init_42 : decode cX7_init 42 = .ok (.return_, 1) := by decide +kernel
theorem dX7_add_0 : decode cX7_add 0 = .ok (.aload_n 0, 1) := by decide +kernel
theorem dX7_add_1 : decode cX7_add 1 = .ok (.getfield 21, 3) := by decide +kernel
theorem dX7_add_4 : decode cX7_add 4 = .ok (.bipush 6, 2) := by decide +kernel
theorem dX7_add_6 : decode cX7_add 6 = .ok (.if_icmp .lt 5, 3) := by decide +kernel
theorem dX7_add_9 : decode cX7_add 9 = .ok (.iconst (-1), 1) := by decide +kernel
theorem dX7_add_10 : decode cX7_add 10 = .ok (.ireturn, 1) := by decide +kernel
theorem dX7_add_11 : decode cX7_add 11 = .ok (.aload_n 0, 1) := by decide +kernel
theorem dX7_add_12 : decode cX7_add 12 = .ok (.getfield 11, 3) := by decide +kernel
theorem dX7_add_15 : decode cX7_add 15 = .ok (.aload_n 0, 1) := by decide +kernel
theorem dX7_add_16 : decode cX7_add 16 = .ok (.getfield 21, 3) := by decide +kernel
theorem dX7_add_19 : decode cX7_add 19 = .ok (.aload_n 1, 1) := by decide +kernel
theorem dX7_add_20 : decode cX7_add 20 = .ok (.aastore, 1) := by decide +kernel
theorem dX7_add_21 : decode cX7_add 21 = .ok (.aload_n 0, 1) := by decide +kernel
theorem dX7_add_22 : decode cX7_add 22 = .ok (.dup, 1) := by decide +kernel
theorem dX7_add_23 : decode cX7_add 23 = .ok (.getfield 21, 3) := by decide +kernel
theorem dX7_add_26 : decode cX7_add 26 = .ok (.iconst 1, 1) := by decide +kernel
theorem dX7_add_27 : decode cX7_add 27 = .ok (.iadd, 1) := by decide +kernel
theorem dX7_add_28 : decode cX7_add 28 = .ok (.putfield 21, 3) := by decide +kernel
theorem dX7_add_31 : decode cX7_add 31 = .ok (.aload_n 0, 1) := by decide +kernel
theorem dX7_add_32 : decode cX7_add 32 = .ok (.getfield 21, 3) := by decide +kernel
theorem dX7_add_35 : decode cX7_add 35 = .ok (.iconst 1, 1) := by decide +kernel
theorem dX7_add_36 : decode cX7_add 36 = .ok (.isub, 1) := by decide +kernel
theorem dX7_add_37 : decode cX7_add 37 = .ok (.ireturn, 1) := by decide +kernel
theorem dX7_actAt_0 : decode cX7_actAt 0 = .ok (.iload_n 1, 1) := by decide +kernel
theorem dX7_actAt_1 : decode cX7_actAt 1 = .ok (.ifCond .lt 26, 3) := by decide +kernel
theorem dX7_actAt_4 : decode cX7_actAt 4 = .ok (.iload_n 1, 1) := by decide +kernel
theorem dX7_actAt_5 : decode cX7_actAt 5 = .ok (.aload_n 0, 1) := by decide +kernel
theorem dX7_actAt_6 : decode cX7_actAt 6 = .ok (.getfield 21, 3) := by decide +kernel
theorem dX7_actAt_9 : decode cX7_actAt 9 = .ok (.if_icmp .ge 18, 3) := by decide +kernel
theorem dX7_actAt_12 : decode cX7_actAt 12 = .ok (.iload_n 1, 1) := by decide +kernel
theorem dX7_actAt_13 : decode cX7_actAt 13 = .ok (.bipush 6, 2) := by decide +kernel
theorem dX7_actAt_15 : decode cX7_actAt 15 = .ok (.if_icmp .ge 12, 3) := by decide +kernel
theorem dX7_actAt_18 : decode cX7_actAt 18 = .ok (.aload_n 0, 1) := by decide +kernel
theorem dX7_actAt_19 : decode cX7_actAt 19 = .ok (.getfield 11, 3) := by decide +kernel
theorem dX7_actAt_22 : decode cX7_actAt 22 = .ok (.iload_n 1, 1) := by decide +kernel
theorem dX7_actAt_23 : decode cX7_actAt 23 = .ok (.aaload, 1) := by decide +kernel
theorem dX7_actAt_24 : decode cX7_actAt 24 = .ok (.goto 4, 3) := by decide +kernel
theorem dX7_actAt_27 : decode cX7_actAt 27 = .ok (.aconst_null, 1) := by decide +kernel
theorem dX7_actAt_28 : decode cX7_actAt 28 = .ok (.areturn, 1) := by decide +kernel
theorem dX7_resetFalls_0 : decode cX7_resetFalls 0 = .ok (.aload_n 0, 1) := by decide +kernel
theorem dX7_resetFalls_1 : decode cX7_resetFalls 1 = .ok (.iload_n 1, 1) := by decide +kernel
theorem dX7_resetFalls_2 : decode cX7_resetFalls 2 = .ok (.putfield 25, 3) := by decide +kernel
theorem dX7_resetFalls_5 : decode cX7_resetFalls 5 = .ok (.aload_n 0, 1) := by decide +kernel
theorem dX7_resetFalls_6 : decode cX7_resetFalls 6 = .ok (.getfield 17, 3) := by decide +kernel
theorem dX7_resetFalls_9 : decode cX7_resetFalls 9 = .ok (.iconst 0, 1) := by decide +kernel
theorem dX7_resetFalls_10 : decode cX7_resetFalls 10 = .ok (.invokestatic 35, 3) := by decide +kernel
theorem dX7_resetFalls_13 : decode cX7_resetFalls 13 = .ok (.return_, 1) := by decide +kernel
theorem dX7_refuses_0 : decode cX7_refuses 0 = .ok (.aload_n 0, 1) := by decide +kernel
theorem dX7_refuses_1 : decode cX7_refuses 1 = .ok (.getfield 25, 3) := by decide +kernel
theorem dX7_refuses_4 : decode cX7_refuses 4 = .ok (.ifCond .ne 23, 3) := by decide +kernel
theorem dX7_refuses_7 : decode cX7_refuses 7 = .ok (.aload_n 1, 1) := by decide +kernel
theorem dX7_refuses_8 : decode cX7_refuses 8 = .ok (.getfield 41, 3) := by decide +kernel
theorem dX7_refuses_11 : decode cX7_refuses 11 = .ok (.ifCond .lt 16, 3) := by decide +kernel
theorem dX7_refuses_14 : decode cX7_refuses 14 = .ok (.aload_n 1, 1) := by decide +kernel
theorem dX7_refuses_15 : decode cX7_refuses 15 = .ok (.getfield 41, 3) := by decide +kernel
theorem dX7_refuses_18 : decode cX7_refuses 18 = .ok (.bipush 10, 2) := by decide +kernel
theorem dX7_refuses_20 : decode cX7_refuses 20 = .ok (.if_icmp .ge 7, 3) := by decide +kernel
theorem dX7_refuses_23 : decode cX7_refuses 23 = .ok (.iconst 1, 1) := by decide +kernel
theorem dX7_refuses_24 : decode cX7_refuses 24 = .ok (.goto 4, 3) := by decide +kernel
theorem dX7_refuses_27 : decode cX7_refuses 27 = .ok (.iconst 0, 1) := by decide +kernel
theorem dX7_refuses_28 : decode cX7_refuses 28 = .ok (.istore_n 2, 1) := by decide +kernel
theorem dX7_refuses_29 : decode cX7_refuses 29 = .ok (.iload_n 2, 1) := by decide +kernel
theorem dX7_refuses_30 : decode cX7_refuses 30 = .ok (.ifCond .eq 15, 3) := by decide +kernel
theorem dX7_refuses_33 : decode cX7_refuses 33 = .ok (.aload_n 0, 1) := by decide +kernel
theorem dX7_refuses_34 : decode cX7_refuses 34 = .ok (.getfield 17, 3) := by decide +kernel
theorem dX7_refuses_37 : decode cX7_refuses 37 = .ok (.aload_n 1, 1) := by decide +kernel
theorem dX7_refuses_38 : decode cX7_refuses 38 = .ok (.getfield 41, 3) := by decide +kernel
theorem dX7_refuses_41 : decode cX7_refuses 41 = .ok (.iaload, 1) := by decide +kernel
theorem dX7_refuses_42 : decode cX7_refuses 42 = .ok (.goto 5, 3) := by decide +kernel
theorem dX7_refuses_45 : decode cX7_refuses 45 = .ok (.bipush 20, 2) := by decide +kernel
theorem dX7_refuses_47 : decode cX7_refuses 47 = .ok (.istore_n 3, 1) := by decide +kernel
theorem dX7_refuses_48 : decode cX7_refuses 48 = .ok (.aload_n 1, 1) := by decide +kernel
theorem dX7_refuses_49 : decode cX7_refuses 49 = .ok (.getfield 46, 3) := by decide +kernel
theorem dX7_refuses_52 : decode cX7_refuses 52 = .ok (.iload_n 3, 1) := by decide +kernel
theorem dX7_refuses_53 : decode cX7_refuses 53 = .ok (.imul, 1) := by decide +kernel
theorem dX7_refuses_54 : decode cX7_refuses 54 = .ok (.bipush 10, 2) := by decide +kernel
theorem dX7_refuses_56 : decode cX7_refuses 56 = .ok (.idiv, 1) := by decide +kernel
theorem dX7_refuses_57 : decode cX7_refuses 57 = .ok (.aload_n 0, 1) := by decide +kernel
theorem dX7_refuses_58 : decode cX7_refuses 58 = .ok (.getfield 29, 3) := by decide +kernel
theorem dX7_refuses_61 : decode cX7_refuses 61 = .ok (.iadd, 1) := by decide +kernel
theorem dX7_refuses_62 : decode cX7_refuses 62 = .ok (.aload_n 0, 1) := by decide +kernel
theorem dX7_refuses_63 : decode cX7_refuses 63 = .ok (.getfield 32, 3) := by decide +kernel
theorem dX7_refuses_66 : decode cX7_refuses 66 = .ok (.if_icmp .lt 7, 3) := by decide +kernel
theorem dX7_refuses_69 : decode cX7_refuses 69 = .ok (.iconst 1, 1) := by decide +kernel
theorem dX7_refuses_70 : decode cX7_refuses 70 = .ok (.goto 4, 3) := by decide +kernel
