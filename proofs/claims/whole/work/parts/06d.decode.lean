theorem dX10_work_124 : decode cX10_work 124 = .ok (.iconst 2, 1) := by decide +kernel
theorem dX10_work_125 : decode cX10_work 125 = .ok (.if_icmp .lt 36, 3) := by decide +kernel
theorem dX10_work_128 : decode cX10_work 128 = .ok (.iinc 4 (-1), 3) := by decide +kernel
theorem dX10_work_131 : decode cX10_work 131 = .ok (.aload_n 0, 1) := by decide +kernel
theorem dX10_work_132 : decode cX10_work 132 = .ok (.getfield 29, 3) := by decide +kernel
theorem dX10_work_135 : decode cX10_work 135 = .ok (.iload 4, 2) := by decide +kernel
theorem dX10_work_137 : decode cX10_work 137 = .ok (.iconst 1, 1) := by decide +kernel
theorem dX10_work_138 : decode cX10_work 138 = .ok (.isub, 1) := by decide +kernel
theorem dX10_work_139 : decode cX10_work 139 = .ok (.iload 6, 2) := by decide +kernel
theorem dX10_work_141 : decode cX10_work 141 = .ok (.aload_n 0, 1) := by decide +kernel
theorem dX10_work_142 : decode cX10_work 142 = .ok (.getfield 29, 3) := by decide +kernel
theorem dX10_work_145 : decode cX10_work 145 = .ok (.iload 4, 2) := by decide +kernel
theorem dX10_work_147 : decode cX10_work 147 = .ok (.iconst 1, 1) := by decide +kernel
theorem dX10_work_148 : decode cX10_work 148 = .ok (.isub, 1) := by decide +kernel
theorem dX10_work_149 : decode cX10_work 149 = .ok (.iaload, 1) := by decide +kernel
theorem dX10_work_150 : decode cX10_work 150 = .ok (.aload_n 0, 1) := by decide +kernel
theorem dX10_work_151 : decode cX10_work 151 = .ok (.getfield 29, 3) := by decide +kernel
theorem dX10_work_154 : decode cX10_work 154 = .ok (.iload 4, 2) := by decide +kernel
theorem dX10_work_156 : decode cX10_work 156 = .ok (.iaload, 1) := by decide +kernel
theorem dX10_work_157 : decode cX10_work 157 = .ok (.invokestatic 52, 3) := by decide +kernel
theorem dX10_work_160 : decode cX10_work 160 = .ok (.iastore, 1) := by decide +kernel
theorem dX10_work_161 : decode cX10_work 161 = .ok (.iinc 5 1, 3) := by decide +kernel
theorem dX10_work_164 : decode cX10_work 164 = .ok (.goto (-154), 3) := by decide +kernel
theorem dX10_work_167 : decode cX10_work 167 = .ok (.aload_n 0, 1) := by decide +kernel
theorem dX10_work_168 : decode cX10_work 168 = .ok (.getfield 29, 3) := by decide +kernel
theorem dX10_work_171 : decode cX10_work 171 = .ok (.iconst 0, 1) := by decide +kernel
theorem dX10_work_172 : decode cX10_work 172 = .ok (.iaload, 1) := by decide +kernel
theorem dX10_work_173 : decode cX10_work 173 = .ok (.ireturn, 1) := by decide +kernel
theorem dX10_join_0 : decode cX10_join 0 = .ok (.iload_n 0, 1) := by decide +kernel
theorem dX10_join_1 : decode cX10_join 1 = .ok (.tableswitch 147 5 22 #[143, 147, 147, 147, 147, 147, 147, 147, 147, 147, 147, 87, 91, 95, 99, 110, 121, 132], 87) := by decide +kernel
theorem dX10_join_88 : decode cX10_join 88 = .ok (.iload_n 1, 1) := by decide +kernel
theorem dX10_join_89 : decode cX10_join 89 = .ok (.iload_n 2, 1) := by decide +kernel
theorem dX10_join_90 : decode cX10_join 90 = .ok (.iadd, 1) := by decide +kernel
theorem dX10_join_91 : decode cX10_join 91 = .ok (.ireturn, 1) := by decide +kernel
theorem dX10_join_92 : decode cX10_join 92 = .ok (.iload_n 1, 1) := by decide +kernel
theorem dX10_join_93 : decode cX10_join 93 = .ok (.iload_n 2, 1) := by decide +kernel
theorem dX10_join_94 : decode cX10_join 94 = .ok (.isub, 1) := by decide +kernel
theorem dX10_join_95 : decode cX10_join 95 = .ok (.ireturn, 1) := by decide +kernel
theorem dX10_join_96 : decode cX10_join 96 = .ok (.iload_n 1, 1) := by decide +kernel
theorem dX10_join_97 : decode cX10_join 97 = .ok (.iload_n 2, 1) := by decide +kernel
theorem dX10_join_98 : decode cX10_join 98 = .ok (.imul, 1) := by decide +kernel
theorem dX10_join_99 : decode cX10_join 99 = .ok (.ireturn, 1) := by decide +kernel
theorem dX10_join_100 : decode cX10_join 100 = .ok (.iload_n 1, 1) := by decide +kernel
theorem dX10_join_101 : decode cX10_join 101 = .ok (.iload_n 2, 1) := by decide +kernel
theorem dX10_join_102 : decode cX10_join 102 = .ok (.if_icmp .ne 7, 3) := by decide +kernel
theorem dX10_join_105 : decode cX10_join 105 = .ok (.iconst 1, 1) := by decide +kernel
theorem dX10_join_106 : decode cX10_join 106 = .ok (.goto 4, 3) := by decide +kernel
theorem dX10_join_109 : decode cX10_join 109 = .ok (.iconst 0, 1) := by decide +kernel
theorem dX10_join_110 : decode cX10_join 110 = .ok (.ireturn, 1) := by decide +kernel
theorem dX10_join_111 : decode cX10_join 111 = .ok (.iload_n 1, 1) := by decide +kernel
theorem dX10_join_112 : decode cX10_join 112 = .ok (.iload_n 2, 1) := by decide +kernel
theorem dX10_join_113 : decode cX10_join 113 = .ok (.if_icmp .eq 7, 3) := by decide +kernel
theorem dX10_join_116 : decode cX10_join 116 = .ok (.iconst 1, 1) := by decide +kernel
theorem dX10_join_117 : decode cX10_join 117 = .ok (.goto 4, 3) := by decide +kernel
theorem dX10_join_120 : decode cX10_join 120 = .ok (.iconst 0, 1) := by decide +kernel
theorem dX10_join_121 : decode cX10_join 121 = .ok (.ireturn, 1) := by decide +kernel
theorem dX10_join_122 : decode cX10_join 122 = .ok (.iload_n 1, 1) := by decide +kernel
theorem dX10_join_123 : decode cX10_join 123 = .ok (.iload_n 2, 1) := by decide +kernel
theorem dX10_join_124 : decode cX10_join 124 = .ok (.if_icmp .ge 7, 3) := by decide +kernel
theorem dX10_join_127 : decode cX10_join 127 = .ok (.iconst 1, 1) := by decide +kernel
theorem dX10_join_128 : decode cX10_join 128 = .ok (.goto 4, 3) := by decide +kernel
theorem dX10_join_131 : decode cX10_join 131 = .ok (.iconst 0, 1) := by decide +kernel
theorem dX10_join_132 : decode cX10_join 132 = .ok (.ireturn, 1) := by decide +kernel
theorem dX10_join_133 : decode cX10_join 133 = .ok (.iload_n 1, 1) := by decide +kernel
theorem dX10_join_134 : decode cX10_join 134 = .ok (.iload_n 2, 1) := by decide +kernel
theorem dX10_join_135 : decode cX10_join 135 = .ok (.if_icmp .gt 7, 3) := by decide +kernel
theorem dX10_join_138 : decode cX10_join 138 = .ok (.iconst 1, 1) := by decide +kernel
theorem dX10_join_139 : decode cX10_join 139 = .ok (.goto 4, 3) := by decide +kernel
theorem dX10_join_142 : decode cX10_join 142 = .ok (.iconst 0, 1) := by decide +kernel
theorem dX10_join_143 : decode cX10_join 143 = .ok (.ireturn, 1) := by decide +kernel
theorem dX10_join_144 : decode cX10_join 144 = .ok (.iload_n 1, 1) := by decide +kernel
theorem dX10_join_145 : decode cX10_join 145 = .ok (.iload_n 2, 1) := by decide +kernel
theorem dX10_join_146 : decode cX10_join 146 = .ok (.iand, 1) := by decide +kernel
theorem dX10_join_147 : decode cX10_join 147 = .ok (.ireturn, 1) := by decide +kernel
theorem dX10_join_148 : decode cX10_join 148 = .ok (.iload_n 1, 1) := by decide +kernel
theorem dX10_join_149 : decode cX10_join 149 = .ok (.iload_n 2, 1) := by decide +kernel
theorem dX10_join_150 : decode cX10_join 150 = .ok (.ior, 1) := by decide +kernel
theorem dX10_join_151 : decode cX10_join 151 = .ok (.ireturn, 1) := by decide +kernel
set_option maxRecDepth 20000 in
theorem ggX11_init_X9_init : GoodIn wsX11_init wsX9_init := goodIn_r _ [41, 42, 2, 3, 43, 44, 45, 146, 147] (by decide +kernel) (by decide +kernel)
set_option maxRecDepth 20000 in
theorem gX11_init_X9_init : GoodIn wsX11_init (wsX9_init) := ggX11_init_X9_init
set_option maxRecDepth 20000 in
theorem ggX11_init_X5_init : GoodIn wsX11_init wsX5_init := goodIn_r _ [48, 49, 2, 3, 50, 51, 52, 53, 54, 55, 56, 57, 58, 59, 60, 61, 62, 63, 64, 65, 66, 67, 68, 69, 70, 71, 72, 159, 160, 161, 162, 163, 164, 201, 202, 203, 204, 205] (by decide +kernel) (by decide +kernel)
set_option maxRecDepth 20000 in
theorem gX11_init_X5_init : GoodIn wsX11_init (wsX5_init) := ggX11_init_X5_init
set_option maxRecDepth 20000 in
theorem ggX11_init_X7_init : GoodIn wsX11_init wsX7_init := goodIn_r _ [75, 76, 2, 3, 77, 78, 50, 79, 80, 81, 82, 83, 165, 166, 167, 168, 169, 170] (by decide +kernel) (by decide +kernel)
set_option maxRecDepth 20000 in
theorem gX11_init_X7_init : GoodIn wsX11_init (wsX7_init) := ggX11_init_X7_init
set_option maxRecDepth 20000 in
theorem ggX11_init_X1_init : GoodIn wsX11_init wsX1_init := goodIn_r _ [86, 87, 2, 3, 50, 88, 89, 90, 91, 171, 172, 173, 174] (by decide +kernel) (by decide +kernel)
set_option maxRecDepth 20000 in
theorem gX11_init_X1_init : GoodIn wsX11_init (wsX1_init) := ggX11_init_X1_init
set_option maxRecDepth 20000 in
theorem ggX11_init_X8_init : GoodIn wsX11_init wsX8_init := goodIn_r _ [94, 95, 2, 3, 50, 96, 97, 98, 99, 100, 101, 102, 175, 176, 177] (by decide +kernel) (by decide +kernel)
set_option maxRecDepth 20000 in
theorem gX11_init_X8_init : GoodIn wsX11_init (wsX8_init) := ggX11_init_X8_init
set_option maxRecDepth 20000 in
theorem ggX11_init_X10_init : GoodIn wsX11_init wsX10_init := goodIn_r _ [105, 106, 2, 3, 50, 107, 108, 109, 110, 111, 112, 113, 114, 178, 179, 180, 181, 182, 183, 184, 185] (by decide +kernel) (by decide +kernel)
set_option maxRecDepth 20000 in
theorem gX11_init_X10_init : GoodIn wsX11_init (wsX10_init) := ggX11_init_X10_init
set_option maxRecDepth 20000 in
theorem ggX11_init_X4_init : GoodIn wsX11_init wsX4_init := goodIn_r _ [117, 118, 2, 3, 50, 119, 120, 121, 122, 123, 34, 35, 124, 125, 126, 127, 128, 129, 130, 131, 132, 133, 134, 135, 136, 137, 138, 139, 140, 141, 142, 143, 144, 100, 101, 102, 186, 187, 188, 189, 190, 191, 192, 193, 194, 195, 196, 197, 198, 199, 200] (by decide +kernel) (by decide +kernel)
set_option maxRecDepth 20000 in
theorem gX11_init_X4_init : GoodIn wsX11_init (wsX4_init) := ggX11_init_X4_init
set_option maxRecDepth 20000 in
theorem ggX11_init_X3_init : GoodIn wsX11_init wsX3_init := goodIn_r _ [131, 132, 2, 3, 50, 133, 134, 135, 136, 137, 138, 139, 140, 35, 141, 142, 143, 144, 100, 101, 102, 194, 195, 196, 197, 198, 199, 200] (by decide +kernel) (by decide +kernel)
set_option maxRecDepth 20000 in
theorem gX11_init_X3_init : GoodIn wsX11_init (wsX3_init) := ggX11_init_X3_init
theorem dX11_init_0 : decode cX11_init 0 = .ok (.aload_n 0, 1) := by decide +kernel
theorem dX11_init_1 : decode cX11_init 1 = .ok (.invokespecial 1, 3) := by decide +kernel
theorem dX11_init_4 : decode cX11_init 4 = .ok (.aload_n 0, 1) := by decide +kernel
theorem dX11_init_5 : decode cX11_init 5 = .ok (.new 7, 3) := by decide +kernel
theorem dX11_init_8 : decode cX11_init 8 = .ok (.dup, 1) := by decide +kernel
theorem dX11_init_9 : decode cX11_init 9 = .ok (.invokespecial 9, 3) := by decide +kernel
theorem dX11_init_12 : decode cX11_init 12 = .ok (.putfield 10, 3) := by decide +kernel
theorem dX11_init_15 : decode cX11_init 15 = .ok (.aload_n 0, 1) := by decide +kernel
theorem dX11_init_16 : decode cX11_init 16 = .ok (.new 16, 3) := by decide +kernel
theorem dX11_init_19 : decode cX11_init 19 = .ok (.dup, 1) := by decide +kernel
theorem dX11_init_20 : decode cX11_init 20 = .ok (.aload_n 0, 1) := by decide +kernel
theorem dX11_init_21 : decode cX11_init 21 = .ok (.getfield 10, 3) := by decide +kernel
theorem dX11_init_24 : decode cX11_init 24 = .ok (.invokespecial 18, 3) := by decide +kernel
theorem dX11_init_27 : decode cX11_init 27 = .ok (.putfield 21, 3) := by decide +kernel
theorem dX11_init_30 : decode cX11_init 30 = .ok (.aload_n 0, 1) := by decide +kernel
theorem dX11_init_31 : decode cX11_init 31 = .ok (.new 25, 3) := by decide +kernel
theorem dX11_init_34 : decode cX11_init 34 = .ok (.dup, 1) := by decide +kernel
theorem dX11_init_35 : decode cX11_init 35 = .ok (.invokespecial 27, 3) := by decide +kernel
theorem dX11_init_38 : decode cX11_init 38 = .ok (.putfield 28, 3) := by decide +kernel
theorem dX11_init_41 : decode cX11_init 41 = .ok (.aload_n 0, 1) := by decide +kernel
theorem dX11_init_42 : decode cX11_init 42 = .ok (.new 32, 3) := by decide +kernel
theorem dX11_init_45 : decode cX11_init 45 = .ok (.dup, 1) := by decide +kernel
theorem dX11_init_46 : decode cX11_init 46 = .ok (.invokespecial 34, 3) := by decide +kernel
theorem dX11_init_49 : decode cX11_init 49 = .ok (.putfield 35, 3) := by decide +kernel
theorem dX11_init_52 : decode cX11_init 52 = .ok (.aload_n 0, 1) := by decide +kernel
theorem dX11_init_53 : decode cX11_init 53 = .ok (.new 39, 3) := by decide +kernel
theorem dX11_init_56 : decode cX11_init 56 = .ok (.dup, 1) := by decide +kernel
theorem dX11_init_57 : decode cX11_init 57 = .ok (.invokespecial 41, 3) := by decide +kernel
theorem dX11_init_60 : decode cX11_init 60 = .ok (.putfield 42, 3) := by decide +kernel
theorem dX11_init_63 : decode cX11_init 63 = .ok (.aload_n 0, 1) := by decide +kernel
theorem dX11_init_64 : decode cX11_init 64 = .ok (.new 46, 3) := by decide +kernel
theorem dX11_init_67 : decode cX11_init 67 = .ok (.dup, 1) := by decide +kernel
theorem dX11_init_68 : decode cX11_init 68 = .ok (.invokespecial 48, 3) := by decide +kernel
theorem dX11_init_71 : decode cX11_init 71 = .ok (.putfield 49, 3) := by decide +kernel
theorem dX11_init_74 : decode cX11_init 74 = .ok (.aload_n 0, 1) := by decide +kernel
theorem dX11_init_75 : decode cX11_init 75 = .ok (.new 46, 3) := by decide +kernel
theorem dX11_init_78 : decode cX11_init 78 = .ok (.dup, 1) := by decide +kernel
theorem dX11_init_79 : decode cX11_init 79 = .ok (.invokespecial 48, 3) := by decide +kernel
theorem dX11_init_82 : decode cX11_init 82 = .ok (.putfield 53, 3) := by decide +kernel
theorem dX11_init_85 : decode cX11_init 85 = .ok (.aload_n 0, 1) := by decide +kernel
theorem dX11_init_86 : decode cX11_init 86 = .ok (.new 56, 3) := by decide +kernel
theorem dX11_init_89 : decode cX11_init 89 = .ok (.dup, 1) := by decide +kernel
theorem dX11_init_90 : decode cX11_init 90 = .ok (.aload_n 0, 1) := by decide +kernel
theorem dX11_init_91 : decode cX11_init 91 = .ok (.getfield 28, 3) := by decide +kernel
theorem dX11_init_94 : decode cX11_init 94 = .ok (.aload_n 0, 1) := by decide +kernel
theorem dX11_init_95 : decode cX11_init 95 = .ok (.getfield 42, 3) := by decide +kernel
theorem dX11_init_98 : decode cX11_init 98 = .ok (.aload_n 0, 1) := by decide +kernel
theorem dX11_init_99 : decode cX11_init 99 = .ok (.getfield 49, 3) := by decide +kernel
theorem dX11_init_102 : decode cX11_init 102 = .ok (.invokespecial 58, 3) := by decide +kernel
theorem dX11_init_105 : decode cX11_init 105 = .ok (.putfield 61, 3) := by decide +kernel
theorem dX11_init_108 : decode cX11_init 108 = .ok (.aload_n 0, 1) := by decide +kernel
theorem dX11_init_109 : decode cX11_init 109 = .ok (.new 65, 3) := by decide +kernel
theorem dX11_init_112 : decode cX11_init 112 = .ok (.dup, 1) := by decide +kernel
theorem dX11_init_113 : decode cX11_init 113 = .ok (.invokespecial 67, 3) := by decide +kernel
theorem dX11_init_116 : decode cX11_init 116 = .ok (.putfield 68, 3) := by decide +kernel
theorem dX11_init_119 : decode cX11_init 119 = .ok (.aload_n 0, 1) := by decide +kernel
theorem dX11_init_120 : decode cX11_init 120 = .ok (.iconst 0, 1) := by decide +kernel
theorem dX11_init_121 : decode cX11_init 121 = .ok (.putfield 72, 3) := by decide +kernel
theorem dX11_init_124 : decode cX11_init 124 = .ok (.aload_n 0, 1) := by decide +kernel
theorem dX11_init_125 : decode cX11_init 125 = .ok (.iconst (-1), 1) := by decide +kernel
theorem dX11_init_126 : decode cX11_init 126 = .ok (.putfield 76, 3) := by decide +kernel
theorem dX11_init_129 : decode cX11_init 129 = .ok (.return_, 1) := by decide +kernel
set_option maxRecDepth 20000 in
theorem ggX11_feed_X9_hasRoomFor : GoodIn wsX11_feed wsX9_hasRoomFor := goodIn_r _ [7, 8, 25, 26] (by decide +kernel) (by decide +kernel)
set_option maxRecDepth 20000 in
theorem gX11_feed_X9_hasRoomFor : GoodIn wsX11_feed (wsV RX11 80 RX9 yX9_hasRoomFor wsX9_hasRoomFor) := goodIn_app (goodIn_of _ (by decide +kernel)) ggX11_feed_X9_hasRoomFor
set_option maxRecDepth 20000 in
theorem ggX11_feed_X9_append : GoodIn wsX11_feed wsX9_append := goodIn_r _ [12, 8, 13, 25, 26] (by decide +kernel) (by decide +kernel)
set_option maxRecDepth 20000 in
theorem gX11_feed_X9_append : GoodIn wsX11_feed (wsV RX11 84 RX9 yX9_append wsX9_append) := goodIn_app (goodIn_of _ (by decide +kernel)) ggX11_feed_X9_append
theorem dX11_feed_0 : decode cX11_feed 0 = .ok (.aload_n 0, 1) := by decide +kernel
theorem dX11_feed_1 : decode cX11_feed 1 = .ok (.getfield 10, 3) := by decide +kernel
theorem dX11_feed_4 : decode cX11_feed 4 = .ok (.bipush 20, 2) := by decide +kernel
theorem dX11_feed_6 : decode cX11_feed 6 = .ok (.invokevirtual 80, 3) := by decide +kernel
theorem dX11_feed_9 : decode cX11_feed 9 = .ok (.ifCond .ne 5, 3) := by decide +kernel
theorem dX11_feed_12 : decode cX11_feed 12 = .ok (.iconst (-1), 1) := by decide +kernel
theorem dX11_feed_13 : decode cX11_feed 13 = .ok (.ireturn, 1) := by decide +kernel
theorem dX11_feed_14 : decode cX11_feed 14 = .ok (.aload_n 0, 1) := by decide +kernel
theorem dX11_feed_15 : decode cX11_feed 15 = .ok (.getfield 10, 3) := by decide +kernel
theorem dX11_feed_18 : decode cX11_feed 18 = .ok (.iload_n 1, 1) := by decide +kernel
theorem dX11_feed_19 : decode cX11_feed 19 = .ok (.invokevirtual 84, 3) := by decide +kernel
theorem dX11_feed_22 : decode cX11_feed 22 = .ok (.aload_n 0, 1) := by decide +kernel
theorem dX11_feed_23 : decode cX11_feed 23 = .ok (.getfield 10, 3) := by decide +kernel
theorem dX11_feed_26 : decode cX11_feed 26 = .ok (.iload_n 2, 1) := by decide +kernel
theorem dX11_feed_27 : decode cX11_feed 27 = .ok (.invokevirtual 84, 3) := by decide +kernel
theorem dX11_feed_30 : decode cX11_feed 30 = .ok (.aload_n 0, 1) := by decide +kernel
theorem dX11_feed_31 : decode cX11_feed 31 = .ok (.getfield 10, 3) := by decide +kernel
theorem dX11_feed_34 : decode cX11_feed 34 = .ok (.iload_n 3, 1) := by decide +kernel
theorem dX11_feed_35 : decode cX11_feed 35 = .ok (.invokevirtual 84, 3) := by decide +kernel
theorem dX11_feed_38 : decode cX11_feed 38 = .ok (.aload_n 0, 1) := by decide +kernel
theorem dX11_feed_39 : decode cX11_feed 39 = .ok (.getfield 10, 3) := by decide +kernel
theorem dX11_feed_42 : decode cX11_feed 42 = .ok (.iload 4, 2) := by decide +kernel
theorem dX11_feed_44 : decode cX11_feed 44 = .ok (.invokevirtual 84, 3) := by decide +kernel
theorem dX11_feed_47 : decode cX11_feed 47 = .ok (.aload_n 0, 1) := by decide +kernel
theorem dX11_feed_48 : decode cX11_feed 48 = .ok (.getfield 10, 3) := by decide +kernel
theorem dX11_feed_51 : decode cX11_feed 51 = .ok (.iload 5, 2) := by decide +kernel
theorem dX11_feed_53 : decode cX11_feed 53 = .ok (.invokevirtual 84, 3) := by decide +kernel
theorem dX11_feed_56 : decode cX11_feed 56 = .ok (.aload_n 0, 1) := by decide +kernel
theorem dX11_feed_57 : decode cX11_feed 57 = .ok (.getfield 10, 3) := by decide +kernel
theorem dX11_feed_60 : decode cX11_feed 60 = .ok (.getfield 88, 3) := by decide +kernel
theorem dX11_feed_63 : decode cX11_feed 63 = .ok (.ireturn, 1) := by decide +kernel
set_option maxRecDepth 20000 in
theorem ggX11_back_X11_isWithin : GoodIn wsX11_back wsX11_isWithin := goodIn_r _ [6] (by decide +kernel) (by decide +kernel)
set_option maxRecDepth 20000 in
theorem gX11_back_X11_isWithin : GoodIn wsX11_back (va_wsS RX11 91 yX11_isWithin wsX11_isWithin) := goodIn_app (goodIn_of _ (by decide +kernel)) ggX11_back_X11_isWithin
theorem dX11_back_0 : decode cX11_back 0 = .ok (.iload_n 1, 1) := by decide +kernel
theorem dX11_back_1 : decode cX11_back 1 = .ok (.iconst 0, 1) := by decide +kernel
theorem dX11_back_2 : decode cX11_back 2 = .ok (.aload_n 0, 1) := by decide +kernel
theorem dX11_back_3 : decode cX11_back 3 = .ok (.getfield 10, 3) := by decide +kernel
theorem dX11_back_6 : decode cX11_back 6 = .ok (.getfield 88, 3) := by decide +kernel
theorem dX11_back_9 : decode cX11_back 9 = .ok (.invokestatic 91, 3) := by decide +kernel
theorem dX11_back_12 : decode cX11_back 12 = .ok (.ifCond .ne 5, 3) := by decide +kernel
theorem dX11_back_15 : decode cX11_back 15 = .ok (.iconst (-1), 1) := by decide +kernel
theorem dX11_back_16 : decode cX11_back 16 = .ok (.ireturn, 1) := by decide +kernel
theorem dX11_back_17 : decode cX11_back 17 = .ok (.aload_n 0, 1) := by decide +kernel
theorem dX11_back_18 : decode cX11_back 18 = .ok (.getfield 10, 3) := by decide +kernel
theorem dX11_back_21 : decode cX11_back 21 = .ok (.dup, 1) := by decide +kernel
theorem dX11_back_22 : decode cX11_back 22 = .ok (.getfield 88, 3) := by decide +kernel
theorem dX11_back_25 : decode cX11_back 25 = .ok (.iload_n 1, 1) := by decide +kernel
theorem dX11_back_26 : decode cX11_back 26 = .ok (.isub, 1) := by decide +kernel
theorem dX11_back_27 : decode cX11_back 27 = .ok (.putfield 88, 3) := by decide +kernel
theorem dX11_back_30 : decode cX11_back 30 = .ok (.aload_n 0, 1) := by decide +kernel
theorem dX11_back_31 : decode cX11_back 31 = .ok (.getfield 10, 3) := by decide +kernel
theorem dX11_back_34 : decode cX11_back 34 = .ok (.getfield 88, 3) := by decide +kernel
theorem dX11_back_37 : decode cX11_back 37 = .ok (.ireturn, 1) := by decide +kernel
set_option maxRecDepth 20000 in
theorem ggX11_read_X5_compile : GoodIn wsX11_read wsX5_compile := goodIn_r _ [11, 12, 13, 14, 15, 16, 17, 10, 18, 19, 20, 21, 22, 23, 24, 25, 26, 27, 28, 29, 30, 31, 32, 33, 34, 35, 36, 37, 38, 39, 40, 41, 42, 43, 44, 45, 46, 47, 48, 49, 50, 51, 52, 53, 54, 55, 56, 57, 58, 59, 60, 61, 62, 63, 64, 65, 66, 67, 68, 69, 70, 71, 72, 73, 74, 75, 76, 77, 78, 79, 80, 81, 82, 83, 84, 85, 86, 87, 88, 89, 90, 91, 92, 93, 94, 95, 96, 97, 98, 99, 100, 101, 102, 103, 104, 105, 106, 107, 108, 109, 110, 111, 112, 113, 114, 115, 116, 117, 118, 119, 120, 121, 122, 123, 124, 125, 126, 127, 128, 129, 130, 131, 132, 133, 134, 135, 136, 137, 138, 139, 140, 141, 142, 143, 144, 145, 146, 147, 148, 149, 150, 151, 152, 153, 154, 155, 156, 157, 158, 159, 160, 161, 162, 163, 164, 165, 166, 167, 168, 169, 170, 171, 172, 173, 174, 175, 176, 177, 178, 179, 180, 181, 182, 183, 184, 185, 186, 187, 188, 189, 190, 191, 192, 193, 194, 195, 196, 197, 198, 199, 200, 201, 202, 221, 222, 223, 224, 225, 226, 227, 228, 229, 230, 231, 232, 233, 234, 235, 236, 237, 238, 239, 219, 220] (by decide +kernel) (by decide +kernel)
set_option maxRecDepth 20000 in
theorem gX11_read_X5_compile : GoodIn wsX11_read (wsV RX11 95 RX5 yX5_compile wsX5_compile) := goodIn_app (goodIn_of _ (by decide +kernel)) ggX11_read_X5_compile
set_option maxRecDepth 20000 in
theorem ggX11_read_X5_placeReached : GoodIn wsX11_read wsX5_placeReached := goodIn_r _ [206, 12, 207, 221, 222, 223, 224, 225, 226, 227, 228, 229, 230, 231] (by decide +kernel) (by decide +kernel)
set_option maxRecDepth 20000 in
theorem gX11_read_X5_placeReached : GoodIn wsX11_read (wsV RX11 99 RX5 yX5_placeReached wsX5_placeReached) := goodIn_app (goodIn_of _ (by decide +kernel)) ggX11_read_X5_placeReached
theorem dX11_read_0 : decode cX11_read 0 = .ok (.aload_n 0, 1) := by decide +kernel
theorem dX11_read_1 : decode cX11_read 1 = .ok (.getfield 21, 3) := by decide +kernel
theorem dX11_read_4 : decode cX11_read 4 = .ok (.aload_n 0, 1) := by decide +kernel
theorem dX11_read_5 : decode cX11_read 5 = .ok (.getfield 53, 3) := by decide +kernel
theorem dX11_read_8 : decode cX11_read 8 = .ok (.invokevirtual 95, 3) := by decide +kernel
theorem dX11_read_11 : decode cX11_read 11 = .ok (.istore_n 1, 1) := by decide +kernel
theorem dX11_read_12 : decode cX11_read 12 = .ok (.aload_n 0, 1) := by decide +kernel
theorem dX11_read_13 : decode cX11_read 13 = .ok (.iload_n 1, 1) := by decide +kernel
theorem dX11_read_14 : decode cX11_read 14 = .ok (.ifCond .ne 7, 3) := by decide +kernel
theorem dX11_read_17 : decode cX11_read 17 = .ok (.iconst (-1), 1) := by decide +kernel
theorem dX11_read_18 : decode cX11_read 18 = .ok (.goto 10, 3) := by decide +kernel
theorem dX11_read_21 : decode cX11_read 21 = .ok (.aload_n 0, 1) := by decide +kernel
theorem dX11_read_22 : decode cX11_read 22 = .ok (.getfield 21, 3) := by decide +kernel
theorem dX11_read_25 : decode cX11_read 25 = .ok (.invokevirtual 99, 3) := by decide +kernel
theorem dX11_read_28 : decode cX11_read 28 = .ok (.putfield 76, 3) := by decide +kernel
theorem dX11_read_31 : decode cX11_read 31 = .ok (.aload_n 0, 1) := by decide +kernel
theorem dX11_read_32 : decode cX11_read 32 = .ok (.getfield 10, 3) := by decide +kernel
theorem dX11_read_35 : decode cX11_read 35 = .ok (.iconst 0, 1) := by decide +kernel
theorem dX11_read_36 : decode cX11_read 36 = .ok (.putfield 88, 3) := by decide +kernel
theorem dX11_read_39 : decode cX11_read 39 = .ok (.iload_n 1, 1) := by decide +kernel
theorem dX11_read_40 : decode cX11_read 40 = .ok (.ifCond .ne 21, 3) := by decide +kernel
theorem dX11_read_43 : decode cX11_read 43 = .ok (.aload_n 0, 1) := by decide +kernel
theorem dX11_read_44 : decode cX11_read 44 = .ok (.getfield 49, 3) := by decide +kernel
theorem dX11_read_47 : decode cX11_read 47 = .ok (.astore_n 2, 1) := by decide +kernel
theorem dX11_read_48 : decode cX11_read 48 = .ok (.aload_n 0, 1) := by decide +kernel
theorem dX11_read_49 : decode cX11_read 49 = .ok (.aload_n 0, 1) := by decide +kernel
theorem dX11_read_50 : decode cX11_read 50 = .ok (.getfield 53, 3) := by decide +kernel
theorem dX11_read_53 : decode cX11_read 53 = .ok (.putfield 49, 3) := by decide +kernel
theorem dX11_read_56 : decode cX11_read 56 = .ok (.aload_n 0, 1) := by decide +kernel
theorem dX11_read_57 : decode cX11_read 57 = .ok (.aload_n 2, 1) := by decide +kernel
theorem dX11_read_58 : decode cX11_read 58 = .ok (.putfield 53, 3) := by decide +kernel
theorem dX11_read_61 : decode cX11_read 61 = .ok (.iload_n 1, 1) := by decide +kernel
theorem dX11_read_62 : decode cX11_read 62 = .ok (.ireturn, 1) := by decide +kernel
theorem dX11_place_0 : decode cX11_place 0 = .ok (.aload_n 0, 1) := by decide +kernel
theorem dX11_place_1 : decode cX11_place 1 = .ok (.getfield 76, 3) := by decide +kernel
theorem dX11_place_4 : decode cX11_place 4 = .ok (.ireturn, 1) := by decide +kernel
set_option maxRecDepth 20000 in
theorem ggX11_act_X11_isWithin : GoodIn wsX11_act wsX11_isWithin := goodIn_r _ [9] (by decide +kernel) (by decide +kernel)
set_option maxRecDepth 20000 in
theorem gX11_act_X11_isWithin : GoodIn wsX11_act (va_wsS RX11 91 yX11_isWithin wsX11_isWithin) := goodIn_app (goodIn_of _ (by decide +kernel)) ggX11_act_X11_isWithin
set_option maxRecDepth 20000 in
theorem ggX11_act_X0_init : GoodIn wsX11_act wsX0_init := goodIn_r _ [12, 13, 14, 15, 16, 17, 18, 19, 20, 21, 22, 23, 24, 49, 50, 51, 52, 53, 54, 55, 56] (by decide +kernel) (by decide +kernel)
set_option maxRecDepth 20000 in
theorem gX11_act_X0_init : GoodIn wsX11_act (wsX0_init) := ggX11_act_X0_init
set_option maxRecDepth 20000 in
theorem ggX11_act_X7_add : GoodIn wsX11_act wsX7_add := goodIn_r _ [29, 30, 31, 43, 44, 45, 46, 47, 48] (by decide +kernel) (by decide +kernel)
set_option maxRecDepth 20000 in
theorem gX11_act_X7_add : GoodIn wsX11_act (wsV RX11 109 RX7 yX7_add wsX7_add) := goodIn_app (goodIn_of _ (by decide +kernel)) ggX11_act_X7_add
theorem dX11_act_0 : decode cX11_act 0 = .ok (.iload_n 1, 1) := by decide +kernel
theorem dX11_act_1 : decode cX11_act 1 = .ok (.iconst 0, 1) := by decide +kernel
theorem dX11_act_2 : decode cX11_act 2 = .ok (.iconst 3, 1) := by decide +kernel
theorem dX11_act_3 : decode cX11_act 3 = .ok (.invokestatic 91, 3) := by decide +kernel
theorem dX11_act_6 : decode cX11_act 6 = .ok (.ifCond .eq 27, 3) := by decide +kernel
theorem dX11_act_9 : decode cX11_act 9 = .ok (.iload_n 2, 1) := by decide +kernel
theorem dX11_act_10 : decode cX11_act 10 = .ok (.iconst 0, 1) := by decide +kernel
theorem dX11_act_11 : decode cX11_act 11 = .ok (.bipush 7, 2) := by decide +kernel
theorem dX11_act_13 : decode cX11_act 13 = .ok (.invokestatic 91, 3) := by decide +kernel
theorem dX11_act_16 : decode cX11_act 16 = .ok (.ifCond .eq 17, 3) := by decide +kernel
theorem dX11_act_19 : decode cX11_act 19 = .ok (.iload_n 3, 1) := by decide +kernel
theorem dX11_act_20 : decode cX11_act 20 = .ok (.iconst 0, 1) := by decide +kernel
theorem dX11_act_21 : decode cX11_act 21 = .ok (.bipush 100, 2) := by decide +kernel
theorem dX11_act_23 : decode cX11_act 23 = .ok (.invokestatic 91, 3) := by decide +kernel
theorem dX11_act_26 : decode cX11_act 26 = .ok (.ifCond .eq 7, 3) := by decide +kernel
theorem dX11_act_29 : decode cX11_act 29 = .ok (.iconst 1, 1) := by decide +kernel
theorem dX11_act_30 : decode cX11_act 30 = .ok (.goto 4, 3) := by decide +kernel
theorem dX11_act_33 : decode cX11_act 33 = .ok (.iconst 0, 1) := by decide +kernel
theorem dX11_act_34 : decode cX11_act 34 = .ok (.istore 7, 2) := by decide +kernel
theorem dX11_act_36 : decode cX11_act 36 = .ok (.iload 4, 2) := by decide +kernel
theorem dX11_act_38 : decode cX11_act 38 = .ok (.iconst 1, 1) := by decide +kernel
theorem dX11_act_39 : decode cX11_act 39 = .ok (.bipush 20, 2) := by decide +kernel
theorem dX11_act_41 : decode cX11_act 41 = .ok (.invokestatic 91, 3) := by decide +kernel
theorem dX11_act_44 : decode cX11_act 44 = .ok (.ifCond .eq 29, 3) := by decide +kernel
theorem dX11_act_47 : decode cX11_act 47 = .ok (.iload 5, 2) := by decide +kernel
theorem dX11_act_49 : decode cX11_act 49 = .ok (.iconst 1, 1) := by decide +kernel
theorem dX11_act_50 : decode cX11_act 50 = .ok (.bipush 20, 2) := by decide +kernel
theorem dX11_act_52 : decode cX11_act 52 = .ok (.invokestatic 91, 3) := by decide +kernel
theorem dX11_act_55 : decode cX11_act 55 = .ok (.ifCond .eq 18, 3) := by decide +kernel
theorem dX11_act_58 : decode cX11_act 58 = .ok (.iload 6, 2) := by decide +kernel
theorem dX11_act_60 : decode cX11_act 60 = .ok (.iconst 1, 1) := by decide +kernel
theorem dX11_act_61 : decode cX11_act 61 = .ok (.bipush 120, 2) := by decide +kernel
theorem dX11_act_63 : decode cX11_act 63 = .ok (.invokestatic 91, 3) := by decide +kernel
theorem dX11_act_66 : decode cX11_act 66 = .ok (.ifCond .eq 7, 3) := by decide +kernel
theorem dX11_act_69 : decode cX11_act 69 = .ok (.iconst 1, 1) := by decide +kernel
theorem dX11_act_70 : decode cX11_act 70 = .ok (.goto 4, 3) := by decide +kernel
theorem dX11_act_73 : decode cX11_act 73 = .ok (.iconst 0, 1) := by decide +kernel
theorem dX11_act_74 : decode cX11_act 74 = .ok (.istore 8, 2) := by decide +kernel
theorem dX11_act_76 : decode cX11_act 76 = .ok (.iload 7, 2) := by decide +kernel
theorem dX11_act_78 : decode cX11_act 78 = .ok (.ifCond .eq 20, 3) := by decide +kernel
theorem dX11_act_81 : decode cX11_act 81 = .ok (.iload 8, 2) := by decide +kernel
theorem dX11_act_83 : decode cX11_act 83 = .ok (.ifCond .eq 15, 3) := by decide +kernel
theorem dX11_act_86 : decode cX11_act 86 = .ok (.aload_n 0, 1) := by decide +kernel
theorem dX11_act_87 : decode cX11_act 87 = .ok (.getfield 28, 3) := by decide +kernel
theorem dX11_act_90 : decode cX11_act 90 = .ok (.getfield 103, 3) := by decide +kernel
theorem dX11_act_93 : decode cX11_act 93 = .ok (.bipush 6, 2) := by decide +kernel
theorem dX11_act_95 : decode cX11_act 95 = .ok (.if_icmp .lt 5, 3) := by decide +kernel
theorem dX11_act_98 : decode cX11_act 98 = .ok (.iconst (-1), 1) := by decide +kernel
theorem dX11_act_99 : decode cX11_act 99 = .ok (.ireturn, 1) := by decide +kernel
theorem dX11_act_100 : decode cX11_act 100 = .ok (.aload_n 0, 1) := by decide +kernel
theorem dX11_act_101 : decode cX11_act 101 = .ok (.getfield 28, 3) := by decide +kernel
theorem dX11_act_104 : decode cX11_act 104 = .ok (.new 104, 3) := by decide +kernel
theorem dX11_act_107 : decode cX11_act 107 = .ok (.dup, 1) := by decide +kernel
theorem dX11_act_108 : decode cX11_act 108 = .ok (.iload_n 1, 1) := by decide +kernel
theorem dX11_act_109 : decode cX11_act 109 = .ok (.iload_n 2, 1) := by decide +kernel
theorem dX11_act_110 : decode cX11_act 110 = .ok (.iload_n 3, 1) := by decide +kernel
theorem dX11_act_111 : decode cX11_act 111 = .ok (.iload 4, 2) := by decide +kernel
theorem dX11_act_113 : decode cX11_act 113 = .ok (.iload 5, 2) := by decide +kernel
theorem dX11_act_115 : decode cX11_act 115 = .ok (.iload 6, 2) := by decide +kernel
theorem dX11_act_117 : decode cX11_act 117 = .ok (.invokespecial 106, 3) := by decide +kernel
theorem dX11_act_120 : decode cX11_act 120 = .ok (.invokevirtual 109, 3) := by decide +kernel
theorem dX11_act_123 : decode cX11_act 123 = .ok (.ireturn, 1) := by decide +kernel
set_option maxRecDepth 20000 in
theorem ggX11_figure_X7_actAt : GoodIn wsX11_figure wsX7_actAt := goodIn_r _ [10, 11, 12, 57, 58, 59, 60, 61, 62] (by decide +kernel) (by decide +kernel)
set_option maxRecDepth 20000 in
theorem gX11_figure_X7_actAt : GoodIn wsX11_figure (wsV RX11 113 RX7 yX7_actAt wsX7_actAt) := goodIn_app (goodIn_of _ (by decide +kernel)) ggX11_figure_X7_actAt
set_option maxRecDepth 20000 in
theorem ggX11_figure_X11_isWithin : GoodIn wsX11_figure wsX11_isWithin := goodIn_r _ [16] (by decide +kernel) (by decide +kernel)
set_option maxRecDepth 20000 in
theorem gX11_figure_X11_isWithin : GoodIn wsX11_figure (va_wsS RX11 91 yX11_isWithin wsX11_isWithin) := goodIn_app (goodIn_of _ (by decide +kernel)) ggX11_figure_X11_isWithin
set_option maxRecDepth 20000 in
theorem ggX11_figure_X2_init : GoodIn wsX11_figure wsX2_init := goodIn_r _ [19, 20, 21, 22, 23, 24, 25, 26, 53, 54, 55, 56] (by decide +kernel) (by decide +kernel)
set_option maxRecDepth 20000 in
theorem gX11_figure_X2_init : GoodIn wsX11_figure (wsX2_init) := ggX11_figure_X2_init
set_option maxRecDepth 20000 in
theorem ggX11_figure_X0_add : GoodIn wsX11_figure wsX0_add := goodIn_r _ [31, 32, 33, 45, 46, 47, 48, 49, 50, 51, 52] (by decide +kernel) (by decide +kernel)
set_option maxRecDepth 20000 in
theorem gX11_figure_X0_add : GoodIn wsX11_figure (wsV RX11 123 RX0 yX0_add wsX0_add) := goodIn_app (goodIn_of _ (by decide +kernel)) ggX11_figure_X0_add
theorem dX11_figure_0 : decode cX11_figure 0 = .ok (.aload_n 0, 1) := by decide +kernel
theorem dX11_figure_1 : decode cX11_figure 1 = .ok (.getfield 28, 3) := by decide +kernel
theorem dX11_figure_4 : decode cX11_figure 4 = .ok (.iload_n 1, 1) := by decide +kernel
theorem dX11_figure_5 : decode cX11_figure 5 = .ok (.invokevirtual 113, 3) := by decide +kernel
theorem dX11_figure_8 : decode cX11_figure 8 = .ok (.astore 6, 2) := by decide +kernel
theorem dX11_figure_10 : decode cX11_figure 10 = .ok (.aload 6, 2) := by decide +kernel
theorem dX11_figure_12 : decode cX11_figure 12 = .ok (.ifnull 13, 3) := by decide +kernel
theorem dX11_figure_15 : decode cX11_figure 15 = .ok (.aload 6, 2) := by decide +kernel
theorem dX11_figure_17 : decode cX11_figure 17 = .ok (.getfield 117, 3) := by decide +kernel
theorem dX11_figure_20 : decode cX11_figure 20 = .ok (.bipush 6, 2) := by decide +kernel
theorem dX11_figure_22 : decode cX11_figure 22 = .ok (.if_icmp .lt 5, 3) := by decide +kernel
theorem dX11_figure_25 : decode cX11_figure 25 = .ok (.iconst (-1), 1) := by decide +kernel
theorem dX11_figure_26 : decode cX11_figure 26 = .ok (.ireturn, 1) := by decide +kernel
theorem dX11_figure_27 : decode cX11_figure 27 = .ok (.iload_n 2, 1) := by decide +kernel
theorem dX11_figure_28 : decode cX11_figure 28 = .ok (.iconst 1, 1) := by decide +kernel
theorem dX11_figure_29 : decode cX11_figure 29 = .ok (.bipush 9, 2) := by decide +kernel
theorem dX11_figure_31 : decode cX11_figure 31 = .ok (.invokestatic 91, 3) := by decide +kernel
theorem dX11_figure_34 : decode cX11_figure 34 = .ok (.ifCond .eq 24, 3) := by decide +kernel
theorem dX11_figure_37 : decode cX11_figure 37 = .ok (.iload_n 3, 1) := by decide +kernel
theorem dX11_figure_38 : decode cX11_figure 38 = .ok (.iconst 0, 1) := by decide +kernel
theorem dX11_figure_39 : decode cX11_figure 39 = .ok (.bipush 20, 2) := by decide +kernel
theorem dX11_figure_41 : decode cX11_figure 41 = .ok (.invokestatic 91, 3) := by decide +kernel
theorem dX11_figure_44 : decode cX11_figure 44 = .ok (.ifCond .eq 14, 3) := by decide +kernel
theorem dX11_figure_47 : decode cX11_figure 47 = .ok (.iload 4, 2) := by decide +kernel
theorem dX11_figure_49 : decode cX11_figure 49 = .ok (.iconst 0, 1) := by decide +kernel
theorem dX11_figure_50 : decode cX11_figure 50 = .ok (.bipush 9, 2) := by decide +kernel
theorem dX11_figure_52 : decode cX11_figure 52 = .ok (.invokestatic 91, 3) := by decide +kernel
theorem dX11_figure_55 : decode cX11_figure 55 = .ok (.ifCond .ne 5, 3) := by decide +kernel
theorem dX11_figure_58 : decode cX11_figure 58 = .ok (.iconst (-1), 1) := by decide +kernel
theorem dX11_figure_59 : decode cX11_figure 59 = .ok (.ireturn, 1) := by decide +kernel
theorem dX11_figure_60 : decode cX11_figure 60 = .ok (.aload 6, 2) := by decide +kernel
theorem dX11_figure_62 : decode cX11_figure 62 = .ok (.new 118, 3) := by decide +kernel
theorem dX11_figure_65 : decode cX11_figure 65 = .ok (.dup, 1) := by decide +kernel
theorem dX11_figure_66 : decode cX11_figure 66 = .ok (.iload_n 2, 1) := by decide +kernel
theorem dX11_figure_67 : decode cX11_figure 67 = .ok (.iload_n 3, 1) := by decide +kernel
theorem dX11_figure_68 : decode cX11_figure 68 = .ok (.iload 4, 2) := by decide +kernel
theorem dX11_figure_70 : decode cX11_figure 70 = .ok (.iload 5, 2) := by decide +kernel
theorem dX11_figure_72 : decode cX11_figure 72 = .ok (.invokespecial 120, 3) := by decide +kernel
theorem dX11_figure_75 : decode cX11_figure 75 = .ok (.invokevirtual 123, 3) := by decide +kernel
theorem dX11_figure_78 : decode cX11_figure 78 = .ok (.ireturn, 1) := by decide +kernel
set_option maxRecDepth 20000 in
theorem ggX11_falls_X7_resetFalls : GoodIn wsX11_falls wsX7_resetFalls := goodIn_r _ [6, 7, 8, 9, 10, 11, 12, 24, 25, 26, 27, 28, 29] (by decide +kernel) (by decide +kernel)
set_option maxRecDepth 20000 in
theorem gX11_falls_X7_resetFalls : GoodIn wsX11_falls (wsV RX11 126 RX7 yX7_resetFalls wsX7_resetFalls) := goodIn_app (goodIn_of _ (by decide +kernel)) ggX11_falls_X7_resetFalls
theorem dX11_falls_0 : decode cX11_falls 0 = .ok (.iload_n 1, 1) := by decide +kernel
theorem dX11_falls_1 : decode cX11_falls 1 = .ok (.bipush 10, 2) := by decide +kernel
theorem dX11_falls_3 : decode cX11_falls 3 = .ok (.if_icmp .eq 10, 3) := by decide +kernel
theorem dX11_falls_6 : decode cX11_falls 6 = .ok (.iload_n 1, 1) := by decide +kernel
theorem dX11_falls_7 : decode cX11_falls 7 = .ok (.iconst (-1), 1) := by decide +kernel
theorem dX11_falls_8 : decode cX11_falls 8 = .ok (.if_icmp .eq 5, 3) := by decide +kernel
theorem dX11_falls_11 : decode cX11_falls 11 = .ok (.iconst 0, 1) := by decide +kernel
theorem dX11_falls_12 : decode cX11_falls 12 = .ok (.ireturn, 1) := by decide +kernel
theorem dX11_falls_13 : decode cX11_falls 13 = .ok (.aload_n 0, 1) := by decide +kernel
theorem dX11_falls_14 : decode cX11_falls 14 = .ok (.getfield 28, 3) := by decide +kernel
theorem dX11_falls_17 : decode cX11_falls 17 = .ok (.iload_n 1, 1) := by decide +kernel
theorem dX11_falls_18 : decode cX11_falls 18 = .ok (.iconst (-1), 1) := by decide +kernel
theorem dX11_falls_19 : decode cX11_falls 19 = .ok (.if_icmp .ne 7, 3) := by decide +kernel
theorem dX11_falls_22 : decode cX11_falls 22 = .ok (.iconst 1, 1) := by decide +kernel
theorem dX11_falls_23 : decode cX11_falls 23 = .ok (.goto 4, 3) := by decide +kernel
theorem dX11_falls_26 : decode cX11_falls 26 = .ok (.iconst 0, 1) := by decide +kernel
theorem dX11_falls_27 : decode cX11_falls 27 = .ok (.invokevirtual 126, 3) := by decide +kernel
theorem dX11_falls_30 : decode cX11_falls 30 = .ok (.iconst 1, 1) := by decide +kernel
theorem dX11_falls_31 : decode cX11_falls 31 = .ok (.ireturn, 1) := by decide +kernel
set_option maxRecDepth 20000 in
theorem ggX11_cell_X11_isWithin : GoodIn wsX11_cell wsX11_isWithin := goodIn_r _ [7] (by decide +kernel) (by decide +kernel)
set_option maxRecDepth 20000 in
theorem gX11_cell_X11_isWithin : GoodIn wsX11_cell (va_wsS RX11 91 yX11_isWithin wsX11_isWithin) := goodIn_app (goodIn_of _ (by decide +kernel)) ggX11_cell_X11_isWithin
theorem dX11_cell_0 : decode cX11_cell 0 = .ok (.aload_n 0, 1) := by decide +kernel
theorem dX11_cell_1 : decode cX11_cell 1 = .ok (.getfield 28, 3) := by decide +kernel
theorem dX11_cell_4 : decode cX11_cell 4 = .ok (.getfield 130, 3) := by decide +kernel
theorem dX11_cell_7 : decode cX11_cell 7 = .ok (.ifCond .ne 23, 3) := by decide +kernel
theorem dX11_cell_10 : decode cX11_cell 10 = .ok (.iload_n 1, 1) := by decide +kernel
theorem dX11_cell_11 : decode cX11_cell 11 = .ok (.iconst 0, 1) := by decide +kernel
theorem dX11_cell_12 : decode cX11_cell 12 = .ok (.bipush 9, 2) := by decide +kernel
theorem dX11_cell_14 : decode cX11_cell 14 = .ok (.invokestatic 91, 3) := by decide +kernel
theorem dX11_cell_17 : decode cX11_cell 17 = .ok (.ifCond .eq 13, 3) := by decide +kernel
theorem dX11_cell_20 : decode cX11_cell 20 = .ok (.iload_n 2, 1) := by decide +kernel
theorem dX11_cell_21 : decode cX11_cell 21 = .ok (.iconst 0, 1) := by decide +kernel
theorem dX11_cell_22 : decode cX11_cell 22 = .ok (.bipush 99, 2) := by decide +kernel
theorem dX11_cell_24 : decode cX11_cell 24 = .ok (.invokestatic 91, 3) := by decide +kernel
theorem dX11_cell_27 : decode cX11_cell 27 = .ok (.ifCond .ne 5, 3) := by decide +kernel
theorem dX11_cell_30 : decode cX11_cell 30 = .ok (.iconst 0, 1) := by decide +kernel
theorem dX11_cell_31 : decode cX11_cell 31 = .ok (.ireturn, 1) := by decide +kernel
theorem dX11_cell_32 : decode cX11_cell 32 = .ok (.aload_n 0, 1) := by decide +kernel
theorem dX11_cell_33 : decode cX11_cell 33 = .ok (.getfield 28, 3) := by decide +kernel
theorem dX11_cell_36 : decode cX11_cell 36 = .ok (.getfield 133, 3) := by decide +kernel
theorem dX11_cell_39 : decode cX11_cell 39 = .ok (.iload_n 1, 1) := by decide +kernel
theorem dX11_cell_40 : decode cX11_cell 40 = .ok (.iload_n 2, 1) := by decide +kernel
theorem dX11_cell_41 : decode cX11_cell 41 = .ok (.iastore, 1) := by decide +kernel
theorem dX11_cell_42 : decode cX11_cell 42 = .ok (.iconst 1, 1) := by decide +kernel
theorem dX11_cell_43 : decode cX11_cell 43 = .ok (.ireturn, 1) := by decide +kernel
set_option maxRecDepth 20000 in
theorem ggX11_ground_X11_isWithin : GoodIn wsX11_ground wsX11_isWithin := goodIn_r _ [7] (by decide +kernel) (by decide +kernel)
set_option maxRecDepth 20000 in
theorem gX11_ground_X11_isWithin : GoodIn wsX11_ground (va_wsS RX11 91 yX11_isWithin wsX11_isWithin) := goodIn_app (goodIn_of _ (by decide +kernel)) ggX11_ground_X11_isWithin
theorem dX11_ground_0 : decode cX11_ground 0 = .ok (.iload_n 1, 1) := by decide +kernel
theorem dX11_ground_1 : decode cX11_ground 1 = .ok (.iconst 0, 1) := by decide +kernel
theorem dX11_ground_2 : decode cX11_ground 2 = .ok (.bipush 50, 2) := by decide +kernel
theorem dX11_ground_4 : decode cX11_ground 4 = .ok (.invokestatic 91, 3) := by decide +kernel
theorem dX11_ground_7 : decode cX11_ground 7 = .ok (.ifCond .eq 14, 3) := by decide +kernel
theorem dX11_ground_10 : decode cX11_ground 10 = .ok (.iload_n 2, 1) := by decide +kernel
theorem dX11_ground_11 : decode cX11_ground 11 = .ok (.iconst 0, 1) := by decide +kernel
theorem dX11_ground_12 : decode cX11_ground 12 = .ok (.sipush 300, 3) := by decide +kernel
theorem dX11_ground_15 : decode cX11_ground 15 = .ok (.invokestatic 91, 3) := by decide +kernel
theorem dX11_ground_18 : decode cX11_ground 18 = .ok (.ifCond .ne 5, 3) := by decide +kernel
theorem dX11_ground_21 : decode cX11_ground 21 = .ok (.iconst 0, 1) := by decide +kernel
theorem dX11_ground_22 : decode cX11_ground 22 = .ok (.ireturn, 1) := by decide +kernel
theorem dX11_ground_23 : decode cX11_ground 23 = .ok (.aload_n 0, 1) := by decide +kernel
theorem dX11_ground_24 : decode cX11_ground 24 = .ok (.getfield 28, 3) := by decide +kernel
theorem dX11_ground_27 : decode cX11_ground 27 = .ok (.iload_n 1, 1) := by decide +kernel
theorem dX11_ground_28 : decode cX11_ground 28 = .ok (.putfield 137, 3) := by decide +kernel
theorem dX11_ground_31 : decode cX11_ground 31 = .ok (.aload_n 0, 1) := by decide +kernel
theorem dX11_ground_32 : decode cX11_ground 32 = .ok (.getfield 28, 3) := by decide +kernel
theorem dX11_ground_35 : decode cX11_ground 35 = .ok (.iload_n 2, 1) := by decide +kernel
theorem dX11_ground_36 : decode cX11_ground 36 = .ok (.putfield 140, 3) := by decide +kernel
theorem dX11_ground_39 : decode cX11_ground 39 = .ok (.iconst 1, 1) := by decide +kernel
theorem dX11_ground_40 : decode cX11_ground 40 = .ok (.ireturn, 1) := by decide +kernel
set_option maxRecDepth 20000 in
theorem ggX11_base_X11_isMinute : GoodIn wsX11_base wsX11_isMinute := goodIn_r _ [5, 6, 7, 4, 8] (by decide +kernel) (by decide +kernel)
set_option maxRecDepth 20000 in
theorem gX11_base_X11_isMinute : GoodIn wsX11_base (va_wsS RX11 143 yX11_isMinute wsX11_isMinute) := goodIn_app (goodIn_of _ (by decide +kernel)) ggX11_base_X11_isMinute
set_option maxRecDepth 20000 in
theorem ggX11_base_X11_isBase : GoodIn wsX11_base wsX11_isBase := goodIn_r _ [11, 6, 7, 4, 8] (by decide +kernel) (by decide +kernel)
set_option maxRecDepth 20000 in
theorem gX11_base_X11_isBase : GoodIn wsX11_base (va_wsS RX11 146 yX11_isBase wsX11_isBase) := goodIn_app (goodIn_of _ (by decide +kernel)) ggX11_base_X11_isBase
set_option maxRecDepth 20000 in
theorem ggX11_base_X1_add : GoodIn wsX11_base wsX1_add := goodIn_r _ [16, 17, 18, 19, 20, 32, 33, 34, 35] (by decide +kernel) (by decide +kernel)
set_option maxRecDepth 20000 in
theorem gX11_base_X1_add : GoodIn wsX11_base (wsV RX11 149 RX1 yX1_add wsX1_add) := goodIn_app (goodIn_of _ (by decide +kernel)) ggX11_base_X1_add
theorem dX11_base_0 : decode cX11_base 0 = .ok (.iload_n 1, 1) := by decide +kernel
theorem dX11_base_1 : decode cX11_base 1 = .ok (.invokestatic 143, 3) := by decide +kernel
theorem dX11_base_4 : decode cX11_base 4 = .ok (.ifCond .eq 10, 3) := by decide +kernel
theorem dX11_base_7 : decode cX11_base 7 = .ok (.iload_n 2, 1) := by decide +kernel
theorem dX11_base_8 : decode cX11_base 8 = .ok (.invokestatic 146, 3) := by decide +kernel
theorem dX11_base_11 : decode cX11_base 11 = .ok (.ifCond .ne 5, 3) := by decide +kernel
theorem dX11_base_14 : decode cX11_base 14 = .ok (.iconst (-1), 1) := by decide +kernel
theorem dX11_base_15 : decode cX11_base 15 = .ok (.ireturn, 1) := by decide +kernel
theorem dX11_base_16 : decode cX11_base 16 = .ok (.aload_n 0, 1) := by decide +kernel
theorem dX11_base_17 : decode cX11_base 17 = .ok (.getfield 35, 3) := by decide +kernel
theorem dX11_base_20 : decode cX11_base 20 = .ok (.iconst 0, 1) := by decide +kernel
theorem dX11_base_21 : decode cX11_base 21 = .ok (.iload_n 1, 1) := by decide +kernel
theorem dX11_base_22 : decode cX11_base 22 = .ok (.iload_n 2, 1) := by decide +kernel
theorem dX11_base_23 : decode cX11_base 23 = .ok (.invokevirtual 149, 3) := by decide +kernel
theorem dX11_base_26 : decode cX11_base 26 = .ok (.ireturn, 1) := by decide +kernel
set_option maxRecDepth 20000 in
theorem ggX11_birds_X11_closeBox : GoodIn wsX11_birds wsX11_closeBox := goodIn_r _ [5, 6, 7, 8, 9, 10, 11, 12, 13, 14, 15, 16, 17, 18, 19, 20, 21, 22, 23, 24, 25, 26, 27, 28, 29, 30] (by decide +kernel) (by decide +kernel)
set_option maxRecDepth 20000 in
theorem gX11_birds_X11_closeBox : GoodIn wsX11_birds (wsV RX11 152 RX11 yX11_closeBox wsX11_closeBox) := goodIn_app (goodIn_of _ (by decide +kernel)) ggX11_birds_X11_closeBox
theorem dX11_birds_0 : decode cX11_birds 0 = .ok (.aload_n 0, 1) := by decide +kernel
theorem dX11_birds_1 : decode cX11_birds 1 = .ok (.iload_n 1, 1) := by decide +kernel
theorem dX11_birds_2 : decode cX11_birds 2 = .ok (.iload_n 2, 1) := by decide +kernel
theorem dX11_birds_3 : decode cX11_birds 3 = .ok (.invokevirtual 152, 3) := by decide +kernel
theorem dX11_birds_6 : decode cX11_birds 6 = .ok (.ireturn, 1) := by decide +kernel
set_option maxRecDepth 20000 in
theorem ggX11_ready_X7_actAt : GoodIn wsX11_ready wsX7_actAt := goodIn_r _ [7, 8, 9, 37, 38, 39, 40, 41, 42] (by decide +kernel) (by decide +kernel)
set_option maxRecDepth 20000 in
theorem gX11_ready_X7_actAt : GoodIn wsX11_ready (wsV RX11 113 RX7 yX7_actAt wsX7_actAt) := goodIn_app (goodIn_of _ (by decide +kernel)) ggX11_ready_X7_actAt
set_option maxRecDepth 20000 in
theorem ggX11_ready_X11_isMinute : GoodIn wsX11_ready wsX11_isMinute := goodIn_r _ [13, 14, 15, 12, 16] (by decide +kernel) (by decide +kernel)
set_option maxRecDepth 20000 in
theorem gX11_ready_X11_isMinute : GoodIn wsX11_ready (va_wsS RX11 143 yX11_isMinute wsX11_isMinute) := goodIn_app (goodIn_of _ (by decide +kernel)) ggX11_ready_X11_isMinute
set_option maxRecDepth 20000 in
theorem ggX11_ready_X1_add : GoodIn wsX11_ready wsX1_add := goodIn_r _ [21, 22, 23, 24, 25, 43, 44, 45, 46] (by decide +kernel) (by decide +kernel)
set_option maxRecDepth 20000 in
theorem gX11_ready_X1_add : GoodIn wsX11_ready (wsV RX11 149 RX1 yX1_add wsX1_add) := goodIn_app (goodIn_of _ (by decide +kernel)) ggX11_ready_X1_add
theorem dX11_ready_0 : decode cX11_ready 0 = .ok (.aload_n 0, 1) := by decide +kernel
theorem dX11_ready_1 : decode cX11_ready 1 = .ok (.getfield 28, 3) := by decide +kernel
theorem dX11_ready_4 : decode cX11_ready 4 = .ok (.iload_n 1, 1) := by decide +kernel
theorem dX11_ready_5 : decode cX11_ready 5 = .ok (.invokevirtual 113, 3) := by decide +kernel
theorem dX11_ready_8 : decode cX11_ready 8 = .ok (.ifnull 10, 3) := by decide +kernel
theorem dX11_ready_11 : decode cX11_ready 11 = .ok (.iload_n 2, 1) := by decide +kernel
theorem dX11_ready_12 : decode cX11_ready 12 = .ok (.invokestatic 143, 3) := by decide +kernel
theorem dX11_ready_15 : decode cX11_ready 15 = .ok (.ifCond .ne 5, 3) := by decide +kernel
theorem dX11_ready_18 : decode cX11_ready 18 = .ok (.iconst (-1), 1) := by decide +kernel
theorem dX11_ready_19 : decode cX11_ready 19 = .ok (.ireturn, 1) := by decide +kernel
theorem dX11_ready_20 : decode cX11_ready 20 = .ok (.aload_n 0, 1) := by decide +kernel
theorem dX11_ready_21 : decode cX11_ready 21 = .ok (.getfield 35, 3) := by decide +kernel
theorem dX11_ready_24 : decode cX11_ready 24 = .ok (.iconst 2, 1) := by decide +kernel
theorem dX11_ready_25 : decode cX11_ready 25 = .ok (.iload_n 1, 1) := by decide +kernel
theorem dX11_ready_26 : decode cX11_ready 26 = .ok (.iload_n 2, 1) := by decide +kernel
theorem dX11_ready_27 : decode cX11_ready 27 = .ok (.invokevirtual 149, 3) := by decide +kernel
theorem dX11_ready_30 : decode cX11_ready 30 = .ok (.ireturn, 1) := by decide +kernel
set_option maxRecDepth 20000 in
theorem ggX11_away_X11_closeBox : GoodIn wsX11_away wsX11_closeBox := goodIn_r _ [5, 6, 7, 8, 9, 10, 11, 12, 13, 14, 15, 16, 17, 18, 19, 20, 21, 22, 23, 24, 25, 26, 27, 28, 29, 30] (by decide +kernel) (by decide +kernel)
set_option maxRecDepth 20000 in
theorem gX11_away_X11_closeBox : GoodIn wsX11_away (wsV RX11 152 RX11 yX11_closeBox wsX11_closeBox) := goodIn_app (goodIn_of _ (by decide +kernel)) ggX11_away_X11_closeBox
theorem dX11_away_0 : decode cX11_away 0 = .ok (.aload_n 0, 1) := by decide +kernel
theorem dX11_away_1 : decode cX11_away 1 = .ok (.iload_n 1, 1) := by decide +kernel
theorem dX11_away_2 : decode cX11_away 2 = .ok (.iload_n 2, 1) := by decide +kernel
theorem dX11_away_3 : decode cX11_away 3 = .ok (.invokevirtual 152, 3) := by decide +kernel
theorem dX11_away_6 : decode cX11_away 6 = .ok (.ireturn, 1) := by decide +kernel
set_option maxRecDepth 20000 in
theorem ggX11_refused_X7_actAt : GoodIn wsX11_refused wsX7_actAt := goodIn_r _ [6, 7, 8, 37, 38, 39, 40, 41, 42] (by decide +kernel) (by decide +kernel)
set_option maxRecDepth 20000 in
theorem gX11_refused_X7_actAt : GoodIn wsX11_refused (wsV RX11 113 RX7 yX7_actAt wsX7_actAt) := goodIn_app (goodIn_of _ (by decide +kernel)) ggX11_refused_X7_actAt
set_option maxRecDepth 20000 in
theorem ggX11_refused_X0_figureAt : GoodIn wsX11_refused wsX0_figureAt := goodIn_r _ [13, 14, 15, 43, 44, 45, 46, 47, 48, 49, 50] (by decide +kernel) (by decide +kernel)
set_option maxRecDepth 20000 in
theorem gX11_refused_X0_figureAt : GoodIn wsX11_refused (wsV RX11 156 RX0 yX0_figureAt wsX0_figureAt) := goodIn_app (goodIn_of _ (by decide +kernel)) ggX11_refused_X0_figureAt
set_option maxRecDepth 20000 in
theorem ggX11_refused_X7_refuses : GoodIn wsX11_refused wsX7_refuses := goodIn_r _ [19, 20, 21, 22, 23, 24, 25, 37, 38, 39, 40, 41, 42, 51, 52, 53, 54] (by decide +kernel) (by decide +kernel)
set_option maxRecDepth 20000 in
theorem gX11_refused_X7_refuses : GoodIn wsX11_refused (wsV RX11 160 RX7 yX7_refuses wsX7_refuses) := goodIn_app (goodIn_of _ (by decide +kernel)) ggX11_refused_X7_refuses
theorem dX11_refused_0 : decode cX11_refused 0 = .ok (.aload_n 0, 1) := by decide +kernel
theorem dX11_refused_1 : decode cX11_refused 1 = .ok (.getfield 28, 3) := by decide +kernel
theorem dX11_refused_4 : decode cX11_refused 4 = .ok (.iload_n 1, 1) := by decide +kernel
theorem dX11_refused_5 : decode cX11_refused 5 = .ok (.invokevirtual 113, 3) := by decide +kernel
theorem dX11_refused_8 : decode cX11_refused 8 = .ok (.astore_n 3, 1) := by decide +kernel
theorem dX11_refused_9 : decode cX11_refused 9 = .ok (.aload_n 3, 1) := by decide +kernel
theorem dX11_refused_10 : decode cX11_refused 10 = .ok (.ifnonnull 7, 3) := by decide +kernel
theorem dX11_refused_13 : decode cX11_refused 13 = .ok (.aconst_null, 1) := by decide +kernel
theorem dX11_refused_14 : decode cX11_refused 14 = .ok (.goto 8, 3) := by decide +kernel
theorem dX11_refused_17 : decode cX11_refused 17 = .ok (.aload_n 3, 1) := by decide +kernel
theorem dX11_refused_18 : decode cX11_refused 18 = .ok (.iload_n 2, 1) := by decide +kernel
theorem dX11_refused_19 : decode cX11_refused 19 = .ok (.invokevirtual 156, 3) := by decide +kernel
theorem dX11_refused_22 : decode cX11_refused 22 = .ok (.astore 4, 2) := by decide +kernel
theorem dX11_refused_24 : decode cX11_refused 24 = .ok (.aload 4, 2) := by decide +kernel
theorem dX11_refused_26 : decode cX11_refused 26 = .ok (.ifnonnull 5, 3) := by decide +kernel
theorem dX11_refused_29 : decode cX11_refused 29 = .ok (.iconst (-1), 1) := by decide +kernel
theorem dX11_refused_30 : decode cX11_refused 30 = .ok (.ireturn, 1) := by decide +kernel
theorem dX11_refused_31 : decode cX11_refused 31 = .ok (.aload_n 0, 1) := by decide +kernel
theorem dX11_refused_32 : decode cX11_refused 32 = .ok (.getfield 28, 3) := by decide +kernel
theorem dX11_refused_35 : decode cX11_refused 35 = .ok (.aload 4, 2) := by decide +kernel
theorem dX11_refused_37 : decode cX11_refused 37 = .ok (.invokevirtual 160, 3) := by decide +kernel
theorem dX11_refused_40 : decode cX11_refused 40 = .ok (.ifCond .eq 7, 3) := by decide +kernel
theorem dX11_refused_43 : decode cX11_refused 43 = .ok (.iconst 1, 1) := by decide +kernel
theorem dX11_refused_44 : decode cX11_refused 44 = .ok (.goto 4, 3) := by decide +kernel
theorem dX11_refused_47 : decode cX11_refused 47 = .ok (.iconst 0, 1) := by decide +kernel
theorem dX11_refused_48 : decode cX11_refused 48 = .ok (.ireturn, 1) := by decide +kernel
set_option maxRecDepth 20000 in
theorem ggX11_length_X7_actAt : GoodIn wsX11_length wsX7_actAt := goodIn_r _ [6, 7, 8, 55, 56, 57, 58, 59, 60] (by decide +kernel) (by decide +kernel)
set_option maxRecDepth 20000 in
theorem gX11_length_X7_actAt : GoodIn wsX11_length (wsV RX11 113 RX7 yX7_actAt wsX7_actAt) := goodIn_app (goodIn_of _ (by decide +kernel)) ggX11_length_X7_actAt
set_option maxRecDepth 20000 in
theorem ggX11_length_X11_isBase : GoodIn wsX11_length wsX11_isBase := goodIn_r _ [12, 13, 14, 11, 15] (by decide +kernel) (by decide +kernel)
set_option maxRecDepth 20000 in
theorem gX11_length_X11_isBase : GoodIn wsX11_length (va_wsS RX11 146 yX11_isBase wsX11_isBase) := goodIn_app (goodIn_of _ (by decide +kernel)) ggX11_length_X11_isBase
set_option maxRecDepth 20000 in
theorem ggX11_length_X7_minutesInBox : GoodIn wsX11_length wsX7_minutesInBox := goodIn_r _ [19, 20, 21, 22, 5, 23, 24, 25, 26, 27, 28, 29, 30, 31, 32, 33, 34, 35, 36, 37, 38, 39, 40, 41, 42, 43, 61, 62, 63, 64, 65, 66, 67, 68, 69, 70, 71, 72, 55, 56, 57, 58, 59, 60] (by decide +kernel) (by decide +kernel)
set_option maxRecDepth 20000 in
theorem gX11_length_X7_minutesInBox : GoodIn wsX11_length (wsV RX11 164 RX7 yX7_minutesInBox wsX7_minutesInBox) := goodIn_app (goodIn_of _ (by decide +kernel)) ggX11_length_X7_minutesInBox
theorem dX11_length_0 : decode cX11_length 0 = .ok (.aload_n 0, 1) := by decide +kernel
theorem dX11_length_1 : decode cX11_length 1 = .ok (.getfield 28, 3) := by decide +kernel
theorem dX11_length_4 : decode cX11_length 4 = .ok (.iload_n 1, 1) := by decide +kernel
theorem dX11_length_5 : decode cX11_length 5 = .ok (.invokevirtual 113, 3) := by decide +kernel
theorem dX11_length_8 : decode cX11_length 8 = .ok (.astore_n 3, 1) := by decide +kernel
theorem dX11_length_9 : decode cX11_length 9 = .ok (.aload_n 3, 1) := by decide +kernel
theorem dX11_length_10 : decode cX11_length 10 = .ok (.ifnull 10, 3) := by decide +kernel
theorem dX11_length_13 : decode cX11_length 13 = .ok (.iload_n 2, 1) := by decide +kernel
theorem dX11_length_14 : decode cX11_length 14 = .ok (.invokestatic 146, 3) := by decide +kernel
theorem dX11_length_17 : decode cX11_length 17 = .ok (.ifCond .ne 5, 3) := by decide +kernel
theorem dX11_length_20 : decode cX11_length 20 = .ok (.iconst (-1), 1) := by decide +kernel
theorem dX11_length_21 : decode cX11_length 21 = .ok (.ireturn, 1) := by decide +kernel
theorem dX11_length_22 : decode cX11_length 22 = .ok (.aload_n 0, 1) := by decide +kernel
theorem dX11_length_23 : decode cX11_length 23 = .ok (.getfield 28, 3) := by decide +kernel
theorem dX11_length_26 : decode cX11_length 26 = .ok (.aload_n 3, 1) := by decide +kernel
theorem dX11_length_27 : decode cX11_length 27 = .ok (.iload_n 2, 1) := by decide +kernel
theorem dX11_length_28 : decode cX11_length 28 = .ok (.invokevirtual 164, 3) := by decide +kernel
theorem dX11_length_31 : decode cX11_length 31 = .ok (.ireturn, 1) := by decide +kernel
set_option maxRecDepth 20000 in
theorem ggX11_baseIn_X11_isMinute : GoodIn wsX11_baseIn wsX11_isMinute := goodIn_r _ [7, 8, 9, 6, 10] (by decide +kernel) (by decide +kernel)
set_option maxRecDepth 20000 in
theorem gX11_baseIn_X11_isMinute : GoodIn wsX11_baseIn (va_wsS RX11 143 yX11_isMinute wsX11_isMinute) := goodIn_app (goodIn_of _ (by decide +kernel)) ggX11_baseIn_X11_isMinute
set_option maxRecDepth 20000 in
theorem ggX11_baseIn_X1_has : GoodIn wsX11_baseIn wsX1_has := goodIn_r _ [15, 16, 62, 63, 64, 65] (by decide +kernel) (by decide +kernel)
set_option maxRecDepth 20000 in
theorem gX11_baseIn_X1_has : GoodIn wsX11_baseIn (wsV RX11 168 RX1 yX1_has wsX1_has) := goodIn_app (goodIn_of _ (by decide +kernel)) ggX11_baseIn_X1_has
set_option maxRecDepth 20000 in
theorem ggX11_baseIn_X8_learn : GoodIn wsX11_baseIn wsX8_learn := goodIn_r _ [21, 22, 23, 24, 25, 26, 27, 28, 29, 30, 31, 32, 33, 34, 20, 35, 36, 37, 38, 39, 40, 41, 42, 43, 44, 45, 46, 47, 59, 60, 61, 62, 63, 64, 65] (by decide +kernel) (by decide +kernel)
set_option maxRecDepth 20000 in
theorem gX11_baseIn_X8_learn : GoodIn wsX11_baseIn (wsV RX11 171 RX8 yX8_learn wsX8_learn) := goodIn_app (goodIn_of _ (by decide +kernel)) ggX11_baseIn_X8_learn
theorem dX11_baseIn_0 : decode cX11_baseIn 0 = .ok (.iload_n 1, 1) := by decide +kernel
theorem dX11_baseIn_1 : decode cX11_baseIn 1 = .ok (.invokestatic 143, 3) := by decide +kernel
theorem dX11_baseIn_4 : decode cX11_baseIn 4 = .ok (.ifCond .eq 14, 3) := by decide +kernel
theorem dX11_baseIn_7 : decode cX11_baseIn 7 = .ok (.aload_n 0, 1) := by decide +kernel
theorem dX11_baseIn_8 : decode cX11_baseIn 8 = .ok (.getfield 35, 3) := by decide +kernel
theorem dX11_baseIn_11 : decode cX11_baseIn 11 = .ok (.iload_n 2, 1) := by decide +kernel
theorem dX11_baseIn_12 : decode cX11_baseIn 12 = .ok (.invokevirtual 168, 3) := by decide +kernel
theorem dX11_baseIn_15 : decode cX11_baseIn 15 = .ok (.ifCond .ne 5, 3) := by decide +kernel
theorem dX11_baseIn_18 : decode cX11_baseIn 18 = .ok (.iconst (-1), 1) := by decide +kernel
theorem dX11_baseIn_19 : decode cX11_baseIn 19 = .ok (.ireturn, 1) := by decide +kernel
theorem dX11_baseIn_20 : decode cX11_baseIn 20 = .ok (.aload_n 0, 1) := by decide +kernel
theorem dX11_baseIn_21 : decode cX11_baseIn 21 = .ok (.getfield 42, 3) := by decide +kernel
theorem dX11_baseIn_24 : decode cX11_baseIn 24 = .ok (.aload_n 0, 1) := by decide +kernel
theorem dX11_baseIn_25 : decode cX11_baseIn 25 = .ok (.getfield 35, 3) := by decide +kernel
theorem dX11_baseIn_28 : decode cX11_baseIn 28 = .ok (.iload_n 2, 1) := by decide +kernel
theorem dX11_baseIn_29 : decode cX11_baseIn 29 = .ok (.invokevirtual 171, 3) := by decide +kernel
theorem dX11_baseIn_32 : decode cX11_baseIn 32 = .ok (.aload_n 0, 1) := by decide +kernel
theorem dX11_baseIn_33 : decode cX11_baseIn 33 = .ok (.getfield 42, 3) := by decide +kernel
theorem dX11_baseIn_36 : decode cX11_baseIn 36 = .ok (.getfield 175, 3) := by decide +kernel
theorem dX11_baseIn_39 : decode cX11_baseIn 39 = .ok (.iload_n 1, 1) := by decide +kernel
theorem dX11_baseIn_40 : decode cX11_baseIn 40 = .ok (.iaload, 1) := by decide +kernel
theorem dX11_baseIn_41 : decode cX11_baseIn 41 = .ok (.ireturn, 1) := by decide +kernel
set_option maxRecDepth 20000 in
theorem ggX11_plan_X1_has : GoodIn wsX11_plan wsX1_has := goodIn_r _ [9, 10, 257, 258, 259, 260] (by decide +kernel) (by decide +kernel)
set_option maxRecDepth 20000 in
theorem gX11_plan_X1_has : GoodIn wsX11_plan (wsV RX11 168 RX1 yX1_has wsX1_has) := goodIn_app (goodIn_of _ (by decide +kernel)) ggX11_plan_X1_has
set_option maxRecDepth 20000 in
theorem ggX11_plan_X3_clear : GoodIn wsX11_plan wsX3_clear := goodIn_r _ [15, 16, 17, 18, 19, 20, 21, 22, 23, 24, 25, 26, 261, 262, 263, 264, 265, 266, 267] (by decide +kernel) (by decide +kernel)
set_option maxRecDepth 20000 in
theorem gX11_plan_X3_clear : GoodIn wsX11_plan (wsV RX11 178 RX3 yX3_clear wsX3_clear) := goodIn_app (goodIn_of _ (by decide +kernel)) ggX11_plan_X3_clear
set_option maxRecDepth 20000 in
theorem ggX11_plan_X11_prepare : GoodIn wsX11_plan wsX11_prepare := goodIn_r _ [31, 32, 1, 4, 33, 34, 35, 36, 37, 38, 39, 40, 41, 42, 43, 44, 45, 24, 25, 26, 46, 47, 48, 49, 50, 51, 52, 53, 54, 55, 56, 57, 58, 59, 60, 61, 62, 63, 64, 65, 66, 67, 68, 69, 70, 71, 72, 12, 13, 14, 15, 16, 17, 18, 19, 20, 21, 22, 23, 73, 74, 75, 76, 77, 78, 79, 80, 81, 82, 83, 84, 85, 86, 87, 88, 89, 90, 91, 92, 93, 94, 95, 96, 97, 98, 99, 100, 101, 102, 103, 104, 105, 106, 107, 246, 247, 248, 249, 250, 251, 252, 253, 254, 255, 256, 268, 269, 270, 257, 258, 259, 260, 271, 272, 273, 274, 275, 276, 277, 278, 261, 262, 263, 264, 265, 266, 267, 279, 280, 281, 282, 283, 284, 285, 286, 287, 288, 289, 290, 291, 292, 293, 294, 295, 296] (by decide +kernel) (by decide +kernel)
set_option maxRecDepth 20000 in
theorem gX11_plan_X11_prepare : GoodIn wsX11_plan (wsV RX11 181 RX11 yX11_prepare wsX11_prepare) := goodIn_app (goodIn_of _ (by decide +kernel)) ggX11_plan_X11_prepare
set_option maxRecDepth 20000 in
theorem ggX11_plan_X4_replace : GoodIn wsX11_plan wsX4_replace := goodIn_r _ [111, 112, 113, 72, 12, 13, 14, 15, 16, 17, 18, 19, 20, 21, 22, 23, 24, 25, 26, 114, 115, 116, 65, 117, 68, 71, 118, 119, 120, 121, 122, 123, 124, 125, 126, 127, 128, 129, 130, 131, 132, 60, 133, 134, 135, 136, 137, 138, 139, 140, 141, 142, 143, 144, 145, 146, 73, 74, 75, 76, 77, 78, 79, 147, 148, 149, 150, 151, 152, 153, 154, 155, 156, 157, 158, 159, 160, 161, 162, 163, 164, 165, 166, 167, 168, 169, 170, 171, 172, 173, 174, 175, 176, 177, 178, 179, 180, 181, 182, 183, 184, 185, 186, 70, 187, 188, 189, 190, 191, 192, 193, 67, 69, 194, 195, 196, 197, 198, 59, 61, 199, 200, 201, 202, 203, 204, 205, 206, 207, 208, 209, 210, 211, 212, 213, 214, 215, 216, 217, 218, 219, 220, 221, 222, 223, 224, 225, 226, 227, 228, 229, 230, 231, 232, 233, 234, 235, 236, 237, 238, 239, 240, 241, 242, 243, 244, 245, 271, 272, 273, 274, 275, 276, 277, 278, 261, 262, 263, 264, 265, 266, 267, 279, 280, 281, 282, 283, 284, 285, 286, 287, 288, 289, 290, 291, 292, 268, 269, 270, 297, 298, 299, 300, 301, 302, 303, 304] (by decide +kernel) (by decide +kernel)
set_option maxRecDepth 20000 in
theorem gX11_plan_X4_replace : GoodIn wsX11_plan (wsV RX11 184 RX4 yX4_replace wsX4_replace) := goodIn_app (goodIn_of _ (by decide +kernel)) ggX11_plan_X4_replace
theorem dX11_plan_0 : decode cX11_plan 0 = .ok (.aload_n 0, 1) := by decide +kernel
theorem dX11_plan_1 : decode cX11_plan 1 = .ok (.getfield 35, 3) := by decide +kernel
theorem dX11_plan_4 : decode cX11_plan 4 = .ok (.iload_n 1, 1) := by decide +kernel
theorem dX11_plan_5 : decode cX11_plan 5 = .ok (.invokevirtual 168, 3) := by decide +kernel
theorem dX11_plan_8 : decode cX11_plan 8 = .ok (.ifCond .ne 5, 3) := by decide +kernel
theorem dX11_plan_11 : decode cX11_plan 11 = .ok (.iconst (-1), 1) := by decide +kernel
theorem dX11_plan_12 : decode cX11_plan 12 = .ok (.ireturn, 1) := by decide +kernel
theorem dX11_plan_13 : decode cX11_plan 13 = .ok (.aload_n 0, 1) := by decide +kernel
theorem dX11_plan_14 : decode cX11_plan 14 = .ok (.getfield 68, 3) := by decide +kernel
theorem dX11_plan_17 : decode cX11_plan 17 = .ok (.invokevirtual 178, 3) := by decide +kernel
theorem dX11_plan_20 : decode cX11_plan 20 = .ok (.aload_n 0, 1) := by decide +kernel
theorem dX11_plan_21 : decode cX11_plan 21 = .ok (.iconst 1, 1) := by decide +kernel
theorem dX11_plan_22 : decode cX11_plan 22 = .ok (.putfield 72, 3) := by decide +kernel
theorem dX11_plan_25 : decode cX11_plan 25 = .ok (.aload_n 0, 1) := by decide +kernel
theorem dX11_plan_26 : decode cX11_plan 26 = .ok (.iload_n 1, 1) := by decide +kernel
theorem dX11_plan_27 : decode cX11_plan 27 = .ok (.invokevirtual 181, 3) := by decide +kernel
theorem dX11_plan_30 : decode cX11_plan 30 = .ok (.aload_n 0, 1) := by decide +kernel
theorem dX11_plan_31 : decode cX11_plan 31 = .ok (.getfield 61, 3) := by decide +kernel
theorem dX11_plan_34 : decode cX11_plan 34 = .ok (.aload_n 0, 1) := by decide +kernel
theorem dX11_plan_35 : decode cX11_plan 35 = .ok (.getfield 68, 3) := by decide +kernel
theorem dX11_plan_38 : decode cX11_plan 38 = .ok (.invokevirtual 184, 3) := by decide +kernel
theorem dX11_plan_41 : decode cX11_plan 41 = .ok (.ireturn, 1) := by decide +kernel
set_option maxRecDepth 20000 in
theorem ggX11_mend_X1_has : GoodIn wsX11_mend wsX1_has := goodIn_r _ [9, 10, 256, 257, 258, 259] (by decide +kernel) (by decide +kernel)
set_option maxRecDepth 20000 in
theorem gX11_mend_X1_has : GoodIn wsX11_mend (wsV RX11 168 RX1 yX1_has wsX1_has) := goodIn_app (goodIn_of _ (by decide +kernel)) ggX11_mend_X1_has
set_option maxRecDepth 20000 in
theorem ggX11_mend_X11_prepare : GoodIn wsX11_mend wsX11_prepare := goodIn_r _ [15, 16, 2, 3, 17, 18, 19, 20, 21, 22, 23, 24, 25, 26, 27, 28, 29, 30, 31, 32, 33, 34, 35, 36, 37, 38, 39, 40, 41, 42, 43, 44, 45, 46, 47, 48, 49, 50, 51, 52, 53, 54, 55, 56, 57, 58, 59, 60, 61, 62, 63, 64, 65, 66, 67, 68, 69, 70, 71, 72, 73, 74, 75, 76, 77, 78, 79, 80, 81, 82, 83, 84, 85, 86, 87, 88, 89, 90, 91, 92, 93, 94, 95, 96, 97, 98, 99, 100, 101, 102, 103, 104, 105, 106, 245, 246, 247, 248, 249, 250, 251, 252, 253, 254, 255, 260, 261, 262, 256, 257, 258, 259, 263, 264, 265, 266, 267, 268, 269, 270, 271, 272, 273, 274, 275, 276, 277, 278, 279, 280, 281, 282, 283, 284, 285, 286, 287, 288, 289, 290, 291, 292, 293, 294, 295] (by decide +kernel) (by decide +kernel)
set_option maxRecDepth 20000 in
theorem gX11_mend_X11_prepare : GoodIn wsX11_mend (wsV RX11 181 RX11 yX11_prepare wsX11_prepare) := goodIn_app (goodIn_of _ (by decide +kernel)) ggX11_mend_X11_prepare
set_option maxRecDepth 20000 in
theorem ggX11_mend_X4_replace : GoodIn wsX11_mend wsX4_replace := goodIn_r _ [110, 111, 112, 59, 60, 61, 62, 63, 64, 65, 66, 67, 68, 69, 70, 71, 30, 31, 32, 113, 114, 115, 52, 116, 55, 58, 117, 118, 119, 120, 121, 122, 123, 124, 125, 126, 127, 128, 129, 130, 131, 47, 132, 133, 134, 135, 136, 137, 138, 139, 140, 141, 142, 143, 144, 145, 72, 73, 74, 75, 76, 77, 78, 146, 147, 148, 149, 150, 151, 152, 153, 154, 155, 156, 157, 158, 159, 160, 161, 162, 163, 164, 165, 166, 167, 168, 169, 170, 171, 172, 173, 174, 175, 176, 177, 178, 179, 180, 181, 182, 183, 184, 185, 57, 186, 187, 188, 189, 190, 191, 192, 54, 56, 193, 194, 195, 196, 197, 46, 48, 198, 199, 200, 201, 202, 203, 204, 205, 206, 207, 208, 209, 210, 211, 212, 213, 214, 215, 216, 217, 218, 219, 220, 221, 222, 223, 224, 225, 226, 227, 228, 229, 230, 231, 232, 233, 234, 235, 236, 237, 238, 239, 240, 241, 242, 243, 244, 263, 264, 265, 266, 267, 268, 269, 270, 271, 272, 273, 274, 275, 276, 277, 278, 279, 280, 281, 282, 283, 284, 285, 286, 287, 288, 289, 290, 291, 260, 261, 262, 296, 297, 298, 299, 300, 301, 302, 303] (by decide +kernel) (by decide +kernel)
set_option maxRecDepth 20000 in
theorem gX11_mend_X4_replace : GoodIn wsX11_mend (wsV RX11 184 RX4 yX4_replace wsX4_replace) := goodIn_app (goodIn_of _ (by decide +kernel)) ggX11_mend_X4_replace
theorem dX11_mend_0 : decode cX11_mend 0 = .ok (.aload_n 0, 1) := by decide +kernel
theorem dX11_mend_1 : decode cX11_mend 1 = .ok (.getfield 72, 3) := by decide +kernel
theorem dX11_mend_4 : decode cX11_mend 4 = .ok (.ifCond .eq 14, 3) := by decide +kernel
theorem dX11_mend_7 : decode cX11_mend 7 = .ok (.aload_n 0, 1) := by decide +kernel
theorem dX11_mend_8 : decode cX11_mend 8 = .ok (.getfield 35, 3) := by decide +kernel
theorem dX11_mend_11 : decode cX11_mend 11 = .ok (.iload_n 1, 1) := by decide +kernel
theorem dX11_mend_12 : decode cX11_mend 12 = .ok (.invokevirtual 168, 3) := by decide +kernel
theorem dX11_mend_15 : decode cX11_mend 15 = .ok (.ifCond .ne 5, 3) := by decide +kernel
theorem dX11_mend_18 : decode cX11_mend 18 = .ok (.iconst (-1), 1) := by decide +kernel
theorem dX11_mend_19 : decode cX11_mend 19 = .ok (.ireturn, 1) := by decide +kernel
theorem dX11_mend_20 : decode cX11_mend 20 = .ok (.aload_n 0, 1) := by decide +kernel
theorem dX11_mend_21 : decode cX11_mend 21 = .ok (.iload_n 1, 1) := by decide +kernel
theorem dX11_mend_22 : decode cX11_mend 22 = .ok (.invokevirtual 181, 3) := by decide +kernel
theorem dX11_mend_25 : decode cX11_mend 25 = .ok (.aload_n 0, 1) := by decide +kernel
theorem dX11_mend_26 : decode cX11_mend 26 = .ok (.getfield 61, 3) := by decide +kernel
theorem dX11_mend_29 : decode cX11_mend 29 = .ok (.aload_n 0, 1) := by decide +kernel
theorem dX11_mend_30 : decode cX11_mend 30 = .ok (.getfield 68, 3) := by decide +kernel
theorem dX11_mend_33 : decode cX11_mend 33 = .ok (.invokevirtual 184, 3) := by decide +kernel
theorem dX11_mend_36 : decode cX11_mend 36 = .ok (.ireturn, 1) := by decide +kernel
set_option maxRecDepth 20000 in
theorem ggX11_order_X11_isWithin : GoodIn wsX11_order wsX11_isWithin := goodIn_r _ [7] (by decide +kernel) (by decide +kernel)
set_option maxRecDepth 20000 in
theorem gX11_order_X11_isWithin : GoodIn wsX11_order (va_wsS RX11 91 yX11_isWithin wsX11_isWithin) := goodIn_app (goodIn_of _ (by decide +kernel)) ggX11_order_X11_isWithin
theorem dX11_order_0 : decode cX11_order 0 = .ok (.iload_n 1, 1) := by decide +kernel
theorem dX11_order_1 : decode cX11_order 1 = .ok (.iconst 0, 1) := by decide +kernel
theorem dX11_order_2 : decode cX11_order 2 = .ok (.aload_n 0, 1) := by decide +kernel
theorem dX11_order_3 : decode cX11_order 3 = .ok (.getfield 68, 3) := by decide +kernel
theorem dX11_order_6 : decode cX11_order 6 = .ok (.getfield 188, 3) := by decide +kernel
theorem dX11_order_9 : decode cX11_order 9 = .ok (.iconst 1, 1) := by decide +kernel
theorem dX11_order_10 : decode cX11_order 10 = .ok (.isub, 1) := by decide +kernel
theorem dX11_order_11 : decode cX11_order 11 = .ok (.invokestatic 91, 3) := by decide +kernel
theorem dX11_order_14 : decode cX11_order 14 = .ok (.ifCond .eq 15, 3) := by decide +kernel
theorem dX11_order_17 : decode cX11_order 17 = .ok (.aload_n 0, 1) := by decide +kernel
theorem dX11_order_18 : decode cX11_order 18 = .ok (.getfield 68, 3) := by decide +kernel
theorem dX11_order_21 : decode cX11_order 21 = .ok (.getfield 189, 3) := by decide +kernel
theorem dX11_order_24 : decode cX11_order 24 = .ok (.iload_n 1, 1) := by decide +kernel
theorem dX11_order_25 : decode cX11_order 25 = .ok (.iaload, 1) := by decide +kernel
theorem dX11_order_26 : decode cX11_order 26 = .ok (.goto 4, 3) := by decide +kernel
theorem dX11_order_29 : decode cX11_order 29 = .ok (.iconst (-1), 1) := by decide +kernel
theorem dX11_order_30 : decode cX11_order 30 = .ok (.ireturn, 1) := by decide +kernel
set_option maxRecDepth 20000 in
theorem ggX11_told_X3_has : GoodIn wsX11_told wsX3_has := goodIn_r _ [10, 11, 23, 24, 25, 26, 27, 28, 29] (by decide +kernel) (by decide +kernel)
set_option maxRecDepth 20000 in
theorem gX11_told_X3_has : GoodIn wsX11_told (wsV RX11 192 RX3 yX3_has wsX3_has) := goodIn_app (goodIn_of _ (by decide +kernel)) ggX11_told_X3_has
theorem dX11_told_0 : decode cX11_told 0 = .ok (.aload_n 0, 1) := by decide +kernel
theorem dX11_told_1 : decode cX11_told 1 = .ok (.getfield 68, 3) := by decide +kernel
theorem dX11_told_4 : decode cX11_told 4 = .ok (.iload_n 1, 1) := by decide +kernel
theorem dX11_told_5 : decode cX11_told 5 = .ok (.invokevirtual 192, 3) := by decide +kernel
theorem dX11_told_8 : decode cX11_told 8 = .ok (.ifCond .ne 5, 3) := by decide +kernel
theorem dX11_told_11 : decode cX11_told 11 = .ok (.iconst (-1), 1) := by decide +kernel
theorem dX11_told_12 : decode cX11_told 12 = .ok (.ireturn, 1) := by decide +kernel
theorem dX11_told_13 : decode cX11_told 13 = .ok (.iload_n 2, 1) := by decide +kernel
theorem dX11_told_14 : decode cX11_told 14 = .ok (.tableswitch 94 0 4 #[34, 44, 54, 74, 84], 34) := by decide +kernel
theorem dX11_told_48 : decode cX11_told 48 = .ok (.aload_n 0, 1) := by decide +kernel
theorem dX11_told_49 : decode cX11_told 49 = .ok (.getfield 68, 3) := by decide +kernel
theorem dX11_told_52 : decode cX11_told 52 = .ok (.getfield 193, 3) := by decide +kernel
theorem dX11_told_55 : decode cX11_told 55 = .ok (.iload_n 1, 1) := by decide +kernel
theorem dX11_told_56 : decode cX11_told 56 = .ok (.iaload, 1) := by decide +kernel
theorem dX11_told_57 : decode cX11_told 57 = .ok (.ireturn, 1) := by decide +kernel
theorem dX11_told_58 : decode cX11_told 58 = .ok (.aload_n 0, 1) := by decide +kernel
theorem dX11_told_59 : decode cX11_told 59 = .ok (.getfield 68, 3) := by decide +kernel
theorem dX11_told_62 : decode cX11_told 62 = .ok (.getfield 196, 3) := by decide +kernel
theorem dX11_told_65 : decode cX11_told 65 = .ok (.iload_n 1, 1) := by decide +kernel
theorem dX11_told_66 : decode cX11_told 66 = .ok (.iaload, 1) := by decide +kernel
theorem dX11_told_67 : decode cX11_told 67 = .ok (.ireturn, 1) := by decide +kernel
theorem dX11_told_68 : decode cX11_told 68 = .ok (.aload_n 0, 1) := by decide +kernel
theorem dX11_told_69 : decode cX11_told 69 = .ok (.getfield 68, 3) := by decide +kernel
theorem dX11_told_72 : decode cX11_told 72 = .ok (.getfield 196, 3) := by decide +kernel
theorem dX11_told_75 : decode cX11_told 75 = .ok (.iload_n 1, 1) := by decide +kernel
theorem dX11_told_76 : decode cX11_told 76 = .ok (.iaload, 1) := by decide +kernel
theorem dX11_told_77 : decode cX11_told 77 = .ok (.aload_n 0, 1) := by decide +kernel
theorem dX11_told_78 : decode cX11_told 78 = .ok (.getfield 68, 3) := by decide +kernel
theorem dX11_told_81 : decode cX11_told 81 = .ok (.getfield 199, 3) := by decide +kernel
theorem dX11_told_84 : decode cX11_told 84 = .ok (.iload_n 1, 1) := by decide +kernel
theorem dX11_told_85 : decode cX11_told 85 = .ok (.iaload, 1) := by decide +kernel
theorem dX11_told_86 : decode cX11_told 86 = .ok (.iadd, 1) := by decide +kernel
theorem dX11_told_87 : decode cX11_told 87 = .ok (.ireturn, 1) := by decide +kernel
theorem dX11_told_88 : decode cX11_told 88 = .ok (.aload_n 0, 1) := by decide +kernel
theorem dX11_told_89 : decode cX11_told 89 = .ok (.getfield 68, 3) := by decide +kernel
theorem dX11_told_92 : decode cX11_told 92 = .ok (.getfield 202, 3) := by decide +kernel
theorem dX11_told_95 : decode cX11_told 95 = .ok (.iload_n 1, 1) := by decide +kernel
theorem dX11_told_96 : decode cX11_told 96 = .ok (.iaload, 1) := by decide +kernel
theorem dX11_told_97 : decode cX11_told 97 = .ok (.ireturn, 1) := by decide +kernel
theorem dX11_told_98 : decode cX11_told 98 = .ok (.aload_n 0, 1) := by decide +kernel
theorem dX11_told_99 : decode cX11_told 99 = .ok (.getfield 68, 3) := by decide +kernel
theorem dX11_told_102 : decode cX11_told 102 = .ok (.getfield 199, 3) := by decide +kernel
theorem dX11_told_105 : decode cX11_told 105 = .ok (.iload_n 1, 1) := by decide +kernel
theorem dX11_told_106 : decode cX11_told 106 = .ok (.iaload, 1) := by decide +kernel
theorem dX11_told_107 : decode cX11_told 107 = .ok (.ireturn, 1) := by decide +kernel
theorem dX11_told_108 : decode cX11_told 108 = .ok (.iconst (-1), 1) := by decide +kernel
theorem dX11_told_109 : decode cX11_told 109 = .ok (.ireturn, 1) := by decide +kernel
set_option maxRecDepth 20000 in
theorem ggX11_out_X7_actAt : GoodIn wsX11_out wsX7_actAt := goodIn_r _ [8, 9, 10, 181, 182, 183, 184, 185, 186] (by decide +kernel) (by decide +kernel)
set_option maxRecDepth 20000 in
theorem gX11_out_X7_actAt : GoodIn wsX11_out (wsV RX11 113 RX7 yX7_actAt wsX7_actAt) := goodIn_app (goodIn_of _ (by decide +kernel)) ggX11_out_X7_actAt
set_option maxRecDepth 20000 in
theorem ggX11_out_X11_isMinute : GoodIn wsX11_out wsX11_isMinute := goodIn_r _ [14, 15, 16, 13, 17] (by decide +kernel) (by decide +kernel)
set_option maxRecDepth 20000 in
theorem gX11_out_X11_isMinute : GoodIn wsX11_out (va_wsS RX11 143 yX11_isMinute wsX11_isMinute) := goodIn_app (goodIn_of _ (by decide +kernel)) ggX11_out_X11_isMinute
set_option maxRecDepth 20000 in
theorem ggX11_out_X1_has : GoodIn wsX11_out wsX1_has := goodIn_r _ [22, 23, 187, 188, 189, 190] (by decide +kernel) (by decide +kernel)
set_option maxRecDepth 20000 in
theorem gX11_out_X1_has : GoodIn wsX11_out (wsV RX11 168 RX1 yX1_has wsX1_has) := goodIn_app (goodIn_of _ (by decide +kernel)) ggX11_out_X1_has
set_option maxRecDepth 20000 in
theorem ggX11_out_X11_prepare : GoodIn wsX11_out wsX11_prepare := goodIn_r _ [27, 28, 2, 3, 29, 30, 31, 32, 33, 34, 35, 36, 37, 38, 39, 40, 41, 42, 43, 44, 45, 46, 47, 48, 49, 50, 51, 52, 53, 54, 55, 56, 57, 58, 59, 60, 61, 62, 63, 64, 65, 66, 67, 68, 69, 70, 71, 72, 73, 74, 75, 76, 77, 78, 79, 80, 81, 82, 83, 84, 5, 6, 7, 8, 9, 10, 85, 86, 87, 88, 89, 90, 91, 92, 93, 94, 95, 96, 97, 98, 99, 100, 101, 102, 103, 104, 105, 106, 107, 108, 109, 110, 111, 112, 170, 171, 172, 173, 174, 175, 176, 177, 178, 179, 180, 191, 192, 193, 187, 188, 189, 190, 194, 195, 196, 197, 198, 199, 200, 201, 202, 203, 204, 205, 206, 207, 208, 181, 182, 183, 184, 185, 186, 209, 210, 211, 212, 213, 214, 215, 216, 217, 218, 219, 220] (by decide +kernel) (by decide +kernel)
set_option maxRecDepth 20000 in
theorem gX11_out_X11_prepare : GoodIn wsX11_out (wsV RX11 181 RX11 yX11_prepare wsX11_prepare) := goodIn_app (goodIn_of _ (by decide +kernel)) ggX11_out_X11_prepare
set_option maxRecDepth 20000 in
theorem ggX11_out_X4_outRuleFor : GoodIn wsX11_out wsX4_outRuleFor := goodIn_r _ [116, 70, 66, 117, 84, 5, 6, 7, 8, 9, 10, 118, 119, 120, 64, 121, 122, 123, 69, 124, 125, 126, 127, 67, 128, 129, 130, 131, 132, 133, 134, 74, 135, 81, 76, 136, 137, 138, 139, 140, 141, 142, 143, 144, 78, 145, 146, 147, 148, 149, 150, 151, 152, 153, 154, 155, 156, 157, 158, 159, 160, 161, 162, 163, 59, 164, 165, 166, 167, 168, 169, 194, 195, 196, 197, 198, 199, 200, 201, 181, 182, 183, 184, 185, 186, 191, 192, 193, 209, 210, 211, 212, 213, 214, 215, 216, 202, 203, 204, 205, 206, 207, 208, 221, 222, 223, 224, 225, 226, 227, 228] (by decide +kernel) (by decide +kernel)
set_option maxRecDepth 20000 in
theorem gX11_out_X4_outRuleFor : GoodIn wsX11_out (wsV RX11 205 RX4 yX4_outRuleFor wsX4_outRuleFor) := goodIn_app (goodIn_of _ (by decide +kernel)) ggX11_out_X4_outRuleFor
theorem dX11_out_0 : decode cX11_out 0 = .ok (.aload_n 0, 1) := by decide +kernel
theorem dX11_out_1 : decode cX11_out 1 = .ok (.getfield 28, 3) := by decide +kernel
theorem dX11_out_4 : decode cX11_out 4 = .ok (.iload_n 1, 1) := by decide +kernel
theorem dX11_out_5 : decode cX11_out 5 = .ok (.invokevirtual 113, 3) := by decide +kernel
theorem dX11_out_8 : decode cX11_out 8 = .ok (.ifnull 21, 3) := by decide +kernel
theorem dX11_out_11 : decode cX11_out 11 = .ok (.iload_n 2, 1) := by decide +kernel
theorem dX11_out_12 : decode cX11_out 12 = .ok (.invokestatic 143, 3) := by decide +kernel
theorem dX11_out_15 : decode cX11_out 15 = .ok (.ifCond .eq 14, 3) := by decide +kernel
theorem dX11_out_18 : decode cX11_out 18 = .ok (.aload_n 0, 1) := by decide +kernel
theorem dX11_out_19 : decode cX11_out 19 = .ok (.getfield 35, 3) := by decide +kernel
theorem dX11_out_22 : decode cX11_out 22 = .ok (.iload_n 3, 1) := by decide +kernel
theorem dX11_out_23 : decode cX11_out 23 = .ok (.invokevirtual 168, 3) := by decide +kernel
theorem dX11_out_26 : decode cX11_out 26 = .ok (.ifCond .ne 5, 3) := by decide +kernel
theorem dX11_out_29 : decode cX11_out 29 = .ok (.iconst (-1), 1) := by decide +kernel
theorem dX11_out_30 : decode cX11_out 30 = .ok (.ireturn, 1) := by decide +kernel
theorem dX11_out_31 : decode cX11_out 31 = .ok (.aload_n 0, 1) := by decide +kernel
theorem dX11_out_32 : decode cX11_out 32 = .ok (.iload_n 3, 1) := by decide +kernel
theorem dX11_out_33 : decode cX11_out 33 = .ok (.invokevirtual 181, 3) := by decide +kernel
theorem dX11_out_36 : decode cX11_out 36 = .ok (.aload_n 0, 1) := by decide +kernel
theorem dX11_out_37 : decode cX11_out 37 = .ok (.getfield 61, 3) := by decide +kernel
theorem dX11_out_40 : decode cX11_out 40 = .ok (.iload_n 1, 1) := by decide +kernel
theorem dX11_out_41 : decode cX11_out 41 = .ok (.iload_n 2, 1) := by decide +kernel
theorem dX11_out_42 : decode cX11_out 42 = .ok (.invokevirtual 205, 3) := by decide +kernel
theorem dX11_out_45 : decode cX11_out 45 = .ok (.ireturn, 1) := by decide +kernel
set_option maxRecDepth 20000 in
theorem ggX11_can_X11_isOrder : GoodIn wsX11_can wsX11_isOrder := goodIn_r _ [9, 10, 11, 12, 13, 14, 15, 16, 17, 18, 19, 20, 8, 21, 22, 23, 24, 213, 214, 215, 216, 217, 218, 219, 220, 221, 222, 223, 239, 240, 241, 242, 243, 244] (by decide +kernel) (by decide +kernel)
set_option maxRecDepth 20000 in
theorem gX11_can_X11_isOrder : GoodIn wsX11_can (wsV RX11 208 RX11 yX11_isOrder wsX11_isOrder) := goodIn_app (goodIn_of _ (by decide +kernel)) ggX11_can_X11_isOrder
set_option maxRecDepth 20000 in
theorem ggX11_can_X1_has : GoodIn wsX11_can wsX1_has := goodIn_r _ [29, 30, 245, 246, 247, 248] (by decide +kernel) (by decide +kernel)
set_option maxRecDepth 20000 in
theorem gX11_can_X1_has : GoodIn wsX11_can (wsV RX11 168 RX1 yX1_has wsX1_has) := goodIn_app (goodIn_of _ (by decide +kernel)) ggX11_can_X1_has
set_option maxRecDepth 20000 in
theorem ggX11_can_X11_prepare : GoodIn wsX11_can wsX11_prepare := goodIn_r _ [34, 35, 1, 2, 36, 37, 38, 39, 40, 41, 42, 43, 44, 45, 46, 47, 48, 49, 50, 51, 52, 53, 54, 55, 56, 57, 58, 59, 60, 61, 62, 63, 64, 65, 66, 67, 68, 69, 70, 71, 72, 73, 74, 75, 76, 77, 78, 79, 80, 81, 82, 83, 84, 85, 86, 87, 88, 89, 90, 91, 12, 13, 14, 15, 16, 17, 92, 93, 94, 95, 96, 97, 98, 99, 100, 101, 102, 103, 104, 105, 106, 107, 108, 109, 110, 111, 112, 113, 114, 115, 116, 117, 118, 119, 213, 214, 215, 216, 217, 218, 219, 220, 221, 222, 223, 249, 250, 251, 245, 246, 247, 248, 224, 225, 226, 227, 228, 229, 230, 231, 232, 233, 234, 235, 236, 237, 238, 239, 240, 241, 242, 243, 244, 252, 253, 254, 255, 256, 257, 258, 259, 260, 261, 262, 263] (by decide +kernel) (by decide +kernel)
set_option maxRecDepth 20000 in
theorem gX11_can_X11_prepare : GoodIn wsX11_can (wsV RX11 181 RX11 yX11_prepare wsX11_prepare) := goodIn_app (goodIn_of _ (by decide +kernel)) ggX11_can_X11_prepare
set_option maxRecDepth 20000 in
theorem ggX11_can_X4_fly : GoodIn wsX11_can wsX4_fly := goodIn_r _ [123, 77, 74, 124, 125, 126, 127, 128, 66, 129, 130, 91, 12, 13, 14, 15, 16, 17, 131, 132, 133, 81, 134, 85, 135, 136, 137, 71, 138, 139, 140, 141, 142, 143, 144, 145, 146, 147, 88, 83, 148, 149, 150, 151, 152, 153, 154, 155, 156, 86, 157, 158, 159, 160, 161, 162, 163, 76, 164, 165, 166, 167, 168, 169, 170, 73, 75, 171, 172, 173, 174, 175, 65, 67, 176, 177, 178, 179, 180, 181, 182, 183, 184, 185, 186, 187, 188, 189, 190, 191, 192, 193, 194, 195, 196, 197, 198, 199, 200, 201, 202, 203, 204, 205, 206, 207, 208, 209, 210, 211, 212, 84, 87, 89, 224, 225, 226, 227, 228, 229, 230, 231, 249, 250, 251, 252, 253, 254, 255, 256, 257, 258, 259, 239, 240, 241, 242, 243, 244, 232, 233, 234, 235, 236, 237, 238, 264, 265, 266, 267, 268, 269, 270, 271] (by decide +kernel) (by decide +kernel)
set_option maxRecDepth 20000 in
theorem gX11_can_X4_fly : GoodIn wsX11_can (wsV RX11 212 RX4 yX4_fly wsX4_fly) := goodIn_app (goodIn_of _ (by decide +kernel)) ggX11_can_X4_fly
theorem dX11_can_0 : decode cX11_can 0 = .ok (.aload_n 0, 1) := by decide +kernel
theorem dX11_can_1 : decode cX11_can 1 = .ok (.iload_n 1, 1) := by decide +kernel
theorem dX11_can_2 : decode cX11_can 2 = .ok (.iload_n 2, 1) := by decide +kernel
theorem dX11_can_3 : decode cX11_can 3 = .ok (.iload_n 3, 1) := by decide +kernel
theorem dX11_can_4 : decode cX11_can 4 = .ok (.iload 4, 2) := by decide +kernel
theorem dX11_can_6 : decode cX11_can 6 = .ok (.invokevirtual 208, 3) := by decide +kernel
theorem dX11_can_9 : decode cX11_can 9 = .ok (.ifCond .eq 15, 3) := by decide +kernel
theorem dX11_can_12 : decode cX11_can 12 = .ok (.aload_n 0, 1) := by decide +kernel
theorem dX11_can_13 : decode cX11_can 13 = .ok (.getfield 35, 3) := by decide +kernel
theorem dX11_can_16 : decode cX11_can 16 = .ok (.iload 5, 2) := by decide +kernel
theorem dX11_can_18 : decode cX11_can 18 = .ok (.invokevirtual 168, 3) := by decide +kernel
theorem dX11_can_21 : decode cX11_can 21 = .ok (.ifCond .ne 5, 3) := by decide +kernel
theorem dX11_can_24 : decode cX11_can 24 = .ok (.iconst (-1), 1) := by decide +kernel
theorem dX11_can_25 : decode cX11_can 25 = .ok (.ireturn, 1) := by decide +kernel
theorem dX11_can_26 : decode cX11_can 26 = .ok (.aload_n 0, 1) := by decide +kernel
theorem dX11_can_27 : decode cX11_can 27 = .ok (.iload 5, 2) := by decide +kernel
theorem dX11_can_29 : decode cX11_can 29 = .ok (.invokevirtual 181, 3) := by decide +kernel
theorem dX11_can_32 : decode cX11_can 32 = .ok (.aload_n 0, 1) := by decide +kernel
theorem dX11_can_33 : decode cX11_can 33 = .ok (.getfield 61, 3) := by decide +kernel
theorem dX11_can_36 : decode cX11_can 36 = .ok (.iload_n 1, 1) := by decide +kernel
theorem dX11_can_37 : decode cX11_can 37 = .ok (.invokevirtual 212, 3) := by decide +kernel
theorem dX11_can_40 : decode cX11_can 40 = .ok (.ifCond .eq 57, 3) := by decide +kernel
theorem dX11_can_43 : decode cX11_can 43 = .ok (.iload_n 2, 1) := by decide +kernel
theorem dX11_can_44 : decode cX11_can 44 = .ok (.iconst (-1), 1) := by decide +kernel
theorem dX11_can_45 : decode cX11_can 45 = .ok (.if_icmp .eq 14, 3) := by decide +kernel
theorem dX11_can_48 : decode cX11_can 48 = .ok (.aload_n 0, 1) := by decide +kernel
theorem dX11_can_49 : decode cX11_can 49 = .ok (.getfield 61, 3) := by decide +kernel
theorem dX11_can_52 : decode cX11_can 52 = .ok (.iload_n 2, 1) := by decide +kernel
theorem dX11_can_53 : decode cX11_can 53 = .ok (.invokevirtual 212, 3) := by decide +kernel
theorem dX11_can_56 : decode cX11_can 56 = .ok (.ifCond .eq 41, 3) := by decide +kernel
theorem dX11_can_59 : decode cX11_can 59 = .ok (.iload_n 3, 1) := by decide +kernel
theorem dX11_can_60 : decode cX11_can 60 = .ok (.iconst (-1), 1) := by decide +kernel
theorem dX11_can_61 : decode cX11_can 61 = .ok (.if_icmp .eq 14, 3) := by decide +kernel
theorem dX11_can_64 : decode cX11_can 64 = .ok (.aload_n 0, 1) := by decide +kernel
theorem dX11_can_65 : decode cX11_can 65 = .ok (.getfield 61, 3) := by decide +kernel
theorem dX11_can_68 : decode cX11_can 68 = .ok (.iload_n 3, 1) := by decide +kernel
theorem dX11_can_69 : decode cX11_can 69 = .ok (.invokevirtual 212, 3) := by decide +kernel
theorem dX11_can_72 : decode cX11_can 72 = .ok (.ifCond .eq 25, 3) := by decide +kernel
theorem dX11_can_75 : decode cX11_can 75 = .ok (.iload 4, 2) := by decide +kernel
theorem dX11_can_77 : decode cX11_can 77 = .ok (.iconst (-1), 1) := by decide +kernel
theorem dX11_can_78 : decode cX11_can 78 = .ok (.if_icmp .eq 15, 3) := by decide +kernel
theorem dX11_can_81 : decode cX11_can 81 = .ok (.aload_n 0, 1) := by decide +kernel
theorem dX11_can_82 : decode cX11_can 82 = .ok (.getfield 61, 3) := by decide +kernel
theorem dX11_can_85 : decode cX11_can 85 = .ok (.iload 4, 2) := by decide +kernel
theorem dX11_can_87 : decode cX11_can 87 = .ok (.invokevirtual 212, 3) := by decide +kernel
theorem dX11_can_90 : decode cX11_can 90 = .ok (.ifCond .eq 7, 3) := by decide +kernel
theorem dX11_can_93 : decode cX11_can 93 = .ok (.iconst 1, 1) := by decide +kernel
theorem dX11_can_94 : decode cX11_can 94 = .ok (.goto 4, 3) := by decide +kernel
theorem dX11_can_97 : decode cX11_can 97 = .ok (.iconst 0, 1) := by decide +kernel
theorem dX11_can_98 : decode cX11_can 98 = .ok (.istore 6, 2) := by decide +kernel
theorem dX11_can_100 : decode cX11_can 100 = .ok (.iload 6, 2) := by decide +kernel
theorem dX11_can_102 : decode cX11_can 102 = .ok (.ifCond .eq 16, 3) := by decide +kernel
theorem dX11_can_105 : decode cX11_can 105 = .ok (.aload_n 0, 1) := by decide +kernel
theorem dX11_can_106 : decode cX11_can 106 = .ok (.getfield 61, 3) := by decide +kernel
theorem dX11_can_109 : decode cX11_can 109 = .ok (.getfield 215, 3) := by decide +kernel
theorem dX11_can_112 : decode cX11_can 112 = .ok (.getfield 218, 3) := by decide +kernel
theorem dX11_can_115 : decode cX11_can 115 = .ok (.goto 5, 3) := by decide +kernel
theorem dX11_can_118 : decode cX11_can 118 = .ok (.bipush (-2), 2) := by decide +kernel
theorem dX11_can_120 : decode cX11_can 120 = .ok (.ireturn, 1) := by decide +kernel
set_option maxRecDepth 20000 in
theorem ggX11_runway_X11_isMinute : GoodIn wsX11_runway wsX11_isMinute := goodIn_r _ [7, 8, 9, 6, 10] (by decide +kernel) (by decide +kernel)
set_option maxRecDepth 20000 in
theorem gX11_runway_X11_isMinute : GoodIn wsX11_runway (va_wsS RX11 143 yX11_isMinute wsX11_isMinute) := goodIn_app (goodIn_of _ (by decide +kernel)) ggX11_runway_X11_isMinute
theorem dX11_runway_0 : decode cX11_runway 0 = .ok (.iload_n 1, 1) := by decide +kernel
theorem dX11_runway_1 : decode cX11_runway 1 = .ok (.invokestatic 143, 3) := by decide +kernel
theorem dX11_runway_4 : decode cX11_runway 4 = .ok (.ifCond .ne 5, 3) := by decide +kernel
theorem dX11_runway_7 : decode cX11_runway 7 = .ok (.iconst (-1), 1) := by decide +kernel
theorem dX11_runway_8 : decode cX11_runway 8 = .ok (.ireturn, 1) := by decide +kernel
theorem dX11_runway_9 : decode cX11_runway 9 = .ok (.iconst 0, 1) := by decide +kernel
theorem dX11_runway_10 : decode cX11_runway 10 = .ok (.istore_n 2, 1) := by decide +kernel
theorem dX11_runway_11 : decode cX11_runway 11 = .ok (.iload_n 2, 1) := by decide +kernel
theorem dX11_runway_12 : decode cX11_runway 12 = .ok (.bipush 6, 2) := by decide +kernel
theorem dX11_runway_14 : decode cX11_runway 14 = .ok (.if_icmp .ge 42, 3) := by decide +kernel
theorem dX11_runway_17 : decode cX11_runway 17 = .ok (.aload_n 0, 1) := by decide +kernel
theorem dX11_runway_18 : decode cX11_runway 18 = .ok (.getfield 68, 3) := by decide +kernel
theorem dX11_runway_21 : decode cX11_runway 21 = .ok (.getfield 193, 3) := by decide +kernel
theorem dX11_runway_24 : decode cX11_runway 24 = .ok (.iload_n 2, 1) := by decide +kernel
theorem dX11_runway_25 : decode cX11_runway 25 = .ok (.iaload, 1) := by decide +kernel
theorem dX11_runway_26 : decode cX11_runway 26 = .ok (.iload_n 1, 1) := by decide +kernel
theorem dX11_runway_27 : decode cX11_runway 27 = .ok (.if_icmp .ne 5, 3) := by decide +kernel
theorem dX11_runway_30 : decode cX11_runway 30 = .ok (.iload_n 2, 1) := by decide +kernel
theorem dX11_runway_31 : decode cX11_runway 31 = .ok (.ireturn, 1) := by decide +kernel
theorem dX11_runway_32 : decode cX11_runway 32 = .ok (.aload_n 0, 1) := by decide +kernel
theorem dX11_runway_33 : decode cX11_runway 33 = .ok (.getfield 68, 3) := by decide +kernel
theorem dX11_runway_36 : decode cX11_runway 36 = .ok (.getfield 202, 3) := by decide +kernel
theorem dX11_runway_39 : decode cX11_runway 39 = .ok (.iload_n 2, 1) := by decide +kernel
theorem dX11_runway_40 : decode cX11_runway 40 = .ok (.iaload, 1) := by decide +kernel
theorem dX11_runway_41 : decode cX11_runway 41 = .ok (.iload_n 1, 1) := by decide +kernel
theorem dX11_runway_42 : decode cX11_runway 42 = .ok (.if_icmp .ne 8, 3) := by decide +kernel
theorem dX11_runway_45 : decode cX11_runway 45 = .ok (.bipush 100, 2) := by decide +kernel
theorem dX11_runway_47 : decode cX11_runway 47 = .ok (.iload_n 2, 1) := by decide +kernel
theorem dX11_runway_48 : decode cX11_runway 48 = .ok (.iadd, 1) := by decide +kernel
theorem dX11_runway_49 : decode cX11_runway 49 = .ok (.ireturn, 1) := by decide +kernel
theorem dX11_runway_50 : decode cX11_runway 50 = .ok (.iinc 2 1, 3) := by decide +kernel
theorem dX11_runway_53 : decode cX11_runway 53 = .ok (.goto (-42), 3) := by decide +kernel
theorem dX11_runway_56 : decode cX11_runway 56 = .ok (.iconst (-1), 1) := by decide +kernel
theorem dX11_runway_57 : decode cX11_runway 57 = .ok (.ireturn, 1) := by decide +kernel
set_option maxRecDepth 20000 in
theorem ggX11_count_X3_lastLanding : GoodIn wsX11_count wsX3_lastLanding := goodIn_r _ [18, 19, 20, 21, 22, 23, 53, 54, 55, 56, 57, 58, 59] (by decide +kernel) (by decide +kernel)
set_option maxRecDepth 20000 in
theorem gX11_count_X3_lastLanding : GoodIn wsX11_count (wsV RX11 223 RX3 yX3_lastLanding wsX3_lastLanding) := goodIn_app (goodIn_of _ (by decide +kernel)) ggX11_count_X3_lastLanding
theorem dX11_count_0 : decode cX11_count 0 = .ok (.iload_n 1, 1) := by decide +kernel
theorem dX11_count_1 : decode cX11_count 1 = .ok (.tableswitch 122 0 7 #[47, 55, 63, 71, 90, 98, 106, 114], 47) := by decide +kernel
theorem dX11_count_48 : decode cX11_count 48 = .ok (.aload_n 0, 1) := by decide +kernel
theorem dX11_count_49 : decode cX11_count 49 = .ok (.getfield 28, 3) := by decide +kernel
theorem dX11_count_52 : decode cX11_count 52 = .ok (.getfield 103, 3) := by decide +kernel
theorem dX11_count_55 : decode cX11_count 55 = .ok (.ireturn, 1) := by decide +kernel
theorem dX11_count_56 : decode cX11_count 56 = .ok (.aload_n 0, 1) := by decide +kernel
theorem dX11_count_57 : decode cX11_count 57 = .ok (.getfield 35, 3) := by decide +kernel
theorem dX11_count_60 : decode cX11_count 60 = .ok (.getfield 221, 3) := by decide +kernel
theorem dX11_count_63 : decode cX11_count 63 = .ok (.ireturn, 1) := by decide +kernel
theorem dX11_count_64 : decode cX11_count 64 = .ok (.aload_n 0, 1) := by decide +kernel
theorem dX11_count_65 : decode cX11_count 65 = .ok (.getfield 49, 3) := by decide +kernel
theorem dX11_count_68 : decode cX11_count 68 = .ok (.getfield 222, 3) := by decide +kernel
theorem dX11_count_71 : decode cX11_count 71 = .ok (.ireturn, 1) := by decide +kernel
theorem dX11_count_72 : decode cX11_count 72 = .ok (.aload_n 0, 1) := by decide +kernel
theorem dX11_count_73 : decode cX11_count 73 = .ok (.getfield 72, 3) := by decide +kernel
theorem dX11_count_76 : decode cX11_count 76 = .ok (.ifCond .eq 13, 3) := by decide +kernel
theorem dX11_count_79 : decode cX11_count 79 = .ok (.aload_n 0, 1) := by decide +kernel
theorem dX11_count_80 : decode cX11_count 80 = .ok (.getfield 68, 3) := by decide +kernel
theorem dX11_count_83 : decode cX11_count 83 = .ok (.getfield 188, 3) := by decide +kernel
theorem dX11_count_86 : decode cX11_count 86 = .ok (.goto 4, 3) := by decide +kernel
theorem dX11_count_89 : decode cX11_count 89 = .ok (.iconst (-1), 1) := by decide +kernel
theorem dX11_count_90 : decode cX11_count 90 = .ok (.ireturn, 1) := by decide +kernel
theorem dX11_count_91 : decode cX11_count 91 = .ok (.aload_n 0, 1) := by decide +kernel
theorem dX11_count_92 : decode cX11_count 92 = .ok (.getfield 68, 3) := by decide +kernel
theorem dX11_count_95 : decode cX11_count 95 = .ok (.invokevirtual 223, 3) := by decide +kernel
theorem dX11_count_98 : decode cX11_count 98 = .ok (.ireturn, 1) := by decide +kernel
theorem dX11_count_99 : decode cX11_count 99 = .ok (.aload_n 0, 1) := by decide +kernel
theorem dX11_count_100 : decode cX11_count 100 = .ok (.getfield 10, 3) := by decide +kernel
theorem dX11_count_103 : decode cX11_count 103 = .ok (.getfield 88, 3) := by decide +kernel
theorem dX11_count_106 : decode cX11_count 106 = .ok (.ireturn, 1) := by decide +kernel
theorem dX11_count_107 : decode cX11_count 107 = .ok (.aload_n 0, 1) := by decide +kernel
theorem dX11_count_108 : decode cX11_count 108 = .ok (.getfield 28, 3) := by decide +kernel
theorem dX11_count_111 : decode cX11_count 111 = .ok (.getfield 137, 3) := by decide +kernel
theorem dX11_count_114 : decode cX11_count 114 = .ok (.ireturn, 1) := by decide +kernel
theorem dX11_count_115 : decode cX11_count 115 = .ok (.aload_n 0, 1) := by decide +kernel
theorem dX11_count_116 : decode cX11_count 116 = .ok (.getfield 28, 3) := by decide +kernel
theorem dX11_count_119 : decode cX11_count 119 = .ok (.getfield 140, 3) := by decide +kernel
theorem dX11_count_122 : decode cX11_count 122 = .ok (.ireturn, 1) := by decide +kernel
theorem dX11_count_123 : decode cX11_count 123 = .ok (.iconst (-1), 1) := by decide +kernel
theorem dX11_count_124 : decode cX11_count 124 = .ok (.ireturn, 1) := by decide +kernel
theorem dX11_isWithin_0 : decode cX11_isWithin 0 = .ok (.iload_n 0, 1) := by decide +kernel
theorem dX11_isWithin_1 : decode cX11_isWithin 1 = .ok (.iload_n 1, 1) := by decide +kernel
theorem dX11_isWithin_2 : decode cX11_isWithin 2 = .ok (.if_icmp .lt 12, 3) := by decide +kernel
theorem dX11_isWithin_5 : decode cX11_isWithin 5 = .ok (.iload_n 0, 1) := by decide +kernel
theorem dX11_isWithin_6 : decode cX11_isWithin 6 = .ok (.iload_n 2, 1) := by decide +kernel
theorem dX11_isWithin_7 : decode cX11_isWithin 7 = .ok (.if_icmp .gt 7, 3) := by decide +kernel
theorem dX11_isWithin_10 : decode cX11_isWithin 10 = .ok (.iconst 1, 1) := by decide +kernel
theorem dX11_isWithin_11 : decode cX11_isWithin 11 = .ok (.goto 4, 3) := by decide +kernel
theorem dX11_isWithin_14 : decode cX11_isWithin 14 = .ok (.iconst 0, 1) := by decide +kernel
theorem dX11_isWithin_15 : decode cX11_isWithin 15 = .ok (.ireturn, 1) := by decide +kernel
set_option maxRecDepth 20000 in
theorem ggX11_isMinute_X11_isWithin : GoodIn wsX11_isMinute wsX11_isWithin := goodIn_r _ [4] (by decide +kernel) (by decide +kernel)
set_option maxRecDepth 20000 in
theorem gX11_isMinute_X11_isWithin : GoodIn wsX11_isMinute (va_wsS RX11 91 yX11_isWithin wsX11_isWithin) := goodIn_app (goodIn_of _ (by decide +kernel)) ggX11_isMinute_X11_isWithin
theorem dX11_isMinute_0 : decode cX11_isMinute 0 = .ok (.iload_n 0, 1) := by decide +kernel
theorem dX11_isMinute_1 : decode cX11_isMinute 1 = .ok (.iconst 0, 1) := by decide +kernel
theorem dX11_isMinute_2 : decode cX11_isMinute 2 = .ok (.sipush 239, 3) := by decide +kernel
theorem dX11_isMinute_5 : decode cX11_isMinute 5 = .ok (.invokestatic 91, 3) := by decide +kernel
theorem dX11_isMinute_8 : decode cX11_isMinute 8 = .ok (.ireturn, 1) := by decide +kernel
set_option maxRecDepth 20000 in
theorem ggX11_isBase_X11_isWithin : GoodIn wsX11_isBase wsX11_isWithin := goodIn_r _ [4] (by decide +kernel) (by decide +kernel)
set_option maxRecDepth 20000 in
theorem gX11_isBase_X11_isWithin : GoodIn wsX11_isBase (va_wsS RX11 91 yX11_isWithin wsX11_isWithin) := goodIn_app (goodIn_of _ (by decide +kernel)) ggX11_isBase_X11_isWithin
theorem dX11_isBase_0 : decode cX11_isBase 0 = .ok (.iload_n 0, 1) := by decide +kernel
theorem dX11_isBase_1 : decode cX11_isBase 1 = .ok (.iconst 0, 1) := by decide +kernel
theorem dX11_isBase_2 : decode cX11_isBase 2 = .ok (.bipush 9, 2) := by decide +kernel
theorem dX11_isBase_4 : decode cX11_isBase 4 = .ok (.invokestatic 91, 3) := by decide +kernel
theorem dX11_isBase_7 : decode cX11_isBase 7 = .ok (.ireturn, 1) := by decide +kernel
set_option maxRecDepth 20000 in
theorem ggX11_closeBox_X1_add : GoodIn wsX11_closeBox wsX1_add := goodIn_r _ [6, 7, 8, 9, 10, 22, 23, 24, 25] (by decide +kernel) (by decide +kernel)
set_option maxRecDepth 20000 in
theorem gX11_closeBox_X1_add : GoodIn wsX11_closeBox (wsV RX11 149 RX1 yX1_add wsX1_add) := goodIn_app (goodIn_of _ (by decide +kernel)) ggX11_closeBox_X1_add
theorem dX11_closeBox_0 : decode cX11_closeBox 0 = .ok (.iload_n 1, 1) := by decide +kernel
theorem dX11_closeBox_1 : decode cX11_closeBox 1 = .ok (.ifCond .lt 15, 3) := by decide +kernel
theorem dX11_closeBox_4 : decode cX11_closeBox 4 = .ok (.iload_n 1, 1) := by decide +kernel
theorem dX11_closeBox_5 : decode cX11_closeBox 5 = .ok (.iload_n 2, 1) := by decide +kernel
theorem dX11_closeBox_6 : decode cX11_closeBox 6 = .ok (.if_icmp .ge 10, 3) := by decide +kernel
theorem dX11_closeBox_9 : decode cX11_closeBox 9 = .ok (.iload_n 2, 1) := by decide +kernel
theorem dX11_closeBox_10 : decode cX11_closeBox 10 = .ok (.sipush 240, 3) := by decide +kernel
theorem dX11_closeBox_13 : decode cX11_closeBox 13 = .ok (.if_icmp .le 5, 3) := by decide +kernel
theorem dX11_closeBox_16 : decode cX11_closeBox 16 = .ok (.iconst (-1), 1) := by decide +kernel
theorem dX11_closeBox_17 : decode cX11_closeBox 17 = .ok (.ireturn, 1) := by decide +kernel
theorem dX11_closeBox_18 : decode cX11_closeBox 18 = .ok (.aload_n 0, 1) := by decide +kernel
theorem dX11_closeBox_19 : decode cX11_closeBox 19 = .ok (.getfield 35, 3) := by decide +kernel
theorem dX11_closeBox_22 : decode cX11_closeBox 22 = .ok (.iconst 1, 1) := by decide +kernel
theorem dX11_closeBox_23 : decode cX11_closeBox 23 = .ok (.iload_n 1, 1) := by decide +kernel
theorem dX11_closeBox_24 : decode cX11_closeBox 24 = .ok (.iload_n 2, 1) := by decide +kernel
theorem dX11_closeBox_25 : decode cX11_closeBox 25 = .ok (.invokevirtual 149, 3) := by decide +kernel
theorem dX11_closeBox_28 : decode cX11_closeBox 28 = .ok (.ireturn, 1) := by decide +kernel
set_option maxRecDepth 20000 in
theorem ggX11_isOrder_X7_actAt : GoodIn wsX11_isOrder wsX7_actAt := goodIn_r _ [6, 7, 8, 28, 29, 30, 31, 32, 33] (by decide +kernel) (by decide +kernel)
set_option maxRecDepth 20000 in
theorem gX11_isOrder_X7_actAt : GoodIn wsX11_isOrder (wsV RX11 113 RX7 yX7_actAt wsX7_actAt) := goodIn_app (goodIn_of _ (by decide +kernel)) ggX11_isOrder_X7_actAt
set_option maxRecDepth 20000 in
theorem ggX11_isOrder_X11_isActOrNone : GoodIn wsX11_isOrder wsX11_isActOrNone := goodIn_r _ [13, 1, 2, 3, 4, 5, 6, 7, 8, 17, 18, 19, 20, 21, 22, 23, 24, 25, 26, 27, 28, 29, 30, 31, 32, 33] (by decide +kernel) (by decide +kernel)
set_option maxRecDepth 20000 in
theorem gX11_isOrder_X11_isActOrNone : GoodIn wsX11_isOrder (wsV RX11 226 RX11 yX11_isActOrNone wsX11_isActOrNone) := goodIn_app (goodIn_of _ (by decide +kernel)) ggX11_isOrder_X11_isActOrNone
set_option maxRecDepth 20000 in
theorem ggX11_isOrder_X11_isTwice : GoodIn wsX11_isOrder wsX11_isTwice := goodIn_r _ [16] (by decide +kernel) (by decide +kernel)
set_option maxRecDepth 20000 in
theorem gX11_isOrder_X11_isTwice : GoodIn wsX11_isOrder (va_wsS RX11 229 yX11_isTwice wsX11_isTwice) := goodIn_app (goodIn_of _ (by decide +kernel)) ggX11_isOrder_X11_isTwice
theorem dX11_isOrder_0 : decode cX11_isOrder 0 = .ok (.aload_n 0, 1) := by decide +kernel
theorem dX11_isOrder_1 : decode cX11_isOrder 1 = .ok (.getfield 28, 3) := by decide +kernel
theorem dX11_isOrder_4 : decode cX11_isOrder 4 = .ok (.iload_n 1, 1) := by decide +kernel
theorem dX11_isOrder_5 : decode cX11_isOrder 5 = .ok (.invokevirtual 113, 3) := by decide +kernel
theorem dX11_isOrder_8 : decode cX11_isOrder 8 = .ok (.ifnull 28, 3) := by decide +kernel
theorem dX11_isOrder_11 : decode cX11_isOrder 11 = .ok (.aload_n 0, 1) := by decide +kernel
theorem dX11_isOrder_12 : decode cX11_isOrder 12 = .ok (.iload_n 2, 1) := by decide +kernel
theorem dX11_isOrder_13 : decode cX11_isOrder 13 = .ok (.invokevirtual 226, 3) := by decide +kernel
theorem dX11_isOrder_16 : decode cX11_isOrder 16 = .ok (.ifCond .eq 20, 3) := by decide +kernel
theorem dX11_isOrder_19 : decode cX11_isOrder 19 = .ok (.aload_n 0, 1) := by decide +kernel
theorem dX11_isOrder_20 : decode cX11_isOrder 20 = .ok (.iload_n 3, 1) := by decide +kernel
theorem dX11_isOrder_21 : decode cX11_isOrder 21 = .ok (.invokevirtual 226, 3) := by decide +kernel
theorem dX11_isOrder_24 : decode cX11_isOrder 24 = .ok (.ifCond .eq 12, 3) := by decide +kernel
theorem dX11_isOrder_27 : decode cX11_isOrder 27 = .ok (.aload_n 0, 1) := by decide +kernel
theorem dX11_isOrder_28 : decode cX11_isOrder 28 = .ok (.iload 4, 2) := by decide +kernel
theorem dX11_isOrder_30 : decode cX11_isOrder 30 = .ok (.invokevirtual 226, 3) := by decide +kernel
theorem dX11_isOrder_33 : decode cX11_isOrder 33 = .ok (.ifCond .ne 5, 3) := by decide +kernel
theorem dX11_isOrder_36 : decode cX11_isOrder 36 = .ok (.iconst 0, 1) := by decide +kernel
theorem dX11_isOrder_37 : decode cX11_isOrder 37 = .ok (.ireturn, 1) := by decide +kernel
theorem dX11_isOrder_38 : decode cX11_isOrder 38 = .ok (.iload_n 2, 1) := by decide +kernel
theorem dX11_isOrder_39 : decode cX11_isOrder 39 = .ok (.iconst (-1), 1) := by decide +kernel
theorem dX11_isOrder_40 : decode cX11_isOrder 40 = .ok (.if_icmp .ne 8, 3) := by decide +kernel
theorem dX11_isOrder_43 : decode cX11_isOrder 43 = .ok (.iload_n 3, 1) := by decide +kernel
theorem dX11_isOrder_44 : decode cX11_isOrder 44 = .ok (.iconst (-1), 1) := by decide +kernel
theorem dX11_isOrder_45 : decode cX11_isOrder 45 = .ok (.if_icmp .ne 14, 3) := by decide +kernel
theorem dX11_isOrder_48 : decode cX11_isOrder 48 = .ok (.iload_n 3, 1) := by decide +kernel
theorem dX11_isOrder_49 : decode cX11_isOrder 49 = .ok (.iconst (-1), 1) := by decide +kernel
theorem dX11_isOrder_50 : decode cX11_isOrder 50 = .ok (.if_icmp .ne 11, 3) := by decide +kernel
theorem dX11_isOrder_53 : decode cX11_isOrder 53 = .ok (.iload 4, 2) := by decide +kernel
theorem dX11_isOrder_55 : decode cX11_isOrder 55 = .ok (.iconst (-1), 1) := by decide +kernel
theorem dX11_isOrder_56 : decode cX11_isOrder 56 = .ok (.if_icmp .eq 5, 3) := by decide +kernel
theorem dX11_isOrder_59 : decode cX11_isOrder 59 = .ok (.iconst 0, 1) := by decide +kernel
theorem dX11_isOrder_60 : decode cX11_isOrder 60 = .ok (.ireturn, 1) := by decide +kernel
theorem dX11_isOrder_61 : decode cX11_isOrder 61 = .ok (.iload_n 1, 1) := by decide +kernel
theorem dX11_isOrder_62 : decode cX11_isOrder 62 = .ok (.iload_n 2, 1) := by decide +kernel
theorem dX11_isOrder_63 : decode cX11_isOrder 63 = .ok (.if_icmp .eq 44, 3) := by decide +kernel
theorem dX11_isOrder_66 : decode cX11_isOrder 66 = .ok (.iload_n 1, 1) := by decide +kernel
theorem dX11_isOrder_67 : decode cX11_isOrder 67 = .ok (.iload_n 3, 1) := by decide +kernel
theorem dX11_isOrder_68 : decode cX11_isOrder 68 = .ok (.if_icmp .eq 39, 3) := by decide +kernel
theorem dX11_isOrder_71 : decode cX11_isOrder 71 = .ok (.iload_n 1, 1) := by decide +kernel
theorem dX11_isOrder_72 : decode cX11_isOrder 72 = .ok (.iload 4, 2) := by decide +kernel
theorem dX11_isOrder_74 : decode cX11_isOrder 74 = .ok (.if_icmp .eq 33, 3) := by decide +kernel
theorem dX11_isOrder_77 : decode cX11_isOrder 77 = .ok (.iload_n 2, 1) := by decide +kernel
theorem dX11_isOrder_78 : decode cX11_isOrder 78 = .ok (.iload_n 3, 1) := by decide +kernel
theorem dX11_isOrder_79 : decode cX11_isOrder 79 = .ok (.invokestatic 229, 3) := by decide +kernel
theorem dX11_isOrder_82 : decode cX11_isOrder 82 = .ok (.ifCond .ne 25, 3) := by decide +kernel
theorem dX11_isOrder_85 : decode cX11_isOrder 85 = .ok (.iload_n 2, 1) := by decide +kernel
theorem dX11_isOrder_86 : decode cX11_isOrder 86 = .ok (.iload 4, 2) := by decide +kernel
theorem dX11_isOrder_88 : decode cX11_isOrder 88 = .ok (.invokestatic 229, 3) := by decide +kernel
theorem dX11_isOrder_91 : decode cX11_isOrder 91 = .ok (.ifCond .ne 16, 3) := by decide +kernel
theorem dX11_isOrder_94 : decode cX11_isOrder 94 = .ok (.iload_n 3, 1) := by decide +kernel
theorem dX11_isOrder_95 : decode cX11_isOrder 95 = .ok (.iload 4, 2) := by decide +kernel
theorem dX11_isOrder_97 : decode cX11_isOrder 97 = .ok (.invokestatic 229, 3) := by decide +kernel
theorem dX11_isOrder_100 : decode cX11_isOrder 100 = .ok (.ifCond .ne 7, 3) := by decide +kernel
theorem dX11_isOrder_103 : decode cX11_isOrder 103 = .ok (.iconst 1, 1) := by decide +kernel
theorem dX11_isOrder_104 : decode cX11_isOrder 104 = .ok (.goto 4, 3) := by decide +kernel
theorem dX11_isOrder_107 : decode cX11_isOrder 107 = .ok (.iconst 0, 1) := by decide +kernel
theorem dX11_isOrder_108 : decode cX11_isOrder 108 = .ok (.ireturn, 1) := by decide +kernel
set_option maxRecDepth 20000 in
theorem ggX11_isActOrNone_X7_actAt : GoodIn wsX11_isActOrNone wsX7_actAt := goodIn_r _ [6, 7, 8, 20, 21, 22, 23, 24, 25] (by decide +kernel) (by decide +kernel)
set_option maxRecDepth 20000 in
theorem gX11_isActOrNone_X7_actAt : GoodIn wsX11_isActOrNone (wsV RX11 113 RX7 yX7_actAt wsX7_actAt) := goodIn_app (goodIn_of _ (by decide +kernel)) ggX11_isActOrNone_X7_actAt
theorem dX11_isActOrNone_0 : decode cX11_isActOrNone 0 = .ok (.iload_n 1, 1) := by decide +kernel
theorem dX11_isActOrNone_1 : decode cX11_isActOrNone 1 = .ok (.iconst (-1), 1) := by decide +kernel
theorem dX11_isActOrNone_2 : decode cX11_isActOrNone 2 = .ok (.if_icmp .eq 14, 3) := by decide +kernel
theorem dX11_isActOrNone_5 : decode cX11_isActOrNone 5 = .ok (.aload_n 0, 1) := by decide +kernel
theorem dX11_isActOrNone_6 : decode cX11_isActOrNone 6 = .ok (.getfield 28, 3) := by decide +kernel
theorem dX11_isActOrNone_9 : decode cX11_isActOrNone 9 = .ok (.iload_n 1, 1) := by decide +kernel
theorem dX11_isActOrNone_10 : decode cX11_isActOrNone 10 = .ok (.invokevirtual 113, 3) := by decide +kernel
theorem dX11_isActOrNone_13 : decode cX11_isActOrNone 13 = .ok (.ifnull 7, 3) := by decide +kernel
theorem dX11_isActOrNone_16 : decode cX11_isActOrNone 16 = .ok (.iconst 1, 1) := by decide +kernel
theorem dX11_isActOrNone_17 : decode cX11_isActOrNone 17 = .ok (.goto 4, 3) := by decide +kernel
theorem dX11_isActOrNone_20 : decode cX11_isActOrNone 20 = .ok (.iconst 0, 1) := by decide +kernel
theorem dX11_isActOrNone_21 : decode cX11_isActOrNone 21 = .ok (.ireturn, 1) := by decide +kernel
theorem dX11_isTwice_0 : decode cX11_isTwice 0 = .ok (.iload_n 0, 1) := by decide +kernel
theorem dX11_isTwice_1 : decode cX11_isTwice 1 = .ok (.iload_n 1, 1) := by decide +kernel
theorem dX11_isTwice_2 : decode cX11_isTwice 2 = .ok (.if_icmp .ne 12, 3) := by decide +kernel
theorem dX11_isTwice_5 : decode cX11_isTwice 5 = .ok (.iload_n 0, 1) := by decide +kernel
theorem dX11_isTwice_6 : decode cX11_isTwice 6 = .ok (.iconst (-1), 1) := by decide +kernel
theorem dX11_isTwice_7 : decode cX11_isTwice 7 = .ok (.if_icmp .eq 7, 3) := by decide +kernel
theorem dX11_isTwice_10 : decode cX11_isTwice 10 = .ok (.iconst 1, 1) := by decide +kernel
theorem dX11_isTwice_11 : decode cX11_isTwice 11 = .ok (.goto 4, 3) := by decide +kernel
theorem dX11_isTwice_14 : decode cX11_isTwice 14 = .ok (.iconst 0, 1) := by decide +kernel
theorem dX11_isTwice_15 : decode cX11_isTwice 15 = .ok (.ireturn, 1) := by decide +kernel
set_option maxRecDepth 20000 in
theorem ggX11_prepare_X8_learn : GoodIn wsX11_prepare wsX8_learn := goodIn_r _ [9, 10, 11, 12, 13, 14, 15, 16, 17, 18, 19, 20, 21, 22, 8, 23, 24, 25, 26, 27, 28, 29, 30, 31, 32, 33, 34, 35, 105, 106, 107, 108, 109, 110, 111] (by decide +kernel) (by decide +kernel)
set_option maxRecDepth 20000 in
theorem gX11_prepare_X8_learn : GoodIn wsX11_prepare (wsV RX11 171 RX8 yX8_learn wsX8_learn) := goodIn_app (goodIn_of _ (by decide +kernel)) ggX11_prepare_X8_learn
set_option maxRecDepth 20000 in
theorem ggX11_prepare_X4_begin : GoodIn wsX11_prepare wsX4_begin := goodIn_r _ [40, 41, 42, 43, 44, 45, 46, 47, 48, 49, 50, 51, 52, 53, 54, 55, 56, 57, 58, 17, 18, 19, 59, 60, 61, 62, 63, 64, 65, 66, 67, 68, 69, 70, 71, 72, 73, 74, 75, 76, 77, 78, 79, 80, 81, 82, 83, 84, 85, 86, 87, 88, 89, 90, 91, 92, 93, 112, 113, 114, 115, 116, 117, 118, 119, 120, 121, 122, 123, 124, 125, 126, 127, 128, 129, 130, 131, 132, 133, 134, 135, 136, 137, 138, 139, 140, 141, 142, 143, 144] (by decide +kernel) (by decide +kernel)
set_option maxRecDepth 20000 in
theorem gX11_prepare_X4_begin : GoodIn wsX11_prepare (wsV RX11 233 RX4 yX4_begin wsX4_begin) := goodIn_app (goodIn_of _ (by decide +kernel)) ggX11_prepare_X4_begin
theorem dX11_prepare_0 : decode cX11_prepare 0 = .ok (.aload_n 0, 1) := by decide +kernel
theorem dX11_prepare_1 : decode cX11_prepare 1 = .ok (.getfield 42, 3) := by decide +kernel
theorem dX11_prepare_4 : decode cX11_prepare 4 = .ok (.aload_n 0, 1) := by decide +kernel
theorem dX11_prepare_5 : decode cX11_prepare 5 = .ok (.getfield 35, 3) := by decide +kernel
theorem dX11_prepare_8 : decode cX11_prepare 8 = .ok (.iload_n 1, 1) := by decide +kernel
theorem dX11_prepare_9 : decode cX11_prepare 9 = .ok (.invokevirtual 171, 3) := by decide +kernel
theorem dX11_prepare_12 : decode cX11_prepare 12 = .ok (.aload_n 0, 1) := by decide +kernel
theorem dX11_prepare_13 : decode cX11_prepare 13 = .ok (.getfield 61, 3) := by decide +kernel
theorem dX11_prepare_16 : decode cX11_prepare 16 = .ok (.aload_n 0, 1) := by decide +kernel
theorem dX11_prepare_17 : decode cX11_prepare 17 = .ok (.getfield 49, 3) := by decide +kernel
theorem dX11_prepare_20 : decode cX11_prepare 20 = .ok (.invokevirtual 233, 3) := by decide +kernel
theorem dX11_prepare_23 : decode cX11_prepare 23 = .ok (.return_, 1) := by decide +kernel
set_option maxRecDepth 20000 in
theorem ggX12_init_X12_word : GoodIn wsX12_init wsX12_word := goodIn_r _ [72, 73, 74, 71, 75, 76] (by decide +kernel) (by decide +kernel)
set_option maxRecDepth 20000 in
theorem gX12_init_X12_word : GoodIn wsX12_init (va_wsS RX12 194 yX12_word wsX12_word) := goodIn_app (goodIn_of _ (by decide +kernel)) ggX12_init_X12_word
theorem dX12_init_0 : decode cX12_init 0 = .ok (.aload_n 0, 1) := by decide +kernel
theorem dX12_init_1 : decode cX12_init 1 = .ok (.invokespecial 7, 3) := by decide +kernel
theorem dX12_init_4 : decode cX12_init 4 = .ok (.aload_n 0, 1) := by decide +kernel
theorem dX12_init_5 : decode cX12_init 5 = .ok (.sipush 2000, 3) := by decide +kernel
theorem dX12_init_8 : decode cX12_init 8 = .ok (.newarray .byte, 2) := by decide +kernel
theorem dX12_init_10 : decode cX12_init 10 = .ok (.putfield 13, 3) := by decide +kernel
theorem dX12_init_13 : decode cX12_init 13 = .ok (.aload_n 0, 1) := by decide +kernel
theorem dX12_init_14 : decode cX12_init 14 = .ok (.sipush 2000, 3) := by decide +kernel
theorem dX12_init_17 : decode cX12_init 17 = .ok (.newarray .byte, 2) := by decide +kernel
theorem dX12_init_19 : decode cX12_init 19 = .ok (.putfield 17, 3) := by decide +kernel
theorem dX12_init_22 : decode cX12_init 22 = .ok (.aload_n 0, 1) := by decide +kernel
theorem dX12_init_23 : decode cX12_init 23 = .ok (.sipush 403, 3) := by decide +kernel
theorem dX12_init_26 : decode cX12_init 26 = .ok (.newarray .int, 2) := by decide +kernel
theorem dX12_init_28 : decode cX12_init 28 = .ok (.putfield 20, 3) := by decide +kernel
theorem dX12_init_31 : decode cX12_init 31 = .ok (.aload_n 0, 1) := by decide +kernel
theorem dX12_init_32 : decode cX12_init 32 = .ok (.sipush 403, 3) := by decide +kernel
theorem dX12_init_35 : decode cX12_init 35 = .ok (.newarray .int, 2) := by decide +kernel
theorem dX12_init_37 : decode cX12_init 37 = .ok (.putfield 24, 3) := by decide +kernel
theorem dX12_init_40 : decode cX12_init 40 = .ok (.aload_n 0, 1) := by decide +kernel
theorem dX12_init_41 : decode cX12_init 41 = .ok (.sipush 403, 3) := by decide +kernel
theorem dX12_init_44 : decode cX12_init 44 = .ok (.newarray .int, 2) := by decide +kernel
theorem dX12_init_46 : decode cX12_init 46 = .ok (.putfield 27, 3) := by decide +kernel
theorem dX12_init_49 : decode cX12_init 49 = .ok (.aload_n 0, 1) := by decide +kernel
theorem dX12_init_50 : decode cX12_init 50 = .ok (.sipush 403, 3) := by decide +kernel
theorem dX12_init_53 : decode cX12_init 53 = .ok (.newarray .long, 2) := by decide +kernel
theorem dX12_init_55 : decode cX12_init 55 = .ok (.putfield 30, 3) := by decide +kernel
theorem dX12_init_58 : decode cX12_init 58 = .ok (.aload_n 0, 1) := by decide +kernel
theorem dX12_init_59 : decode cX12_init 59 = .ok (.bipush 15, 2) := by decide +kernel
theorem dX12_init_61 : decode cX12_init 61 = .ok (.newarray .long, 2) := by decide +kernel
theorem dX12_init_63 : decode cX12_init 63 = .ok (.putfield 34, 3) := by decide +kernel
theorem dX12_init_66 : decode cX12_init 66 = .ok (.aload_n 0, 1) := by decide +kernel
theorem dX12_init_67 : decode cX12_init 67 = .ok (.iconst (-1), 1) := by decide +kernel
theorem dX12_init_68 : decode cX12_init 68 = .ok (.putfield 37, 3) := by decide +kernel
theorem dX12_init_71 : decode cX12_init 71 = .ok (.aload_n 0, 1) := by decide +kernel
theorem dX12_init_72 : decode cX12_init 72 = .ok (.iconst 2, 1) := by decide +kernel
theorem dX12_init_73 : decode cX12_init 73 = .ok (.newarray .int, 2) := by decide +kernel
theorem dX12_init_75 : decode cX12_init 75 = .ok (.putfield 40, 3) := by decide +kernel
theorem dX12_init_78 : decode cX12_init 78 = .ok (.aload_n 0, 1) := by decide +kernel
theorem dX12_init_79 : decode cX12_init 79 = .ok (.bipush 32, 2) := by decide +kernel
theorem dX12_init_81 : decode cX12_init 81 = .ok (.newarray .int, 2) := by decide +kernel
theorem dX12_init_83 : decode cX12_init 83 = .ok (.putfield 43, 3) := by decide +kernel
theorem dX12_init_86 : decode cX12_init 86 = .ok (.aload_n 0, 1) := by decide +kernel
theorem dX12_init_87 : decode cX12_init 87 = .ok (.bipush 32, 2) := by decide +kernel
theorem dX12_init_89 : decode cX12_init 89 = .ok (.newarray .int, 2) := by decide +kernel
theorem dX12_init_91 : decode cX12_init 91 = .ok (.putfield 46, 3) := by decide +kernel
theorem dX12_init_94 : decode cX12_init 94 = .ok (.aload_n 0, 1) := by decide +kernel
theorem dX12_init_95 : decode cX12_init 95 = .ok (.bipush 32, 2) := by decide +kernel
theorem dX12_init_97 : decode cX12_init 97 = .ok (.newarray .int, 2) := by decide +kernel
theorem dX12_init_99 : decode cX12_init 99 = .ok (.putfield 49, 3) := by decide +kernel
theorem dX12_init_102 : decode cX12_init 102 = .ok (.aload_n 0, 1) := by decide +kernel
theorem dX12_init_103 : decode cX12_init 103 = .ok (.bipush 32, 2) := by decide +kernel
theorem dX12_init_105 : decode cX12_init 105 = .ok (.newarray .int, 2) := by decide +kernel
theorem dX12_init_107 : decode cX12_init 107 = .ok (.putfield 52, 3) := by decide +kernel
theorem dX12_init_110 : decode cX12_init 110 = .ok (.aload_n 0, 1) := by decide +kernel
theorem dX12_init_111 : decode cX12_init 111 = .ok (.bipush 32, 2) := by decide +kernel
theorem dX12_init_113 : decode cX12_init 113 = .ok (.newarray .int, 2) := by decide +kernel
theorem dX12_init_115 : decode cX12_init 115 = .ok (.putfield 55, 3) := by decide +kernel
theorem dX12_init_118 : decode cX12_init 118 = .ok (.aload_n 0, 1) := by decide +kernel
theorem dX12_init_119 : decode cX12_init 119 = .ok (.iconst 2, 1) := by decide +kernel
theorem dX12_init_120 : decode cX12_init 120 = .ok (.newarray .int, 2) := by decide +kernel
theorem dX12_init_122 : decode cX12_init 122 = .ok (.putfield 58, 3) := by decide +kernel
theorem dX12_init_125 : decode cX12_init 125 = .ok (.aload_n 0, 1) := by decide +kernel
theorem dX12_init_126 : decode cX12_init 126 = .ok (.sipush 400, 3) := by decide +kernel
theorem dX12_init_129 : decode cX12_init 129 = .ok (.newarray .int, 2) := by decide +kernel
theorem dX12_init_131 : decode cX12_init 131 = .ok (.putfield 61, 3) := by decide +kernel
theorem dX12_init_134 : decode cX12_init 134 = .ok (.aload_n 0, 1) := by decide +kernel
theorem dX12_init_135 : decode cX12_init 135 = .ok (.sipush 400, 3) := by decide +kernel
theorem dX12_init_138 : decode cX12_init 138 = .ok (.newarray .int, 2) := by decide +kernel
theorem dX12_init_140 : decode cX12_init 140 = .ok (.putfield 64, 3) := by decide +kernel
theorem dX12_init_143 : decode cX12_init 143 = .ok (.aload_n 0, 1) := by decide +kernel
theorem dX12_init_144 : decode cX12_init 144 = .ok (.sipush 400, 3) := by decide +kernel
theorem dX12_init_147 : decode cX12_init 147 = .ok (.newarray .int, 2) := by decide +kernel
theorem dX12_init_149 : decode cX12_init 149 = .ok (.putfield 67, 3) := by decide +kernel
theorem dX12_init_152 : decode cX12_init 152 = .ok (.aload_n 0, 1) := by decide +kernel
theorem dX12_init_153 : decode cX12_init 153 = .ok (.sipush 400, 3) := by decide +kernel
theorem dX12_init_156 : decode cX12_init 156 = .ok (.newarray .int, 2) := by decide +kernel
theorem dX12_init_158 : decode cX12_init 158 = .ok (.putfield 70, 3) := by decide +kernel
theorem dX12_init_161 : decode cX12_init 161 = .ok (.aload_n 0, 1) := by decide +kernel
theorem dX12_init_162 : decode cX12_init 162 = .ok (.sipush 400, 3) := by decide +kernel
theorem dX12_init_165 : decode cX12_init 165 = .ok (.newarray .boolean, 2) := by decide +kernel
theorem dX12_init_167 : decode cX12_init 167 = .ok (.putfield 73, 3) := by decide +kernel
theorem dX12_init_170 : decode cX12_init 170 = .ok (.aload_n 0, 1) := by decide +kernel
theorem dX12_init_171 : decode cX12_init 171 = .ok (.sipush 1000, 3) := by decide +kernel
theorem dX12_init_174 : decode cX12_init 174 = .ok (.newarray .int, 2) := by decide +kernel
theorem dX12_init_176 : decode cX12_init 176 = .ok (.putfield 77, 3) := by decide +kernel
theorem dX12_init_179 : decode cX12_init 179 = .ok (.aload_n 0, 1) := by decide +kernel
theorem dX12_init_180 : decode cX12_init 180 = .ok (.sipush 1000, 3) := by decide +kernel
theorem dX12_init_183 : decode cX12_init 183 = .ok (.newarray .int, 2) := by decide +kernel
theorem dX12_init_185 : decode cX12_init 185 = .ok (.putfield 80, 3) := by decide +kernel
theorem dX12_init_188 : decode cX12_init 188 = .ok (.aload_n 0, 1) := by decide +kernel
theorem dX12_init_189 : decode cX12_init 189 = .ok (.bipush 48, 2) := by decide +kernel
theorem dX12_init_191 : decode cX12_init 191 = .ok (.newarray .int, 2) := by decide +kernel
theorem dX12_init_193 : decode cX12_init 193 = .ok (.putfield 83, 3) := by decide +kernel
theorem dX12_init_196 : decode cX12_init 196 = .ok (.aload_n 0, 1) := by decide +kernel
theorem dX12_init_197 : decode cX12_init 197 = .ok (.bipush 6, 2) := by decide +kernel
theorem dX12_init_199 : decode cX12_init 199 = .ok (.newarray .int, 2) := by decide +kernel
theorem dX12_init_201 : decode cX12_init 201 = .ok (.putfield 86, 3) := by decide +kernel
theorem dX12_init_204 : decode cX12_init 204 = .ok (.aload_n 0, 1) := by decide +kernel
theorem dX12_init_205 : decode cX12_init 205 = .ok (.bipush 6, 2) := by decide +kernel
theorem dX12_init_207 : decode cX12_init 207 = .ok (.newarray .int, 2) := by decide +kernel
theorem dX12_init_209 : decode cX12_init 209 = .ok (.putfield 89, 3) := by decide +kernel
theorem dX12_init_212 : decode cX12_init 212 = .ok (.aload_n 0, 1) := by decide +kernel
theorem dX12_init_213 : decode cX12_init 213 = .ok (.bipush 6, 2) := by decide +kernel
theorem dX12_init_215 : decode cX12_init 215 = .ok (.newarray .int, 2) := by decide +kernel
theorem dX12_init_217 : decode cX12_init 217 = .ok (.putfield 92, 3) := by decide +kernel
theorem dX12_init_220 : decode cX12_init 220 = .ok (.aload_n 0, 1) := by decide +kernel
theorem dX12_init_221 : decode cX12_init 221 = .ok (.bipush 6, 2) := by decide +kernel
theorem dX12_init_223 : decode cX12_init 223 = .ok (.newarray .int, 2) := by decide +kernel
theorem dX12_init_225 : decode cX12_init 225 = .ok (.putfield 95, 3) := by decide +kernel
theorem dX12_init_228 : decode cX12_init 228 = .ok (.aload_n 0, 1) := by decide +kernel
theorem dX12_init_229 : decode cX12_init 229 = .ok (.bipush 6, 2) := by decide +kernel
theorem dX12_init_231 : decode cX12_init 231 = .ok (.newarray .int, 2) := by decide +kernel
theorem dX12_init_233 : decode cX12_init 233 = .ok (.putfield 98, 3) := by decide +kernel
theorem dX12_init_236 : decode cX12_init 236 = .ok (.aload_n 0, 1) := by decide +kernel
theorem dX12_init_237 : decode cX12_init 237 = .ok (.bipush 6, 2) := by decide +kernel
theorem dX12_init_239 : decode cX12_init 239 = .ok (.newarray .int, 2) := by decide +kernel
theorem dX12_init_241 : decode cX12_init 241 = .ok (.putfield 101, 3) := by decide +kernel
theorem dX12_init_244 : decode cX12_init 244 = .ok (.aload_n 0, 1) := by decide +kernel
theorem dX12_init_245 : decode cX12_init 245 = .ok (.bipush 6, 2) := by decide +kernel
theorem dX12_init_247 : decode cX12_init 247 = .ok (.newarray .int, 2) := by decide +kernel
theorem dX12_init_249 : decode cX12_init 249 = .ok (.putfield 104, 3) := by decide +kernel
theorem dX12_init_252 : decode cX12_init 252 = .ok (.aload_n 0, 1) := by decide +kernel
theorem dX12_init_253 : decode cX12_init 253 = .ok (.bipush 36, 2) := by decide +kernel
theorem dX12_init_255 : decode cX12_init 255 = .ok (.newarray .int, 2) := by decide +kernel
theorem dX12_init_257 : decode cX12_init 257 = .ok (.putfield 107, 3) := by decide +kernel
theorem dX12_init_260 : decode cX12_init 260 = .ok (.aload_n 0, 1) := by decide +kernel
theorem dX12_init_261 : decode cX12_init 261 = .ok (.bipush 36, 2) := by decide +kernel
theorem dX12_init_263 : decode cX12_init 263 = .ok (.newarray .int, 2) := by decide +kernel
theorem dX12_init_265 : decode cX12_init 265 = .ok (.putfield 110, 3) := by decide +kernel
theorem dX12_init_268 : decode cX12_init 268 = .ok (.aload_n 0, 1) := by decide +kernel
theorem dX12_init_269 : decode cX12_init 269 = .ok (.bipush 36, 2) := by decide +kernel
theorem dX12_init_271 : decode cX12_init 271 = .ok (.newarray .int, 2) := by decide +kernel
theorem dX12_init_273 : decode cX12_init 273 = .ok (.putfield 113, 3) := by decide +kernel
theorem dX12_init_276 : decode cX12_init 276 = .ok (.aload_n 0, 1) := by decide +kernel
theorem dX12_init_277 : decode cX12_init 277 = .ok (.bipush 36, 2) := by decide +kernel
theorem dX12_init_279 : decode cX12_init 279 = .ok (.newarray .boolean, 2) := by decide +kernel
theorem dX12_init_281 : decode cX12_init 281 = .ok (.putfield 116, 3) := by decide +kernel
theorem dX12_init_284 : decode cX12_init 284 = .ok (.aload_n 0, 1) := by decide +kernel
theorem dX12_init_285 : decode cX12_init 285 = .ok (.bipush 10, 2) := by decide +kernel
theorem dX12_init_287 : decode cX12_init 287 = .ok (.newarray .int, 2) := by decide +kernel
theorem dX12_init_289 : decode cX12_init 289 = .ok (.putfield 119, 3) := by decide +kernel
theorem dX12_init_292 : decode cX12_init 292 = .ok (.aload_n 0, 1) := by decide +kernel
theorem dX12_init_293 : decode cX12_init 293 = .ok (.bipush 100, 2) := by decide +kernel
theorem dX12_init_295 : decode cX12_init 295 = .ok (.newarray .int, 2) := by decide +kernel
theorem dX12_init_297 : decode cX12_init 297 = .ok (.putfield 122, 3) := by decide +kernel
theorem dX12_init_300 : decode cX12_init 300 = .ok (.aload_n 0, 1) := by decide +kernel
theorem dX12_init_301 : decode cX12_init 301 = .ok (.bipush 100, 2) := by decide +kernel
theorem dX12_init_303 : decode cX12_init 303 = .ok (.newarray .int, 2) := by decide +kernel
theorem dX12_init_305 : decode cX12_init 305 = .ok (.putfield 125, 3) := by decide +kernel
theorem dX12_init_308 : decode cX12_init 308 = .ok (.aload_n 0, 1) := by decide +kernel
theorem dX12_init_309 : decode cX12_init 309 = .ok (.bipush 100, 2) := by decide +kernel
theorem dX12_init_311 : decode cX12_init 311 = .ok (.newarray .int, 2) := by decide +kernel
theorem dX12_init_313 : decode cX12_init 313 = .ok (.putfield 128, 3) := by decide +kernel
theorem dX12_init_316 : decode cX12_init 316 = .ok (.aload_n 0, 1) := by decide +kernel
theorem dX12_init_317 : decode cX12_init 317 = .ok (.sipush 240, 3) := by decide +kernel
theorem dX12_init_320 : decode cX12_init 320 = .ok (.newarray .int, 2) := by decide +kernel
theorem dX12_init_322 : decode cX12_init 322 = .ok (.putfield 131, 3) := by decide +kernel
theorem dX12_init_325 : decode cX12_init 325 = .ok (.aload_n 0, 1) := by decide +kernel
theorem dX12_init_326 : decode cX12_init 326 = .ok (.sipush 240, 3) := by decide +kernel
theorem dX12_init_329 : decode cX12_init 329 = .ok (.newarray .boolean, 2) := by decide +kernel
theorem dX12_init_331 : decode cX12_init 331 = .ok (.putfield 134, 3) := by decide +kernel
theorem dX12_init_334 : decode cX12_init 334 = .ok (.aload_n 0, 1) := by decide +kernel
theorem dX12_init_335 : decode cX12_init 335 = .ok (.bipush 6, 2) := by decide +kernel
theorem dX12_init_337 : decode cX12_init 337 = .ok (.newarray .int, 2) := by decide +kernel
theorem dX12_init_339 : decode cX12_init 339 = .ok (.putfield 137, 3) := by decide +kernel
theorem dX12_init_342 : decode cX12_init 342 = .ok (.aload_n 0, 1) := by decide +kernel
theorem dX12_init_343 : decode cX12_init 343 = .ok (.bipush 9, 2) := by decide +kernel
theorem dX12_init_345 : decode cX12_init 345 = .ok (.newarray .int, 2) := by decide +kernel
theorem dX12_init_347 : decode cX12_init 347 = .ok (.putfield 140, 3) := by decide +kernel
theorem dX12_init_350 : decode cX12_init 350 = .ok (.aload_n 0, 1) := by decide +kernel
theorem dX12_init_351 : decode cX12_init 351 = .ok (.sipush 500, 3) := by decide +kernel
theorem dX12_init_354 : decode cX12_init 354 = .ok (.newarray .int, 2) := by decide +kernel
theorem dX12_init_356 : decode cX12_init 356 = .ok (.putfield 143, 3) := by decide +kernel
theorem dX12_init_359 : decode cX12_init 359 = .ok (.aload_n 0, 1) := by decide +kernel
theorem dX12_init_360 : decode cX12_init 360 = .ok (.bipush 6, 2) := by decide +kernel
theorem dX12_init_362 : decode cX12_init 362 = .ok (.newarray .int, 2) := by decide +kernel
theorem dX12_init_364 : decode cX12_init 364 = .ok (.putfield 146, 3) := by decide +kernel
theorem dX12_init_367 : decode cX12_init 367 = .ok (.aload_n 0, 1) := by decide +kernel
theorem dX12_init_368 : decode cX12_init 368 = .ok (.bipush 6, 2) := by decide +kernel
theorem dX12_init_370 : decode cX12_init 370 = .ok (.newarray .int, 2) := by decide +kernel
theorem dX12_init_372 : decode cX12_init 372 = .ok (.putfield 149, 3) := by decide +kernel
theorem dX12_init_375 : decode cX12_init 375 = .ok (.aload_n 0, 1) := by decide +kernel
theorem dX12_init_376 : decode cX12_init 376 = .ok (.bipush 6, 2) := by decide +kernel
theorem dX12_init_378 : decode cX12_init 378 = .ok (.newarray .int, 2) := by decide +kernel
theorem dX12_init_380 : decode cX12_init 380 = .ok (.putfield 152, 3) := by decide +kernel
theorem dX12_init_383 : decode cX12_init 383 = .ok (.aload_n 0, 1) := by decide +kernel
theorem dX12_init_384 : decode cX12_init 384 = .ok (.bipush 6, 2) := by decide +kernel
theorem dX12_init_386 : decode cX12_init 386 = .ok (.newarray .int, 2) := by decide +kernel
theorem dX12_init_388 : decode cX12_init 388 = .ok (.putfield 155, 3) := by decide +kernel
theorem dX12_init_391 : decode cX12_init 391 = .ok (.aload_n 0, 1) := by decide +kernel
theorem dX12_init_392 : decode cX12_init 392 = .ok (.bipush 6, 2) := by decide +kernel
theorem dX12_init_394 : decode cX12_init 394 = .ok (.newarray .int, 2) := by decide +kernel
theorem dX12_init_396 : decode cX12_init 396 = .ok (.putfield 158, 3) := by decide +kernel
theorem dX12_init_399 : decode cX12_init 399 = .ok (.aload_n 0, 1) := by decide +kernel
theorem dX12_init_400 : decode cX12_init 400 = .ok (.bipush 6, 2) := by decide +kernel
theorem dX12_init_402 : decode cX12_init 402 = .ok (.newarray .int, 2) := by decide +kernel
theorem dX12_init_404 : decode cX12_init 404 = .ok (.putfield 161, 3) := by decide +kernel
theorem dX12_init_407 : decode cX12_init 407 = .ok (.aload_n 0, 1) := by decide +kernel
theorem dX12_init_408 : decode cX12_init 408 = .ok (.bipush 6, 2) := by decide +kernel
theorem dX12_init_410 : decode cX12_init 410 = .ok (.newarray .int, 2) := by decide +kernel
theorem dX12_init_412 : decode cX12_init 412 = .ok (.putfield 164, 3) := by decide +kernel
theorem dX12_init_415 : decode cX12_init 415 = .ok (.aload_n 0, 1) := by decide +kernel
theorem dX12_init_416 : decode cX12_init 416 = .ok (.bipush 6, 2) := by decide +kernel
theorem dX12_init_418 : decode cX12_init 418 = .ok (.newarray .int, 2) := by decide +kernel
theorem dX12_init_420 : decode cX12_init 420 = .ok (.putfield 167, 3) := by decide +kernel
theorem dX12_init_423 : decode cX12_init 423 = .ok (.aload_n 0, 1) := by decide +kernel
theorem dX12_init_424 : decode cX12_init 424 = .ok (.bipush 6, 2) := by decide +kernel
theorem dX12_init_426 : decode cX12_init 426 = .ok (.newarray .int, 2) := by decide +kernel
theorem dX12_init_428 : decode cX12_init 428 = .ok (.putfield 170, 3) := by decide +kernel
theorem dX12_init_431 : decode cX12_init 431 = .ok (.aload_n 0, 1) := by decide +kernel
theorem dX12_init_432 : decode cX12_init 432 = .ok (.bipush 6, 2) := by decide +kernel
theorem dX12_init_434 : decode cX12_init 434 = .ok (.newarray .int, 2) := by decide +kernel
theorem dX12_init_436 : decode cX12_init 436 = .ok (.putfield 173, 3) := by decide +kernel
theorem dX12_init_439 : decode cX12_init 439 = .ok (.aload_n 0, 1) := by decide +kernel
theorem dX12_init_440 : decode cX12_init 440 = .ok (.bipush 6, 2) := by decide +kernel
theorem dX12_init_442 : decode cX12_init 442 = .ok (.newarray .int, 2) := by decide +kernel
theorem dX12_init_444 : decode cX12_init 444 = .ok (.putfield 176, 3) := by decide +kernel
theorem dX12_init_447 : decode cX12_init 447 = .ok (.aload_n 0, 1) := by decide +kernel
theorem dX12_init_448 : decode cX12_init 448 = .ok (.bipush 6, 2) := by decide +kernel
theorem dX12_init_450 : decode cX12_init 450 = .ok (.newarray .int, 2) := by decide +kernel
theorem dX12_init_452 : decode cX12_init 452 = .ok (.putfield 179, 3) := by decide +kernel
theorem dX12_init_455 : decode cX12_init 455 = .ok (.aload_n 0, 1) := by decide +kernel
theorem dX12_init_456 : decode cX12_init 456 = .ok (.bipush 6, 2) := by decide +kernel
theorem dX12_init_458 : decode cX12_init 458 = .ok (.newarray .int, 2) := by decide +kernel
theorem dX12_init_460 : decode cX12_init 460 = .ok (.putfield 182, 3) := by decide +kernel
theorem dX12_init_463 : decode cX12_init 463 = .ok (.aload_n 0, 1) := by decide +kernel
theorem dX12_init_464 : decode cX12_init 464 = .ok (.bipush 6, 2) := by decide +kernel
theorem dX12_init_466 : decode cX12_init 466 = .ok (.newarray .int, 2) := by decide +kernel
theorem dX12_init_468 : decode cX12_init 468 = .ok (.putfield 185, 3) := by decide +kernel
theorem dX12_init_471 : decode cX12_init 471 = .ok (.aload_n 0, 1) := by decide +kernel
theorem dX12_init_472 : decode cX12_init 472 = .ok (.bipush 6, 2) := by decide +kernel
theorem dX12_init_474 : decode cX12_init 474 = .ok (.newarray .int, 2) := by decide +kernel
theorem dX12_init_476 : decode cX12_init 476 = .ok (.putfield 188, 3) := by decide +kernel
theorem dX12_init_479 : decode cX12_init 479 = .ok (.aload_n 0, 1) := by decide +kernel
theorem dX12_init_480 : decode cX12_init 480 = .ok (.bipush 7, 2) := by decide +kernel
theorem dX12_init_482 : decode cX12_init 482 = .ok (.newarray .int, 2) := by decide +kernel
theorem dX12_init_484 : decode cX12_init 484 = .ok (.putfield 191, 3) := by decide +kernel
theorem dX12_init_487 : decode cX12_init 487 = .ok (.aload_n 0, 1) := by decide +kernel
theorem dX12_init_488 : decode cX12_init 488 = .ok (.getfield 34, 3) := by decide +kernel
theorem dX12_init_491 : decode cX12_init 491 = .ok (.iconst 0, 1) := by decide +kernel
theorem dX12_init_492 : decode cX12_init 492 = .ok (.bipush 111, 2) := by decide +kernel
theorem dX12_init_494 : decode cX12_init 494 = .ok (.bipush 117, 2) := by decide +kernel
theorem dX12_init_496 : decode cX12_init 496 = .ok (.bipush 116, 2) := by decide +kernel
theorem dX12_init_498 : decode cX12_init 498 = .ok (.iconst 0, 1) := by decide +kernel
theorem dX12_init_499 : decode cX12_init 499 = .ok (.iconst 0, 1) := by decide +kernel
theorem dX12_init_500 : decode cX12_init 500 = .ok (.iconst 0, 1) := by decide +kernel
theorem dX12_init_501 : decode cX12_init 501 = .ok (.iconst 0, 1) := by decide +kernel
theorem dX12_init_502 : decode cX12_init 502 = .ok (.invokestatic 194, 3) := by decide +kernel
theorem dX12_init_505 : decode cX12_init 505 = .ok (.lastore, 1) := by decide +kernel
theorem dX12_init_506 : decode cX12_init 506 = .ok (.aload_n 0, 1) := by decide +kernel
theorem dX12_init_507 : decode cX12_init 507 = .ok (.getfield 34, 3) := by decide +kernel
theorem dX12_init_510 : decode cX12_init 510 = .ok (.iconst 1, 1) := by decide +kernel
theorem dX12_init_511 : decode cX12_init 511 = .ok (.bipush 105, 2) := by decide +kernel
theorem dX12_init_513 : decode cX12_init 513 = .ok (.bipush 102, 2) := by decide +kernel
theorem dX12_init_515 : decode cX12_init 515 = .ok (.iconst 0, 1) := by decide +kernel
theorem dX12_init_516 : decode cX12_init 516 = .ok (.iconst 0, 1) := by decide +kernel
theorem dX12_init_517 : decode cX12_init 517 = .ok (.iconst 0, 1) := by decide +kernel
theorem dX12_init_518 : decode cX12_init 518 = .ok (.iconst 0, 1) := by decide +kernel
theorem dX12_init_519 : decode cX12_init 519 = .ok (.iconst 0, 1) := by decide +kernel
theorem dX12_init_520 : decode cX12_init 520 = .ok (.invokestatic 194, 3) := by decide +kernel
theorem dX12_init_523 : decode cX12_init 523 = .ok (.lastore, 1) := by decide +kernel
theorem dX12_init_524 : decode cX12_init 524 = .ok (.aload_n 0, 1) := by decide +kernel
theorem dX12_init_525 : decode cX12_init 525 = .ok (.getfield 34, 3) := by decide +kernel
theorem dX12_init_528 : decode cX12_init 528 = .ok (.iconst 2, 1) := by decide +kernel
theorem dX12_init_529 : decode cX12_init 529 = .ok (.bipush 103, 2) := by decide +kernel
theorem dX12_init_531 : decode cX12_init 531 = .ok (.bipush 97, 2) := by decide +kernel
theorem dX12_init_533 : decode cX12_init 533 = .ok (.bipush 112, 2) := by decide +kernel
theorem dX12_init_535 : decode cX12_init 535 = .ok (.iconst 0, 1) := by decide +kernel
theorem dX12_init_536 : decode cX12_init 536 = .ok (.iconst 0, 1) := by decide +kernel
theorem dX12_init_537 : decode cX12_init 537 = .ok (.iconst 0, 1) := by decide +kernel
theorem dX12_init_538 : decode cX12_init 538 = .ok (.iconst 0, 1) := by decide +kernel
theorem dX12_init_539 : decode cX12_init 539 = .ok (.invokestatic 194, 3) := by decide +kernel
theorem dX12_init_542 : decode cX12_init 542 = .ok (.lastore, 1) := by decide +kernel
theorem dX12_init_543 : decode cX12_init 543 = .ok (.aload_n 0, 1) := by decide +kernel
theorem dX12_init_544 : decode cX12_init 544 = .ok (.getfield 34, 3) := by decide +kernel
theorem dX12_init_547 : decode cX12_init 547 = .ok (.iconst 3, 1) := by decide +kernel
theorem dX12_init_548 : decode cX12_init 548 = .ok (.bipush 115, 2) := by decide +kernel
theorem dX12_init_550 : decode cX12_init 550 = .ok (.bipush 112, 2) := by decide +kernel
theorem dX12_init_552 : decode cX12_init 552 = .ok (.bipush 97, 2) := by decide +kernel
theorem dX12_init_554 : decode cX12_init 554 = .ok (.bipush 114, 2) := by decide +kernel
theorem dX12_init_556 : decode cX12_init 556 = .ok (.bipush 101, 2) := by decide +kernel
theorem dX12_init_558 : decode cX12_init 558 = .ok (.iconst 0, 1) := by decide +kernel
theorem dX12_init_559 : decode cX12_init 559 = .ok (.iconst 0, 1) := by decide +kernel
theorem dX12_init_560 : decode cX12_init 560 = .ok (.invokestatic 194, 3) := by decide +kernel
theorem dX12_init_563 : decode cX12_init 563 = .ok (.lastore, 1) := by decide +kernel
theorem dX12_init_564 : decode cX12_init 564 = .ok (.aload_n 0, 1) := by decide +kernel
theorem dX12_init_565 : decode cX12_init 565 = .ok (.getfield 34, 3) := by decide +kernel
theorem dX12_init_568 : decode cX12_init 568 = .ok (.iconst 4, 1) := by decide +kernel
theorem dX12_init_569 : decode cX12_init 569 = .ok (.bipush 111, 2) := by decide +kernel
theorem dX12_init_571 : decode cX12_init 571 = .ok (.bipush 114, 2) := by decide +kernel
theorem dX12_init_573 : decode cX12_init 573 = .ok (.iconst 0, 1) := by decide +kernel
theorem dX12_init_574 : decode cX12_init 574 = .ok (.iconst 0, 1) := by decide +kernel
theorem dX12_init_575 : decode cX12_init 575 = .ok (.iconst 0, 1) := by decide +kernel
theorem dX12_init_576 : decode cX12_init 576 = .ok (.iconst 0, 1) := by decide +kernel
theorem dX12_init_577 : decode cX12_init 577 = .ok (.iconst 0, 1) := by decide +kernel
theorem dX12_init_578 : decode cX12_init 578 = .ok (.invokestatic 194, 3) := by decide +kernel
theorem dX12_init_581 : decode cX12_init 581 = .ok (.lastore, 1) := by decide +kernel
theorem dX12_init_582 : decode cX12_init 582 = .ok (.aload_n 0, 1) := by decide +kernel
theorem dX12_init_583 : decode cX12_init 583 = .ok (.getfield 34, 3) := by decide +kernel
theorem dX12_init_586 : decode cX12_init 586 = .ok (.iconst 5, 1) := by decide +kernel
theorem dX12_init_587 : decode cX12_init 587 = .ok (.bipush 97, 2) := by decide +kernel
theorem dX12_init_589 : decode cX12_init 589 = .ok (.bipush 110, 2) := by decide +kernel
theorem dX12_init_591 : decode cX12_init 591 = .ok (.bipush 100, 2) := by decide +kernel
theorem dX12_init_593 : decode cX12_init 593 = .ok (.iconst 0, 1) := by decide +kernel
theorem dX12_init_594 : decode cX12_init 594 = .ok (.iconst 0, 1) := by decide +kernel
theorem dX12_init_595 : decode cX12_init 595 = .ok (.iconst 0, 1) := by decide +kernel
theorem dX12_init_596 : decode cX12_init 596 = .ok (.iconst 0, 1) := by decide +kernel
theorem dX12_init_597 : decode cX12_init 597 = .ok (.invokestatic 194, 3) := by decide +kernel
theorem dX12_init_600 : decode cX12_init 600 = .ok (.lastore, 1) := by decide +kernel
theorem dX12_init_601 : decode cX12_init 601 = .ok (.aload_n 0, 1) := by decide +kernel
theorem dX12_init_602 : decode cX12_init 602 = .ok (.getfield 34, 3) := by decide +kernel
theorem dX12_init_605 : decode cX12_init 605 = .ok (.bipush 6, 2) := by decide +kernel
theorem dX12_init_607 : decode cX12_init 607 = .ok (.bipush 97, 2) := by decide +kernel
theorem dX12_init_609 : decode cX12_init 609 = .ok (.bipush 99, 2) := by decide +kernel
theorem dX12_init_611 : decode cX12_init 611 = .ok (.bipush 116, 2) := by decide +kernel
theorem dX12_init_613 : decode cX12_init 613 = .ok (.iconst 0, 1) := by decide +kernel
theorem dX12_init_614 : decode cX12_init 614 = .ok (.iconst 0, 1) := by decide +kernel
theorem dX12_init_615 : decode cX12_init 615 = .ok (.iconst 0, 1) := by decide +kernel
theorem dX12_init_616 : decode cX12_init 616 = .ok (.iconst 0, 1) := by decide +kernel
theorem dX12_init_617 : decode cX12_init 617 = .ok (.invokestatic 194, 3) := by decide +kernel
theorem dX12_init_620 : decode cX12_init 620 = .ok (.lastore, 1) := by decide +kernel
theorem dX12_init_621 : decode cX12_init 621 = .ok (.aload_n 0, 1) := by decide +kernel
theorem dX12_init_622 : decode cX12_init 622 = .ok (.getfield 34, 3) := by decide +kernel
theorem dX12_init_625 : decode cX12_init 625 = .ok (.bipush 7, 2) := by decide +kernel
theorem dX12_init_627 : decode cX12_init 627 = .ok (.bipush 107, 2) := by decide +kernel
theorem dX12_init_629 : decode cX12_init 629 = .ok (.bipush 105, 2) := by decide +kernel
