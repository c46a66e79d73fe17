theorem dX9_darkWay_1 : decode cX9_darkWay 1 = .ok (.istore_n 1, 1) := by decide +kernel
theorem dX9_darkWay_2 : decode cX9_darkWay 2 = .ok (.iconst 0, 1) := by decide +kernel
theorem dX9_darkWay_3 : decode cX9_darkWay 3 = .ok (.istore_n 2, 1) := by decide +kernel
theorem dX9_darkWay_4 : decode cX9_darkWay 4 = .ok (.iconst 0, 1) := by decide +kernel
theorem dX9_darkWay_5 : decode cX9_darkWay 5 = .ok (.istore_n 3, 1) := by decide +kernel
theorem dX9_darkWay_6 : decode cX9_darkWay 6 = .ok (.iconst 0, 1) := by decide +kernel
theorem dX9_darkWay_7 : decode cX9_darkWay 7 = .ok (.istore 4, 2) := by decide +kernel
theorem dX9_darkWay_9 : decode cX9_darkWay 9 = .ok (.iload 4, 2) := by decide +kernel
theorem dX9_darkWay_11 : decode cX9_darkWay 11 = .ok (.aload_n 0, 1) := by decide +kernel
theorem dX9_darkWay_12 : decode cX9_darkWay 12 = .ok (.getfield 24, 3) := by decide +kernel
theorem dX9_darkWay_15 : decode cX9_darkWay 15 = .ok (.if_icmp .ge 101, 3) := by decide +kernel
theorem dX9_darkWay_18 : decode cX9_darkWay 18 = .ok (.aload_n 0, 1) := by decide +kernel
theorem dX9_darkWay_19 : decode cX9_darkWay 19 = .ok (.aload_n 0, 1) := by decide +kernel
theorem dX9_darkWay_20 : decode cX9_darkWay 20 = .ok (.getfield 17, 3) := by decide +kernel
theorem dX9_darkWay_23 : decode cX9_darkWay 23 = .ok (.iload 4, 2) := by decide +kernel
theorem dX9_darkWay_25 : decode cX9_darkWay 25 = .ok (.iaload, 1) := by decide +kernel
theorem dX9_darkWay_26 : decode cX9_darkWay 26 = .ok (.invokevirtual 43, 3) := by decide +kernel
theorem dX9_darkWay_29 : decode cX9_darkWay 29 = .ok (.astore 5, 2) := by decide +kernel
theorem dX9_darkWay_31 : decode cX9_darkWay 31 = .ok (.aload 5, 2) := by decide +kernel
theorem dX9_darkWay_33 : decode cX9_darkWay 33 = .ok (.ifnull 77, 3) := by decide +kernel
theorem dX9_darkWay_36 : decode cX9_darkWay 36 = .ok (.aload 5, 2) := by decide +kernel
theorem dX9_darkWay_38 : decode cX9_darkWay 38 = .ok (.iconst 0, 1) := by decide +kernel
theorem dX9_darkWay_39 : decode cX9_darkWay 39 = .ok (.aload_n 0, 1) := by decide +kernel
theorem dX9_darkWay_40 : decode cX9_darkWay 40 = .ok (.getfield 21, 3) := by decide +kernel
theorem dX9_darkWay_43 : decode cX9_darkWay 43 = .ok (.iload 4, 2) := by decide +kernel
theorem dX9_darkWay_45 : decode cX9_darkWay 45 = .ok (.iaload, 1) := by decide +kernel
theorem dX9_darkWay_46 : decode cX9_darkWay 46 = .ok (.invokevirtual 47, 3) := by decide +kernel
theorem dX9_darkWay_49 : decode cX9_darkWay 49 = .ok (.istore 6, 2) := by decide +kernel
theorem dX9_darkWay_51 : decode cX9_darkWay 51 = .ok (.aload 5, 2) := by decide +kernel
theorem dX9_darkWay_53 : decode cX9_darkWay 53 = .ok (.aload 5, 2) := by decide +kernel
theorem dX9_darkWay_55 : decode cX9_darkWay 55 = .ok (.invokevirtual 51, 3) := by decide +kernel
theorem dX9_darkWay_58 : decode cX9_darkWay 58 = .ok (.iconst 1, 1) := by decide +kernel
theorem dX9_darkWay_59 : decode cX9_darkWay 59 = .ok (.isub, 1) := by decide +kernel
theorem dX9_darkWay_60 : decode cX9_darkWay 60 = .ok (.aload_n 0, 1) := by decide +kernel
theorem dX9_darkWay_61 : decode cX9_darkWay 61 = .ok (.getfield 21, 3) := by decide +kernel
theorem dX9_darkWay_64 : decode cX9_darkWay 64 = .ok (.iload 4, 2) := by decide +kernel
theorem dX9_darkWay_66 : decode cX9_darkWay 66 = .ok (.iaload, 1) := by decide +kernel
theorem dX9_darkWay_67 : decode cX9_darkWay 67 = .ok (.invokevirtual 47, 3) := by decide +kernel
theorem dX9_darkWay_70 : decode cX9_darkWay 70 = .ok (.istore 7, 2) := by decide +kernel
theorem dX9_darkWay_72 : decode cX9_darkWay 72 = .ok (.iload_n 1, 1) := by decide +kernel
theorem dX9_darkWay_73 : decode cX9_darkWay 73 = .ok (.iload_n 2, 1) := by decide +kernel
theorem dX9_darkWay_74 : decode cX9_darkWay 74 = .ok (.iload_n 3, 1) := by decide +kernel
theorem dX9_darkWay_75 : decode cX9_darkWay 75 = .ok (.aload 5, 2) := by decide +kernel
theorem dX9_darkWay_77 : decode cX9_darkWay 77 = .ok (.iload 6, 2) := by decide +kernel
theorem dX9_darkWay_79 : decode cX9_darkWay 79 = .ok (.invokevirtual 55, 3) := by decide +kernel
theorem dX9_darkWay_82 : decode cX9_darkWay 82 = .ok (.aload 5, 2) := by decide +kernel
theorem dX9_darkWay_84 : decode cX9_darkWay 84 = .ok (.iload 6, 2) := by decide +kernel
theorem dX9_darkWay_86 : decode cX9_darkWay 86 = .ok (.invokevirtual 58, 3) := by decide +kernel
theorem dX9_darkWay_89 : decode cX9_darkWay 89 = .ok (.invokestatic 61, 3) := by decide +kernel
theorem dX9_darkWay_92 : decode cX9_darkWay 92 = .ok (.iadd, 1) := by decide +kernel
theorem dX9_darkWay_93 : decode cX9_darkWay 93 = .ok (.istore_n 1, 1) := by decide +kernel
theorem dX9_darkWay_94 : decode cX9_darkWay 94 = .ok (.aload 5, 2) := by decide +kernel
theorem dX9_darkWay_96 : decode cX9_darkWay 96 = .ok (.iload 7, 2) := by decide +kernel
theorem dX9_darkWay_98 : decode cX9_darkWay 98 = .ok (.invokevirtual 55, 3) := by decide +kernel
theorem dX9_darkWay_101 : decode cX9_darkWay 101 = .ok (.istore_n 2, 1) := by decide +kernel
theorem dX9_darkWay_102 : decode cX9_darkWay 102 = .ok (.aload 5, 2) := by decide +kernel
theorem dX9_darkWay_104 : decode cX9_darkWay 104 = .ok (.iload 7, 2) := by decide +kernel
theorem dX9_darkWay_106 : decode cX9_darkWay 106 = .ok (.invokevirtual 58, 3) := by decide +kernel
theorem dX9_darkWay_109 : decode cX9_darkWay 109 = .ok (.istore_n 3, 1) := by decide +kernel
theorem dX9_darkWay_110 : decode cX9_darkWay 110 = .ok (.iinc 4 1, 3) := by decide +kernel
theorem dX9_darkWay_113 : decode cX9_darkWay 113 = .ok (.goto (-104), 3) := by decide +kernel
theorem dX9_darkWay_116 : decode cX9_darkWay 116 = .ok (.iload_n 1, 1) := by decide +kernel
theorem dX9_darkWay_117 : decode cX9_darkWay 117 = .ok (.iload_n 2, 1) := by decide +kernel
theorem dX9_darkWay_118 : decode cX9_darkWay 118 = .ok (.iload_n 3, 1) := by decide +kernel
theorem dX9_darkWay_119 : decode cX9_darkWay 119 = .ok (.iconst 0, 1) := by decide +kernel
theorem dX9_darkWay_120 : decode cX9_darkWay 120 = .ok (.iconst 0, 1) := by decide +kernel
theorem dX9_darkWay_121 : decode cX9_darkWay 121 = .ok (.invokestatic 61, 3) := by decide +kernel
theorem dX9_darkWay_124 : decode cX9_darkWay 124 = .ok (.iadd, 1) := by decide +kernel
theorem dX9_darkWay_125 : decode cX9_darkWay 125 = .ok (.ireturn, 1) := by decide +kernel
set_option maxRecDepth 20000 in
theorem ggX9_pointsOfAll_X9_at : GoodIn wsX9_pointsOfAll wsX9_at := goodIn_r _ [6, 1, 7, 17, 18, 19, 20] (by decide +kernel) (by decide +kernel)
set_option maxRecDepth 20000 in
theorem gX9_pointsOfAll_X9_at : GoodIn wsX9_pointsOfAll (wsV RX9 43 RX9 yX9_at wsX9_at) := goodIn_app (goodIn_of _ (by decide +kernel)) ggX9_pointsOfAll_X9_at
set_option maxRecDepth 20000 in
theorem ggX9_pointsOfAll_X8_points : GoodIn wsX9_pointsOfAll wsX8_points := goodIn_r _ [13, 14, 21, 22, 23, 24, 25, 26] (by decide +kernel) (by decide +kernel)
set_option maxRecDepth 20000 in
theorem gX9_pointsOfAll_X8_points_u51X1 : GoodIn wsX9_pointsOfAll (va_wsU RX9 51 RX1 "LightLines$Stroke" ⟨"LightLines$Stroke", "points", "()I"⟩ yX8_points wsX8_points) := goodIn_app (goodIn_of _ (by decide +kernel)) ggX9_pointsOfAll_X8_points
set_option maxRecDepth 20000 in
theorem gX9_pointsOfAll_X8_points_u51X2 : GoodIn wsX9_pointsOfAll (va_wsU RX9 51 RX2 "LightLines$Stroke" ⟨"LightLines$Stroke", "points", "()I"⟩ yX8_points wsX8_points) := goodIn_app (goodIn_of _ (by decide +kernel)) ggX9_pointsOfAll_X8_points
set_option maxRecDepth 20000 in
theorem gX9_pointsOfAll_X8_points_u51X7 : GoodIn wsX9_pointsOfAll (va_wsU RX9 51 RX7 "LightLines$Stroke" ⟨"LightLines$Stroke", "points", "()I"⟩ yX8_points wsX8_points) := goodIn_app (goodIn_of _ (by decide +kernel)) ggX9_pointsOfAll_X8_points
theorem dX9_pointsOfAll_0 : decode cX9_pointsOfAll 0 = .ok (.iconst 0, 1) := by decide +kernel
theorem dX9_pointsOfAll_1 : decode cX9_pointsOfAll 1 = .ok (.istore_n 1, 1) := by decide +kernel
theorem dX9_pointsOfAll_2 : decode cX9_pointsOfAll 2 = .ok (.iconst 0, 1) := by decide +kernel
theorem dX9_pointsOfAll_3 : decode cX9_pointsOfAll 3 = .ok (.istore_n 2, 1) := by decide +kernel
theorem dX9_pointsOfAll_4 : decode cX9_pointsOfAll 4 = .ok (.iload_n 2, 1) := by decide +kernel
theorem dX9_pointsOfAll_5 : decode cX9_pointsOfAll 5 = .ok (.aload_n 0, 1) := by decide +kernel
theorem dX9_pointsOfAll_6 : decode cX9_pointsOfAll 6 = .ok (.getfield 24, 3) := by decide +kernel
theorem dX9_pointsOfAll_9 : decode cX9_pointsOfAll 9 = .ok (.if_icmp .ge 30, 3) := by decide +kernel
theorem dX9_pointsOfAll_12 : decode cX9_pointsOfAll 12 = .ok (.aload_n 0, 1) := by decide +kernel
theorem dX9_pointsOfAll_13 : decode cX9_pointsOfAll 13 = .ok (.iload_n 2, 1) := by decide +kernel
theorem dX9_pointsOfAll_14 : decode cX9_pointsOfAll 14 = .ok (.invokevirtual 43, 3) := by decide +kernel
theorem dX9_pointsOfAll_17 : decode cX9_pointsOfAll 17 = .ok (.astore_n 3, 1) := by decide +kernel
theorem dX9_pointsOfAll_18 : decode cX9_pointsOfAll 18 = .ok (.iload_n 1, 1) := by decide +kernel
theorem dX9_pointsOfAll_19 : decode cX9_pointsOfAll 19 = .ok (.aload_n 3, 1) := by decide +kernel
theorem dX9_pointsOfAll_20 : decode cX9_pointsOfAll 20 = .ok (.ifnonnull 7, 3) := by decide +kernel
theorem dX9_pointsOfAll_23 : decode cX9_pointsOfAll 23 = .ok (.iconst 0, 1) := by decide +kernel
theorem dX9_pointsOfAll_24 : decode cX9_pointsOfAll 24 = .ok (.goto 7, 3) := by decide +kernel
theorem dX9_pointsOfAll_27 : decode cX9_pointsOfAll 27 = .ok (.aload_n 3, 1) := by decide +kernel
theorem dX9_pointsOfAll_28 : decode cX9_pointsOfAll 28 = .ok (.invokevirtual 51, 3) := by decide +kernel
theorem dX9_pointsOfAll_31 : decode cX9_pointsOfAll 31 = .ok (.iadd, 1) := by decide +kernel
theorem dX9_pointsOfAll_32 : decode cX9_pointsOfAll 32 = .ok (.istore_n 1, 1) := by decide +kernel
theorem dX9_pointsOfAll_33 : decode cX9_pointsOfAll 33 = .ok (.iinc 2 1, 3) := by decide +kernel
theorem dX9_pointsOfAll_36 : decode cX9_pointsOfAll 36 = .ok (.goto (-32), 3) := by decide +kernel
theorem dX9_pointsOfAll_39 : decode cX9_pointsOfAll 39 = .ok (.iload_n 1, 1) := by decide +kernel
theorem dX9_pointsOfAll_40 : decode cX9_pointsOfAll 40 = .ok (.ireturn, 1) := by decide +kernel
set_option maxRecDepth 20000 in
theorem ggX9_loops_X9_at : GoodIn wsX9_loops wsX9_at := goodIn_r _ [7, 1, 8, 9, 10, 11, 12] (by decide +kernel) (by decide +kernel)
set_option maxRecDepth 20000 in
theorem gX9_loops_X9_at : GoodIn wsX9_loops (wsV RX9 43 RX9 yX9_at wsX9_at) := goodIn_app (goodIn_of _ (by decide +kernel)) ggX9_loops_X9_at
theorem dX9_loops_0 : decode cX9_loops 0 = .ok (.iconst 0, 1) := by decide +kernel
theorem dX9_loops_1 : decode cX9_loops 1 = .ok (.istore_n 1, 1) := by decide +kernel
theorem dX9_loops_2 : decode cX9_loops 2 = .ok (.iconst 0, 1) := by decide +kernel
theorem dX9_loops_3 : decode cX9_loops 3 = .ok (.istore_n 2, 1) := by decide +kernel
theorem dX9_loops_4 : decode cX9_loops 4 = .ok (.iload_n 2, 1) := by decide +kernel
theorem dX9_loops_5 : decode cX9_loops 5 = .ok (.aload_n 0, 1) := by decide +kernel
theorem dX9_loops_6 : decode cX9_loops 6 = .ok (.getfield 24, 3) := by decide +kernel
theorem dX9_loops_9 : decode cX9_loops 9 = .ok (.if_icmp .ge 28, 3) := by decide +kernel
theorem dX9_loops_12 : decode cX9_loops 12 = .ok (.iload_n 1, 1) := by decide +kernel
theorem dX9_loops_13 : decode cX9_loops 13 = .ok (.aload_n 0, 1) := by decide +kernel
theorem dX9_loops_14 : decode cX9_loops 14 = .ok (.iload_n 2, 1) := by decide +kernel
theorem dX9_loops_15 : decode cX9_loops 15 = .ok (.invokevirtual 43, 3) := by decide +kernel
theorem dX9_loops_18 : decode cX9_loops 18 = .ok (.instanceof 65, 3) := by decide +kernel
theorem dX9_loops_21 : decode cX9_loops 21 = .ok (.ifCond .eq 7, 3) := by decide +kernel
theorem dX9_loops_24 : decode cX9_loops 24 = .ok (.iconst 1, 1) := by decide +kernel
theorem dX9_loops_25 : decode cX9_loops 25 = .ok (.goto 4, 3) := by decide +kernel
theorem dX9_loops_28 : decode cX9_loops 28 = .ok (.iconst 0, 1) := by decide +kernel
theorem dX9_loops_29 : decode cX9_loops 29 = .ok (.iadd, 1) := by decide +kernel
theorem dX9_loops_30 : decode cX9_loops 30 = .ok (.istore_n 1, 1) := by decide +kernel
theorem dX9_loops_31 : decode cX9_loops 31 = .ok (.iinc 2 1, 3) := by decide +kernel
theorem dX9_loops_34 : decode cX9_loops 34 = .ok (.goto (-30), 3) := by decide +kernel
theorem dX9_loops_37 : decode cX9_loops 37 = .ok (.iload_n 1, 1) := by decide +kernel
theorem dX9_loops_38 : decode cX9_loops 38 = .ok (.ireturn, 1) := by decide +kernel
theorem dX10_init_0 : decode cX10_init 0 = .ok (.aload_n 0, 1) := by decide +kernel
theorem dX10_init_1 : decode cX10_init 1 = .ok (.invokespecial 1, 3) := by decide +kernel
theorem dX10_init_4 : decode cX10_init 4 = .ok (.aload_n 0, 1) := by decide +kernel
theorem dX10_init_5 : decode cX10_init 5 = .ok (.bipush 16, 2) := by decide +kernel
theorem dX10_init_7 : decode cX10_init 7 = .ok (.newarray .int, 2) := by decide +kernel
theorem dX10_init_9 : decode cX10_init 9 = .ok (.putfield 7, 3) := by decide +kernel
theorem dX10_init_12 : decode cX10_init 12 = .ok (.return_, 1) := by decide +kernel
theorem dX10_leave_0 : decode cX10_leave 0 = .ok (.aload_n 0, 1) := by decide +kernel
theorem dX10_leave_1 : decode cX10_leave 1 = .ok (.getfield 13, 3) := by decide +kernel
theorem dX10_leave_4 : decode cX10_leave 4 = .ok (.aload_n 0, 1) := by decide +kernel
theorem dX10_leave_5 : decode cX10_leave 5 = .ok (.getfield 7, 3) := by decide +kernel
theorem dX10_leave_8 : decode cX10_leave 8 = .ok (.arraylength, 1) := by decide +kernel
theorem dX10_leave_9 : decode cX10_leave 9 = .ok (.if_icmp .ge 23, 3) := by decide +kernel
theorem dX10_leave_12 : decode cX10_leave 12 = .ok (.aload_n 0, 1) := by decide +kernel
theorem dX10_leave_13 : decode cX10_leave 13 = .ok (.getfield 7, 3) := by decide +kernel
theorem dX10_leave_16 : decode cX10_leave 16 = .ok (.aload_n 0, 1) := by decide +kernel
theorem dX10_leave_17 : decode cX10_leave 17 = .ok (.getfield 13, 3) := by decide +kernel
theorem dX10_leave_20 : decode cX10_leave 20 = .ok (.iload_n 1, 1) := by decide +kernel
theorem dX10_leave_21 : decode cX10_leave 21 = .ok (.iastore, 1) := by decide +kernel
theorem dX10_leave_22 : decode cX10_leave 22 = .ok (.aload_n 0, 1) := by decide +kernel
theorem dX10_leave_23 : decode cX10_leave 23 = .ok (.dup, 1) := by decide +kernel
theorem dX10_leave_24 : decode cX10_leave 24 = .ok (.getfield 13, 3) := by decide +kernel
theorem dX10_leave_27 : decode cX10_leave 27 = .ok (.iconst 1, 1) := by decide +kernel
theorem dX10_leave_28 : decode cX10_leave 28 = .ok (.iadd, 1) := by decide +kernel
theorem dX10_leave_29 : decode cX10_leave 29 = .ok (.putfield 13, 3) := by decide +kernel
theorem dX10_leave_32 : decode cX10_leave 32 = .ok (.return_, 1) := by decide +kernel
set_option maxRecDepth 20000 in
theorem ggX11_init_X9_init : GoodIn wsX11_init wsX9_init := goodIn_r _ [29, 30, 2, 3, 31, 32, 33, 34, 35, 88, 89, 90, 91] (by decide +kernel) (by decide +kernel)
set_option maxRecDepth 20000 in
theorem gX11_init_X9_init_n17 : GoodIn wsX11_init (wsX9_init) := ggX11_init_X9_init
set_option maxRecDepth 20000 in
theorem ggX11_init_X4_init : GoodIn wsX11_init wsX4_init := goodIn_r _ [37, 38, 2, 3, 33, 39, 40, 41, 92, 93, 94, 95, 96] (by decide +kernel) (by decide +kernel)
set_option maxRecDepth 20000 in
theorem gX11_init_X4_init_n24 : GoodIn wsX11_init (wsX4_init) := ggX11_init_X4_init
set_option maxRecDepth 20000 in
theorem ggX11_init_X6_init : GoodIn wsX11_init wsX6_init := goodIn_r _ [43, 44, 2, 3, 33, 45, 46, 47, 48, 49, 50, 51, 52, 53, 54, 55, 56, 57, 58, 59, 60, 61, 62, 63, 97, 98, 99, 100, 101, 102, 103, 104, 105, 106, 107, 108, 109, 125, 126, 127, 128, 129, 130, 131] (by decide +kernel) (by decide +kernel)
set_option maxRecDepth 20000 in
theorem gX11_init_X6_init_n31 : GoodIn wsX11_init (wsX6_init) := ggX11_init_X6_init
set_option maxRecDepth 20000 in
theorem ggX11_init_X0_init : GoodIn wsX11_init wsX0_init := goodIn_r _ [65, 66, 2, 3, 67, 68, 69, 33, 70, 71, 110, 111, 112, 113, 114, 115, 116, 117, 118, 119] (by decide +kernel) (by decide +kernel)
set_option maxRecDepth 20000 in
theorem gX11_init_X0_init_n38 : GoodIn wsX11_init (wsX0_init) := ggX11_init_X0_init
set_option maxRecDepth 20000 in
theorem ggX11_init_X10_init : GoodIn wsX11_init wsX10_init := goodIn_r _ [73, 74, 2, 3, 33, 75, 120, 121] (by decide +kernel) (by decide +kernel)
set_option maxRecDepth 20000 in
theorem gX11_init_X10_init_n45 : GoodIn wsX11_init (wsX10_init) := ggX11_init_X10_init
set_option maxRecDepth 20000 in
theorem ggX11_init_X5_init : GoodIn wsX11_init wsX5_init := goodIn_r _ [77, 78, 2, 3, 33, 79, 80, 122, 123, 124] (by decide +kernel) (by decide +kernel)
set_option maxRecDepth 20000 in
theorem gX11_init_X5_init_n50 : GoodIn wsX11_init (wsX5_init) := ggX11_init_X5_init
theorem dX11_init_0 : decode cX11_init 0 = .ok (.aload_n 0, 1) := by decide +kernel
theorem dX11_init_1 : decode cX11_init 1 = .ok (.invokespecial 1, 3) := by decide +kernel
theorem dX11_init_4 : decode cX11_init 4 = .ok (.aload_n 0, 1) := by decide +kernel
theorem dX11_init_5 : decode cX11_init 5 = .ok (.bipush 8, 2) := by decide +kernel
theorem dX11_init_7 : decode cX11_init 7 = .ok (.anewarray 9, 3) := by decide +kernel
theorem dX11_init_10 : decode cX11_init 10 = .ok (.putfield 11, 3) := by decide +kernel
theorem dX11_init_13 : decode cX11_init 13 = .ok (.aload_n 0, 1) := by decide +kernel
theorem dX11_init_14 : decode cX11_init 14 = .ok (.new 15, 3) := by decide +kernel
theorem dX11_init_17 : decode cX11_init 17 = .ok (.dup, 1) := by decide +kernel
theorem dX11_init_18 : decode cX11_init 18 = .ok (.invokespecial 17, 3) := by decide +kernel
theorem dX11_init_21 : decode cX11_init 21 = .ok (.putfield 18, 3) := by decide +kernel
theorem dX11_init_24 : decode cX11_init 24 = .ok (.aload_n 0, 1) := by decide +kernel
theorem dX11_init_25 : decode cX11_init 25 = .ok (.new 22, 3) := by decide +kernel
theorem dX11_init_28 : decode cX11_init 28 = .ok (.dup, 1) := by decide +kernel
theorem dX11_init_29 : decode cX11_init 29 = .ok (.invokespecial 24, 3) := by decide +kernel
theorem dX11_init_32 : decode cX11_init 32 = .ok (.putfield 25, 3) := by decide +kernel
theorem dX11_init_35 : decode cX11_init 35 = .ok (.aload_n 0, 1) := by decide +kernel
theorem dX11_init_36 : decode cX11_init 36 = .ok (.new 29, 3) := by decide +kernel
theorem dX11_init_39 : decode cX11_init 39 = .ok (.dup, 1) := by decide +kernel
theorem dX11_init_40 : decode cX11_init 40 = .ok (.invokespecial 31, 3) := by decide +kernel
theorem dX11_init_43 : decode cX11_init 43 = .ok (.putfield 32, 3) := by decide +kernel
theorem dX11_init_46 : decode cX11_init 46 = .ok (.aload_n 0, 1) := by decide +kernel
theorem dX11_init_47 : decode cX11_init 47 = .ok (.new 36, 3) := by decide +kernel
theorem dX11_init_50 : decode cX11_init 50 = .ok (.dup, 1) := by decide +kernel
theorem dX11_init_51 : decode cX11_init 51 = .ok (.invokespecial 38, 3) := by decide +kernel
theorem dX11_init_54 : decode cX11_init 54 = .ok (.putfield 39, 3) := by decide +kernel
theorem dX11_init_57 : decode cX11_init 57 = .ok (.aload_n 0, 1) := by decide +kernel
theorem dX11_init_58 : decode cX11_init 58 = .ok (.new 43, 3) := by decide +kernel
theorem dX11_init_61 : decode cX11_init 61 = .ok (.dup, 1) := by decide +kernel
theorem dX11_init_62 : decode cX11_init 62 = .ok (.invokespecial 45, 3) := by decide +kernel
theorem dX11_init_65 : decode cX11_init 65 = .ok (.putfield 46, 3) := by decide +kernel
theorem dX11_init_68 : decode cX11_init 68 = .ok (.iconst 0, 1) := by decide +kernel
theorem dX11_init_69 : decode cX11_init 69 = .ok (.istore_n 1, 1) := by decide +kernel
theorem dX11_init_70 : decode cX11_init 70 = .ok (.iload_n 1, 1) := by decide +kernel
theorem dX11_init_71 : decode cX11_init 71 = .ok (.bipush 8, 2) := by decide +kernel
theorem dX11_init_73 : decode cX11_init 73 = .ok (.if_icmp .ge 22, 3) := by decide +kernel
theorem dX11_init_76 : decode cX11_init 76 = .ok (.aload_n 0, 1) := by decide +kernel
theorem dX11_init_77 : decode cX11_init 77 = .ok (.getfield 11, 3) := by decide +kernel
theorem dX11_init_80 : decode cX11_init 80 = .ok (.iload_n 1, 1) := by decide +kernel
theorem dX11_init_81 : decode cX11_init 81 = .ok (.new 9, 3) := by decide +kernel
theorem dX11_init_84 : decode cX11_init 84 = .ok (.dup, 1) := by decide +kernel
theorem dX11_init_85 : decode cX11_init 85 = .ok (.invokespecial 50, 3) := by decide +kernel
theorem dX11_init_88 : decode cX11_init 88 = .ok (.aastore, 1) := by decide +kernel
theorem dX11_init_89 : decode cX11_init 89 = .ok (.iinc 1 1, 3) := by decide +kernel
theorem dX11_init_92 : decode cX11_init 92 = .ok (.goto (-22), 3) := by decide +kernel
theorem dX11_init_95 : decode cX11_init 95 = .ok (.return_, 1) := by decide +kernel
set_option maxRecDepth 20000 in
theorem ggX11_sheet_X11_isSheet : GoodIn wsX11_sheet wsX11_isSheet := goodIn_r _ [6, 7, 8, 5, 9] (by decide +kernel) (by decide +kernel)
set_option maxRecDepth 20000 in
theorem gX11_sheet_X11_isSheet : GoodIn wsX11_sheet (va_wsS RX11 51 yX11_isSheet wsX11_isSheet) := goodIn_app (goodIn_of _ (by decide +kernel)) ggX11_sheet_X11_isSheet
set_option maxRecDepth 20000 in
theorem ggX11_sheet_X11_isWithin : GoodIn wsX11_sheet wsX11_isWithin := goodIn_r _ [9] (by decide +kernel) (by decide +kernel)
set_option maxRecDepth 20000 in
theorem gX11_sheet_X11_isWithin : GoodIn wsX11_sheet (va_wsS RX11 55 yX11_isWithin wsX11_isWithin) := goodIn_app (goodIn_of _ (by decide +kernel)) ggX11_sheet_X11_isWithin
set_option maxRecDepth 20000 in
theorem ggX11_sheet_X11_found : GoodIn wsX11_sheet wsX11_found := goodIn_r _ [13, 14, 15, 32, 33, 34, 35, 36, 37, 38] (by decide +kernel) (by decide +kernel)
set_option maxRecDepth 20000 in
theorem gX11_sheet_X11_found : GoodIn wsX11_sheet (wsV RX11 60 RX11 yX11_found wsX11_found) := goodIn_app (goodIn_of _ (by decide +kernel)) ggX11_sheet_X11_found
set_option maxRecDepth 20000 in
theorem ggX11_sheet_X5_lay : GoodIn wsX11_sheet wsX5_lay := goodIn_r _ [20, 21, 22, 23, 24, 25, 26, 27, 39, 40, 41] (by decide +kernel) (by decide +kernel)
set_option maxRecDepth 20000 in
theorem gX11_sheet_X5_lay : GoodIn wsX11_sheet (wsV RX11 64 RX5 yX5_lay wsX5_lay) := goodIn_app (goodIn_of _ (by decide +kernel)) ggX11_sheet_X5_lay
set_option maxRecDepth 20000 in
theorem ggX11_sheet_X11_fine : GoodIn wsX11_sheet wsX11_fine := goodIn_r _ [31, 14, 32, 33, 34, 35, 36, 37, 38] (by decide +kernel) (by decide +kernel)
set_option maxRecDepth 20000 in
theorem gX11_sheet_X11_fine : GoodIn wsX11_sheet (wsV RX11 68 RX11 yX11_fine wsX11_fine) := goodIn_app (goodIn_of _ (by decide +kernel)) ggX11_sheet_X11_fine
theorem dX11_sheet_0 : decode cX11_sheet 0 = .ok (.iload_n 1, 1) := by decide +kernel
theorem dX11_sheet_1 : decode cX11_sheet 1 = .ok (.invokestatic 51, 3) := by decide +kernel
theorem dX11_sheet_4 : decode cX11_sheet 4 = .ok (.ifCond .eq 18, 3) := by decide +kernel
theorem dX11_sheet_7 : decode cX11_sheet 7 = .ok (.iload_n 2, 1) := by decide +kernel
theorem dX11_sheet_8 : decode cX11_sheet 8 = .ok (.iconst 0, 1) := by decide +kernel
theorem dX11_sheet_9 : decode cX11_sheet 9 = .ok (.iconst 2, 1) := by decide +kernel
theorem dX11_sheet_10 : decode cX11_sheet 10 = .ok (.invokestatic 55, 3) := by decide +kernel
theorem dX11_sheet_13 : decode cX11_sheet 13 = .ok (.ifCond .eq 9, 3) := by decide +kernel
theorem dX11_sheet_16 : decode cX11_sheet 16 = .ok (.iload_n 3, 1) := by decide +kernel
theorem dX11_sheet_17 : decode cX11_sheet 17 = .ok (.bipush 40, 2) := by decide +kernel
theorem dX11_sheet_19 : decode cX11_sheet 19 = .ok (.if_icmp .le 6, 3) := by decide +kernel
theorem dX11_sheet_22 : decode cX11_sheet 22 = .ok (.ldc 59, 2) := by decide +kernel
theorem dX11_sheet_24 : decode cX11_sheet 24 = .ok (.ireturn, 1) := by decide +kernel
theorem dX11_sheet_25 : decode cX11_sheet 25 = .ok (.iload_n 3, 1) := by decide +kernel
theorem dX11_sheet_26 : decode cX11_sheet 26 = .ok (.ifCond .ge 9, 3) := by decide +kernel
theorem dX11_sheet_29 : decode cX11_sheet 29 = .ok (.aload_n 0, 1) := by decide +kernel
theorem dX11_sheet_30 : decode cX11_sheet 30 = .ok (.iconst 4, 1) := by decide +kernel
theorem dX11_sheet_31 : decode cX11_sheet 31 = .ok (.invokevirtual 60, 3) := by decide +kernel
theorem dX11_sheet_34 : decode cX11_sheet 34 = .ok (.ireturn, 1) := by decide +kernel
theorem dX11_sheet_35 : decode cX11_sheet 35 = .ok (.aload_n 0, 1) := by decide +kernel
theorem dX11_sheet_36 : decode cX11_sheet 36 = .ok (.getfield 11, 3) := by decide +kernel
theorem dX11_sheet_39 : decode cX11_sheet 39 = .ok (.iload_n 1, 1) := by decide +kernel
theorem dX11_sheet_40 : decode cX11_sheet 40 = .ok (.aaload, 1) := by decide +kernel
theorem dX11_sheet_41 : decode cX11_sheet 41 = .ok (.iload_n 2, 1) := by decide +kernel
theorem dX11_sheet_42 : decode cX11_sheet 42 = .ok (.iload_n 3, 1) := by decide +kernel
theorem dX11_sheet_43 : decode cX11_sheet 43 = .ok (.invokevirtual 64, 3) := by decide +kernel
theorem dX11_sheet_46 : decode cX11_sheet 46 = .ok (.aload_n 0, 1) := by decide +kernel
theorem dX11_sheet_47 : decode cX11_sheet 47 = .ok (.iload_n 3, 1) := by decide +kernel
theorem dX11_sheet_48 : decode cX11_sheet 48 = .ok (.invokevirtual 68, 3) := by decide +kernel
theorem dX11_sheet_51 : decode cX11_sheet 51 = .ok (.ireturn, 1) := by decide +kernel
set_option maxRecDepth 20000 in
theorem ggX11_set_X11_isSheet : GoodIn wsX11_set wsX11_isSheet := goodIn_r _ [6, 7, 8, 5, 9] (by decide +kernel) (by decide +kernel)
set_option maxRecDepth 20000 in
theorem gX11_set_X11_isSheet : GoodIn wsX11_set (va_wsS RX11 51 yX11_isSheet wsX11_isSheet) := goodIn_app (goodIn_of _ (by decide +kernel)) ggX11_set_X11_isSheet
set_option maxRecDepth 20000 in
theorem ggX11_set_X5_isMissing : GoodIn wsX11_set wsX5_isMissing := goodIn_r _ [14, 15, 52, 53, 54] (by decide +kernel) (by decide +kernel)
set_option maxRecDepth 20000 in
theorem gX11_set_X5_isMissing : GoodIn wsX11_set (wsV RX11 71 RX5 yX5_isMissing wsX5_isMissing) := goodIn_app (goodIn_of _ (by decide +kernel)) ggX11_set_X5_isMissing
set_option maxRecDepth 20000 in
theorem ggX11_set_X11_found : GoodIn wsX11_set wsX11_found := goodIn_r _ [19, 20, 21, 45, 46, 47, 48, 49, 50, 51] (by decide +kernel) (by decide +kernel)
set_option maxRecDepth 20000 in
theorem gX11_set_X11_found : GoodIn wsX11_set (wsV RX11 60 RX11 yX11_found wsX11_found) := goodIn_app (goodIn_of _ (by decide +kernel)) ggX11_set_X11_found
set_option maxRecDepth 20000 in
theorem ggX11_set_X5_has : GoodIn wsX11_set wsX5_has := goodIn_r _ [25, 26, 52, 53, 54] (by decide +kernel) (by decide +kernel)
set_option maxRecDepth 20000 in
theorem gX11_set_X5_has : GoodIn wsX11_set (wsV RX11 75 RX5 yX5_has wsX5_has) := goodIn_app (goodIn_of _ (by decide +kernel)) ggX11_set_X5_has
set_option maxRecDepth 20000 in
theorem ggX11_set_X5_put : GoodIn wsX11_set wsX5_put := goodIn_r _ [30, 31, 32, 23, 24, 13, 25, 26, 33, 34, 35, 36, 15, 37, 38, 39, 40, 52, 53, 54] (by decide +kernel) (by decide +kernel)
set_option maxRecDepth 20000 in
theorem gX11_set_X5_put : GoodIn wsX11_set (wsV RX11 79 RX5 yX5_put wsX5_put) := goodIn_app (goodIn_of _ (by decide +kernel)) ggX11_set_X5_put
set_option maxRecDepth 20000 in
theorem ggX11_set_X11_fine : GoodIn wsX11_set wsX11_fine := goodIn_r _ [44, 20, 45, 46, 47, 48, 49, 50, 51] (by decide +kernel) (by decide +kernel)
set_option maxRecDepth 20000 in
theorem gX11_set_X11_fine : GoodIn wsX11_set (wsV RX11 68 RX11 yX11_fine wsX11_fine) := goodIn_app (goodIn_of _ (by decide +kernel)) ggX11_set_X11_fine
theorem dX11_set_0 : decode cX11_set 0 = .ok (.iload_n 1, 1) := by decide +kernel
theorem dX11_set_1 : decode cX11_set 1 = .ok (.invokestatic 51, 3) := by decide +kernel
theorem dX11_set_4 : decode cX11_set 4 = .ok (.ifCond .ne 6, 3) := by decide +kernel
theorem dX11_set_7 : decode cX11_set 7 = .ok (.ldc 59, 2) := by decide +kernel
theorem dX11_set_9 : decode cX11_set 9 = .ok (.ireturn, 1) := by decide +kernel
theorem dX11_set_10 : decode cX11_set 10 = .ok (.aload_n 0, 1) := by decide +kernel
theorem dX11_set_11 : decode cX11_set 11 = .ok (.getfield 11, 3) := by decide +kernel
theorem dX11_set_14 : decode cX11_set 14 = .ok (.iload_n 1, 1) := by decide +kernel
theorem dX11_set_15 : decode cX11_set 15 = .ok (.aaload, 1) := by decide +kernel
theorem dX11_set_16 : decode cX11_set 16 = .ok (.astore 4, 2) := by decide +kernel
theorem dX11_set_18 : decode cX11_set 18 = .ok (.aload 4, 2) := by decide +kernel
theorem dX11_set_20 : decode cX11_set 20 = .ok (.invokevirtual 71, 3) := by decide +kernel
theorem dX11_set_23 : decode cX11_set 23 = .ok (.ifCond .eq 9, 3) := by decide +kernel
theorem dX11_set_26 : decode cX11_set 26 = .ok (.aload_n 0, 1) := by decide +kernel
theorem dX11_set_27 : decode cX11_set 27 = .ok (.iconst 1, 1) := by decide +kernel
theorem dX11_set_28 : decode cX11_set 28 = .ok (.invokevirtual 60, 3) := by decide +kernel
theorem dX11_set_31 : decode cX11_set 31 = .ok (.ireturn, 1) := by decide +kernel
theorem dX11_set_32 : decode cX11_set 32 = .ok (.aload 4, 2) := by decide +kernel
theorem dX11_set_34 : decode cX11_set 34 = .ok (.iload_n 2, 1) := by decide +kernel
theorem dX11_set_35 : decode cX11_set 35 = .ok (.iconst 1, 1) := by decide +kernel
theorem dX11_set_36 : decode cX11_set 36 = .ok (.invokevirtual 75, 3) := by decide +kernel
theorem dX11_set_39 : decode cX11_set 39 = .ok (.ifCond .ne 9, 3) := by decide +kernel
theorem dX11_set_42 : decode cX11_set 42 = .ok (.aload_n 0, 1) := by decide +kernel
theorem dX11_set_43 : decode cX11_set 43 = .ok (.iconst 2, 1) := by decide +kernel
theorem dX11_set_44 : decode cX11_set 44 = .ok (.invokevirtual 60, 3) := by decide +kernel
theorem dX11_set_47 : decode cX11_set 47 = .ok (.ireturn, 1) := by decide +kernel
theorem dX11_set_48 : decode cX11_set 48 = .ok (.aload_n 0, 1) := by decide +kernel
theorem dX11_set_49 : decode cX11_set 49 = .ok (.aload 4, 2) := by decide +kernel
theorem dX11_set_51 : decode cX11_set 51 = .ok (.iload_n 2, 1) := by decide +kernel
theorem dX11_set_52 : decode cX11_set 52 = .ok (.iload_n 3, 1) := by decide +kernel
theorem dX11_set_53 : decode cX11_set 53 = .ok (.invokevirtual 79, 3) := by decide +kernel
theorem dX11_set_56 : decode cX11_set 56 = .ok (.invokevirtual 68, 3) := by decide +kernel
theorem dX11_set_59 : decode cX11_set 59 = .ok (.ireturn, 1) := by decide +kernel
set_option maxRecDepth 20000 in
theorem ggX11_copy_X11_isSheet : GoodIn wsX11_copy wsX11_isSheet := goodIn_r _ [12, 13, 14, 11, 15] (by decide +kernel) (by decide +kernel)
set_option maxRecDepth 20000 in
theorem gX11_copy_X11_isSheet : GoodIn wsX11_copy (va_wsS RX11 51 yX11_isSheet wsX11_isSheet) := goodIn_app (goodIn_of _ (by decide +kernel)) ggX11_copy_X11_isSheet
set_option maxRecDepth 20000 in
theorem ggX11_copy_X5_isMissing : GoodIn wsX11_copy wsX5_isMissing := goodIn_r _ [20, 21, 44, 45, 46] (by decide +kernel) (by decide +kernel)
set_option maxRecDepth 20000 in
theorem gX11_copy_X5_isMissing : GoodIn wsX11_copy (wsV RX11 71 RX5 yX5_isMissing wsX5_isMissing) := goodIn_app (goodIn_of _ (by decide +kernel)) ggX11_copy_X5_isMissing
set_option maxRecDepth 20000 in
theorem ggX11_copy_X11_found : GoodIn wsX11_copy wsX11_found := goodIn_r _ [25, 26, 27, 37, 38, 39, 40, 41, 42, 43] (by decide +kernel) (by decide +kernel)
set_option maxRecDepth 20000 in
theorem gX11_copy_X11_found : GoodIn wsX11_copy (wsV RX11 60 RX11 yX11_found wsX11_found) := goodIn_app (goodIn_of _ (by decide +kernel)) ggX11_copy_X11_found
set_option maxRecDepth 20000 in
theorem ggX11_copy_X5_has : GoodIn wsX11_copy wsX5_has := goodIn_r _ [31, 32, 44, 45, 46] (by decide +kernel) (by decide +kernel)
set_option maxRecDepth 20000 in
theorem gX11_copy_X5_has : GoodIn wsX11_copy (wsV RX11 75 RX5 yX5_has wsX5_has) := goodIn_app (goodIn_of _ (by decide +kernel)) ggX11_copy_X5_has
set_option maxRecDepth 20000 in
theorem ggX11_copy_X11_fine : GoodIn wsX11_copy wsX11_fine := goodIn_r _ [36, 26, 37, 38, 39, 40, 41, 42, 43] (by decide +kernel) (by decide +kernel)
set_option maxRecDepth 20000 in
theorem gX11_copy_X11_fine : GoodIn wsX11_copy (wsV RX11 68 RX11 yX11_fine wsX11_fine) := goodIn_app (goodIn_of _ (by decide +kernel)) ggX11_copy_X11_fine
theorem dX11_copy_0 : decode cX11_copy 0 = .ok (.iload_n 1, 1) := by decide +kernel
theorem dX11_copy_1 : decode cX11_copy 1 = .ok (.invokestatic 51, 3) := by decide +kernel
theorem dX11_copy_4 : decode cX11_copy 4 = .ok (.ifCond .eq 10, 3) := by decide +kernel
theorem dX11_copy_7 : decode cX11_copy 7 = .ok (.iload_n 3, 1) := by decide +kernel
theorem dX11_copy_8 : decode cX11_copy 8 = .ok (.invokestatic 51, 3) := by decide +kernel
theorem dX11_copy_11 : decode cX11_copy 11 = .ok (.ifCond .ne 6, 3) := by decide +kernel
theorem dX11_copy_14 : decode cX11_copy 14 = .ok (.ldc 59, 2) := by decide +kernel
theorem dX11_copy_16 : decode cX11_copy 16 = .ok (.ireturn, 1) := by decide +kernel
theorem dX11_copy_17 : decode cX11_copy 17 = .ok (.aload_n 0, 1) := by decide +kernel
theorem dX11_copy_18 : decode cX11_copy 18 = .ok (.getfield 11, 3) := by decide +kernel
theorem dX11_copy_21 : decode cX11_copy 21 = .ok (.iload_n 1, 1) := by decide +kernel
theorem dX11_copy_22 : decode cX11_copy 22 = .ok (.aaload, 1) := by decide +kernel
theorem dX11_copy_23 : decode cX11_copy 23 = .ok (.astore 6, 2) := by decide +kernel
theorem dX11_copy_25 : decode cX11_copy 25 = .ok (.aload_n 0, 1) := by decide +kernel
theorem dX11_copy_26 : decode cX11_copy 26 = .ok (.getfield 11, 3) := by decide +kernel
theorem dX11_copy_29 : decode cX11_copy 29 = .ok (.iload_n 3, 1) := by decide +kernel
theorem dX11_copy_30 : decode cX11_copy 30 = .ok (.aaload, 1) := by decide +kernel
theorem dX11_copy_31 : decode cX11_copy 31 = .ok (.astore 7, 2) := by decide +kernel
theorem dX11_copy_33 : decode cX11_copy 33 = .ok (.aload 6, 2) := by decide +kernel
theorem dX11_copy_35 : decode cX11_copy 35 = .ok (.invokevirtual 71, 3) := by decide +kernel
theorem dX11_copy_38 : decode cX11_copy 38 = .ok (.ifCond .ne 11, 3) := by decide +kernel
theorem dX11_copy_41 : decode cX11_copy 41 = .ok (.aload 7, 2) := by decide +kernel
theorem dX11_copy_43 : decode cX11_copy 43 = .ok (.invokevirtual 71, 3) := by decide +kernel
theorem dX11_copy_46 : decode cX11_copy 46 = .ok (.ifCond .eq 9, 3) := by decide +kernel
theorem dX11_copy_49 : decode cX11_copy 49 = .ok (.aload_n 0, 1) := by decide +kernel
theorem dX11_copy_50 : decode cX11_copy 50 = .ok (.iconst 1, 1) := by decide +kernel
theorem dX11_copy_51 : decode cX11_copy 51 = .ok (.invokevirtual 60, 3) := by decide +kernel
theorem dX11_copy_54 : decode cX11_copy 54 = .ok (.ireturn, 1) := by decide +kernel
theorem dX11_copy_55 : decode cX11_copy 55 = .ok (.aload 6, 2) := by decide +kernel
theorem dX11_copy_57 : decode cX11_copy 57 = .ok (.getfield 83, 3) := by decide +kernel
theorem dX11_copy_60 : decode cX11_copy 60 = .ok (.aload 7, 2) := by decide +kernel
theorem dX11_copy_62 : decode cX11_copy 62 = .ok (.getfield 83, 3) := by decide +kernel
theorem dX11_copy_65 : decode cX11_copy 65 = .ok (.if_icmp .eq 9, 3) := by decide +kernel
theorem dX11_copy_68 : decode cX11_copy 68 = .ok (.aload_n 0, 1) := by decide +kernel
theorem dX11_copy_69 : decode cX11_copy 69 = .ok (.iconst 5, 1) := by decide +kernel
theorem dX11_copy_70 : decode cX11_copy 70 = .ok (.invokevirtual 60, 3) := by decide +kernel
theorem dX11_copy_73 : decode cX11_copy 73 = .ok (.ireturn, 1) := by decide +kernel
theorem dX11_copy_74 : decode cX11_copy 74 = .ok (.aload 6, 2) := by decide +kernel
theorem dX11_copy_76 : decode cX11_copy 76 = .ok (.iload_n 2, 1) := by decide +kernel
theorem dX11_copy_77 : decode cX11_copy 77 = .ok (.iload 5, 2) := by decide +kernel
theorem dX11_copy_79 : decode cX11_copy 79 = .ok (.invokevirtual 75, 3) := by decide +kernel
theorem dX11_copy_82 : decode cX11_copy 82 = .ok (.ifCond .eq 15, 3) := by decide +kernel
theorem dX11_copy_85 : decode cX11_copy 85 = .ok (.aload 7, 2) := by decide +kernel
theorem dX11_copy_87 : decode cX11_copy 87 = .ok (.iload 4, 2) := by decide +kernel
theorem dX11_copy_89 : decode cX11_copy 89 = .ok (.iload 5, 2) := by decide +kernel
theorem dX11_copy_91 : decode cX11_copy 91 = .ok (.invokevirtual 75, 3) := by decide +kernel
theorem dX11_copy_94 : decode cX11_copy 94 = .ok (.ifCond .ne 9, 3) := by decide +kernel
theorem dX11_copy_97 : decode cX11_copy 97 = .ok (.aload_n 0, 1) := by decide +kernel
theorem dX11_copy_98 : decode cX11_copy 98 = .ok (.iconst 2, 1) := by decide +kernel
theorem dX11_copy_99 : decode cX11_copy 99 = .ok (.invokevirtual 60, 3) := by decide +kernel
theorem dX11_copy_102 : decode cX11_copy 102 = .ok (.ireturn, 1) := by decide +kernel
theorem dX11_copy_103 : decode cX11_copy 103 = .ok (.aload 6, 2) := by decide +kernel
theorem dX11_copy_105 : decode cX11_copy 105 = .ok (.getfield 87, 3) := by decide +kernel
theorem dX11_copy_108 : decode cX11_copy 108 = .ok (.iload_n 2, 1) := by decide +kernel
theorem dX11_copy_109 : decode cX11_copy 109 = .ok (.aload 7, 2) := by decide +kernel
theorem dX11_copy_111 : decode cX11_copy 111 = .ok (.getfield 87, 3) := by decide +kernel
theorem dX11_copy_114 : decode cX11_copy 114 = .ok (.iload 4, 2) := by decide +kernel
theorem dX11_copy_116 : decode cX11_copy 116 = .ok (.iload 5, 2) := by decide +kernel
theorem dX11_copy_118 : decode cX11_copy 118 = .ok (.invokestatic 91, 3) := by decide +kernel
theorem dX11_copy_121 : decode cX11_copy 121 = .ok (.aload_n 0, 1) := by decide +kernel
theorem dX11_copy_122 : decode cX11_copy 122 = .ok (.iload 5, 2) := by decide +kernel
theorem dX11_copy_124 : decode cX11_copy 124 = .ok (.invokevirtual 68, 3) := by decide +kernel
theorem dX11_copy_127 : decode cX11_copy 127 = .ok (.ireturn, 1) := by decide +kernel
set_option maxRecDepth 20000 in
theorem ggX11_drop_X11_isSheet : GoodIn wsX11_drop wsX11_isSheet := goodIn_r _ [8, 9, 10, 7, 11] (by decide +kernel) (by decide +kernel)
set_option maxRecDepth 20000 in
theorem gX11_drop_X11_isSheet : GoodIn wsX11_drop (va_wsS RX11 51 yX11_isSheet wsX11_isSheet) := goodIn_app (goodIn_of _ (by decide +kernel)) ggX11_drop_X11_isSheet
set_option maxRecDepth 20000 in
theorem ggX11_drop_X5_isMissing : GoodIn wsX11_drop wsX5_isMissing := goodIn_r _ [16, 17, 35, 36, 37] (by decide +kernel) (by decide +kernel)
set_option maxRecDepth 20000 in
theorem gX11_drop_X5_isMissing : GoodIn wsX11_drop (wsV RX11 71 RX5 yX5_isMissing wsX5_isMissing) := goodIn_app (goodIn_of _ (by decide +kernel)) ggX11_drop_X5_isMissing
set_option maxRecDepth 20000 in
theorem ggX11_drop_X11_found : GoodIn wsX11_drop wsX11_found := goodIn_r _ [21, 22, 23, 28, 29, 30, 31, 32, 33, 34] (by decide +kernel) (by decide +kernel)
set_option maxRecDepth 20000 in
theorem gX11_drop_X11_found : GoodIn wsX11_drop (wsV RX11 60 RX11 yX11_found wsX11_found) := goodIn_app (goodIn_of _ (by decide +kernel)) ggX11_drop_X11_found
set_option maxRecDepth 20000 in
theorem ggX11_drop_X11_fine : GoodIn wsX11_drop wsX11_fine := goodIn_r _ [27, 22, 28, 29, 30, 31, 32, 33, 34] (by decide +kernel) (by decide +kernel)
set_option maxRecDepth 20000 in
theorem gX11_drop_X11_fine : GoodIn wsX11_drop (wsV RX11 68 RX11 yX11_fine wsX11_fine) := goodIn_app (goodIn_of _ (by decide +kernel)) ggX11_drop_X11_fine
theorem dX11_drop_0 : decode cX11_drop 0 = .ok (.iload_n 1, 1) := by decide +kernel
theorem dX11_drop_1 : decode cX11_drop 1 = .ok (.invokestatic 51, 3) := by decide +kernel
theorem dX11_drop_4 : decode cX11_drop 4 = .ok (.ifCond .ne 6, 3) := by decide +kernel
theorem dX11_drop_7 : decode cX11_drop 7 = .ok (.ldc 59, 2) := by decide +kernel
theorem dX11_drop_9 : decode cX11_drop 9 = .ok (.ireturn, 1) := by decide +kernel
theorem dX11_drop_10 : decode cX11_drop 10 = .ok (.aload_n 0, 1) := by decide +kernel
theorem dX11_drop_11 : decode cX11_drop 11 = .ok (.getfield 11, 3) := by decide +kernel
theorem dX11_drop_14 : decode cX11_drop 14 = .ok (.iload_n 1, 1) := by decide +kernel
theorem dX11_drop_15 : decode cX11_drop 15 = .ok (.aaload, 1) := by decide +kernel
theorem dX11_drop_16 : decode cX11_drop 16 = .ok (.astore_n 2, 1) := by decide +kernel
theorem dX11_drop_17 : decode cX11_drop 17 = .ok (.aload_n 2, 1) := by decide +kernel
theorem dX11_drop_18 : decode cX11_drop 18 = .ok (.invokevirtual 71, 3) := by decide +kernel
theorem dX11_drop_21 : decode cX11_drop 21 = .ok (.ifCond .eq 9, 3) := by decide +kernel
theorem dX11_drop_24 : decode cX11_drop 24 = .ok (.aload_n 0, 1) := by decide +kernel
theorem dX11_drop_25 : decode cX11_drop 25 = .ok (.iconst 1, 1) := by decide +kernel
theorem dX11_drop_26 : decode cX11_drop 26 = .ok (.invokevirtual 60, 3) := by decide +kernel
theorem dX11_drop_29 : decode cX11_drop 29 = .ok (.ireturn, 1) := by decide +kernel
theorem dX11_drop_30 : decode cX11_drop 30 = .ok (.aload_n 2, 1) := by decide +kernel
theorem dX11_drop_31 : decode cX11_drop 31 = .ok (.iconst (-1), 1) := by decide +kernel
theorem dX11_drop_32 : decode cX11_drop 32 = .ok (.putfield 83, 3) := by decide +kernel
theorem dX11_drop_35 : decode cX11_drop 35 = .ok (.aload_n 0, 1) := by decide +kernel
theorem dX11_drop_36 : decode cX11_drop 36 = .ok (.aload_n 2, 1) := by decide +kernel
theorem dX11_drop_37 : decode cX11_drop 37 = .ok (.getfield 97, 3) := by decide +kernel
theorem dX11_drop_40 : decode cX11_drop 40 = .ok (.invokevirtual 68, 3) := by decide +kernel
theorem dX11_drop_43 : decode cX11_drop 43 = .ok (.ireturn, 1) := by decide +kernel
set_option maxRecDepth 20000 in
theorem ggX11_stroke_X11_isSheet : GoodIn wsX11_stroke wsX11_isSheet := goodIn_r _ [10, 11, 12, 9, 13] (by decide +kernel) (by decide +kernel)
set_option maxRecDepth 20000 in
theorem gX11_stroke_X11_isSheet : GoodIn wsX11_stroke (va_wsS RX11 51 yX11_isSheet wsX11_isSheet) := goodIn_app (goodIn_of _ (by decide +kernel)) ggX11_stroke_X11_isSheet
set_option maxRecDepth 20000 in
theorem ggX11_stroke_X11_isWithin : GoodIn wsX11_stroke wsX11_isWithin := goodIn_r _ [13] (by decide +kernel) (by decide +kernel)
set_option maxRecDepth 20000 in
theorem gX11_stroke_X11_isWithin : GoodIn wsX11_stroke (va_wsS RX11 55 yX11_isWithin wsX11_isWithin) := goodIn_app (goodIn_of _ (by decide +kernel)) ggX11_stroke_X11_isWithin
set_option maxRecDepth 20000 in
theorem ggX11_stroke_X5_isMissing : GoodIn wsX11_stroke wsX5_isMissing := goodIn_r _ [18, 19, 110, 111, 112] (by decide +kernel) (by decide +kernel)
set_option maxRecDepth 20000 in
theorem gX11_stroke_X5_isMissing : GoodIn wsX11_stroke (wsV RX11 71 RX5 yX5_isMissing wsX5_isMissing) := goodIn_app (goodIn_of _ (by decide +kernel)) ggX11_stroke_X5_isMissing
set_option maxRecDepth 20000 in
theorem ggX11_stroke_X11_found : GoodIn wsX11_stroke wsX11_found := goodIn_r _ [23, 24, 25, 99, 100, 101, 102, 103, 104, 105] (by decide +kernel) (by decide +kernel)
set_option maxRecDepth 20000 in
theorem gX11_stroke_X11_found : GoodIn wsX11_stroke (wsV RX11 60 RX11 yX11_found wsX11_found) := goodIn_app (goodIn_of _ (by decide +kernel)) ggX11_stroke_X11_found
set_option maxRecDepth 20000 in
theorem ggX11_stroke_X5_has : GoodIn wsX11_stroke wsX5_has := goodIn_r _ [29, 30, 110, 111, 112] (by decide +kernel) (by decide +kernel)
set_option maxRecDepth 20000 in
theorem gX11_stroke_X5_has : GoodIn wsX11_stroke (wsV RX11 75 RX5 yX5_has wsX5_has) := goodIn_app (goodIn_of _ (by decide +kernel)) ggX11_stroke_X5_has
set_option maxRecDepth 20000 in
theorem ggX11_stroke_X5_holdsPlaces : GoodIn wsX11_stroke wsX5_holdsPlaces := goodIn_r _ [34, 35, 36, 37, 17, 38, 39, 40, 27, 28, 29, 30, 12, 9, 13, 110, 111, 112] (by decide +kernel) (by decide +kernel)
set_option maxRecDepth 20000 in
theorem gX11_stroke_X5_holdsPlaces : GoodIn wsX11_stroke (wsV RX11 104 RX5 yX5_holdsPlaces wsX5_holdsPlaces) := goodIn_app (goodIn_of _ (by decide +kernel)) ggX11_stroke_X5_holdsPlaces
set_option maxRecDepth 20000 in
theorem ggX11_stroke_X6_pathIsStale : GoodIn wsX11_stroke wsX6_pathIsStale := goodIn_r _ [45, 46, 113, 114, 115, 116, 117, 118, 119, 120, 121, 122, 123, 124, 125] (by decide +kernel) (by decide +kernel)
set_option maxRecDepth 20000 in
theorem gX11_stroke_X6_pathIsStale : GoodIn wsX11_stroke (wsV RX11 107 RX6 yX6_pathIsStale wsX6_pathIsStale) := goodIn_app (goodIn_of _ (by decide +kernel)) ggX11_stroke_X6_pathIsStale
set_option maxRecDepth 20000 in
theorem ggX11_stroke_X11_strokeOf : GoodIn wsX11_stroke wsX11_strokeOf := goodIn_r _ [49, 50, 51, 52, 53, 54, 55, 56, 57, 58, 59, 60, 36, 37, 17, 38, 39, 40, 27, 28, 29, 30, 61, 62, 63, 64, 65, 66, 67, 68, 69, 70, 71, 72, 73, 74, 75, 76, 77, 78, 79, 80, 126, 127, 128, 129, 130, 131, 110, 111, 112] (by decide +kernel) (by decide +kernel)
set_option maxRecDepth 20000 in
theorem gX11_stroke_X11_strokeOf : GoodIn wsX11_stroke (va_wsS RX11 110 yX11_strokeOf wsX11_strokeOf) := goodIn_app (goodIn_of _ (by decide +kernel)) ggX11_stroke_X11_strokeOf
set_option maxRecDepth 20000 in
theorem ggX11_stroke_X9_add : GoodIn wsX11_stroke wsX9_add := goodIn_r _ [85, 86, 87, 88, 89, 90, 91, 84, 92, 93, 94, 106, 107, 108, 109] (by decide +kernel) (by decide +kernel)
set_option maxRecDepth 20000 in
theorem gX11_stroke_X9_add : GoodIn wsX11_stroke (wsV RX11 114 RX9 yX9_add wsX9_add) := goodIn_app (goodIn_of _ (by decide +kernel)) ggX11_stroke_X9_add
set_option maxRecDepth 20000 in
theorem ggX11_stroke_X11_fine : GoodIn wsX11_stroke wsX11_fine := goodIn_r _ [98, 24, 99, 100, 101, 102, 103, 104, 105] (by decide +kernel) (by decide +kernel)
set_option maxRecDepth 20000 in
theorem gX11_stroke_X11_fine : GoodIn wsX11_stroke (wsV RX11 68 RX11 yX11_fine wsX11_fine) := goodIn_app (goodIn_of _ (by decide +kernel)) ggX11_stroke_X11_fine
theorem dX11_stroke_0 : decode cX11_stroke 0 = .ok (.iload_n 1, 1) := by decide +kernel
theorem dX11_stroke_1 : decode cX11_stroke 1 = .ok (.invokestatic 51, 3) := by decide +kernel
theorem dX11_stroke_4 : decode cX11_stroke 4 = .ok (.ifCond .eq 13, 3) := by decide +kernel
theorem dX11_stroke_7 : decode cX11_stroke 7 = .ok (.iload_n 3, 1) := by decide +kernel
theorem dX11_stroke_8 : decode cX11_stroke 8 = .ok (.iconst 1, 1) := by decide +kernel
theorem dX11_stroke_9 : decode cX11_stroke 9 = .ok (.bipush 8, 2) := by decide +kernel
theorem dX11_stroke_11 : decode cX11_stroke 11 = .ok (.invokestatic 55, 3) := by decide +kernel
theorem dX11_stroke_14 : decode cX11_stroke 14 = .ok (.ifCond .ne 6, 3) := by decide +kernel
theorem dX11_stroke_17 : decode cX11_stroke 17 = .ok (.ldc 59, 2) := by decide +kernel
theorem dX11_stroke_19 : decode cX11_stroke 19 = .ok (.ireturn, 1) := by decide +kernel
theorem dX11_stroke_20 : decode cX11_stroke 20 = .ok (.aload_n 0, 1) := by decide +kernel
theorem dX11_stroke_21 : decode cX11_stroke 21 = .ok (.getfield 18, 3) := by decide +kernel
theorem dX11_stroke_24 : decode cX11_stroke 24 = .ok (.getfield 100, 3) := by decide +kernel
theorem dX11_stroke_27 : decode cX11_stroke 27 = .ok (.bipush 8, 2) := by decide +kernel
theorem dX11_stroke_29 : decode cX11_stroke 29 = .ok (.if_icmp .lt 6, 3) := by decide +kernel
theorem dX11_stroke_32 : decode cX11_stroke 32 = .ok (.ldc 103, 2) := by decide +kernel
theorem dX11_stroke_34 : decode cX11_stroke 34 = .ok (.ireturn, 1) := by decide +kernel
theorem dX11_stroke_35 : decode cX11_stroke 35 = .ok (.aload_n 0, 1) := by decide +kernel
theorem dX11_stroke_36 : decode cX11_stroke 36 = .ok (.getfield 11, 3) := by decide +kernel
theorem dX11_stroke_39 : decode cX11_stroke 39 = .ok (.iload_n 1, 1) := by decide +kernel
theorem dX11_stroke_40 : decode cX11_stroke 40 = .ok (.aaload, 1) := by decide +kernel
theorem dX11_stroke_41 : decode cX11_stroke 41 = .ok (.astore 4, 2) := by decide +kernel
theorem dX11_stroke_43 : decode cX11_stroke 43 = .ok (.aload 4, 2) := by decide +kernel
theorem dX11_stroke_45 : decode cX11_stroke 45 = .ok (.invokevirtual 71, 3) := by decide +kernel
theorem dX11_stroke_48 : decode cX11_stroke 48 = .ok (.ifCond .eq 9, 3) := by decide +kernel
theorem dX11_stroke_51 : decode cX11_stroke 51 = .ok (.aload_n 0, 1) := by decide +kernel
theorem dX11_stroke_52 : decode cX11_stroke 52 = .ok (.iconst 1, 1) := by decide +kernel
theorem dX11_stroke_53 : decode cX11_stroke 53 = .ok (.invokevirtual 60, 3) := by decide +kernel
theorem dX11_stroke_56 : decode cX11_stroke 56 = .ok (.ireturn, 1) := by decide +kernel
theorem dX11_stroke_57 : decode cX11_stroke 57 = .ok (.aload 4, 2) := by decide +kernel
theorem dX11_stroke_59 : decode cX11_stroke 59 = .ok (.iload_n 2, 1) := by decide +kernel
theorem dX11_stroke_60 : decode cX11_stroke 60 = .ok (.iconst 2, 1) := by decide +kernel
theorem dX11_stroke_61 : decode cX11_stroke 61 = .ok (.iload_n 3, 1) := by decide +kernel
theorem dX11_stroke_62 : decode cX11_stroke 62 = .ok (.imul, 1) := by decide +kernel
theorem dX11_stroke_63 : decode cX11_stroke 63 = .ok (.invokevirtual 75, 3) := by decide +kernel
theorem dX11_stroke_66 : decode cX11_stroke 66 = .ok (.ifCond .ne 9, 3) := by decide +kernel
theorem dX11_stroke_69 : decode cX11_stroke 69 = .ok (.aload_n 0, 1) := by decide +kernel
theorem dX11_stroke_70 : decode cX11_stroke 70 = .ok (.iconst 2, 1) := by decide +kernel
theorem dX11_stroke_71 : decode cX11_stroke 71 = .ok (.invokevirtual 60, 3) := by decide +kernel
theorem dX11_stroke_74 : decode cX11_stroke 74 = .ok (.ireturn, 1) := by decide +kernel
theorem dX11_stroke_75 : decode cX11_stroke 75 = .ok (.aload 4, 2) := by decide +kernel
theorem dX11_stroke_77 : decode cX11_stroke 77 = .ok (.iload_n 2, 1) := by decide +kernel
theorem dX11_stroke_78 : decode cX11_stroke 78 = .ok (.iload_n 3, 1) := by decide +kernel
theorem dX11_stroke_79 : decode cX11_stroke 79 = .ok (.invokevirtual 104, 3) := by decide +kernel
theorem dX11_stroke_82 : decode cX11_stroke 82 = .ok (.ifCond .ne 6, 3) := by decide +kernel
theorem dX11_stroke_85 : decode cX11_stroke 85 = .ok (.ldc 59, 2) := by decide +kernel
theorem dX11_stroke_87 : decode cX11_stroke 87 = .ok (.ireturn, 1) := by decide +kernel
theorem dX11_stroke_88 : decode cX11_stroke 88 = .ok (.aload_n 0, 1) := by decide +kernel
theorem dX11_stroke_89 : decode cX11_stroke 89 = .ok (.getfield 32, 3) := by decide +kernel
theorem dX11_stroke_92 : decode cX11_stroke 92 = .ok (.invokevirtual 107, 3) := by decide +kernel
theorem dX11_stroke_95 : decode cX11_stroke 95 = .ok (.aload_n 0, 1) := by decide +kernel
theorem dX11_stroke_96 : decode cX11_stroke 96 = .ok (.aload_n 0, 1) := by decide +kernel
theorem dX11_stroke_97 : decode cX11_stroke 97 = .ok (.getfield 18, 3) := by decide +kernel
theorem dX11_stroke_100 : decode cX11_stroke 100 = .ok (.aload 4, 2) := by decide +kernel
theorem dX11_stroke_102 : decode cX11_stroke 102 = .ok (.iload_n 2, 1) := by decide +kernel
theorem dX11_stroke_103 : decode cX11_stroke 103 = .ok (.iload_n 3, 1) := by decide +kernel
theorem dX11_stroke_104 : decode cX11_stroke 104 = .ok (.invokestatic 110, 3) := by decide +kernel
theorem dX11_stroke_107 : decode cX11_stroke 107 = .ok (.invokevirtual 114, 3) := by decide +kernel
theorem dX11_stroke_110 : decode cX11_stroke 110 = .ok (.invokevirtual 68, 3) := by decide +kernel
theorem dX11_stroke_113 : decode cX11_stroke 113 = .ok (.ireturn, 1) := by decide +kernel
set_option maxRecDepth 20000 in
theorem ggX11_point_X9_at : GoodIn wsX11_point wsX9_at := goodIn_r _ [7, 8, 9, 45, 46, 47, 48] (by decide +kernel) (by decide +kernel)
set_option maxRecDepth 20000 in
theorem gX11_point_X9_at : GoodIn wsX11_point (wsV RX11 118 RX9 yX9_at wsX9_at) := goodIn_app (goodIn_of _ (by decide +kernel)) ggX11_point_X9_at
set_option maxRecDepth 20000 in
theorem ggX11_point_X8_points : GoodIn wsX11_point wsX8_points := goodIn_r _ [15, 16, 49, 50, 51, 52, 53, 54] (by decide +kernel) (by decide +kernel)
set_option maxRecDepth 20000 in
theorem gX11_point_X8_points_u122X1 : GoodIn wsX11_point (va_wsU RX11 122 RX1 "LightLines$Stroke" ⟨"LightLines$Stroke", "points", "()I"⟩ yX8_points wsX8_points) := goodIn_app (goodIn_of _ (by decide +kernel)) ggX11_point_X8_points
set_option maxRecDepth 20000 in
theorem gX11_point_X8_points_u122X2 : GoodIn wsX11_point (va_wsU RX11 122 RX2 "LightLines$Stroke" ⟨"LightLines$Stroke", "points", "()I"⟩ yX8_points wsX8_points) := goodIn_app (goodIn_of _ (by decide +kernel)) ggX11_point_X8_points
set_option maxRecDepth 20000 in
theorem gX11_point_X8_points_u122X7 : GoodIn wsX11_point (va_wsU RX11 122 RX7 "LightLines$Stroke" ⟨"LightLines$Stroke", "points", "()I"⟩ yX8_points wsX8_points) := goodIn_app (goodIn_of _ (by decide +kernel)) ggX11_point_X8_points
set_option maxRecDepth 20000 in
theorem ggX11_point_X11_isWithin : GoodIn wsX11_point wsX11_isWithin := goodIn_r _ [22] (by decide +kernel) (by decide +kernel)
set_option maxRecDepth 20000 in
theorem gX11_point_X11_isWithin : GoodIn wsX11_point (va_wsS RX11 55 yX11_isWithin wsX11_isWithin) := goodIn_app (goodIn_of _ (by decide +kernel)) ggX11_point_X11_isWithin
set_option maxRecDepth 20000 in
theorem ggX11_point_X8_xAt : GoodIn wsX11_point wsX8_xAt := goodIn_r _ [27, 16, 49, 50, 51, 52, 53, 54] (by decide +kernel) (by decide +kernel)
set_option maxRecDepth 20000 in
theorem gX11_point_X8_xAt_u128X1 : GoodIn wsX11_point (va_wsU RX11 128 RX1 "LightLines$Stroke" ⟨"LightLines$Stroke", "xAt", "(I)I"⟩ yX8_xAt wsX8_xAt) := goodIn_app (goodIn_of _ (by decide +kernel)) ggX11_point_X8_xAt
set_option maxRecDepth 20000 in
theorem gX11_point_X8_xAt_u128X2 : GoodIn wsX11_point (va_wsU RX11 128 RX2 "LightLines$Stroke" ⟨"LightLines$Stroke", "xAt", "(I)I"⟩ yX8_xAt wsX8_xAt) := goodIn_app (goodIn_of _ (by decide +kernel)) ggX11_point_X8_xAt
set_option maxRecDepth 20000 in
theorem gX11_point_X8_xAt_u128X7 : GoodIn wsX11_point (va_wsU RX11 128 RX7 "LightLines$Stroke" ⟨"LightLines$Stroke", "xAt", "(I)I"⟩ yX8_xAt wsX8_xAt) := goodIn_app (goodIn_of _ (by decide +kernel)) ggX11_point_X8_xAt
set_option maxRecDepth 20000 in
theorem ggX11_point_X8_yAt : GoodIn wsX11_point wsX8_yAt := goodIn_r _ [34, 35, 49, 50, 51, 52, 53, 54] (by decide +kernel) (by decide +kernel)
set_option maxRecDepth 20000 in
theorem gX11_point_X8_yAt_u131X1 : GoodIn wsX11_point (va_wsU RX11 131 RX1 "LightLines$Stroke" ⟨"LightLines$Stroke", "yAt", "(I)I"⟩ yX8_yAt wsX8_yAt) := goodIn_app (goodIn_of _ (by decide +kernel)) ggX11_point_X8_yAt
set_option maxRecDepth 20000 in
theorem gX11_point_X8_yAt_u131X2 : GoodIn wsX11_point (va_wsU RX11 131 RX2 "LightLines$Stroke" ⟨"LightLines$Stroke", "yAt", "(I)I"⟩ yX8_yAt wsX8_yAt) := goodIn_app (goodIn_of _ (by decide +kernel)) ggX11_point_X8_yAt
set_option maxRecDepth 20000 in
theorem gX11_point_X8_yAt_u131X7 : GoodIn wsX11_point (va_wsU RX11 131 RX7 "LightLines$Stroke" ⟨"LightLines$Stroke", "yAt", "(I)I"⟩ yX8_yAt wsX8_yAt) := goodIn_app (goodIn_of _ (by decide +kernel)) ggX11_point_X8_yAt
theorem dX11_point_0 : decode cX11_point 0 = .ok (.aload_n 0, 1) := by decide +kernel
theorem dX11_point_1 : decode cX11_point 1 = .ok (.getfield 18, 3) := by decide +kernel
theorem dX11_point_4 : decode cX11_point 4 = .ok (.iload_n 1, 1) := by decide +kernel
theorem dX11_point_5 : decode cX11_point 5 = .ok (.invokevirtual 118, 3) := by decide +kernel
theorem dX11_point_8 : decode cX11_point 8 = .ok (.astore 4, 2) := by decide +kernel
theorem dX11_point_10 : decode cX11_point 10 = .ok (.aload 4, 2) := by decide +kernel
theorem dX11_point_12 : decode cX11_point 12 = .ok (.ifnull 27, 3) := by decide +kernel
theorem dX11_point_15 : decode cX11_point 15 = .ok (.iload_n 2, 1) := by decide +kernel
theorem dX11_point_16 : decode cX11_point 16 = .ok (.iconst 0, 1) := by decide +kernel
theorem dX11_point_17 : decode cX11_point 17 = .ok (.aload 4, 2) := by decide +kernel
theorem dX11_point_19 : decode cX11_point 19 = .ok (.invokevirtual 122, 3) := by decide +kernel
theorem dX11_point_22 : decode cX11_point 22 = .ok (.iconst 1, 1) := by decide +kernel
theorem dX11_point_23 : decode cX11_point 23 = .ok (.isub, 1) := by decide +kernel
theorem dX11_point_24 : decode cX11_point 24 = .ok (.invokestatic 55, 3) := by decide +kernel
theorem dX11_point_27 : decode cX11_point 27 = .ok (.ifCond .eq 12, 3) := by decide +kernel
theorem dX11_point_30 : decode cX11_point 30 = .ok (.iload_n 3, 1) := by decide +kernel
theorem dX11_point_31 : decode cX11_point 31 = .ok (.iconst 0, 1) := by decide +kernel
theorem dX11_point_32 : decode cX11_point 32 = .ok (.iconst 1, 1) := by decide +kernel
theorem dX11_point_33 : decode cX11_point 33 = .ok (.invokestatic 55, 3) := by decide +kernel
theorem dX11_point_36 : decode cX11_point 36 = .ok (.ifCond .ne 6, 3) := by decide +kernel
theorem dX11_point_39 : decode cX11_point 39 = .ok (.ldc 59, 2) := by decide +kernel
theorem dX11_point_41 : decode cX11_point 41 = .ok (.ireturn, 1) := by decide +kernel
theorem dX11_point_42 : decode cX11_point 42 = .ok (.iload_n 3, 1) := by decide +kernel
theorem dX11_point_43 : decode cX11_point 43 = .ok (.ifCond .ne 12, 3) := by decide +kernel
theorem dX11_point_46 : decode cX11_point 46 = .ok (.aload 4, 2) := by decide +kernel
theorem dX11_point_48 : decode cX11_point 48 = .ok (.iload_n 2, 1) := by decide +kernel
theorem dX11_point_49 : decode cX11_point 49 = .ok (.invokevirtual 128, 3) := by decide +kernel
theorem dX11_point_52 : decode cX11_point 52 = .ok (.goto 9, 3) := by decide +kernel
theorem dX11_point_55 : decode cX11_point 55 = .ok (.aload 4, 2) := by decide +kernel
theorem dX11_point_57 : decode cX11_point 57 = .ok (.iload_n 2, 1) := by decide +kernel
theorem dX11_point_58 : decode cX11_point 58 = .ok (.invokevirtual 131, 3) := by decide +kernel
theorem dX11_point_61 : decode cX11_point 61 = .ok (.ireturn, 1) := by decide +kernel
set_option maxRecDepth 20000 in
theorem ggX11_plan_X11_isSheet : GoodIn wsX11_plan wsX11_isSheet := goodIn_r _ [10, 11, 12, 9, 13] (by decide +kernel) (by decide +kernel)
set_option maxRecDepth 20000 in
theorem gX11_plan_X11_isSheet : GoodIn wsX11_plan (va_wsS RX11 51 yX11_isSheet wsX11_isSheet) := goodIn_app (goodIn_of _ (by decide +kernel)) ggX11_plan_X11_isSheet
set_option maxRecDepth 20000 in
theorem ggX11_plan_X5_isMissing : GoodIn wsX11_plan wsX5_isMissing := goodIn_r _ [18, 19, 121, 122, 123] (by decide +kernel) (by decide +kernel)
set_option maxRecDepth 20000 in
theorem gX11_plan_X5_isMissing : GoodIn wsX11_plan (wsV RX11 71 RX5 yX5_isMissing wsX5_isMissing) := goodIn_app (goodIn_of _ (by decide +kernel)) ggX11_plan_X5_isMissing
set_option maxRecDepth 20000 in
theorem ggX11_plan_X11_found : GoodIn wsX11_plan wsX11_found := goodIn_r _ [23, 24, 25, 110, 111, 112, 113, 114, 115, 116] (by decide +kernel) (by decide +kernel)
set_option maxRecDepth 20000 in
theorem gX11_plan_X11_found : GoodIn wsX11_plan (wsV RX11 60 RX11 yX11_found wsX11_found) := goodIn_app (goodIn_of _ (by decide +kernel)) ggX11_plan_X11_found
set_option maxRecDepth 20000 in
theorem ggX11_plan_X5_has : GoodIn wsX11_plan wsX5_has := goodIn_r _ [29, 30, 121, 122, 123] (by decide +kernel) (by decide +kernel)
set_option maxRecDepth 20000 in
theorem gX11_plan_X5_has : GoodIn wsX11_plan (wsV RX11 75 RX5 yX5_has wsX5_has) := goodIn_app (goodIn_of _ (by decide +kernel)) ggX11_plan_X5_has
set_option maxRecDepth 20000 in
theorem ggX11_plan_X9_isPlan : GoodIn wsX11_plan wsX9_isPlan := goodIn_r _ [35, 36, 37, 38, 39, 17, 40, 41, 42, 27, 28, 29, 30, 12, 9, 13, 117, 118, 119, 120, 121, 122, 123] (by decide +kernel) (by decide +kernel)
set_option maxRecDepth 20000 in
theorem gX11_plan_X9_isPlan : GoodIn wsX11_plan (wsV RX11 135 RX9 yX9_isPlan wsX9_isPlan) := goodIn_app (goodIn_of _ (by decide +kernel)) ggX11_plan_X9_isPlan
set_option maxRecDepth 20000 in
theorem ggX11_plan_X5_item : GoodIn wsX11_plan wsX5_item := goodIn_r _ [40, 41, 42, 27, 28, 17, 29, 30, 121, 122, 123] (by decide +kernel) (by decide +kernel)
set_option maxRecDepth 20000 in
theorem gX11_plan_X5_item : GoodIn wsX11_plan (wsV RX11 139 RX5 yX5_item wsX5_item) := goodIn_app (goodIn_of _ (by decide +kernel)) ggX11_plan_X5_item
set_option maxRecDepth 20000 in
theorem ggX11_plan_X9_planAt : GoodIn wsX11_plan wsX9_planAt := goodIn_r _ [47, 48, 49, 117, 118, 119, 120] (by decide +kernel) (by decide +kernel)
set_option maxRecDepth 20000 in
theorem gX11_plan_X9_planAt : GoodIn wsX11_plan (wsV RX11 142 RX9 yX9_planAt wsX9_planAt) := goodIn_app (goodIn_of _ (by decide +kernel)) ggX11_plan_X9_planAt
set_option maxRecDepth 20000 in
theorem ggX11_plan_X6_pathIsStale : GoodIn wsX11_plan wsX6_pathIsStale := goodIn_r _ [54, 55, 124, 125, 126, 127, 128, 129, 130, 131, 132, 133, 134, 135, 136] (by decide +kernel) (by decide +kernel)
set_option maxRecDepth 20000 in
theorem gX11_plan_X6_pathIsStale : GoodIn wsX11_plan (wsV RX11 107 RX6 yX6_pathIsStale wsX6_pathIsStale) := goodIn_app (goodIn_of _ (by decide +kernel)) ggX11_plan_X6_pathIsStale
set_option maxRecDepth 20000 in
theorem ggX11_plan_X9_darkWay : GoodIn wsX11_plan wsX9_darkWay := goodIn_r _ [59, 36, 48, 49, 60, 61, 62, 34, 63, 64, 65, 66, 67, 68, 69, 70, 71, 72, 73, 74, 75, 76, 77, 78, 79, 80, 81, 82, 83, 84, 85, 86, 87, 88, 89, 90, 91, 92, 93, 94, 95, 96, 97, 9, 98, 99, 100, 101, 102, 103, 104, 105, 117, 118, 119, 120, 137, 138, 139, 140, 141, 142] (by decide +kernel) (by decide +kernel)
set_option maxRecDepth 20000 in
theorem gX11_plan_X9_darkWay : GoodIn wsX11_plan (wsV RX11 146 RX9 yX9_darkWay wsX9_darkWay) := goodIn_app (goodIn_of _ (by decide +kernel)) ggX11_plan_X9_darkWay
set_option maxRecDepth 20000 in
theorem ggX11_plan_X11_fine : GoodIn wsX11_plan wsX11_fine := goodIn_r _ [109, 24, 110, 111, 112, 113, 114, 115, 116] (by decide +kernel) (by decide +kernel)
set_option maxRecDepth 20000 in
theorem gX11_plan_X11_fine : GoodIn wsX11_plan (wsV RX11 68 RX11 yX11_fine wsX11_fine) := goodIn_app (goodIn_of _ (by decide +kernel)) ggX11_plan_X11_fine
theorem dX11_plan_0 : decode cX11_plan 0 = .ok (.iload_n 1, 1) := by decide +kernel
theorem dX11_plan_1 : decode cX11_plan 1 = .ok (.invokestatic 51, 3) := by decide +kernel
theorem dX11_plan_4 : decode cX11_plan 4 = .ok (.ifCond .ne 6, 3) := by decide +kernel
theorem dX11_plan_7 : decode cX11_plan 7 = .ok (.ldc 59, 2) := by decide +kernel
theorem dX11_plan_9 : decode cX11_plan 9 = .ok (.ireturn, 1) := by decide +kernel
theorem dX11_plan_10 : decode cX11_plan 10 = .ok (.aload_n 0, 1) := by decide +kernel
theorem dX11_plan_11 : decode cX11_plan 11 = .ok (.getfield 18, 3) := by decide +kernel
theorem dX11_plan_14 : decode cX11_plan 14 = .ok (.getfield 100, 3) := by decide +kernel
theorem dX11_plan_17 : decode cX11_plan 17 = .ok (.ifCond .ne 6, 3) := by decide +kernel
theorem dX11_plan_20 : decode cX11_plan 20 = .ok (.ldc 134, 2) := by decide +kernel
theorem dX11_plan_22 : decode cX11_plan 22 = .ok (.ireturn, 1) := by decide +kernel
theorem dX11_plan_23 : decode cX11_plan 23 = .ok (.aload_n 0, 1) := by decide +kernel
theorem dX11_plan_24 : decode cX11_plan 24 = .ok (.getfield 11, 3) := by decide +kernel
theorem dX11_plan_27 : decode cX11_plan 27 = .ok (.iload_n 1, 1) := by decide +kernel
theorem dX11_plan_28 : decode cX11_plan 28 = .ok (.aaload, 1) := by decide +kernel
theorem dX11_plan_29 : decode cX11_plan 29 = .ok (.astore_n 3, 1) := by decide +kernel
theorem dX11_plan_30 : decode cX11_plan 30 = .ok (.aload_n 3, 1) := by decide +kernel
theorem dX11_plan_31 : decode cX11_plan 31 = .ok (.invokevirtual 71, 3) := by decide +kernel
theorem dX11_plan_34 : decode cX11_plan 34 = .ok (.ifCond .eq 9, 3) := by decide +kernel
theorem dX11_plan_37 : decode cX11_plan 37 = .ok (.aload_n 0, 1) := by decide +kernel
theorem dX11_plan_38 : decode cX11_plan 38 = .ok (.iconst 1, 1) := by decide +kernel
theorem dX11_plan_39 : decode cX11_plan 39 = .ok (.invokevirtual 60, 3) := by decide +kernel
theorem dX11_plan_42 : decode cX11_plan 42 = .ok (.ireturn, 1) := by decide +kernel
theorem dX11_plan_43 : decode cX11_plan 43 = .ok (.aload_n 3, 1) := by decide +kernel
theorem dX11_plan_44 : decode cX11_plan 44 = .ok (.iload_n 2, 1) := by decide +kernel
theorem dX11_plan_45 : decode cX11_plan 45 = .ok (.iconst 2, 1) := by decide +kernel
theorem dX11_plan_46 : decode cX11_plan 46 = .ok (.aload_n 0, 1) := by decide +kernel
theorem dX11_plan_47 : decode cX11_plan 47 = .ok (.getfield 18, 3) := by decide +kernel
theorem dX11_plan_50 : decode cX11_plan 50 = .ok (.getfield 100, 3) := by decide +kernel
theorem dX11_plan_53 : decode cX11_plan 53 = .ok (.imul, 1) := by decide +kernel
theorem dX11_plan_54 : decode cX11_plan 54 = .ok (.invokevirtual 75, 3) := by decide +kernel
theorem dX11_plan_57 : decode cX11_plan 57 = .ok (.ifCond .ne 9, 3) := by decide +kernel
theorem dX11_plan_60 : decode cX11_plan 60 = .ok (.aload_n 0, 1) := by decide +kernel
theorem dX11_plan_61 : decode cX11_plan 61 = .ok (.iconst 2, 1) := by decide +kernel
theorem dX11_plan_62 : decode cX11_plan 62 = .ok (.invokevirtual 60, 3) := by decide +kernel
theorem dX11_plan_65 : decode cX11_plan 65 = .ok (.ireturn, 1) := by decide +kernel
theorem dX11_plan_66 : decode cX11_plan 66 = .ok (.aload_n 0, 1) := by decide +kernel
theorem dX11_plan_67 : decode cX11_plan 67 = .ok (.getfield 18, 3) := by decide +kernel
theorem dX11_plan_70 : decode cX11_plan 70 = .ok (.aload_n 3, 1) := by decide +kernel
theorem dX11_plan_71 : decode cX11_plan 71 = .ok (.iload_n 2, 1) := by decide +kernel
theorem dX11_plan_72 : decode cX11_plan 72 = .ok (.invokevirtual 135, 3) := by decide +kernel
theorem dX11_plan_75 : decode cX11_plan 75 = .ok (.ifCond .ne 6, 3) := by decide +kernel
theorem dX11_plan_78 : decode cX11_plan 78 = .ok (.ldc 59, 2) := by decide +kernel
theorem dX11_plan_80 : decode cX11_plan 80 = .ok (.ireturn, 1) := by decide +kernel
theorem dX11_plan_81 : decode cX11_plan 81 = .ok (.iconst 0, 1) := by decide +kernel
theorem dX11_plan_82 : decode cX11_plan 82 = .ok (.istore 4, 2) := by decide +kernel
theorem dX11_plan_84 : decode cX11_plan 84 = .ok (.iload 4, 2) := by decide +kernel
theorem dX11_plan_86 : decode cX11_plan 86 = .ok (.aload_n 0, 1) := by decide +kernel
theorem dX11_plan_87 : decode cX11_plan 87 = .ok (.getfield 18, 3) := by decide +kernel
theorem dX11_plan_90 : decode cX11_plan 90 = .ok (.getfield 100, 3) := by decide +kernel
theorem dX11_plan_93 : decode cX11_plan 93 = .ok (.if_icmp .ge 40, 3) := by decide +kernel
theorem dX11_plan_96 : decode cX11_plan 96 = .ok (.aload_n 0, 1) := by decide +kernel
theorem dX11_plan_97 : decode cX11_plan 97 = .ok (.getfield 18, 3) := by decide +kernel
theorem dX11_plan_100 : decode cX11_plan 100 = .ok (.iload 4, 2) := by decide +kernel
theorem dX11_plan_102 : decode cX11_plan 102 = .ok (.aload_n 3, 1) := by decide +kernel
theorem dX11_plan_103 : decode cX11_plan 103 = .ok (.iload_n 2, 1) := by decide +kernel
theorem dX11_plan_104 : decode cX11_plan 104 = .ok (.iconst 2, 1) := by decide +kernel
theorem dX11_plan_105 : decode cX11_plan 105 = .ok (.iload 4, 2) := by decide +kernel
theorem dX11_plan_107 : decode cX11_plan 107 = .ok (.imul, 1) := by decide +kernel
theorem dX11_plan_108 : decode cX11_plan 108 = .ok (.iadd, 1) := by decide +kernel
theorem dX11_plan_109 : decode cX11_plan 109 = .ok (.invokevirtual 139, 3) := by decide +kernel
theorem dX11_plan_112 : decode cX11_plan 112 = .ok (.aload_n 3, 1) := by decide +kernel
theorem dX11_plan_113 : decode cX11_plan 113 = .ok (.iload_n 2, 1) := by decide +kernel
theorem dX11_plan_114 : decode cX11_plan 114 = .ok (.iconst 2, 1) := by decide +kernel
theorem dX11_plan_115 : decode cX11_plan 115 = .ok (.iload 4, 2) := by decide +kernel
theorem dX11_plan_117 : decode cX11_plan 117 = .ok (.imul, 1) := by decide +kernel
theorem dX11_plan_118 : decode cX11_plan 118 = .ok (.iadd, 1) := by decide +kernel
theorem dX11_plan_119 : decode cX11_plan 119 = .ok (.iconst 1, 1) := by decide +kernel
theorem dX11_plan_120 : decode cX11_plan 120 = .ok (.iadd, 1) := by decide +kernel
theorem dX11_plan_121 : decode cX11_plan 121 = .ok (.invokevirtual 139, 3) := by decide +kernel
theorem dX11_plan_124 : decode cX11_plan 124 = .ok (.invokevirtual 142, 3) := by decide +kernel
theorem dX11_plan_127 : decode cX11_plan 127 = .ok (.iinc 4 1, 3) := by decide +kernel
theorem dX11_plan_130 : decode cX11_plan 130 = .ok (.goto (-46), 3) := by decide +kernel
theorem dX11_plan_133 : decode cX11_plan 133 = .ok (.aload_n 0, 1) := by decide +kernel
theorem dX11_plan_134 : decode cX11_plan 134 = .ok (.getfield 32, 3) := by decide +kernel
theorem dX11_plan_137 : decode cX11_plan 137 = .ok (.invokevirtual 107, 3) := by decide +kernel
theorem dX11_plan_140 : decode cX11_plan 140 = .ok (.aload_n 0, 1) := by decide +kernel
theorem dX11_plan_141 : decode cX11_plan 141 = .ok (.aload_n 0, 1) := by decide +kernel
theorem dX11_plan_142 : decode cX11_plan 142 = .ok (.getfield 18, 3) := by decide +kernel
theorem dX11_plan_145 : decode cX11_plan 145 = .ok (.invokevirtual 146, 3) := by decide +kernel
theorem dX11_plan_148 : decode cX11_plan 148 = .ok (.invokevirtual 68, 3) := by decide +kernel
theorem dX11_plan_151 : decode cX11_plan 151 = .ok (.ireturn, 1) := by decide +kernel
set_option maxRecDepth 20000 in
theorem ggX11_best_X4_putBest : GoodIn wsX11_best wsX4_putBest := goodIn_r _ [10, 11, 12, 13, 14, 15, 16, 17, 9, 18, 19, 20, 21, 22, 23, 24, 25, 26, 27, 28, 29, 30, 31, 32, 33, 34, 35, 36, 37, 38, 39, 40, 41, 42, 43, 44, 45, 46, 47, 48, 49, 50, 51, 52, 53, 54, 55, 56, 57, 58, 59, 60, 61, 62, 63, 64, 65, 66, 67, 68, 69, 70, 71, 72, 73, 74, 75, 76, 77, 78, 79, 80, 81, 82, 83, 84, 85, 86, 113, 114, 115, 116, 117, 109, 110, 111, 112, 118, 119, 120, 121, 122, 123] (by decide +kernel) (by decide +kernel)
set_option maxRecDepth 20000 in
theorem gX11_best_X4_putBest : GoodIn wsX11_best (wsV RX11 149 RX4 yX4_putBest wsX4_putBest) := goodIn_app (goodIn_of _ (by decide +kernel)) ggX11_best_X4_putBest
set_option maxRecDepth 20000 in
theorem ggX11_best_X6_pathIsStale : GoodIn wsX11_best wsX6_pathIsStale := goodIn_r _ [91, 92, 124, 125, 126, 127, 128, 129, 130, 131, 132, 133, 134, 135, 136] (by decide +kernel) (by decide +kernel)
set_option maxRecDepth 20000 in
theorem gX11_best_X6_pathIsStale : GoodIn wsX11_best (wsV RX11 107 RX6 yX6_pathIsStale wsX6_pathIsStale) := goodIn_app (goodIn_of _ (by decide +kernel)) ggX11_best_X6_pathIsStale
set_option maxRecDepth 20000 in
theorem ggX11_best_X9_darkWay : GoodIn wsX11_best wsX9_darkWay := goodIn_r _ [96, 25, 85, 86, 97, 21, 22, 23, 24, 26, 98, 28, 29, 30, 31, 32, 33, 34, 35, 36, 37, 38, 39, 40, 41, 42, 99, 100, 44, 45, 46, 47, 48, 49, 101, 51, 52, 53, 54, 55, 56, 57, 71, 72, 73, 74, 75, 76, 77, 78, 79, 80, 109, 110, 111, 112, 118, 119, 120, 121, 122, 123] (by decide +kernel) (by decide +kernel)
set_option maxRecDepth 20000 in
theorem gX11_best_X9_darkWay : GoodIn wsX11_best (wsV RX11 146 RX9 yX9_darkWay wsX9_darkWay) := goodIn_app (goodIn_of _ (by decide +kernel)) ggX11_best_X9_darkWay
theorem dX11_best_0 : decode cX11_best 0 = .ok (.aload_n 0, 1) := by decide +kernel
theorem dX11_best_1 : decode cX11_best 1 = .ok (.getfield 18, 3) := by decide +kernel
theorem dX11_best_4 : decode cX11_best 4 = .ok (.getfield 100, 3) := by decide +kernel
theorem dX11_best_7 : decode cX11_best 7 = .ok (.ifCond .ne 6, 3) := by decide +kernel
theorem dX11_best_10 : decode cX11_best 10 = .ok (.ldc 134, 2) := by decide +kernel
theorem dX11_best_12 : decode cX11_best 12 = .ok (.ireturn, 1) := by decide +kernel
theorem dX11_best_13 : decode cX11_best 13 = .ok (.aload_n 0, 1) := by decide +kernel
theorem dX11_best_14 : decode cX11_best 14 = .ok (.getfield 25, 3) := by decide +kernel
theorem dX11_best_17 : decode cX11_best 17 = .ok (.aload_n 0, 1) := by decide +kernel
theorem dX11_best_18 : decode cX11_best 18 = .ok (.getfield 18, 3) := by decide +kernel
theorem dX11_best_21 : decode cX11_best 21 = .ok (.invokevirtual 149, 3) := by decide +kernel
theorem dX11_best_24 : decode cX11_best 24 = .ok (.aload_n 0, 1) := by decide +kernel
theorem dX11_best_25 : decode cX11_best 25 = .ok (.getfield 32, 3) := by decide +kernel
theorem dX11_best_28 : decode cX11_best 28 = .ok (.invokevirtual 107, 3) := by decide +kernel
theorem dX11_best_31 : decode cX11_best 31 = .ok (.aload_n 0, 1) := by decide +kernel
theorem dX11_best_32 : decode cX11_best 32 = .ok (.getfield 18, 3) := by decide +kernel
theorem dX11_best_35 : decode cX11_best 35 = .ok (.invokevirtual 146, 3) := by decide +kernel
theorem dX11_best_38 : decode cX11_best 38 = .ok (.ireturn, 1) := by decide +kernel
set_option maxRecDepth 20000 in
theorem ggX11_order_X11_isWithin : GoodIn wsX11_order wsX11_isWithin := goodIn_r _ [10] (by decide +kernel) (by decide +kernel)
set_option maxRecDepth 20000 in
theorem gX11_order_X11_isWithin : GoodIn wsX11_order (va_wsS RX11 55 yX11_isWithin wsX11_isWithin) := goodIn_app (goodIn_of _ (by decide +kernel)) ggX11_order_X11_isWithin
theorem dX11_order_0 : decode cX11_order 0 = .ok (.iload_n 2, 1) := by decide +kernel
theorem dX11_order_1 : decode cX11_order 1 = .ok (.iconst 0, 1) := by decide +kernel
theorem dX11_order_2 : decode cX11_order 2 = .ok (.iconst 1, 1) := by decide +kernel
theorem dX11_order_3 : decode cX11_order 3 = .ok (.invokestatic 55, 3) := by decide +kernel
theorem dX11_order_6 : decode cX11_order 6 = .ok (.ifCond .ne 6, 3) := by decide +kernel
theorem dX11_order_9 : decode cX11_order 9 = .ok (.ldc 59, 2) := by decide +kernel
theorem dX11_order_11 : decode cX11_order 11 = .ok (.ireturn, 1) := by decide +kernel
theorem dX11_order_12 : decode cX11_order 12 = .ok (.iload_n 1, 1) := by decide +kernel
theorem dX11_order_13 : decode cX11_order 13 = .ok (.iconst 0, 1) := by decide +kernel
theorem dX11_order_14 : decode cX11_order 14 = .ok (.aload_n 0, 1) := by decide +kernel
theorem dX11_order_15 : decode cX11_order 15 = .ok (.getfield 18, 3) := by decide +kernel
theorem dX11_order_18 : decode cX11_order 18 = .ok (.getfield 100, 3) := by decide +kernel
theorem dX11_order_21 : decode cX11_order 21 = .ok (.iconst 1, 1) := by decide +kernel
theorem dX11_order_22 : decode cX11_order 22 = .ok (.isub, 1) := by decide +kernel
theorem dX11_order_23 : decode cX11_order 23 = .ok (.invokestatic 55, 3) := by decide +kernel
theorem dX11_order_26 : decode cX11_order 26 = .ok (.ifCond .ne 6, 3) := by decide +kernel
theorem dX11_order_29 : decode cX11_order 29 = .ok (.ldc 153, 2) := by decide +kernel
theorem dX11_order_31 : decode cX11_order 31 = .ok (.ireturn, 1) := by decide +kernel
theorem dX11_order_32 : decode cX11_order 32 = .ok (.iload_n 2, 1) := by decide +kernel
theorem dX11_order_33 : decode cX11_order 33 = .ok (.ifCond .ne 15, 3) := by decide +kernel
theorem dX11_order_36 : decode cX11_order 36 = .ok (.aload_n 0, 1) := by decide +kernel
theorem dX11_order_37 : decode cX11_order 37 = .ok (.getfield 18, 3) := by decide +kernel
theorem dX11_order_40 : decode cX11_order 40 = .ok (.getfield 154, 3) := by decide +kernel
theorem dX11_order_43 : decode cX11_order 43 = .ok (.iload_n 1, 1) := by decide +kernel
theorem dX11_order_44 : decode cX11_order 44 = .ok (.iaload, 1) := by decide +kernel
theorem dX11_order_45 : decode cX11_order 45 = .ok (.goto 12, 3) := by decide +kernel
theorem dX11_order_48 : decode cX11_order 48 = .ok (.aload_n 0, 1) := by decide +kernel
theorem dX11_order_49 : decode cX11_order 49 = .ok (.getfield 18, 3) := by decide +kernel
theorem dX11_order_52 : decode cX11_order 52 = .ok (.getfield 157, 3) := by decide +kernel
theorem dX11_order_55 : decode cX11_order 55 = .ok (.iload_n 1, 1) := by decide +kernel
theorem dX11_order_56 : decode cX11_order 56 = .ok (.iaload, 1) := by decide +kernel
theorem dX11_order_57 : decode cX11_order 57 = .ok (.ireturn, 1) := by decide +kernel
set_option maxRecDepth 20000 in
theorem ggX11_rule_X11_isWithin : GoodIn wsX11_rule wsX11_isWithin := goodIn_r _ [8] (by decide +kernel) (by decide +kernel)
set_option maxRecDepth 20000 in
theorem gX11_rule_X11_isWithin : GoodIn wsX11_rule (va_wsS RX11 55 yX11_isWithin wsX11_isWithin) := goodIn_app (goodIn_of _ (by decide +kernel)) ggX11_rule_X11_isWithin
set_option maxRecDepth 20000 in
theorem ggX11_rule_X6_changeRule : GoodIn wsX11_rule wsX6_changeRule := goodIn_r _ [13, 14, 15, 16, 17, 18, 12, 19, 20, 21, 22, 23, 24, 32, 33, 34, 35, 36, 37, 38, 39, 40, 41, 42, 43, 44] (by decide +kernel) (by decide +kernel)
set_option maxRecDepth 20000 in
theorem gX11_rule_X6_changeRule : GoodIn wsX11_rule (wsV RX11 166 RX6 yX6_changeRule wsX6_changeRule) := goodIn_app (goodIn_of _ (by decide +kernel)) ggX11_rule_X6_changeRule
theorem dX11_rule_0 : decode cX11_rule 0 = .ok (.iload_n 1, 1) := by decide +kernel
theorem dX11_rule_1 : decode cX11_rule 1 = .ok (.iconst 0, 1) := by decide +kernel
theorem dX11_rule_2 : decode cX11_rule 2 = .ok (.getstatic 160, 3) := by decide +kernel
theorem dX11_rule_5 : decode cX11_rule 5 = .ok (.arraylength, 1) := by decide +kernel
theorem dX11_rule_6 : decode cX11_rule 6 = .ok (.iconst 1, 1) := by decide +kernel
theorem dX11_rule_7 : decode cX11_rule 7 = .ok (.isub, 1) := by decide +kernel
theorem dX11_rule_8 : decode cX11_rule 8 = .ok (.invokestatic 55, 3) := by decide +kernel
theorem dX11_rule_11 : decode cX11_rule 11 = .ok (.ifCond .eq 20, 3) := by decide +kernel
theorem dX11_rule_14 : decode cX11_rule 14 = .ok (.iload_n 2, 1) := by decide +kernel
theorem dX11_rule_15 : decode cX11_rule 15 = .ok (.getstatic 160, 3) := by decide +kernel
theorem dX11_rule_18 : decode cX11_rule 18 = .ok (.iload_n 1, 1) := by decide +kernel
theorem dX11_rule_19 : decode cX11_rule 19 = .ok (.iaload, 1) := by decide +kernel
theorem dX11_rule_20 : decode cX11_rule 20 = .ok (.getstatic 163, 3) := by decide +kernel
theorem dX11_rule_23 : decode cX11_rule 23 = .ok (.iload_n 1, 1) := by decide +kernel
theorem dX11_rule_24 : decode cX11_rule 24 = .ok (.iaload, 1) := by decide +kernel
theorem dX11_rule_25 : decode cX11_rule 25 = .ok (.invokestatic 55, 3) := by decide +kernel
theorem dX11_rule_28 : decode cX11_rule 28 = .ok (.ifCond .ne 6, 3) := by decide +kernel
theorem dX11_rule_31 : decode cX11_rule 31 = .ok (.ldc 59, 2) := by decide +kernel
theorem dX11_rule_33 : decode cX11_rule 33 = .ok (.ireturn, 1) := by decide +kernel
theorem dX11_rule_34 : decode cX11_rule 34 = .ok (.aload_n 0, 1) := by decide +kernel
theorem dX11_rule_35 : decode cX11_rule 35 = .ok (.getfield 32, 3) := by decide +kernel
theorem dX11_rule_38 : decode cX11_rule 38 = .ok (.iload_n 1, 1) := by decide +kernel
theorem dX11_rule_39 : decode cX11_rule 39 = .ok (.iload_n 2, 1) := by decide +kernel
theorem dX11_rule_40 : decode cX11_rule 40 = .ok (.invokevirtual 166, 3) := by decide +kernel
theorem dX11_rule_43 : decode cX11_rule 43 = .ok (.ireturn, 1) := by decide +kernel
set_option maxRecDepth 20000 in
theorem ggX11_zone_X11_isZone : GoodIn wsX11_zone wsX11_isZone := goodIn_r _ [6, 7, 8, 5, 9] (by decide +kernel) (by decide +kernel)
set_option maxRecDepth 20000 in
theorem gX11_zone_X11_isZone : GoodIn wsX11_zone (va_wsS RX11 169 yX11_isZone wsX11_isZone) := goodIn_app (goodIn_of _ (by decide +kernel)) ggX11_zone_X11_isZone
set_option maxRecDepth 20000 in
theorem ggX11_zone_X6_shutZone : GoodIn wsX11_zone wsX6_shutZone := goodIn_r _ [14, 15, 16, 17, 18, 19, 13, 20, 21, 22, 23, 24, 25, 33, 34, 35, 36, 37, 38, 39, 40, 41, 42, 43, 44, 45] (by decide +kernel) (by decide +kernel)
set_option maxRecDepth 20000 in
theorem gX11_zone_X6_shutZone : GoodIn wsX11_zone (wsV RX11 172 RX6 yX6_shutZone wsX6_shutZone) := goodIn_app (goodIn_of _ (by decide +kernel)) ggX11_zone_X6_shutZone
theorem dX11_zone_0 : decode cX11_zone 0 = .ok (.iload_n 1, 1) := by decide +kernel
theorem dX11_zone_1 : decode cX11_zone 1 = .ok (.invokestatic 169, 3) := by decide +kernel
theorem dX11_zone_4 : decode cX11_zone 4 = .ok (.ifCond .eq 39, 3) := by decide +kernel
theorem dX11_zone_7 : decode cX11_zone 7 = .ok (.iload_n 2, 1) := by decide +kernel
theorem dX11_zone_8 : decode cX11_zone 8 = .ok (.ifCond .lt 35, 3) := by decide +kernel
theorem dX11_zone_11 : decode cX11_zone 11 = .ok (.iload_n 2, 1) := by decide +kernel
theorem dX11_zone_12 : decode cX11_zone 12 = .ok (.iload 4, 2) := by decide +kernel
theorem dX11_zone_14 : decode cX11_zone 14 = .ok (.if_icmp .gt 29, 3) := by decide +kernel
theorem dX11_zone_17 : decode cX11_zone 17 = .ok (.iload 4, 2) := by decide +kernel
theorem dX11_zone_19 : decode cX11_zone 19 = .ok (.sipush 1000, 3) := by decide +kernel
theorem dX11_zone_22 : decode cX11_zone 22 = .ok (.if_icmp .gt 21, 3) := by decide +kernel
theorem dX11_zone_25 : decode cX11_zone 25 = .ok (.iload_n 3, 1) := by decide +kernel
theorem dX11_zone_26 : decode cX11_zone 26 = .ok (.ifCond .lt 17, 3) := by decide +kernel
theorem dX11_zone_29 : decode cX11_zone 29 = .ok (.iload_n 3, 1) := by decide +kernel
theorem dX11_zone_30 : decode cX11_zone 30 = .ok (.iload 5, 2) := by decide +kernel
theorem dX11_zone_32 : decode cX11_zone 32 = .ok (.if_icmp .gt 11, 3) := by decide +kernel
theorem dX11_zone_35 : decode cX11_zone 35 = .ok (.iload 5, 2) := by decide +kernel
theorem dX11_zone_37 : decode cX11_zone 37 = .ok (.sipush 1000, 3) := by decide +kernel
theorem dX11_zone_40 : decode cX11_zone 40 = .ok (.if_icmp .le 6, 3) := by decide +kernel
theorem dX11_zone_43 : decode cX11_zone 43 = .ok (.ldc 59, 2) := by decide +kernel
theorem dX11_zone_45 : decode cX11_zone 45 = .ok (.ireturn, 1) := by decide +kernel
theorem dX11_zone_46 : decode cX11_zone 46 = .ok (.aload_n 0, 1) := by decide +kernel
theorem dX11_zone_47 : decode cX11_zone 47 = .ok (.getfield 32, 3) := by decide +kernel
theorem dX11_zone_50 : decode cX11_zone 50 = .ok (.iload_n 1, 1) := by decide +kernel
theorem dX11_zone_51 : decode cX11_zone 51 = .ok (.iload_n 2, 1) := by decide +kernel
theorem dX11_zone_52 : decode cX11_zone 52 = .ok (.iload_n 3, 1) := by decide +kernel
theorem dX11_zone_53 : decode cX11_zone 53 = .ok (.iload 4, 2) := by decide +kernel
theorem dX11_zone_55 : decode cX11_zone 55 = .ok (.iload 5, 2) := by decide +kernel
theorem dX11_zone_57 : decode cX11_zone 57 = .ok (.invokevirtual 172, 3) := by decide +kernel
theorem dX11_zone_60 : decode cX11_zone 60 = .ok (.iconst 1, 1) := by decide +kernel
theorem dX11_zone_61 : decode cX11_zone 61 = .ok (.ireturn, 1) := by decide +kernel
set_option maxRecDepth 20000 in
theorem ggX11_open_X11_isZone : GoodIn wsX11_open wsX11_isZone := goodIn_r _ [6, 7, 8, 5, 9] (by decide +kernel) (by decide +kernel)
set_option maxRecDepth 20000 in
theorem gX11_open_X11_isZone : GoodIn wsX11_open (va_wsS RX11 169 yX11_isZone wsX11_isZone) := goodIn_app (goodIn_of _ (by decide +kernel)) ggX11_open_X11_isZone
set_option maxRecDepth 20000 in
theorem ggX11_open_X6_openZone : GoodIn wsX11_open wsX6_openZone := goodIn_r _ [14, 15, 16, 17, 18, 13, 19, 20, 21, 22, 23, 24, 32, 33, 34, 35, 36, 37, 38, 39, 40, 41, 42, 43, 44] (by decide +kernel) (by decide +kernel)
set_option maxRecDepth 20000 in
theorem gX11_open_X6_openZone : GoodIn wsX11_open (wsV RX11 176 RX6 yX6_openZone wsX6_openZone) := goodIn_app (goodIn_of _ (by decide +kernel)) ggX11_open_X6_openZone
theorem dX11_open_0 : decode cX11_open 0 = .ok (.iload_n 1, 1) := by decide +kernel
theorem dX11_open_1 : decode cX11_open 1 = .ok (.invokestatic 169, 3) := by decide +kernel
theorem dX11_open_4 : decode cX11_open 4 = .ok (.ifCond .ne 6, 3) := by decide +kernel
theorem dX11_open_7 : decode cX11_open 7 = .ok (.ldc 59, 2) := by decide +kernel
theorem dX11_open_9 : decode cX11_open 9 = .ok (.ireturn, 1) := by decide +kernel
theorem dX11_open_10 : decode cX11_open 10 = .ok (.aload_n 0, 1) := by decide +kernel
theorem dX11_open_11 : decode cX11_open 11 = .ok (.getfield 32, 3) := by decide +kernel
theorem dX11_open_14 : decode cX11_open 14 = .ok (.iload_n 1, 1) := by decide +kernel
theorem dX11_open_15 : decode cX11_open 15 = .ok (.invokevirtual 176, 3) := by decide +kernel
theorem dX11_open_18 : decode cX11_open 18 = .ok (.ifCond .eq 7, 3) := by decide +kernel
theorem dX11_open_21 : decode cX11_open 21 = .ok (.iconst 1, 1) := by decide +kernel
theorem dX11_open_22 : decode cX11_open 22 = .ok (.goto 4, 3) := by decide +kernel
theorem dX11_open_25 : decode cX11_open 25 = .ok (.iconst 0, 1) := by decide +kernel
theorem dX11_open_26 : decode cX11_open 26 = .ok (.ireturn, 1) := by decide +kernel
set_option maxRecDepth 20000 in
theorem ggX11_ticks_X6_reaches : GoodIn wsX11_ticks wsX6_reaches := goodIn_r _ [10, 11, 12, 13, 14, 15, 16, 17, 18, 19, 20, 21, 22, 23, 24, 25, 26, 27, 28, 29, 30, 31, 32, 33, 34, 35, 36, 37, 38, 39, 40, 41, 42, 43, 44, 45, 46, 47, 48, 49, 50, 51, 52, 53, 54, 55, 56, 57, 58, 59, 60, 61, 62, 63, 64, 65, 66, 67, 68, 69, 70, 71, 72, 73, 74, 75, 76, 77, 78, 79, 80, 81, 82, 83, 84, 85, 86, 87, 88, 89, 90, 91, 92, 93, 94, 95, 96, 97, 98, 99, 100, 9, 101, 102, 103, 104, 105, 106, 107, 108, 109, 110, 111, 112, 113, 114, 115, 116, 117, 118, 119, 120, 121, 122, 123, 124, 125, 126, 127, 128, 129, 130, 131, 132, 133, 134, 135, 136, 137, 138, 146, 147, 148, 149, 150, 151, 152, 153, 154, 155, 156, 157, 158, 159, 160, 161, 162, 163, 164, 165, 166, 167, 168, 169, 170, 171, 172, 173, 174, 175] (by decide +kernel) (by decide +kernel)
set_option maxRecDepth 20000 in
theorem gX11_ticks_X6_reaches : GoodIn wsX11_ticks (wsV RX11 179 RX6 yX6_reaches wsX6_reaches) := goodIn_app (goodIn_of _ (by decide +kernel)) ggX11_ticks_X6_reaches
theorem dX11_ticks_0 : decode cX11_ticks 0 = .ok (.aload_n 0, 1) := by decide +kernel
theorem dX11_ticks_1 : decode cX11_ticks 1 = .ok (.getfield 32, 3) := by decide +kernel
theorem dX11_ticks_4 : decode cX11_ticks 4 = .ok (.iconst 1, 1) := by decide +kernel
theorem dX11_ticks_5 : decode cX11_ticks 5 = .ok (.aload_n 0, 1) := by decide +kernel
theorem dX11_ticks_6 : decode cX11_ticks 6 = .ok (.getfield 18, 3) := by decide +kernel
theorem dX11_ticks_9 : decode cX11_ticks 9 = .ok (.invokevirtual 179, 3) := by decide +kernel
theorem dX11_ticks_12 : decode cX11_ticks 12 = .ok (.ifCond .eq 16, 3) := by decide +kernel
theorem dX11_ticks_15 : decode cX11_ticks 15 = .ok (.aload_n 0, 1) := by decide +kernel
theorem dX11_ticks_16 : decode cX11_ticks 16 = .ok (.getfield 32, 3) := by decide +kernel
theorem dX11_ticks_19 : decode cX11_ticks 19 = .ok (.getfield 183, 3) := by decide +kernel
theorem dX11_ticks_22 : decode cX11_ticks 22 = .ok (.getfield 187, 3) := by decide +kernel
theorem dX11_ticks_25 : decode cX11_ticks 25 = .ok (.goto 5, 3) := by decide +kernel
theorem dX11_ticks_28 : decode cX11_ticks 28 = .ok (.ldc 103, 2) := by decide +kernel
theorem dX11_ticks_30 : decode cX11_ticks 30 = .ok (.ireturn, 1) := by decide +kernel
set_option maxRecDepth 20000 in
theorem ggX11_tick_X11_isWithin : GoodIn wsX11_tick wsX11_isWithin := goodIn_r _ [16] (by decide +kernel) (by decide +kernel)
set_option maxRecDepth 20000 in
theorem gX11_tick_X11_isWithin : GoodIn wsX11_tick (va_wsS RX11 55 yX11_isWithin wsX11_isWithin) := goodIn_app (goodIn_of _ (by decide +kernel)) ggX11_tick_X11_isWithin
set_option maxRecDepth 20000 in
theorem ggX11_tick_X6_reaches : GoodIn wsX11_tick wsX6_reaches := goodIn_r _ [21, 22, 23, 24, 25, 26, 27, 28, 29, 30, 31, 32, 33, 34, 35, 36, 37, 38, 39, 40, 41, 42, 43, 44, 45, 46, 47, 48, 49, 50, 51, 52, 53, 54, 55, 56, 57, 58, 59, 60, 61, 62, 63, 64, 65, 66, 67, 68, 69, 70, 71, 72, 73, 74, 75, 76, 77, 78, 79, 80, 81, 82, 83, 84, 85, 86, 87, 88, 15, 89, 90, 91, 92, 93, 94, 95, 96, 97, 98, 99, 100, 101, 102, 103, 104, 105, 106, 107, 108, 109, 110, 20, 111, 112, 113, 114, 115, 116, 117, 118, 119, 120, 121, 122, 123, 124, 125, 126, 127, 128, 129, 130, 131, 132, 133, 134, 135, 136, 137, 138, 14, 16, 139, 140, 141, 142, 143, 144, 145, 146, 160, 161, 162, 163, 164, 165, 166, 167, 168, 169, 170, 171, 172, 173, 174, 175, 176, 177, 178, 179, 180, 181, 182, 183, 184, 185, 186, 187, 188, 189] (by decide +kernel) (by decide +kernel)
set_option maxRecDepth 20000 in
theorem gX11_tick_X6_reaches : GoodIn wsX11_tick (wsV RX11 179 RX6 yX6_reaches wsX6_reaches) := goodIn_app (goodIn_of _ (by decide +kernel)) ggX11_tick_X6_reaches
set_option maxRecDepth 20000 in
theorem ggX11_tick_X6_isLit : GoodIn wsX11_tick wsX6_isLit := goodIn_r _ [150, 139, 140, 141, 20, 142, 24, 23, 123, 133, 134, 135, 136, 137, 27, 138, 29, 14, 15, 16, 160, 161, 162, 163, 164, 165, 166, 167, 168, 169, 170, 171, 172, 173, 174, 175, 176, 177, 178, 179] (by decide +kernel) (by decide +kernel)
set_option maxRecDepth 20000 in
theorem gX11_tick_X6_isLit : GoodIn wsX11_tick (wsV RX11 208 RX6 yX6_isLit wsX6_isLit) := goodIn_app (goodIn_of _ (by decide +kernel)) ggX11_tick_X6_isLit
set_option maxRecDepth 20000 in
theorem ggX11_tick_X6_isShut : GoodIn wsX11_tick wsX6_isShut := goodIn_r _ [136, 137, 27, 138, 29, 14, 15, 16, 160, 161, 162, 163, 164, 165, 166, 167, 168, 169, 170, 171, 172] (by decide +kernel) (by decide +kernel)
set_option maxRecDepth 20000 in
theorem gX11_tick_X6_isShut : GoodIn wsX11_tick (wsV RX11 211 RX6 yX6_isShut wsX6_isShut) := goodIn_app (goodIn_of _ (by decide +kernel)) ggX11_tick_X6_isShut
set_option maxRecDepth 20000 in
theorem ggX11_tick_X6_lagAt : GoodIn wsX11_tick wsX6_lagAt := goodIn_r _ [132, 23, 123, 26, 28, 27, 29, 88, 15, 89, 90, 91, 92, 93, 94, 95, 96, 160, 161, 162, 163, 164, 165, 166, 167, 168, 169, 170, 171, 172, 173, 174, 175, 176, 177, 178, 179] (by decide +kernel) (by decide +kernel)
set_option maxRecDepth 20000 in
theorem gX11_tick_X6_lagAt : GoodIn wsX11_tick (wsV RX11 214 RX6 yX6_lagAt wsX6_lagAt) := goodIn_app (goodIn_of _ (by decide +kernel)) ggX11_tick_X6_lagAt
theorem dX11_tick_0 : decode cX11_tick 0 = .ok (.iload_n 2, 1) := by decide +kernel
theorem dX11_tick_1 : decode cX11_tick 1 = .ok (.iconst 0, 1) := by decide +kernel
theorem dX11_tick_2 : decode cX11_tick 2 = .ok (.bipush 7, 2) := by decide +kernel
theorem dX11_tick_4 : decode cX11_tick 4 = .ok (.invokestatic 55, 3) := by decide +kernel
theorem dX11_tick_7 : decode cX11_tick 7 = .ok (.ifCond .ne 6, 3) := by decide +kernel
theorem dX11_tick_10 : decode cX11_tick 10 = .ok (.ldc 59, 2) := by decide +kernel
theorem dX11_tick_12 : decode cX11_tick 12 = .ok (.ireturn, 1) := by decide +kernel
theorem dX11_tick_13 : decode cX11_tick 13 = .ok (.aload_n 0, 1) := by decide +kernel
theorem dX11_tick_14 : decode cX11_tick 14 = .ok (.getfield 32, 3) := by decide +kernel
theorem dX11_tick_17 : decode cX11_tick 17 = .ok (.iload_n 2, 1) := by decide +kernel
theorem dX11_tick_18 : decode cX11_tick 18 = .ok (.iconst 3, 1) := by decide +kernel
theorem dX11_tick_19 : decode cX11_tick 19 = .ok (.if_icmp .ge 7, 3) := by decide +kernel
theorem dX11_tick_22 : decode cX11_tick 22 = .ok (.iconst 1, 1) := by decide +kernel
theorem dX11_tick_23 : decode cX11_tick 23 = .ok (.goto 4, 3) := by decide +kernel
theorem dX11_tick_26 : decode cX11_tick 26 = .ok (.iconst 2, 1) := by decide +kernel
theorem dX11_tick_27 : decode cX11_tick 27 = .ok (.aload_n 0, 1) := by decide +kernel
theorem dX11_tick_28 : decode cX11_tick 28 = .ok (.getfield 18, 3) := by decide +kernel
theorem dX11_tick_31 : decode cX11_tick 31 = .ok (.invokevirtual 179, 3) := by decide +kernel
theorem dX11_tick_34 : decode cX11_tick 34 = .ok (.ifCond .ne 6, 3) := by decide +kernel
theorem dX11_tick_37 : decode cX11_tick 37 = .ok (.ldc 103, 2) := by decide +kernel
theorem dX11_tick_39 : decode cX11_tick 39 = .ok (.ireturn, 1) := by decide +kernel
theorem dX11_tick_40 : decode cX11_tick 40 = .ok (.iload_n 1, 1) := by decide +kernel
theorem dX11_tick_41 : decode cX11_tick 41 = .ok (.iconst 0, 1) := by decide +kernel
theorem dX11_tick_42 : decode cX11_tick 42 = .ok (.aload_n 0, 1) := by decide +kernel
theorem dX11_tick_43 : decode cX11_tick 43 = .ok (.getfield 32, 3) := by decide +kernel
theorem dX11_tick_46 : decode cX11_tick 46 = .ok (.getfield 183, 3) := by decide +kernel
theorem dX11_tick_49 : decode cX11_tick 49 = .ok (.getfield 187, 3) := by decide +kernel
theorem dX11_tick_52 : decode cX11_tick 52 = .ok (.iconst 1, 1) := by decide +kernel
theorem dX11_tick_53 : decode cX11_tick 53 = .ok (.isub, 1) := by decide +kernel
theorem dX11_tick_54 : decode cX11_tick 54 = .ok (.invokestatic 55, 3) := by decide +kernel
theorem dX11_tick_57 : decode cX11_tick 57 = .ok (.ifCond .ne 6, 3) := by decide +kernel
theorem dX11_tick_60 : decode cX11_tick 60 = .ok (.ldc 153, 2) := by decide +kernel
theorem dX11_tick_62 : decode cX11_tick 62 = .ok (.ireturn, 1) := by decide +kernel
theorem dX11_tick_63 : decode cX11_tick 63 = .ok (.iload_n 2, 1) := by decide +kernel
theorem dX11_tick_64 : decode cX11_tick 64 = .ok (.tableswitch 145 0 6 #[44, 57, 70, 91, 101, 111, 128], 44) := by decide +kernel
theorem dX11_tick_108 : decode cX11_tick 108 = .ok (.aload_n 0, 1) := by decide +kernel
theorem dX11_tick_109 : decode cX11_tick 109 = .ok (.getfield 32, 3) := by decide +kernel
theorem dX11_tick_112 : decode cX11_tick 112 = .ok (.getfield 183, 3) := by decide +kernel
theorem dX11_tick_115 : decode cX11_tick 115 = .ok (.getfield 192, 3) := by decide +kernel
theorem dX11_tick_118 : decode cX11_tick 118 = .ok (.iload_n 1, 1) := by decide +kernel
theorem dX11_tick_119 : decode cX11_tick 119 = .ok (.iaload, 1) := by decide +kernel
theorem dX11_tick_120 : decode cX11_tick 120 = .ok (.ireturn, 1) := by decide +kernel
theorem dX11_tick_121 : decode cX11_tick 121 = .ok (.aload_n 0, 1) := by decide +kernel
theorem dX11_tick_122 : decode cX11_tick 122 = .ok (.getfield 32, 3) := by decide +kernel
theorem dX11_tick_125 : decode cX11_tick 125 = .ok (.getfield 183, 3) := by decide +kernel
theorem dX11_tick_128 : decode cX11_tick 128 = .ok (.getfield 195, 3) := by decide +kernel
theorem dX11_tick_131 : decode cX11_tick 131 = .ok (.iload_n 1, 1) := by decide +kernel
theorem dX11_tick_132 : decode cX11_tick 132 = .ok (.iaload, 1) := by decide +kernel
theorem dX11_tick_133 : decode cX11_tick 133 = .ok (.ireturn, 1) := by decide +kernel
theorem dX11_tick_134 : decode cX11_tick 134 = .ok (.aload_n 0, 1) := by decide +kernel
theorem dX11_tick_135 : decode cX11_tick 135 = .ok (.getfield 32, 3) := by decide +kernel
theorem dX11_tick_138 : decode cX11_tick 138 = .ok (.getfield 183, 3) := by decide +kernel
theorem dX11_tick_141 : decode cX11_tick 141 = .ok (.getfield 198, 3) := by decide +kernel
theorem dX11_tick_144 : decode cX11_tick 144 = .ok (.iload_n 1, 1) := by decide +kernel
theorem dX11_tick_145 : decode cX11_tick 145 = .ok (.baload, 1) := by decide +kernel
theorem dX11_tick_146 : decode cX11_tick 146 = .ok (.ifCond .eq 7, 3) := by decide +kernel
theorem dX11_tick_149 : decode cX11_tick 149 = .ok (.iconst 1, 1) := by decide +kernel
theorem dX11_tick_150 : decode cX11_tick 150 = .ok (.goto 4, 3) := by decide +kernel
theorem dX11_tick_153 : decode cX11_tick 153 = .ok (.iconst 0, 1) := by decide +kernel
theorem dX11_tick_154 : decode cX11_tick 154 = .ok (.ireturn, 1) := by decide +kernel
theorem dX11_tick_155 : decode cX11_tick 155 = .ok (.aload_n 0, 1) := by decide +kernel
theorem dX11_tick_156 : decode cX11_tick 156 = .ok (.getfield 32, 3) := by decide +kernel
theorem dX11_tick_159 : decode cX11_tick 159 = .ok (.getfield 202, 3) := by decide +kernel
theorem dX11_tick_162 : decode cX11_tick 162 = .ok (.iload_n 1, 1) := by decide +kernel
theorem dX11_tick_163 : decode cX11_tick 163 = .ok (.iaload, 1) := by decide +kernel
theorem dX11_tick_164 : decode cX11_tick 164 = .ok (.ireturn, 1) := by decide +kernel
theorem dX11_tick_165 : decode cX11_tick 165 = .ok (.aload_n 0, 1) := by decide +kernel
theorem dX11_tick_166 : decode cX11_tick 166 = .ok (.getfield 32, 3) := by decide +kernel
theorem dX11_tick_169 : decode cX11_tick 169 = .ok (.getfield 205, 3) := by decide +kernel
theorem dX11_tick_172 : decode cX11_tick 172 = .ok (.iload_n 1, 1) := by decide +kernel
theorem dX11_tick_173 : decode cX11_tick 173 = .ok (.iaload, 1) := by decide +kernel
theorem dX11_tick_174 : decode cX11_tick 174 = .ok (.ireturn, 1) := by decide +kernel
theorem dX11_tick_175 : decode cX11_tick 175 = .ok (.aload_n 0, 1) := by decide +kernel
theorem dX11_tick_176 : decode cX11_tick 176 = .ok (.getfield 32, 3) := by decide +kernel
theorem dX11_tick_179 : decode cX11_tick 179 = .ok (.iload_n 1, 1) := by decide +kernel
theorem dX11_tick_180 : decode cX11_tick 180 = .ok (.invokevirtual 208, 3) := by decide +kernel
theorem dX11_tick_183 : decode cX11_tick 183 = .ok (.ifCond .eq 7, 3) := by decide +kernel
theorem dX11_tick_186 : decode cX11_tick 186 = .ok (.iconst 1, 1) := by decide +kernel
theorem dX11_tick_187 : decode cX11_tick 187 = .ok (.goto 4, 3) := by decide +kernel
theorem dX11_tick_190 : decode cX11_tick 190 = .ok (.iconst 0, 1) := by decide +kernel
theorem dX11_tick_191 : decode cX11_tick 191 = .ok (.ireturn, 1) := by decide +kernel
theorem dX11_tick_192 : decode cX11_tick 192 = .ok (.aload_n 0, 1) := by decide +kernel
theorem dX11_tick_193 : decode cX11_tick 193 = .ok (.getfield 32, 3) := by decide +kernel
theorem dX11_tick_196 : decode cX11_tick 196 = .ok (.iload_n 1, 1) := by decide +kernel
theorem dX11_tick_197 : decode cX11_tick 197 = .ok (.invokevirtual 211, 3) := by decide +kernel
theorem dX11_tick_200 : decode cX11_tick 200 = .ok (.ifCond .eq 7, 3) := by decide +kernel
theorem dX11_tick_203 : decode cX11_tick 203 = .ok (.iconst 1, 1) := by decide +kernel
theorem dX11_tick_204 : decode cX11_tick 204 = .ok (.goto 4, 3) := by decide +kernel
theorem dX11_tick_207 : decode cX11_tick 207 = .ok (.iconst 0, 1) := by decide +kernel
theorem dX11_tick_208 : decode cX11_tick 208 = .ok (.ireturn, 1) := by decide +kernel
theorem dX11_tick_209 : decode cX11_tick 209 = .ok (.aload_n 0, 1) := by decide +kernel
theorem dX11_tick_210 : decode cX11_tick 210 = .ok (.getfield 32, 3) := by decide +kernel
theorem dX11_tick_213 : decode cX11_tick 213 = .ok (.iload_n 1, 1) := by decide +kernel
theorem dX11_tick_214 : decode cX11_tick 214 = .ok (.invokevirtual 214, 3) := by decide +kernel
theorem dX11_tick_217 : decode cX11_tick 217 = .ok (.ireturn, 1) := by decide +kernel
set_option maxRecDepth 20000 in
theorem ggX11_all_X11_isWithin : GoodIn wsX11_all wsX11_isWithin := goodIn_r _ [14] (by decide +kernel) (by decide +kernel)
set_option maxRecDepth 20000 in
theorem gX11_all_X11_isWithin : GoodIn wsX11_all (va_wsS RX11 55 yX11_isWithin wsX11_isWithin) := goodIn_app (goodIn_of _ (by decide +kernel)) ggX11_all_X11_isWithin
set_option maxRecDepth 20000 in
theorem ggX11_all_X6_reaches : GoodIn wsX11_all wsX6_reaches := goodIn_r _ [19, 20, 21, 22, 23, 24, 25, 26, 27, 28, 29, 30, 31, 32, 33, 34, 35, 36, 37, 38, 39, 40, 41, 42, 43, 44, 45, 46, 47, 48, 49, 50, 51, 52, 53, 54, 55, 56, 57, 58, 59, 60, 61, 62, 63, 64, 65, 66, 67, 68, 69, 70, 71, 72, 73, 74, 75, 76, 77, 78, 79, 80, 81, 82, 83, 84, 85, 86, 13, 87, 88, 89, 90, 91, 92, 93, 94, 95, 96, 97, 98, 99, 100, 101, 102, 103, 104, 105, 106, 107, 108, 18, 109, 110, 111, 112, 113, 114, 115, 116, 117, 118, 119, 120, 121, 122, 123, 124, 125, 126, 127, 128, 129, 130, 131, 132, 133, 134, 135, 136, 12, 14, 137, 138, 139, 140, 141, 142, 143, 144, 152, 153, 154, 155, 156, 157, 158, 159, 160, 161, 162, 163, 164, 165, 166, 167, 168, 169, 170, 171, 172, 173, 174, 175, 176, 177, 178, 179, 180, 181] (by decide +kernel) (by decide +kernel)
set_option maxRecDepth 20000 in
theorem gX11_all_X6_reaches : GoodIn wsX11_all (wsV RX11 179 RX6 yX6_reaches wsX6_reaches) := goodIn_app (goodIn_of _ (by decide +kernel)) ggX11_all_X6_reaches
theorem dX11_all_0 : decode cX11_all 0 = .ok (.iload_n 1, 1) := by decide +kernel
theorem dX11_all_1 : decode cX11_all 1 = .ok (.iconst 0, 1) := by decide +kernel
theorem dX11_all_2 : decode cX11_all 2 = .ok (.iconst 5, 1) := by decide +kernel
theorem dX11_all_3 : decode cX11_all 3 = .ok (.invokestatic 55, 3) := by decide +kernel
theorem dX11_all_6 : decode cX11_all 6 = .ok (.ifCond .ne 6, 3) := by decide +kernel
theorem dX11_all_9 : decode cX11_all 9 = .ok (.ldc 59, 2) := by decide +kernel
theorem dX11_all_11 : decode cX11_all 11 = .ok (.ireturn, 1) := by decide +kernel
theorem dX11_all_12 : decode cX11_all 12 = .ok (.aload_n 0, 1) := by decide +kernel
theorem dX11_all_13 : decode cX11_all 13 = .ok (.getfield 32, 3) := by decide +kernel
theorem dX11_all_16 : decode cX11_all 16 = .ok (.iconst 3, 1) := by decide +kernel
theorem dX11_all_17 : decode cX11_all 17 = .ok (.aload_n 0, 1) := by decide +kernel
theorem dX11_all_18 : decode cX11_all 18 = .ok (.getfield 18, 3) := by decide +kernel
theorem dX11_all_21 : decode cX11_all 21 = .ok (.invokevirtual 179, 3) := by decide +kernel
theorem dX11_all_24 : decode cX11_all 24 = .ok (.ifCond .ne 6, 3) := by decide +kernel
theorem dX11_all_27 : decode cX11_all 27 = .ok (.ldc 103, 2) := by decide +kernel
theorem dX11_all_29 : decode cX11_all 29 = .ok (.ireturn, 1) := by decide +kernel
theorem dX11_all_30 : decode cX11_all 30 = .ok (.iload_n 1, 1) := by decide +kernel
theorem dX11_all_31 : decode cX11_all 31 = .ok (.tableswitch 73 0 4 #[33, 41, 49, 57, 65], 33) := by decide +kernel
theorem dX11_all_64 : decode cX11_all 64 = .ok (.aload_n 0, 1) := by decide +kernel
theorem dX11_all_65 : decode cX11_all 65 = .ok (.getfield 32, 3) := by decide +kernel
theorem dX11_all_68 : decode cX11_all 68 = .ok (.getfield 217, 3) := by decide +kernel
theorem dX11_all_71 : decode cX11_all 71 = .ok (.ireturn, 1) := by decide +kernel
theorem dX11_all_72 : decode cX11_all 72 = .ok (.aload_n 0, 1) := by decide +kernel
theorem dX11_all_73 : decode cX11_all 73 = .ok (.getfield 32, 3) := by decide +kernel
theorem dX11_all_76 : decode cX11_all 76 = .ok (.getfield 220, 3) := by decide +kernel
theorem dX11_all_79 : decode cX11_all 79 = .ok (.ireturn, 1) := by decide +kernel
theorem dX11_all_80 : decode cX11_all 80 = .ok (.aload_n 0, 1) := by decide +kernel
theorem dX11_all_81 : decode cX11_all 81 = .ok (.getfield 32, 3) := by decide +kernel
theorem dX11_all_84 : decode cX11_all 84 = .ok (.getfield 223, 3) := by decide +kernel
theorem dX11_all_87 : decode cX11_all 87 = .ok (.ireturn, 1) := by decide +kernel
theorem dX11_all_88 : decode cX11_all 88 = .ok (.aload_n 0, 1) := by decide +kernel
theorem dX11_all_89 : decode cX11_all 89 = .ok (.getfield 32, 3) := by decide +kernel
theorem dX11_all_92 : decode cX11_all 92 = .ok (.getfield 226, 3) := by decide +kernel
theorem dX11_all_95 : decode cX11_all 95 = .ok (.ireturn, 1) := by decide +kernel
theorem dX11_all_96 : decode cX11_all 96 = .ok (.aload_n 0, 1) := by decide +kernel
theorem dX11_all_97 : decode cX11_all 97 = .ok (.getfield 32, 3) := by decide +kernel
theorem dX11_all_100 : decode cX11_all 100 = .ok (.getfield 229, 3) := by decide +kernel
theorem dX11_all_103 : decode cX11_all 103 = .ok (.ireturn, 1) := by decide +kernel
theorem dX11_all_104 : decode cX11_all 104 = .ok (.aload_n 0, 1) := by decide +kernel
theorem dX11_all_105 : decode cX11_all 105 = .ok (.getfield 32, 3) := by decide +kernel
theorem dX11_all_108 : decode cX11_all 108 = .ok (.getfield 229, 3) := by decide +kernel
theorem dX11_all_111 : decode cX11_all 111 = .ok (.aload_n 0, 1) := by decide +kernel
theorem dX11_all_112 : decode cX11_all 112 = .ok (.getfield 32, 3) := by decide +kernel
theorem dX11_all_115 : decode cX11_all 115 = .ok (.getfield 232, 3) := by decide +kernel
theorem dX11_all_118 : decode cX11_all 118 = .ok (.iconst 5, 1) := by decide +kernel
theorem dX11_all_119 : decode cX11_all 119 = .ok (.iaload, 1) := by decide +kernel
theorem dX11_all_120 : decode cX11_all 120 = .ok (.if_icmp .gt 7, 3) := by decide +kernel
theorem dX11_all_123 : decode cX11_all 123 = .ok (.iconst 1, 1) := by decide +kernel
theorem dX11_all_124 : decode cX11_all 124 = .ok (.goto 4, 3) := by decide +kernel
theorem dX11_all_127 : decode cX11_all 127 = .ok (.iconst 0, 1) := by decide +kernel
theorem dX11_all_128 : decode cX11_all 128 = .ok (.ireturn, 1) := by decide +kernel
set_option maxRecDepth 20000 in
theorem ggX11_burn_X11_isWithin : GoodIn wsX11_burn wsX11_isWithin := goodIn_r _ [9] (by decide +kernel) (by decide +kernel)
set_option maxRecDepth 20000 in
theorem gX11_burn_X11_isWithin : GoodIn wsX11_burn (va_wsS RX11 55 yX11_isWithin wsX11_isWithin) := goodIn_app (goodIn_of _ (by decide +kernel)) ggX11_burn_X11_isWithin
set_option maxRecDepth 20000 in
theorem ggX11_burn_X6_reaches : GoodIn wsX11_burn wsX6_reaches := goodIn_r _ [14, 15, 16, 17, 18, 19, 20, 21, 22, 23, 24, 25, 26, 27, 28, 29, 30, 31, 32, 33, 34, 35, 36, 37, 38, 39, 40, 41, 42, 43, 44, 45, 46, 47, 48, 49, 50, 51, 52, 53, 54, 55, 56, 57, 58, 59, 60, 61, 62, 63, 64, 65, 66, 67, 68, 69, 70, 71, 72, 73, 74, 75, 76, 77, 78, 79, 80, 81, 8, 82, 83, 84, 85, 86, 87, 88, 89, 90, 91, 92, 93, 94, 95, 96, 97, 98, 99, 100, 101, 102, 103, 13, 104, 105, 106, 107, 108, 109, 110, 111, 112, 113, 114, 115, 116, 117, 118, 119, 120, 121, 122, 123, 124, 125, 126, 127, 128, 129, 130, 131, 7, 9, 132, 133, 134, 135, 136, 137, 138, 139, 147, 148, 149, 150, 151, 152, 153, 154, 155, 156, 157, 158, 159, 160, 161, 162, 163, 164, 165, 166, 167, 168, 169, 170, 171, 172, 173, 174, 175, 176] (by decide +kernel) (by decide +kernel)
set_option maxRecDepth 20000 in
theorem gX11_burn_X6_reaches : GoodIn wsX11_burn (wsV RX11 179 RX6 yX6_reaches wsX6_reaches) := goodIn_app (goodIn_of _ (by decide +kernel)) ggX11_burn_X6_reaches
theorem dX11_burn_0 : decode cX11_burn 0 = .ok (.iload_n 1, 1) := by decide +kernel
theorem dX11_burn_1 : decode cX11_burn 1 = .ok (.iconst 0, 1) := by decide +kernel
theorem dX11_burn_2 : decode cX11_burn 2 = .ok (.bipush 10, 2) := by decide +kernel
theorem dX11_burn_4 : decode cX11_burn 4 = .ok (.invokestatic 55, 3) := by decide +kernel
theorem dX11_burn_7 : decode cX11_burn 7 = .ok (.ifCond .eq 13, 3) := by decide +kernel
theorem dX11_burn_10 : decode cX11_burn 10 = .ok (.iload_n 2, 1) := by decide +kernel
theorem dX11_burn_11 : decode cX11_burn 11 = .ok (.iconst 0, 1) := by decide +kernel
theorem dX11_burn_12 : decode cX11_burn 12 = .ok (.bipush 10, 2) := by decide +kernel
theorem dX11_burn_14 : decode cX11_burn 14 = .ok (.invokestatic 55, 3) := by decide +kernel
theorem dX11_burn_17 : decode cX11_burn 17 = .ok (.ifCond .ne 6, 3) := by decide +kernel
theorem dX11_burn_20 : decode cX11_burn 20 = .ok (.ldc 59, 2) := by decide +kernel
theorem dX11_burn_22 : decode cX11_burn 22 = .ok (.ireturn, 1) := by decide +kernel
theorem dX11_burn_23 : decode cX11_burn 23 = .ok (.aload_n 0, 1) := by decide +kernel
theorem dX11_burn_24 : decode cX11_burn 24 = .ok (.getfield 32, 3) := by decide +kernel
theorem dX11_burn_27 : decode cX11_burn 27 = .ok (.iconst 3, 1) := by decide +kernel
theorem dX11_burn_28 : decode cX11_burn 28 = .ok (.aload_n 0, 1) := by decide +kernel
theorem dX11_burn_29 : decode cX11_burn 29 = .ok (.getfield 18, 3) := by decide +kernel
theorem dX11_burn_32 : decode cX11_burn 32 = .ok (.invokevirtual 179, 3) := by decide +kernel
theorem dX11_burn_35 : decode cX11_burn 35 = .ok (.ifCond .eq 17, 3) := by decide +kernel
theorem dX11_burn_38 : decode cX11_burn 38 = .ok (.aload_n 0, 1) := by decide +kernel
theorem dX11_burn_39 : decode cX11_burn 39 = .ok (.getfield 32, 3) := by decide +kernel
theorem dX11_burn_42 : decode cX11_burn 42 = .ok (.getfield 235, 3) := by decide +kernel
theorem dX11_burn_45 : decode cX11_burn 45 = .ok (.iload_n 1, 1) := by decide +kernel
theorem dX11_burn_46 : decode cX11_burn 46 = .ok (.aaload, 1) := by decide +kernel
theorem dX11_burn_47 : decode cX11_burn 47 = .ok (.iload_n 2, 1) := by decide +kernel
theorem dX11_burn_48 : decode cX11_burn 48 = .ok (.iaload, 1) := by decide +kernel
theorem dX11_burn_49 : decode cX11_burn 49 = .ok (.goto 5, 3) := by decide +kernel
theorem dX11_burn_52 : decode cX11_burn 52 = .ok (.ldc 103, 2) := by decide +kernel
theorem dX11_burn_54 : decode cX11_burn 54 = .ok (.ireturn, 1) := by decide +kernel
set_option maxRecDepth 20000 in
theorem ggX11_feed_X11_isWithin : GoodIn wsX11_feed wsX11_isWithin := goodIn_r _ [8] (by decide +kernel) (by decide +kernel)
set_option maxRecDepth 20000 in
theorem gX11_feed_X11_isWithin : GoodIn wsX11_feed (va_wsS RX11 55 yX11_isWithin wsX11_isWithin) := goodIn_app (goodIn_of _ (by decide +kernel)) ggX11_feed_X11_isWithin
set_option maxRecDepth 20000 in
theorem ggX11_feed_X0_takeBytes : GoodIn wsX11_feed wsX0_takeBytes := goodIn_r _ [13, 14, 15, 23, 24, 25, 26, 27, 28, 29, 30, 31, 32] (by decide +kernel) (by decide +kernel)
set_option maxRecDepth 20000 in
theorem gX11_feed_X0_takeBytes : GoodIn wsX11_feed (wsV RX11 239 RX0 yX0_takeBytes wsX0_takeBytes) := goodIn_app (goodIn_of _ (by decide +kernel)) ggX11_feed_X0_takeBytes
theorem dX11_feed_0 : decode cX11_feed 0 = .ok (.iload_n 3, 1) := by decide +kernel
theorem dX11_feed_1 : decode cX11_feed 1 = .ok (.iconst 1, 1) := by decide +kernel
theorem dX11_feed_2 : decode cX11_feed 2 = .ok (.bipush 8, 2) := by decide +kernel
theorem dX11_feed_4 : decode cX11_feed 4 = .ok (.invokestatic 55, 3) := by decide +kernel
theorem dX11_feed_7 : decode cX11_feed 7 = .ok (.ifCond .ne 6, 3) := by decide +kernel
theorem dX11_feed_10 : decode cX11_feed 10 = .ok (.ldc 59, 2) := by decide +kernel
theorem dX11_feed_12 : decode cX11_feed 12 = .ok (.ireturn, 1) := by decide +kernel
theorem dX11_feed_13 : decode cX11_feed 13 = .ok (.aload_n 0, 1) := by decide +kernel
theorem dX11_feed_14 : decode cX11_feed 14 = .ok (.getfield 39, 3) := by decide +kernel
theorem dX11_feed_17 : decode cX11_feed 17 = .ok (.lload_n 1, 1) := by decide +kernel
theorem dX11_feed_18 : decode cX11_feed 18 = .ok (.iload_n 3, 1) := by decide +kernel
theorem dX11_feed_19 : decode cX11_feed 19 = .ok (.invokevirtual 239, 3) := by decide +kernel
theorem dX11_feed_22 : decode cX11_feed 22 = .ok (.ifCond .eq 13, 3) := by decide +kernel
theorem dX11_feed_25 : decode cX11_feed 25 = .ok (.aload_n 0, 1) := by decide +kernel
theorem dX11_feed_26 : decode cX11_feed 26 = .ok (.getfield 39, 3) := by decide +kernel
theorem dX11_feed_29 : decode cX11_feed 29 = .ok (.getfield 243, 3) := by decide +kernel
theorem dX11_feed_32 : decode cX11_feed 32 = .ok (.goto 5, 3) := by decide +kernel
theorem dX11_feed_35 : decode cX11_feed 35 = .ok (.ldc 103, 2) := by decide +kernel
theorem dX11_feed_37 : decode cX11_feed 37 = .ok (.ireturn, 1) := by decide +kernel
set_option maxRecDepth 20000 in
theorem ggX11_cues_X0_readTape : GoodIn wsX11_cues wsX0_readTape := goodIn_r _ [6, 7, 8, 9, 10, 11, 12, 13, 14, 15, 16, 17, 18, 19, 5, 20, 21, 22, 23, 24, 25, 26, 27, 28, 29, 30, 31, 32, 33, 34, 35, 36, 37, 38, 39, 40, 41, 42, 43, 44, 45, 46, 47, 48, 49, 50, 51, 52, 53, 54, 55, 56, 57, 58, 59, 60, 61, 62, 63, 64, 65, 66, 67, 68, 69, 70, 71, 72, 73, 74, 75, 76, 77, 78, 79, 80, 81, 82, 83, 84, 85, 86, 87, 88, 89, 90, 91, 92, 93, 94, 95, 96, 104, 105, 106, 107, 108, 109, 110, 111, 112, 113] (by decide +kernel) (by decide +kernel)
set_option maxRecDepth 20000 in
theorem gX11_cues_X0_readTape : GoodIn wsX11_cues (wsV RX11 244 RX0 yX0_readTape wsX0_readTape) := goodIn_app (goodIn_of _ (by decide +kernel)) ggX11_cues_X0_readTape
theorem dX11_cues_0 : decode cX11_cues 0 = .ok (.aload_n 0, 1) := by decide +kernel
theorem dX11_cues_1 : decode cX11_cues 1 = .ok (.getfield 39, 3) := by decide +kernel
theorem dX11_cues_4 : decode cX11_cues 4 = .ok (.invokevirtual 244, 3) := by decide +kernel
theorem dX11_cues_7 : decode cX11_cues 7 = .ok (.ireturn, 1) := by decide +kernel
theorem dX11_fault_0 : decode cX11_fault 0 = .ok (.aload_n 0, 1) := by decide +kernel
theorem dX11_fault_1 : decode cX11_fault 1 = .ok (.getfield 39, 3) := by decide +kernel
theorem dX11_fault_4 : decode cX11_fault 4 = .ok (.getfield 247, 3) := by decide +kernel
theorem dX11_fault_7 : decode cX11_fault 7 = .ok (.ireturn, 1) := by decide +kernel
set_option maxRecDepth 20000 in
theorem ggX11_frame_X11_isWithin : GoodIn wsX11_frame wsX11_isWithin := goodIn_r _ [6] (by decide +kernel) (by decide +kernel)
set_option maxRecDepth 20000 in
theorem gX11_frame_X11_isWithin : GoodIn wsX11_frame (va_wsS RX11 55 yX11_isWithin wsX11_isWithin) := goodIn_app (goodIn_of _ (by decide +kernel)) ggX11_frame_X11_isWithin
set_option maxRecDepth 20000 in
theorem ggX11_frame_X0_shownAt : GoodIn wsX11_frame wsX0_shownAt := goodIn_r _ [11, 12, 13, 28, 29, 30, 31, 32, 33, 34, 35, 36, 37] (by decide +kernel) (by decide +kernel)
set_option maxRecDepth 20000 in
theorem gX11_frame_X0_shownAt : GoodIn wsX11_frame (wsV RX11 250 RX0 yX0_shownAt wsX0_shownAt) := goodIn_app (goodIn_of _ (by decide +kernel)) ggX11_frame_X0_shownAt
set_option maxRecDepth 20000 in
theorem ggX11_frame_X0_levelAt : GoodIn wsX11_frame wsX0_levelAt := goodIn_r _ [17, 12, 13, 18, 19, 10, 20, 28, 29, 30, 31, 32, 33, 34, 35, 36, 37] (by decide +kernel) (by decide +kernel)
set_option maxRecDepth 20000 in
theorem gX11_frame_X0_levelAt : GoodIn wsX11_frame (wsV RX11 253 RX0 yX0_levelAt wsX0_levelAt) := goodIn_app (goodIn_of _ (by decide +kernel)) ggX11_frame_X0_levelAt
theorem dX11_frame_0 : decode cX11_frame 0 = .ok (.iload_n 1, 1) := by decide +kernel
theorem dX11_frame_1 : decode cX11_frame 1 = .ok (.iconst 0, 1) := by decide +kernel
theorem dX11_frame_2 : decode cX11_frame 2 = .ok (.sipush 20000, 3) := by decide +kernel
theorem dX11_frame_5 : decode cX11_frame 5 = .ok (.invokestatic 55, 3) := by decide +kernel
theorem dX11_frame_8 : decode cX11_frame 8 = .ok (.ifCond .eq 12, 3) := by decide +kernel
theorem dX11_frame_11 : decode cX11_frame 11 = .ok (.iload_n 2, 1) := by decide +kernel
theorem dX11_frame_12 : decode cX11_frame 12 = .ok (.iconst 0, 1) := by decide +kernel
theorem dX11_frame_13 : decode cX11_frame 13 = .ok (.iconst 1, 1) := by decide +kernel
theorem dX11_frame_14 : decode cX11_frame 14 = .ok (.invokestatic 55, 3) := by decide +kernel
theorem dX11_frame_17 : decode cX11_frame 17 = .ok (.ifCond .ne 6, 3) := by decide +kernel
theorem dX11_frame_20 : decode cX11_frame 20 = .ok (.ldc 59, 2) := by decide +kernel
theorem dX11_frame_22 : decode cX11_frame 22 = .ok (.ireturn, 1) := by decide +kernel
theorem dX11_frame_23 : decode cX11_frame 23 = .ok (.iload_n 2, 1) := by decide +kernel
theorem dX11_frame_24 : decode cX11_frame 24 = .ok (.ifCond .ne 14, 3) := by decide +kernel
theorem dX11_frame_27 : decode cX11_frame 27 = .ok (.aload_n 0, 1) := by decide +kernel
theorem dX11_frame_28 : decode cX11_frame 28 = .ok (.getfield 39, 3) := by decide +kernel
theorem dX11_frame_31 : decode cX11_frame 31 = .ok (.iload_n 1, 1) := by decide +kernel
theorem dX11_frame_32 : decode cX11_frame 32 = .ok (.invokevirtual 250, 3) := by decide +kernel
theorem dX11_frame_35 : decode cX11_frame 35 = .ok (.goto 11, 3) := by decide +kernel
theorem dX11_frame_38 : decode cX11_frame 38 = .ok (.aload_n 0, 1) := by decide +kernel
theorem dX11_frame_39 : decode cX11_frame 39 = .ok (.getfield 39, 3) := by decide +kernel
theorem dX11_frame_42 : decode cX11_frame 42 = .ok (.iload_n 1, 1) := by decide +kernel
theorem dX11_frame_43 : decode cX11_frame 43 = .ok (.invokevirtual 253, 3) := by decide +kernel
theorem dX11_frame_46 : decode cX11_frame 46 = .ok (.ireturn, 1) := by decide +kernel
set_option maxRecDepth 20000 in
theorem ggX11_kind_X9_at : GoodIn wsX11_kind wsX9_at := goodIn_r _ [7, 8, 9, 27, 28, 29, 30] (by decide +kernel) (by decide +kernel)
set_option maxRecDepth 20000 in
theorem gX11_kind_X9_at : GoodIn wsX11_kind (wsV RX11 118 RX9 yX9_at wsX9_at) := goodIn_app (goodIn_of _ (by decide +kernel)) ggX11_kind_X9_at
set_option maxRecDepth 20000 in
theorem ggX11_kind_X8_kindTold : GoodIn wsX11_kind wsX8_kindTold := goodIn_r _ [15, 16, 17] (by decide +kernel) (by decide +kernel)
set_option maxRecDepth 20000 in
theorem gX11_kind_X8_kindTold_u256X1 : GoodIn wsX11_kind (va_wsU RX11 256 RX1 "LightLines$Stroke" ⟨"LightLines$Stroke", "kindTold", "()I"⟩ yX8_kindTold wsX8_kindTold) := goodIn_app (goodIn_of _ (by decide +kernel)) ggX11_kind_X8_kindTold
set_option maxRecDepth 20000 in
theorem gX11_kind_X8_kindTold_u256X2 : GoodIn wsX11_kind (va_wsU RX11 256 RX2 "LightLines$Stroke" ⟨"LightLines$Stroke", "kindTold", "()I"⟩ yX8_kindTold wsX8_kindTold) := goodIn_app (goodIn_of _ (by decide +kernel)) ggX11_kind_X8_kindTold
set_option maxRecDepth 20000 in
theorem gX11_kind_X8_kindTold_u256X7 : GoodIn wsX11_kind (va_wsU RX11 256 RX7 "LightLines$Stroke" ⟨"LightLines$Stroke", "kindTold", "()I"⟩ yX8_kindTold wsX8_kindTold) := goodIn_app (goodIn_of _ (by decide +kernel)) ggX11_kind_X8_kindTold
theorem dX11_kind_0 : decode cX11_kind 0 = .ok (.aload_n 0, 1) := by decide +kernel
theorem dX11_kind_1 : decode cX11_kind 1 = .ok (.getfield 18, 3) := by decide +kernel
theorem dX11_kind_4 : decode cX11_kind 4 = .ok (.iload_n 1, 1) := by decide +kernel
theorem dX11_kind_5 : decode cX11_kind 5 = .ok (.invokevirtual 118, 3) := by decide +kernel
theorem dX11_kind_8 : decode cX11_kind 8 = .ok (.astore_n 2, 1) := by decide +kernel
theorem dX11_kind_9 : decode cX11_kind 9 = .ok (.aload_n 2, 1) := by decide +kernel
theorem dX11_kind_10 : decode cX11_kind 10 = .ok (.ifnonnull 8, 3) := by decide +kernel
theorem dX11_kind_13 : decode cX11_kind 13 = .ok (.ldc 59, 2) := by decide +kernel
theorem dX11_kind_15 : decode cX11_kind 15 = .ok (.goto 7, 3) := by decide +kernel
theorem dX11_kind_18 : decode cX11_kind 18 = .ok (.aload_n 2, 1) := by decide +kernel
theorem dX11_kind_19 : decode cX11_kind 19 = .ok (.invokevirtual 256, 3) := by decide +kernel
theorem dX11_kind_22 : decode cX11_kind 22 = .ok (.ireturn, 1) := by decide +kernel
set_option maxRecDepth 20000 in
theorem ggX11_as_X9_at : GoodIn wsX11_as wsX9_at := goodIn_r _ [7, 8, 9, 50, 51, 52, 53] (by decide +kernel) (by decide +kernel)
set_option maxRecDepth 20000 in
theorem gX11_as_X9_at : GoodIn wsX11_as (wsV RX11 118 RX9 yX9_at wsX9_at) := goodIn_app (goodIn_of _ (by decide +kernel)) ggX11_as_X9_at
set_option maxRecDepth 20000 in
theorem ggX11_as_X11_isWithin : GoodIn wsX11_as wsX11_isWithin := goodIn_r _ [13] (by decide +kernel) (by decide +kernel)
set_option maxRecDepth 20000 in
theorem gX11_as_X11_isWithin : GoodIn wsX11_as (va_wsS RX11 55 yX11_isWithin wsX11_isWithin) := goodIn_app (goodIn_of _ (by decide +kernel)) ggX11_as_X11_isWithin
set_option maxRecDepth 20000 in
theorem ggX11_as_X8_isOf : GoodIn wsX11_as wsX8_isOf := goodIn_r _ [19, 20, 21, 22] (by decide +kernel) (by decide +kernel)
set_option maxRecDepth 20000 in
theorem gX11_as_X8_isOf_u259X1 : GoodIn wsX11_as (va_wsU RX11 259 RX1 "LightLines$Stroke" ⟨"LightLines$Stroke", "isOf", "(I)Z"⟩ yX8_isOf wsX8_isOf) := goodIn_app (goodIn_of _ (by decide +kernel)) ggX11_as_X8_isOf
set_option maxRecDepth 20000 in
theorem gX11_as_X8_isOf_u259X2 : GoodIn wsX11_as (va_wsU RX11 259 RX2 "LightLines$Stroke" ⟨"LightLines$Stroke", "isOf", "(I)Z"⟩ yX8_isOf wsX8_isOf) := goodIn_app (goodIn_of _ (by decide +kernel)) ggX11_as_X8_isOf
set_option maxRecDepth 20000 in
theorem gX11_as_X8_isOf_u259X7 : GoodIn wsX11_as (va_wsU RX11 259 RX7 "LightLines$Stroke" ⟨"LightLines$Stroke", "isOf", "(I)Z"⟩ yX8_isOf wsX8_isOf) := goodIn_app (goodIn_of _ (by decide +kernel)) ggX11_as_X8_isOf
set_option maxRecDepth 20000 in
theorem ggX11_as_X8_points : GoodIn wsX11_as wsX8_points := goodIn_r _ [29, 30, 54, 55, 56, 57, 58, 59] (by decide +kernel) (by decide +kernel)
set_option maxRecDepth 20000 in
theorem gX11_as_X8_points_u122X1 : GoodIn wsX11_as (va_wsU RX11 122 RX1 "LightLines$Stroke" ⟨"LightLines$Stroke", "points", "()I"⟩ yX8_points wsX8_points) := goodIn_app (goodIn_of _ (by decide +kernel)) ggX11_as_X8_points
set_option maxRecDepth 20000 in
theorem gX11_as_X8_points_u122X2 : GoodIn wsX11_as (va_wsU RX11 122 RX2 "LightLines$Stroke" ⟨"LightLines$Stroke", "points", "()I"⟩ yX8_points wsX8_points) := goodIn_app (goodIn_of _ (by decide +kernel)) ggX11_as_X8_points
set_option maxRecDepth 20000 in
theorem gX11_as_X8_points_u122X7 : GoodIn wsX11_as (va_wsU RX11 122 RX7 "LightLines$Stroke" ⟨"LightLines$Stroke", "points", "()I"⟩ yX8_points wsX8_points) := goodIn_app (goodIn_of _ (by decide +kernel)) ggX11_as_X8_points
set_option maxRecDepth 20000 in
theorem ggX11_as_X11_fine : GoodIn wsX11_as wsX11_fine := goodIn_r _ [36, 37, 43, 44, 45, 46, 47, 48, 49] (by decide +kernel) (by decide +kernel)
set_option maxRecDepth 20000 in
theorem gX11_as_X11_fine : GoodIn wsX11_as (wsV RX11 68 RX11 yX11_fine wsX11_fine) := goodIn_app (goodIn_of _ (by decide +kernel)) ggX11_as_X11_fine
set_option maxRecDepth 20000 in
theorem ggX11_as_X11_found : GoodIn wsX11_as wsX11_found := goodIn_r _ [41, 37, 42, 43, 44, 45, 46, 47, 48, 49] (by decide +kernel) (by decide +kernel)
set_option maxRecDepth 20000 in
theorem gX11_as_X11_found : GoodIn wsX11_as (wsV RX11 60 RX11 yX11_found wsX11_found) := goodIn_app (goodIn_of _ (by decide +kernel)) ggX11_as_X11_found
theorem dX11_as_0 : decode cX11_as 0 = .ok (.aload_n 0, 1) := by decide +kernel
theorem dX11_as_1 : decode cX11_as 1 = .ok (.getfield 18, 3) := by decide +kernel
theorem dX11_as_4 : decode cX11_as 4 = .ok (.iload_n 1, 1) := by decide +kernel
theorem dX11_as_5 : decode cX11_as 5 = .ok (.invokevirtual 118, 3) := by decide +kernel
theorem dX11_as_8 : decode cX11_as 8 = .ok (.astore_n 3, 1) := by decide +kernel
theorem dX11_as_9 : decode cX11_as 9 = .ok (.aload_n 3, 1) := by decide +kernel
theorem dX11_as_10 : decode cX11_as 10 = .ok (.ifnull 12, 3) := by decide +kernel
theorem dX11_as_13 : decode cX11_as 13 = .ok (.iload_n 2, 1) := by decide +kernel
theorem dX11_as_14 : decode cX11_as 14 = .ok (.iconst 0, 1) := by decide +kernel
theorem dX11_as_15 : decode cX11_as 15 = .ok (.iconst 3, 1) := by decide +kernel
theorem dX11_as_16 : decode cX11_as 16 = .ok (.invokestatic 55, 3) := by decide +kernel
theorem dX11_as_19 : decode cX11_as 19 = .ok (.ifCond .ne 6, 3) := by decide +kernel
theorem dX11_as_22 : decode cX11_as 22 = .ok (.ldc 59, 2) := by decide +kernel
theorem dX11_as_24 : decode cX11_as 24 = .ok (.ireturn, 1) := by decide +kernel
theorem dX11_as_25 : decode cX11_as 25 = .ok (.aload_n 3, 1) := by decide +kernel
theorem dX11_as_26 : decode cX11_as 26 = .ok (.iload_n 2, 1) := by decide +kernel
theorem dX11_as_27 : decode cX11_as 27 = .ok (.invokevirtual 259, 3) := by decide +kernel
theorem dX11_as_30 : decode cX11_as 30 = .ok (.ifCond .eq 14, 3) := by decide +kernel
theorem dX11_as_33 : decode cX11_as 33 = .ok (.aload_n 0, 1) := by decide +kernel
theorem dX11_as_34 : decode cX11_as 34 = .ok (.aload_n 3, 1) := by decide +kernel
theorem dX11_as_35 : decode cX11_as 35 = .ok (.invokevirtual 122, 3) := by decide +kernel
theorem dX11_as_38 : decode cX11_as 38 = .ok (.invokevirtual 68, 3) := by decide +kernel
theorem dX11_as_41 : decode cX11_as 41 = .ok (.goto 8, 3) := by decide +kernel
theorem dX11_as_44 : decode cX11_as 44 = .ok (.aload_n 0, 1) := by decide +kernel
theorem dX11_as_45 : decode cX11_as 45 = .ok (.iconst 3, 1) := by decide +kernel
theorem dX11_as_46 : decode cX11_as 46 = .ok (.invokevirtual 60, 3) := by decide +kernel
theorem dX11_as_49 : decode cX11_as 49 = .ok (.ireturn, 1) := by decide +kernel
set_option maxRecDepth 20000 in
theorem ggX11_ask_X9_at : GoodIn wsX11_ask wsX9_at := goodIn_r _ [9, 10, 11, 120, 121, 122, 123] (by decide +kernel) (by decide +kernel)
set_option maxRecDepth 20000 in
theorem gX11_ask_X9_at : GoodIn wsX11_ask (wsV RX11 118 RX9 yX9_at wsX9_at) := goodIn_app (goodIn_of _ (by decide +kernel)) ggX11_ask_X9_at
set_option maxRecDepth 20000 in
theorem ggX11_ask_X11_isWithin : GoodIn wsX11_ask wsX11_isWithin := goodIn_r _ [15] (by decide +kernel) (by decide +kernel)
set_option maxRecDepth 20000 in
theorem gX11_ask_X11_isWithin : GoodIn wsX11_ask (va_wsS RX11 55 yX11_isWithin wsX11_isWithin) := goodIn_app (goodIn_of _ (by decide +kernel)) ggX11_ask_X11_isWithin
set_option maxRecDepth 20000 in
theorem ggX11_ask_X1_sizeAsked : GoodIn wsX11_ask wsX1_sizeAsked := goodIn_r _ [22, 23, 24, 25, 26, 27, 28, 29, 30, 17, 31, 32, 33, 34, 35, 36, 37, 38, 39, 40, 41, 42, 43, 44, 45, 46, 47, 48, 49, 50, 51, 52, 53, 54, 55, 56, 57, 58, 59, 60, 61, 14, 62, 63, 64, 65, 66, 67, 68, 69, 118, 119, 124, 125, 126, 127, 128, 129] (by decide +kernel) (by decide +kernel)
set_option maxRecDepth 20000 in
theorem gX11_ask_X1_sizeAsked_u263X1 : GoodIn wsX11_ask (va_wsO RX11 263 RX1 "LightLines$Stroke" ⟨"LightLines$Stroke", "sizeAsked", "(LLightLines$Trace;)I"⟩ yX1_sizeAsked wsX1_sizeAsked) := goodIn_app (goodIn_of _ (by decide +kernel)) ggX11_ask_X1_sizeAsked
set_option maxRecDepth 20000 in
theorem ggX11_ask_X2_sizeAsked : GoodIn wsX11_ask wsX2_sizeAsked := goodIn_r _ [73, 74, 24, 25, 26, 27, 28, 29, 75, 76, 77, 20, 21, 22, 23, 30, 17, 31, 32, 33, 34, 35, 36, 37, 38, 39, 40, 41, 42, 43, 44, 45, 46, 47, 48, 49, 50, 51, 52, 53, 54, 55, 56, 57, 58, 59, 60, 61, 14, 62, 63, 64, 65, 66, 67, 68, 69, 118, 119, 124, 125, 126, 127, 128, 129] (by decide +kernel) (by decide +kernel)
set_option maxRecDepth 20000 in
theorem gX11_ask_X2_sizeAsked_u263X2 : GoodIn wsX11_ask (va_wsO RX11 263 RX2 "LightLines$Stroke" ⟨"LightLines$Stroke", "sizeAsked", "(LLightLines$Trace;)I"⟩ yX2_sizeAsked wsX2_sizeAsked) := goodIn_app (goodIn_of _ (by decide +kernel)) ggX11_ask_X2_sizeAsked
set_option maxRecDepth 20000 in
theorem ggX11_ask_X7_sizeAsked : GoodIn wsX11_ask wsX7_sizeAsked := goodIn_r _ [81, 82, 24, 25, 26, 27, 28, 29, 118, 119] (by decide +kernel) (by decide +kernel)
set_option maxRecDepth 20000 in
theorem gX11_ask_X7_sizeAsked_u263X7 : GoodIn wsX11_ask (va_wsO RX11 263 RX7 "LightLines$Stroke" ⟨"LightLines$Stroke", "sizeAsked", "(LLightLines$Trace;)I"⟩ yX7_sizeAsked wsX7_sizeAsked) := goodIn_app (goodIn_of _ (by decide +kernel)) ggX11_ask_X7_sizeAsked
set_option maxRecDepth 20000 in
theorem ggX11_ask_X1_markAsked : GoodIn wsX11_ask wsX1_markAsked := goodIn_r _ [88, 23, 24, 25, 26, 27, 28, 29, 89, 84, 31, 90, 33, 91, 35, 92, 93, 94, 51, 52, 41, 95, 96, 97, 20, 98, 21, 22, 30, 17, 32, 34, 36, 37, 38, 39, 40, 42, 43, 44, 45, 46, 47, 48, 49, 50, 53, 54, 55, 56, 57, 58, 59, 60, 61, 14, 62, 63, 64, 65, 66, 67, 68, 69, 99, 76, 100, 101, 71, 72, 73, 74, 75, 77, 118, 119, 124, 125, 126, 127, 128, 129] (by decide +kernel) (by decide +kernel)
set_option maxRecDepth 20000 in
theorem gX11_ask_X1_markAsked_u267X1 : GoodIn wsX11_ask (va_wsO RX11 267 RX1 "LightLines$Stroke" ⟨"LightLines$Stroke", "markAsked", "(LLightLines$Trace;)I"⟩ yX1_markAsked wsX1_markAsked) := goodIn_app (goodIn_of _ (by decide +kernel)) ggX11_ask_X1_markAsked
set_option maxRecDepth 20000 in
theorem gX11_ask_X1_markAsked_u267X2 : GoodIn wsX11_ask (va_wsO RX11 267 RX2 "LightLines$Stroke" ⟨"LightLines$Stroke", "markAsked", "(LLightLines$Trace;)I"⟩ yX1_markAsked wsX1_markAsked) := goodIn_app (goodIn_of _ (by decide +kernel)) ggX11_ask_X1_markAsked
set_option maxRecDepth 20000 in
theorem ggX11_ask_X7_markAsked : GoodIn wsX11_ask wsX7_markAsked := goodIn_r _ [105, 82, 24, 25, 26, 27, 28, 29, 106, 84, 107, 90, 33, 91, 35, 92, 93, 94, 51, 52, 41, 95, 96, 108, 109, 110, 57, 58, 59, 118, 119, 124, 125, 126, 127, 128, 129] (by decide +kernel) (by decide +kernel)
set_option maxRecDepth 20000 in
theorem gX11_ask_X7_markAsked_u267X7 : GoodIn wsX11_ask (va_wsO RX11 267 RX7 "LightLines$Stroke" ⟨"LightLines$Stroke", "markAsked", "(LLightLines$Trace;)I"⟩ yX7_markAsked wsX7_markAsked) := goodIn_app (goodIn_of _ (by decide +kernel)) ggX11_ask_X7_markAsked
theorem dX11_ask_0 : decode cX11_ask 0 = .ok (.aload_n 0, 1) := by decide +kernel
