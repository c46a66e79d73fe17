theorem dX11_plan_43 : decode cX11_plan 43 = .ok (.aload_n 3, 1) := by decide +kernel
theorem dX11_plan_44 : decode cX11_plan 44 = .ok (.iload_n 2, 1) := by decide +kernel
theorem dX11_plan_45 : decode cX11_plan 45 = .ok (.iconst 2, 1) := by decide +kernel
theorem dX11_plan_46 : decode cX11_plan 46 = .ok (.aload_n 0, 1) := by decide +kernel
theorem dX11_plan_47 : decode cX11_plan 47 = .ok (.getfield 18, 3) := by decide +kernel
theorem dX11_plan_50 : decode cX11_plan 50 = .ok (.getfield 100, 3) := by decide +kernel
theorem dX11_plan_53 : decode cX11_plan 53 = .ok (.imul, 1) := by decide +kernel
theorem dX11_plan_54 : decode cX11_plan 54 = .ok (.invokevirtual 75, 3) := by decide +kernel
theorem dX11_plan_57 : decode cX11_plan 57 = .ok (.ifCond .ne 9, 3) := by decide +kernel
theorem dX11_plan_60 : decode cX11_plan 60 = .ok (.aload_n 0, 1) := by decide +kernel
theorem dX11_plan_61 : decode cX11_plan 61 = .ok (.iconst 2, 1) := by decide +kernel
theorem dX11_plan_62 : decode cX11_plan 62 = .ok (.invokevirtual 60, 3) := by decide +kernel
theorem dX11_plan_65 : decode cX11_plan 65 = .ok (.ireturn, 1) := by decide +kernel
theorem dX11_plan_66 : decode cX11_plan 66 = .ok (.aload_n 0, 1) := by decide +kernel
theorem dX11_plan_67 : decode cX11_plan 67 = .ok (.getfield 18, 3) := by decide +kernel
theorem dX11_plan_70 : decode cX11_plan 70 = .ok (.aload_n 3, 1) := by decide +kernel
theorem dX11_plan_71 : decode cX11_plan 71 = .ok (.iload_n 2, 1) := by decide +kernel
theorem dX11_plan_72 : decode cX11_plan 72 = .ok (.invokevirtual 135, 3) := by decide +kernel
theorem dX11_plan_75 : decode cX11_plan 75 = .ok (.ifCond .ne 6, 3) := by decide +kernel
theorem dX11_plan_78 : decode cX11_plan 78 = .ok (.ldc 59, 2) := by decide +kernel
theorem dX11_plan_80 : decode cX11_plan 80 = .ok (.ireturn, 1) := by decide +kernel
theorem dX11_plan_81 : decode cX11_plan 81 = .ok (.iconst 0, 1) := by decide +kernel
theorem dX11_plan_82 : decode cX11_plan 82 = .ok (.istore 4, 2) := by decide +kernel
theorem dX11_plan_84 : decode cX11_plan 84 = .ok (.iload 4, 2) := by decide +kernel
theorem dX11_plan_86 : decode cX11_plan 86 = .ok (.aload_n 0, 1) := by decide +kernel
theorem dX11_plan_87 : decode cX11_plan 87 = .ok (.getfield 18, 3) := by decide +kernel
theorem dX11_plan_90 : decode cX11_plan 90 = .ok (.getfield 100, 3) := by decide +kernel
theorem dX11_plan_93 : decode cX11_plan 93 = .ok (.if_icmp .ge 40, 3) := by decide +kernel
theorem dX11_plan_96 : decode cX11_plan 96 = .ok (.aload_n 0, 1) := by decide +kernel
theorem dX11_plan_97 : decode cX11_plan 97 = .ok (.getfield 18, 3) := by decide +kernel
theorem dX11_plan_100 : decode cX11_plan 100 = .ok (.iload 4, 2) := by decide +kernel
theorem dX11_plan_102 : decode cX11_plan 102 = .ok (.aload_n 3, 1) := by decide +kernel
theorem dX11_plan_103 : decode cX11_plan 103 = .ok (.iload_n 2, 1) := by decide +kernel
theorem dX11_plan_104 : decode cX11_plan 104 = .ok (.iconst 2, 1) := by decide +kernel
theorem dX11_plan_105 : decode cX11_plan 105 = .ok (.iload 4, 2) := by decide +kernel
theorem dX11_plan_107 : decode cX11_plan 107 = .ok (.imul, 1) := by decide +kernel
theorem dX11_plan_108 : decode cX11_plan 108 = .ok (.iadd, 1) := by decide +kernel
theorem dX11_plan_109 : decode cX11_plan 109 = .ok (.invokevirtual 139, 3) := by decide +kernel
theorem dX11_plan_112 : decode cX11_plan 112 = .ok (.aload_n 3, 1) := by decide +kernel
theorem dX11_plan_113 : decode cX11_plan 113 = .ok (.iload_n 2, 1) := by decide +kernel
theorem dX11_plan_114 : decode cX11_plan 114 = .ok (.iconst 2, 1) := by decide +kernel
theorem dX11_plan_115 : decode cX11_plan 115 = .ok (.iload 4, 2) := by decide +kernel
theorem dX11_plan_117 : decode cX11_plan 117 = .ok (.imul, 1) := by decide +kernel
theorem dX11_plan_118 : decode cX11_plan 118 = .ok (.iadd, 1) := by decide +kernel
theorem dX11_plan_119 : decode cX11_plan 119 = .ok (.iconst 1, 1) := by decide +kernel
theorem dX11_plan_120 : decode cX11_plan 120 = .ok (.iadd, 1) := by decide +kernel
theorem dX11_plan_121 : decode cX11_plan 121 = .ok (.invokevirtual 139, 3) := by decide +kernel
theorem dX11_plan_124 : decode cX11_plan 124 = .ok (.invokevirtual 142, 3) := by decide +kernel
theorem dX11_plan_127 : decode cX11_plan 127 = .ok (.iinc 4 1, 3) := by decide +kernel
theorem dX11_plan_130 : decode cX11_plan 130 = .ok (.goto (-46), 3) := by decide +kernel
theorem dX11_plan_133 : decode cX11_plan 133 = .ok (.aload_n 0, 1) := by decide +kernel
theorem dX11_plan_134 : decode cX11_plan 134 = .ok (.getfield 32, 3) := by decide +kernel
theorem dX11_plan_137 : decode cX11_plan 137 = .ok (.invokevirtual 107, 3) := by decide +kernel
theorem dX11_plan_140 : decode cX11_plan 140 = .ok (.aload_n 0, 1) := by decide +kernel
theorem dX11_plan_141 : decode cX11_plan 141 = .ok (.aload_n 0, 1) := by decide +kernel
theorem dX11_plan_142 : decode cX11_plan 142 = .ok (.getfield 18, 3) := by decide +kernel
theorem dX11_plan_145 : decode cX11_plan 145 = .ok (.invokevirtual 146, 3) := by decide +kernel
theorem dX11_plan_148 : decode cX11_plan 148 = .ok (.invokevirtual 68, 3) := by decide +kernel
theorem dX11_plan_151 : decode cX11_plan 151 = .ok (.ireturn, 1) := by decide +kernel
set_option maxRecDepth 20000 in
theorem ggX11_best_X4_putBest : GoodIn wsX11_best wsX4_putBest := goodIn_r _ [10, 11, 12, 13, 14, 15, 16, 17, 9, 18, 19, 20, 21, 22, 23, 24, 25, 26, 27, 28, 29, 30, 31, 32, 33, 34, 35, 36, 37, 38, 39, 40, 41, 42, 43, 44, 45, 46, 47, 48, 49, 50, 51, 52, 53, 54, 55, 56, 57, 58, 59, 60, 61, 62, 63, 64, 65, 66, 67, 68, 69, 70, 71, 72, 73, 74, 75, 76, 77, 78, 79, 80, 81, 82, 83, 84, 85, 86, 113, 114, 115, 116, 117, 109, 110, 111, 112, 118, 119, 120, 121, 122, 123] (by decide +kernel) (by decide +kernel)
set_option maxRecDepth 20000 in
theorem gX11_best_X4_putBest : GoodIn wsX11_best (wsV RX11 149 RX4 yX4_putBest wsX4_putBest) := goodIn_app (goodIn_of _ (by decide +kernel)) ggX11_best_X4_putBest
set_option maxRecDepth 20000 in
theorem ggX11_best_X6_pathIsStale : GoodIn wsX11_best wsX6_pathIsStale := goodIn_r _ [91, 92, 124, 125, 126, 127, 128, 129, 130, 131, 132, 133, 134, 135, 136] (by decide +kernel) (by decide +kernel)
set_option maxRecDepth 20000 in
theorem gX11_best_X6_pathIsStale : GoodIn wsX11_best (wsV RX11 107 RX6 yX6_pathIsStale wsX6_pathIsStale) := goodIn_app (goodIn_of _ (by decide +kernel)) ggX11_best_X6_pathIsStale
set_option maxRecDepth 20000 in
theorem ggX11_best_X9_darkWay : GoodIn wsX11_best wsX9_darkWay := goodIn_r _ [96, 25, 85, 86, 97, 21, 22, 23, 24, 26, 98, 28, 29, 30, 31, 32, 33, 34, 35, 36, 37, 38, 39, 40, 41, 42, 99, 100, 44, 45, 46, 47, 48, 49, 101, 51, 52, 53, 54, 55, 56, 57, 71, 72, 73, 74, 75, 76, 77, 78, 79, 80, 109, 110, 111, 112, 118, 119, 120, 121, 122, 123] (by decide +kernel) (by decide +kernel)
set_option maxRecDepth 20000 in
theorem gX11_best_X9_darkWay : GoodIn wsX11_best (wsV RX11 146 RX9 yX9_darkWay wsX9_darkWay) := goodIn_app (goodIn_of _ (by decide +kernel)) ggX11_best_X9_darkWay
theorem dX11_best_0 : decode cX11_best 0 = .ok (.aload_n 0, 1) := by decide +kernel
theorem dX11_best_1 : decode cX11_best 1 = .ok (.getfield 18, 3) := by decide +kernel
theorem dX11_best_4 : decode cX11_best 4 = .ok (.getfield 100, 3) := by decide +kernel
theorem dX11_best_7 : decode cX11_best 7 = .ok (.ifCond .ne 6, 3) := by decide +kernel
theorem dX11_best_10 : decode cX11_best 10 = .ok (.ldc 134, 2) := by decide +kernel
theorem dX11_best_12 : decode cX11_best 12 = .ok (.ireturn, 1) := by decide +kernel
theorem dX11_best_13 : decode cX11_best 13 = .ok (.aload_n 0, 1) := by decide +kernel
theorem dX11_best_14 : decode cX11_best 14 = .ok (.getfield 25, 3) := by decide +kernel
theorem dX11_best_17 : decode cX11_best 17 = .ok (.aload_n 0, 1) := by decide +kernel
theorem dX11_best_18 : decode cX11_best 18 = .ok (.getfield 18, 3) := by decide +kernel
theorem dX11_best_21 : decode cX11_best 21 = .ok (.invokevirtual 149, 3) := by decide +kernel
theorem dX11_best_24 : decode cX11_best 24 = .ok (.aload_n 0, 1) := by decide +kernel
theorem dX11_best_25 : decode cX11_best 25 = .ok (.getfield 32, 3) := by decide +kernel
theorem dX11_best_28 : decode cX11_best 28 = .ok (.invokevirtual 107, 3) := by decide +kernel
theorem dX11_best_31 : decode cX11_best 31 = .ok (.aload_n 0, 1) := by decide +kernel
theorem dX11_best_32 : decode cX11_best 32 = .ok (.getfield 18, 3) := by decide +kernel
theorem dX11_best_35 : decode cX11_best 35 = .ok (.invokevirtual 146, 3) := by decide +kernel
theorem dX11_best_38 : decode cX11_best 38 = .ok (.ireturn, 1) := by decide +kernel
set_option maxRecDepth 20000 in
theorem ggX11_order_X11_isWithin : GoodIn wsX11_order wsX11_isWithin := goodIn_r _ [10] (by decide +kernel) (by decide +kernel)
set_option maxRecDepth 20000 in
theorem gX11_order_X11_isWithin : GoodIn wsX11_order (va_wsS RX11 55 yX11_isWithin wsX11_isWithin) := goodIn_app (goodIn_of _ (by decide +kernel)) ggX11_order_X11_isWithin
theorem dX11_order_0 : decode cX11_order 0 = .ok (.iload_n 2, 1) := by decide +kernel
theorem dX11_order_1 : decode cX11_order 1 = .ok (.iconst 0, 1) := by decide +kernel
theorem dX11_order_2 : decode cX11_order 2 = .ok (.iconst 1, 1) := by decide +kernel
theorem dX11_order_3 : decode cX11_order 3 = .ok (.invokestatic 55, 3) := by decide +kernel
theorem dX11_order_6 : decode cX11_order 6 = .ok (.ifCond .ne 6, 3) := by decide +kernel
theorem dX11_order_9 : decode cX11_order 9 = .ok (.ldc 59, 2) := by decide +kernel
theorem dX11_order_11 : decode cX11_order 11 = .ok (.ireturn, 1) := by decide +kernel
theorem dX11_order_12 : decode cX11_order 12 = .ok (.iload_n 1, 1) := by decide +kernel
theorem dX11_order_13 : decode cX11_order 13 = .ok (.iconst 0, 1) := by decide +kernel
theorem dX11_order_14 : decode cX11_order 14 = .ok (.aload_n 0, 1) := by decide +kernel
theorem dX11_order_15 : decode cX11_order 15 = .ok (.getfield 18, 3) := by decide +kernel
theorem dX11_order_18 : decode cX11_order 18 = .ok (.getfield 100, 3) := by decide +kernel
theorem dX11_order_21 : decode cX11_order 21 = .ok (.iconst 1, 1) := by decide +kernel
theorem dX11_order_22 : decode cX11_order 22 = .ok (.isub, 1) := by decide +kernel
theorem dX11_order_23 : decode cX11_order 23 = .ok (.invokestatic 55, 3) := by decide +kernel
theorem dX11_order_26 : decode cX11_order 26 = .ok (.ifCond .ne 6, 3) := by decide +kernel
theorem dX11_order_29 : decode cX11_order 29 = .ok (.ldc 153, 2) := by decide +kernel
theorem dX11_order_31 : decode cX11_order 31 = .ok (.ireturn, 1) := by decide +kernel
theorem dX11_order_32 : decode cX11_order 32 = .ok (.iload_n 2, 1) := by decide +kernel
theorem dX11_order_33 : decode cX11_order 33 = .ok (.ifCond .ne 15, 3) := by decide +kernel
theorem dX11_order_36 : decode cX11_order 36 = .ok (.aload_n 0, 1) := by decide +kernel
theorem dX11_order_37 : decode cX11_order 37 = .ok (.getfield 18, 3) := by decide +kernel
theorem dX11_order_40 : decode cX11_order 40 = .ok (.getfield 154, 3) := by decide +kernel
theorem dX11_order_43 : decode cX11_order 43 = .ok (.iload_n 1, 1) := by decide +kernel
theorem dX11_order_44 : decode cX11_order 44 = .ok (.iaload, 1) := by decide +kernel
theorem dX11_order_45 : decode cX11_order 45 = .ok (.goto 12, 3) := by decide +kernel
theorem dX11_order_48 : decode cX11_order 48 = .ok (.aload_n 0, 1) := by decide +kernel
theorem dX11_order_49 : decode cX11_order 49 = .ok (.getfield 18, 3) := by decide +kernel
theorem dX11_order_52 : decode cX11_order 52 = .ok (.getfield 157, 3) := by decide +kernel
theorem dX11_order_55 : decode cX11_order 55 = .ok (.iload_n 1, 1) := by decide +kernel
theorem dX11_order_56 : decode cX11_order 56 = .ok (.iaload, 1) := by decide +kernel
theorem dX11_order_57 : decode cX11_order 57 = .ok (.ireturn, 1) := by decide +kernel
set_option maxRecDepth 20000 in
theorem ggX11_rule_X11_isWithin : GoodIn wsX11_rule wsX11_isWithin := goodIn_r _ [8] (by decide +kernel) (by decide +kernel)
set_option maxRecDepth 20000 in
theorem gX11_rule_X11_isWithin : GoodIn wsX11_rule (va_wsS RX11 55 yX11_isWithin wsX11_isWithin) := goodIn_app (goodIn_of _ (by decide +kernel)) ggX11_rule_X11_isWithin
set_option maxRecDepth 20000 in
theorem ggX11_rule_X6_changeRule : GoodIn wsX11_rule wsX6_changeRule := goodIn_r _ [13, 14, 15, 16, 17, 18, 12, 19, 20, 21, 22, 23, 24, 32, 33, 34, 35, 36, 37, 38, 39, 40, 41, 42, 43, 44] (by decide +kernel) (by decide +kernel)
set_option maxRecDepth 20000 in
theorem gX11_rule_X6_changeRule : GoodIn wsX11_rule (wsV RX11 166 RX6 yX6_changeRule wsX6_changeRule) := goodIn_app (goodIn_of _ (by decide +kernel)) ggX11_rule_X6_changeRule
theorem dX11_rule_0 : decode cX11_rule 0 = .ok (.iload_n 1, 1) := by decide +kernel
theorem dX11_rule_1 : decode cX11_rule 1 = .ok (.iconst 0, 1) := by decide +kernel
theorem dX11_rule_2 : decode cX11_rule 2 = .ok (.getstatic 160, 3) := by decide +kernel
theorem dX11_rule_5 : decode cX11_rule 5 = .ok (.arraylength, 1) := by decide +kernel
theorem dX11_rule_6 : decode cX11_rule 6 = .ok (.iconst 1, 1) := by decide +kernel
theorem dX11_rule_7 : decode cX11_rule 7 = .ok (.isub, 1) := by decide +kernel
theorem dX11_rule_8 : decode cX11_rule 8 = .ok (.invokestatic 55, 3) := by decide +kernel
theorem dX11_rule_11 : decode cX11_rule 11 = .ok (.ifCond .eq 20, 3) := by decide +kernel
theorem dX11_rule_14 : decode cX11_rule 14 = .ok (.iload_n 2, 1) := by decide +kernel
theorem dX11_rule_15 : decode cX11_rule 15 = .ok (.getstatic 160, 3) := by decide +kernel
theorem dX11_rule_18 : decode cX11_rule 18 = .ok (.iload_n 1, 1) := by decide +kernel
theorem dX11_rule_19 : decode cX11_rule 19 = .ok (.iaload, 1) := by decide +kernel
theorem dX11_rule_20 : decode cX11_rule 20 = .ok (.getstatic 163, 3) := by decide +kernel
theorem dX11_rule_23 : decode cX11_rule 23 = .ok (.iload_n 1, 1) := by decide +kernel
theorem dX11_rule_24 : decode cX11_rule 24 = .ok (.iaload, 1) := by decide +kernel
theorem dX11_rule_25 : decode cX11_rule 25 = .ok (.invokestatic 55, 3) := by decide +kernel
theorem dX11_rule_28 : decode cX11_rule 28 = .ok (.ifCond .ne 6, 3) := by decide +kernel
theorem dX11_rule_31 : decode cX11_rule 31 = .ok (.ldc 59, 2) := by decide +kernel
theorem dX11_rule_33 : decode cX11_rule 33 = .ok (.ireturn, 1) := by decide +kernel
theorem dX11_rule_34 : decode cX11_rule 34 = .ok (.aload_n 0, 1) := by decide +kernel
theorem dX11_rule_35 : decode cX11_rule 35 = .ok (.getfield 32, 3) := by decide +kernel
theorem dX11_rule_38 : decode cX11_rule 38 = .ok (.iload_n 1, 1) := by decide +kernel
theorem dX11_rule_39 : decode cX11_rule 39 = .ok (.iload_n 2, 1) := by decide +kernel
theorem dX11_rule_40 : decode cX11_rule 40 = .ok (.invokevirtual 166, 3) := by decide +kernel
theorem dX11_rule_43 : decode cX11_rule 43 = .ok (.ireturn, 1) := by decide +kernel
set_option maxRecDepth 20000 in
theorem ggX11_zone_X11_isZone : GoodIn wsX11_zone wsX11_isZone := goodIn_r _ [6, 7, 8, 5, 9] (by decide +kernel) (by decide +kernel)
set_option maxRecDepth 20000 in
theorem gX11_zone_X11_isZone : GoodIn wsX11_zone (va_wsS RX11 169 yX11_isZone wsX11_isZone) := goodIn_app (goodIn_of _ (by decide +kernel)) ggX11_zone_X11_isZone
set_option maxRecDepth 20000 in
theorem ggX11_zone_X6_shutZone : GoodIn wsX11_zone wsX6_shutZone := goodIn_r _ [14, 15, 16, 17, 18, 19, 13, 20, 21, 22, 23, 24, 25, 33, 34, 35, 36, 37, 38, 39, 40, 41, 42, 43, 44, 45] (by decide +kernel) (by decide +kernel)
set_option maxRecDepth 20000 in
theorem gX11_zone_X6_shutZone : GoodIn wsX11_zone (wsV RX11 172 RX6 yX6_shutZone wsX6_shutZone) := goodIn_app (goodIn_of _ (by decide +kernel)) ggX11_zone_X6_shutZone
theorem dX11_zone_0 : decode cX11_zone 0 = .ok (.iload_n 1, 1) := by decide +kernel
theorem dX11_zone_1 : decode cX11_zone 1 = .ok (.invokestatic 169, 3) := by decide +kernel
theorem dX11_zone_4 : decode cX11_zone 4 = .ok (.ifCond .eq 39, 3) := by decide +kernel
theorem dX11_zone_7 : decode cX11_zone 7 = .ok (.iload_n 2, 1) := by decide +kernel
theorem dX11_zone_8 : decode cX11_zone 8 = .ok (.ifCond .lt 35, 3) := by decide +kernel
theorem dX11_zone_11 : decode cX11_zone 11 = .ok (.iload_n 2, 1) := by decide +kernel
theorem dX11_zone_12 : decode cX11_zone 12 = .ok (.iload 4, 2) := by decide +kernel
theorem dX11_zone_14 : decode cX11_zone 14 = .ok (.if_icmp .gt 29, 3) := by decide +kernel
theorem dX11_zone_17 : decode cX11_zone 17 = .ok (.iload 4, 2) := by decide +kernel
theorem dX11_zone_19 : decode cX11_zone 19 = .ok (.sipush 1000, 3) := by decide +kernel
theorem dX11_zone_22 : decode cX11_zone 22 = .ok (.if_icmp .gt 21, 3) := by decide +kernel
theorem dX11_zone_25 : decode cX11_zone 25 = .ok (.iload_n 3, 1) := by decide +kernel
theorem dX11_zone_26 : decode cX11_zone 26 = .ok (.ifCond .lt 17, 3) := by decide +kernel
theorem dX11_zone_29 : decode cX11_zone 29 = .ok (.iload_n 3, 1) := by decide +kernel
theorem dX11_zone_30 : decode cX11_zone 30 = .ok (.iload 5, 2) := by decide +kernel
theorem dX11_zone_32 : decode cX11_zone 32 = .ok (.if_icmp .gt 11, 3) := by decide +kernel
theorem dX11_zone_35 : decode cX11_zone 35 = .ok (.iload 5, 2) := by decide +kernel
theorem dX11_zone_37 : decode cX11_zone 37 = .ok (.sipush 1000, 3) := by decide +kernel
theorem dX11_zone_40 : decode cX11_zone 40 = .ok (.if_icmp .le 6, 3) := by decide +kernel
theorem dX11_zone_43 : decode cX11_zone 43 = .ok (.ldc 59, 2) := by decide +kernel
theorem dX11_zone_45 : decode cX11_zone 45 = .ok (.ireturn, 1) := by decide +kernel
theorem dX11_zone_46 : decode cX11_zone 46 = .ok (.aload_n 0, 1) := by decide +kernel
theorem dX11_zone_47 : decode cX11_zone 47 = .ok (.getfield 32, 3) := by decide +kernel
theorem dX11_zone_50 : decode cX11_zone 50 = .ok (.iload_n 1, 1) := by decide +kernel
theorem dX11_zone_51 : decode cX11_zone 51 = .ok (.iload_n 2, 1) := by decide +kernel
theorem dX11_zone_52 : decode cX11_zone 52 = .ok (.iload_n 3, 1) := by decide +kernel
theorem dX11_zone_53 : decode cX11_zone 53 = .ok (.iload 4, 2) := by decide +kernel
theorem dX11_zone_55 : decode cX11_zone 55 = .ok (.iload 5, 2) := by decide +kernel
theorem dX11_zone_57 : decode cX11_zone 57 = .ok (.invokevirtual 172, 3) := by decide +kernel
theorem dX11_zone_60 : decode cX11_zone 60 = .ok (.iconst 1, 1) := by decide +kernel
theorem dX11_zone_61 : decode cX11_zone 61 = .ok (.ireturn, 1) := by decide +kernel
set_option maxRecDepth 20000 in
theorem ggX11_open_X11_isZone : GoodIn wsX11_open wsX11_isZone := goodIn_r _ [6, 7, 8, 5, 9] (by decide +kernel) (by decide +kernel)
set_option maxRecDepth 20000 in
theorem gX11_open_X11_isZone : GoodIn wsX11_open (va_wsS RX11 169 yX11_isZone wsX11_isZone) := goodIn_app (goodIn_of _ (by decide +kernel)) ggX11_open_X11_isZone
set_option maxRecDepth 20000 in
theorem ggX11_open_X6_openZone : GoodIn wsX11_open wsX6_openZone := goodIn_r _ [14, 15, 16, 17, 18, 13, 19, 20, 21, 22, 23, 24, 32, 33, 34, 35, 36, 37, 38, 39, 40, 41, 42, 43, 44] (by decide +kernel) (by decide +kernel)
set_option maxRecDepth 20000 in
theorem gX11_open_X6_openZone : GoodIn wsX11_open (wsV RX11 176 RX6 yX6_openZone wsX6_openZone) := goodIn_app (goodIn_of _ (by decide +kernel)) ggX11_open_X6_openZone
theorem dX11_open_0 : decode cX11_open 0 = .ok (.iload_n 1, 1) := by decide +kernel
theorem dX11_open_1 : decode cX11_open 1 = .ok (.invokestatic 169, 3) := by decide +kernel
theorem dX11_open_4 : decode cX11_open 4 = .ok (.ifCond .ne 6, 3) := by decide +kernel
theorem dX11_open_7 : decode cX11_open 7 = .ok (.ldc 59, 2) := by decide +kernel
theorem dX11_open_9 : decode cX11_open 9 = .ok (.ireturn, 1) := by decide +kernel
theorem dX11_open_10 : decode cX11_open 10 = .ok (.aload_n 0, 1) := by decide +kernel
theorem dX11_open_11 : decode cX11_open 11 = .ok (.getfield 32, 3) := by decide +kernel
theorem dX11_open_14 : decode cX11_open 14 = .ok (.iload_n 1, 1) := by decide +kernel
theorem dX11_open_15 : decode cX11_open 15 = .ok (.invokevirtual 176, 3) := by decide +kernel
theorem dX11_open_18 : decode cX11_open 18 = .ok (.ifCond .eq 7, 3) := by decide +kernel
theorem dX11_open_21 : decode cX11_open 21 = .ok (.iconst 1, 1) := by decide +kernel
theorem dX11_open_22 : decode cX11_open 22 = .ok (.goto 4, 3) := by decide +kernel
theorem dX11_open_25 : decode cX11_open 25 = .ok (.iconst 0, 1) := by decide +kernel
theorem dX11_open_26 : decode cX11_open 26 = .ok (.ireturn, 1) := by decide +kernel
set_option maxRecDepth 20000 in
theorem ggX11_ticks_X6_reaches : GoodIn wsX11_ticks wsX6_reaches := goodIn_r _ [10, 11, 12, 13, 14, 15, 16, 17, 18, 19, 20, 21, 22, 23, 24, 25, 26, 27, 28, 29, 30, 31, 32, 33, 34, 35, 36, 37, 38, 39, 40, 41, 42, 43, 44, 45, 46, 47, 48, 49, 50, 51, 52, 53, 54, 55, 56, 57, 58, 59, 60, 61, 62, 63, 64, 65, 66, 67, 68, 69, 70, 71, 72, 73, 74, 75, 76, 77, 78, 79, 80, 81, 82, 83, 84, 85, 86, 87, 88, 89, 90, 91, 92, 93, 94, 95, 96, 97, 98, 99, 100, 9, 101, 102, 103, 104, 105, 106, 107, 108, 109, 110, 111, 112, 113, 114, 115, 116, 117, 118, 119, 120, 121, 122, 123, 124, 125, 126, 127, 128, 129, 130, 131, 132, 133, 134, 135, 136, 137, 138, 146, 147, 148, 149, 150, 151, 152, 153, 154, 155, 156, 157, 158, 159, 160, 161, 162, 163, 164, 165, 166, 167, 168, 169, 170, 171, 172, 173, 174, 175] (by decide +kernel) (by decide +kernel)
set_option maxRecDepth 20000 in
theorem gX11_ticks_X6_reaches : GoodIn wsX11_ticks (wsV RX11 179 RX6 yX6_reaches wsX6_reaches) := goodIn_app (goodIn_of _ (by decide +kernel)) ggX11_ticks_X6_reaches
theorem dX11_ticks_0 : decode cX11_ticks 0 = .ok (.aload_n 0, 1) := by decide +kernel
theorem dX11_ticks_1 : decode cX11_ticks 1 = .ok (.getfield 32, 3) := by decide +kernel
theorem dX11_ticks_4 : decode cX11_ticks 4 = .ok (.iconst 1, 1) := by decide +kernel
theorem dX11_ticks_5 : decode cX11_ticks 5 = .ok (.aload_n 0, 1) := by decide +kernel
theorem dX11_ticks_6 : decode cX11_ticks 6 = .ok (.getfield 18, 3) := by decide +kernel
theorem dX11_ticks_9 : decode cX11_ticks 9 = .ok (.invokevirtual 179, 3) := by decide +kernel
theorem dX11_ticks_12 : decode cX11_ticks 12 = .ok (.ifCond .eq 16, 3) := by decide +kernel
theorem dX11_ticks_15 : decode cX11_ticks 15 = .ok (.aload_n 0, 1) := by decide +kernel
theorem dX11_ticks_16 : decode cX11_ticks 16 = .ok (.getfield 32, 3) := by decide +kernel
theorem dX11_ticks_19 : decode cX11_ticks 19 = .ok (.getfield 183, 3) := by decide +kernel
theorem dX11_ticks_22 : decode cX11_ticks 22 = .ok (.getfield 187, 3) := by decide +kernel
theorem dX11_ticks_25 : decode cX11_ticks 25 = .ok (.goto 5, 3) := by decide +kernel
theorem dX11_ticks_28 : decode cX11_ticks 28 = .ok (.ldc 103, 2) := by decide +kernel
theorem dX11_ticks_30 : decode cX11_ticks 30 = .ok (.ireturn, 1) := by decide +kernel
set_option maxRecDepth 20000 in
theorem ggX11_tick_X11_isWithin : GoodIn wsX11_tick wsX11_isWithin := goodIn_r _ [16] (by decide +kernel) (by decide +kernel)
set_option maxRecDepth 20000 in
theorem gX11_tick_X11_isWithin : GoodIn wsX11_tick (va_wsS RX11 55 yX11_isWithin wsX11_isWithin) := goodIn_app (goodIn_of _ (by decide +kernel)) ggX11_tick_X11_isWithin
set_option maxRecDepth 20000 in
theorem ggX11_tick_X6_reaches : GoodIn wsX11_tick wsX6_reaches := goodIn_r _ [21, 22, 23, 24, 25, 26, 27, 28, 29, 30, 31, 32, 33, 34, 35, 36, 37, 38, 39, 40, 41, 42, 43, 44, 45, 46, 47, 48, 49, 50, 51, 52, 53, 54, 55, 56, 57, 58, 59, 60, 61, 62, 63, 64, 65, 66, 67, 68, 69, 70, 71, 72, 73, 74, 75, 76, 77, 78, 79, 80, 81, 82, 83, 84, 85, 86, 87, 88, 15, 89, 90, 91, 92, 93, 94, 95, 96, 97, 98, 99, 100, 101, 102, 103, 104, 105, 106, 107, 108, 109, 110, 20, 111, 112, 113, 114, 115, 116, 117, 118, 119, 120, 121, 122, 123, 124, 125, 126, 127, 128, 129, 130, 131, 132, 133, 134, 135, 136, 137, 138, 14, 16, 139, 140, 141, 142, 143, 144, 145, 146, 160, 161, 162, 163, 164, 165, 166, 167, 168, 169, 170, 171, 172, 173, 174, 175, 176, 177, 178, 179, 180, 181, 182, 183, 184, 185, 186, 187, 188, 189] (by decide +kernel) (by decide +kernel)
set_option maxRecDepth 20000 in
theorem gX11_tick_X6_reaches : GoodIn wsX11_tick (wsV RX11 179 RX6 yX6_reaches wsX6_reaches) := goodIn_app (goodIn_of _ (by decide +kernel)) ggX11_tick_X6_reaches
set_option maxRecDepth 20000 in
theorem ggX11_tick_X6_isLit : GoodIn wsX11_tick wsX6_isLit := goodIn_r _ [150, 139, 140, 141, 20, 142, 24, 23, 123, 133, 134, 135, 136, 137, 27, 138, 29, 14, 15, 16, 160, 161, 162, 163, 164, 165, 166, 167, 168, 169, 170, 171, 172, 173, 174, 175, 176, 177, 178, 179] (by decide +kernel) (by decide +kernel)
set_option maxRecDepth 20000 in
theorem gX11_tick_X6_isLit : GoodIn wsX11_tick (wsV RX11 208 RX6 yX6_isLit wsX6_isLit) := goodIn_app (goodIn_of _ (by decide +kernel)) ggX11_tick_X6_isLit
set_option maxRecDepth 20000 in
theorem ggX11_tick_X6_isShut : GoodIn wsX11_tick wsX6_isShut := goodIn_r _ [136, 137, 27, 138, 29, 14, 15, 16, 160, 161, 162, 163, 164, 165, 166, 167, 168, 169, 170, 171, 172] (by decide +kernel) (by decide +kernel)
set_option maxRecDepth 20000 in
theorem gX11_tick_X6_isShut : GoodIn wsX11_tick (wsV RX11 211 RX6 yX6_isShut wsX6_isShut) := goodIn_app (goodIn_of _ (by decide +kernel)) ggX11_tick_X6_isShut
set_option maxRecDepth 20000 in
theorem ggX11_tick_X6_lagAt : GoodIn wsX11_tick wsX6_lagAt := goodIn_r _ [132, 23, 123, 26, 28, 27, 29, 88, 15, 89, 90, 91, 92, 93, 94, 95, 96, 160, 161, 162, 163, 164, 165, 166, 167, 168, 169, 170, 171, 172, 173, 174, 175, 176, 177, 178, 179] (by decide +kernel) (by decide +kernel)
set_option maxRecDepth 20000 in
theorem gX11_tick_X6_lagAt : GoodIn wsX11_tick (wsV RX11 214 RX6 yX6_lagAt wsX6_lagAt) := goodIn_app (goodIn_of _ (by decide +kernel)) ggX11_tick_X6_lagAt
theorem dX11_tick_0 : decode cX11_tick 0 = .ok (.iload_n 2, 1) := by decide +kernel
theorem dX11_tick_1 : decode cX11_tick 1 = .ok (.iconst 0, 1) := by decide +kernel
theorem dX11_tick_2 : decode cX11_tick 2 = .ok (.bipush 7, 2) := by decide +kernel
theorem dX11_tick_4 : decode cX11_tick 4 = .ok (.invokestatic 55, 3) := by decide +kernel
theorem dX11_tick_7 : decode cX11_tick 7 = .ok (.ifCond .ne 6, 3) := by decide +kernel
theorem dX11_tick_10 : decode cX11_tick 10 = .ok (.ldc 59, 2) := by decide +kernel
theorem dX11_tick_12 : decode cX11_tick 12 = .ok (.ireturn, 1) := by decide +kernel
theorem dX11_tick_13 : decode cX11_tick 13 = .ok (.aload_n 0, 1) := by decide +kernel
theorem dX11_tick_14 : decode cX11_tick 14 = .ok (.getfield 32, 3) := by decide +kernel
theorem dX11_tick_17 : decode cX11_tick 17 = .ok (.iload_n 2, 1) := by decide +kernel
theorem dX11_tick_18 : decode cX11_tick 18 = .ok (.iconst 3, 1) := by decide +kernel
theorem dX11_tick_19 : decode cX11_tick 19 = .ok (.if_icmp .ge 7, 3) := by decide +kernel
theorem dX11_tick_22 : decode cX11_tick 22 = .ok (.iconst 1, 1) := by decide +kernel
theorem dX11_tick_23 : decode cX11_tick 23 = .ok (.goto 4, 3) := by decide +kernel
theorem dX11_tick_26 : decode cX11_tick 26 = .ok (.iconst 2, 1) := by decide +kernel
theorem dX11_tick_27 : decode cX11_tick 27 = .ok (.aload_n 0, 1) := by decide +kernel
theorem dX11_tick_28 : decode cX11_tick 28 = .ok (.getfield 18, 3) := by decide +kernel
theorem dX11_tick_31 : decode cX11_tick 31 = .ok (.invokevirtual 179, 3) := by decide +kernel
theorem dX11_tick_34 : decode cX11_tick 34 = .ok (.ifCond .ne 6, 3) := by decide +kernel
theorem dX11_tick_37 : decode cX11_tick 37 = .ok (.ldc 103, 2) := by decide +kernel
theorem dX11_tick_39 : decode cX11_tick 39 = .ok (.ireturn, 1) := by decide +kernel
theorem dX11_tick_40 : decode cX11_tick 40 = .ok (.iload_n 1, 1) := by decide +kernel
theorem dX11_tick_41 : decode cX11_tick 41 = .ok (.iconst 0, 1) := by decide +kernel
theorem dX11_tick_42 : decode cX11_tick 42 = .ok (.aload_n 0, 1) := by decide +kernel
theorem dX11_tick_43 : decode cX11_tick 43 = .ok (.getfield 32, 3) := by decide +kernel
theorem dX11_tick_46 : decode cX11_tick 46 = .ok (.getfield 183, 3) := by decide +kernel
theorem dX11_tick_49 : decode cX11_tick 49 = .ok (.getfield 187, 3) := by decide +kernel
theorem dX11_tick_52 : decode cX11_tick 52 = .ok (.iconst 1, 1) := by decide +kernel
theorem dX11_tick_53 : decode cX11_tick 53 = .ok (.isub, 1) := by decide +kernel
theorem dX11_tick_54 : decode cX11_tick 54 = .ok (.invokestatic 55, 3) := by decide +kernel
theorem dX11_tick_57 : decode cX11_tick 57 = .ok (.ifCond .ne 6, 3) := by decide +kernel
theorem dX11_tick_60 : decode cX11_tick 60 = .ok (.ldc 153, 2) := by decide +kernel
theorem dX11_tick_62 : decode cX11_tick 62 = .ok (.ireturn, 1) := by decide +kernel
theorem dX11_tick_63 : decode cX11_tick 63 = .ok (.iload_n 2, 1) := by decide +kernel
theorem dX11_tick_64 : decode cX11_tick 64 = .ok (.tableswitch 145 0 6 #[44, 57, 70, 91, 101, 111, 128], 44) := by decide +kernel
theorem dX11_tick_108 : decode cX11_tick 108 = .ok (.aload_n 0, 1) := by decide +kernel
theorem dX11_tick_109 : decode cX11_tick 109 = .ok (.getfield 32, 3) := by decide +kernel
theorem dX11_tick_112 : decode cX11_tick 112 = .ok (.getfield 183, 3) := by decide +kernel
theorem dX11_tick_115 : decode cX11_tick 115 = .ok (.getfield 192, 3) := by decide +kernel
theorem dX11_tick_118 : decode cX11_tick 118 = .ok (.iload_n 1, 1) := by decide +kernel
theorem dX11_tick_119 : decode cX11_tick 119 = .ok (.iaload, 1) := by decide +kernel
theorem dX11_tick_120 : decode cX11_tick 120 = .ok (.ireturn, 1) := by decide +kernel
theorem dX11_tick_121 : decode cX11_tick 121 = .ok (.aload_n 0, 1) := by decide +kernel
theorem dX11_tick_122 : decode cX11_tick 122 = .ok (.getfield 32, 3) := by decide +kernel
theorem dX11_tick_125 : decode cX11_tick 125 = .ok (.getfield 183, 3) := by decide +kernel
theorem dX11_tick_128 : decode cX11_tick 128 = .ok (.getfield 195, 3) := by decide +kernel
theorem dX11_tick_131 : decode cX11_tick 131 = .ok (.iload_n 1, 1) := by decide +kernel
theorem dX11_tick_132 : decode cX11_tick 132 = .ok (.iaload, 1) := by decide +kernel
theorem dX11_tick_133 : decode cX11_tick 133 = .ok (.ireturn, 1) := by decide +kernel
theorem dX11_tick_134 : decode cX11_tick 134 = .ok (.aload_n 0, 1) := by decide +kernel
theorem dX11_tick_135 : decode cX11_tick 135 = .ok (.getfield 32, 3) := by decide +kernel
theorem dX11_tick_138 : decode cX11_tick 138 = .ok (.getfield 183, 3) := by decide +kernel
theorem dX11_tick_141 : decode cX11_tick 141 = .ok (.getfield 198, 3) := by decide +kernel
theorem dX11_tick_144 : decode cX11_tick 144 = .ok (.iload_n 1, 1) := by decide +kernel
theorem dX11_tick_145 : decode cX11_tick 145 = .ok (.baload, 1) := by decide +kernel
theorem dX11_tick_146 : decode cX11_tick 146 = .ok (.ifCond .eq 7, 3) := by decide +kernel
theorem dX11_tick_149 : decode cX11_tick 149 = .ok (.iconst 1, 1) := by decide +kernel
theorem dX11_tick_150 : decode cX11_tick 150 = .ok (.goto 4, 3) := by decide +kernel
theorem dX11_tick_153 : decode cX11_tick 153 = .ok (.iconst 0, 1) := by decide +kernel
theorem dX11_tick_154 : decode cX11_tick 154 = .ok (.ireturn, 1) := by decide +kernel
theorem dX11_tick_155 : decode cX11_tick 155 = .ok (.aload_n 0, 1) := by decide +kernel
theorem dX11_tick_156 : decode cX11_tick 156 = .ok (.getfield 32, 3) := by decide +kernel
theorem dX11_tick_159 : decode cX11_tick 159 = .ok (.getfield 202, 3) := by decide +kernel
theorem dX11_tick_162 : decode cX11_tick 162 = .ok (.iload_n 1, 1) := by decide +kernel
theorem dX11_tick_163 : decode cX11_tick 163 = .ok (.iaload, 1) := by decide +kernel
theorem dX11_tick_164 : decode cX11_tick 164 = .ok (.ireturn, 1) := by decide +kernel
theorem dX11_tick_165 : decode cX11_tick 165 = .ok (.aload_n 0, 1) := by decide +kernel
theorem dX11_tick_166 : decode cX11_tick 166 = .ok (.getfield 32, 3) := by decide +kernel
theorem dX11_tick_169 : decode cX11_tick 169 = .ok (.getfield 205, 3) := by decide +kernel
theorem dX11_tick_172 : decode cX11_tick 172 = .ok (.iload_n 1, 1) := by decide +kernel
theorem dX11_tick_173 : decode cX11_tick 173 = .ok (.iaload, 1) := by decide +kernel
theorem dX11_tick_174 : decode cX11_tick 174 = .ok (.ireturn, 1) := by decide +kernel
theorem dX11_tick_175 : decode cX11_tick 175 = .ok (.aload_n 0, 1) := by decide +kernel
theorem dX11_tick_176 : decode cX11_tick 176 = .ok (.getfield 32, 3) := by decide +kernel
theorem dX11_tick_179 : decode cX11_tick 179 = .ok (.iload_n 1, 1) := by decide +kernel
theorem dX11_tick_180 : decode cX11_tick 180 = .ok (.invokevirtual 208, 3) := by decide +kernel
theorem dX11_tick_183 : decode cX11_tick 183 = .ok (.ifCond .eq 7, 3) := by decide +kernel
theorem dX11_tick_186 : decode cX11_tick 186 = .ok (.iconst 1, 1) := by decide +kernel
theorem dX11_tick_187 : decode cX11_tick 187 = .ok (.goto 4, 3) := by decide +kernel
theorem dX11_tick_190 : decode cX11_tick 190 = .ok (.iconst 0, 1) := by decide +kernel
theorem dX11_tick_191 : decode cX11_tick 191 = .ok (.ireturn, 1) := by decide +kernel
theorem dX11_tick_192 : decode cX11_tick 192 = .ok (.aload_n 0, 1) := by decide +kernel
theorem dX11_tick_193 : decode cX11_tick 193 = .ok (.getfield 32, 3) := by decide +kernel
theorem dX11_tick_196 : decode cX11_tick 196 = .ok (.iload_n 1, 1) := by decide +kernel
theorem dX11_tick_197 : decode cX11_tick 197 = .ok (.invokevirtual 211, 3) := by decide +kernel
theorem dX11_tick_200 : decode cX11_tick 200 = .ok (.ifCond .eq 7, 3) := by decide +kernel
theorem dX11_tick_203 : decode cX11_tick 203 = .ok (.iconst 1, 1) := by decide +kernel
theorem dX11_tick_204 : decode cX11_tick 204 = .ok (.goto 4, 3) := by decide +kernel
theorem dX11_tick_207 : decode cX11_tick 207 = .ok (.iconst 0, 1) := by decide +kernel
theorem dX11_tick_208 : decode cX11_tick 208 = .ok (.ireturn, 1) := by decide +kernel
theorem dX11_tick_209 : decode cX11_tick 209 = .ok (.aload_n 0, 1) := by decide +kernel
theorem dX11_tick_210 : decode cX11_tick 210 = .ok (.getfield 32, 3) := by decide +kernel
theorem dX11_tick_213 : decode cX11_tick 213 = .ok (.iload_n 1, 1) := by decide +kernel
theorem dX11_tick_214 : decode cX11_tick 214 = .ok (.invokevirtual 214, 3) := by decide +kernel
theorem dX11_tick_217 : decode cX11_tick 217 = .ok (.ireturn, 1) := by decide +kernel
set_option maxRecDepth 20000 in
theorem ggX11_all_X11_isWithin : GoodIn wsX11_all wsX11_isWithin := goodIn_r _ [14] (by decide +kernel) (by decide +kernel)
set_option maxRecDepth 20000 in
theorem gX11_all_X11_isWithin : GoodIn wsX11_all (va_wsS RX11 55 yX11_isWithin wsX11_isWithin) := goodIn_app (goodIn_of _ (by decide +kernel)) ggX11_all_X11_isWithin
set_option maxRecDepth 20000 in
theorem ggX11_all_X6_reaches : GoodIn wsX11_all wsX6_reaches := goodIn_r _ [19, 20, 21, 22, 23, 24, 25, 26, 27, 28, 29, 30, 31, 32, 33, 34, 35, 36, 37, 38, 39, 40, 41, 42, 43, 44, 45, 46, 47, 48, 49, 50, 51, 52, 53, 54, 55, 56, 57, 58, 59, 60, 61, 62, 63, 64, 65, 66, 67, 68, 69, 70, 71, 72, 73, 74, 75, 76, 77, 78, 79, 80, 81, 82, 83, 84, 85, 86, 13, 87, 88, 89, 90, 91, 92, 93, 94, 95, 96, 97, 98, 99, 100, 101, 102, 103, 104, 105, 106, 107, 108, 18, 109, 110, 111, 112, 113, 114, 115, 116, 117, 118, 119, 120, 121, 122, 123, 124, 125, 126, 127, 128, 129, 130, 131, 132, 133, 134, 135, 136, 12, 14, 137, 138, 139, 140, 141, 142, 143, 144, 152, 153, 154, 155, 156, 157, 158, 159, 160, 161, 162, 163, 164, 165, 166, 167, 168, 169, 170, 171, 172, 173, 174, 175, 176, 177, 178, 179, 180, 181] (by decide +kernel) (by decide +kernel)
set_option maxRecDepth 20000 in
theorem gX11_all_X6_reaches : GoodIn wsX11_all (wsV RX11 179 RX6 yX6_reaches wsX6_reaches) := goodIn_app (goodIn_of _ (by decide +kernel)) ggX11_all_X6_reaches
theorem dX11_all_0 : decode cX11_all 0 = .ok (.iload_n 1, 1) := by decide +kernel
theorem dX11_all_1 : decode cX11_all 1 = .ok (.iconst 0, 1) := by decide +kernel
theorem dX11_all_2 : decode cX11_all 2 = .ok (.iconst 5, 1) := by decide +kernel
theorem dX11_all_3 : decode cX11_all 3 = .ok (.invokestatic 55, 3) := by decide +kernel
theorem dX11_all_6 : decode cX11_all 6 = .ok (.ifCond .ne 6, 3) := by decide +kernel
theorem dX11_all_9 : decode cX11_all 9 = .ok (.ldc 59, 2) := by decide +kernel
theorem dX11_all_11 : decode cX11_all 11 = .ok (.ireturn, 1) := by decide +kernel
theorem dX11_all_12 : decode cX11_all 12 = .ok (.aload_n 0, 1) := by decide +kernel
theorem dX11_all_13 : decode cX11_all 13 = .ok (.getfield 32, 3) := by decide +kernel
theorem dX11_all_16 : decode cX11_all 16 = .ok (.iconst 3, 1) := by decide +kernel
theorem dX11_all_17 : decode cX11_all 17 = .ok (.aload_n 0, 1) := by decide +kernel
theorem dX11_all_18 : decode cX11_all 18 = .ok (.getfield 18, 3) := by decide +kernel
theorem dX11_all_21 : decode cX11_all 21 = .ok (.invokevirtual 179, 3) := by decide +kernel
theorem dX11_all_24 : decode cX11_all 24 = .ok (.ifCond .ne 6, 3) := by decide +kernel
theorem dX11_all_27 : decode cX11_all 27 = .ok (.ldc 103, 2) := by decide +kernel
theorem dX11_all_29 : decode cX11_all 29 = .ok (.ireturn, 1) := by decide +kernel
theorem dX11_all_30 : decode cX11_all 30 = .ok (.iload_n 1, 1) := by decide +kernel
theorem dX11_all_31 : decode cX11_all 31 = .ok (.tableswitch 73 0 4 #[33, 41, 49, 57, 65], 33) := by decide +kernel
theorem dX11_all_64 : decode cX11_all 64 = .ok (.aload_n 0, 1) := by decide +kernel
theorem dX11_all_65 : decode cX11_all 65 = .ok (.getfield 32, 3) := by decide +kernel
theorem dX11_all_68 : decode cX11_all 68 = .ok (.getfield 217, 3) := by decide +kernel
theorem dX11_all_71 : decode cX11_all 71 = .ok (.ireturn, 1) := by decide +kernel
theorem dX11_all_72 : decode cX11_all 72 = .ok (.aload_n 0, 1) := by decide +kernel
theorem dX11_all_73 : decode cX11_all 73 = .ok (.getfield 32, 3) := by decide +kernel
theorem dX11_all_76 : decode cX11_all 76 = .ok (.getfield 220, 3) := by decide +kernel
theorem dX11_all_79 : decode cX11_all 79 = .ok (.ireturn, 1) := by decide +kernel
theorem dX11_all_80 : decode cX11_all 80 = .ok (.aload_n 0, 1) := by decide +kernel
theorem dX11_all_81 : decode cX11_all 81 = .ok (.getfield 32, 3) := by decide +kernel
theorem dX11_all_84 : decode cX11_all 84 = .ok (.getfield 223, 3) := by decide +kernel
theorem dX11_all_87 : decode cX11_all 87 = .ok (.ireturn, 1) := by decide +kernel
theorem dX11_all_88 : decode cX11_all 88 = .ok (.aload_n 0, 1) := by decide +kernel
theorem dX11_all_89 : decode cX11_all 89 = .ok (.getfield 32, 3) := by decide +kernel
theorem dX11_all_92 : decode cX11_all 92 = .ok (.getfield 226, 3) := by decide +kernel
theorem dX11_all_95 : decode cX11_all 95 = .ok (.ireturn, 1) := by decide +kernel
theorem dX11_all_96 : decode cX11_all 96 = .ok (.aload_n 0, 1) := by decide +kernel
theorem dX11_all_97 : decode cX11_all 97 = .ok (.getfield 32, 3) := by decide +kernel
theorem dX11_all_100 : decode cX11_all 100 = .ok (.getfield 229, 3) := by decide +kernel
theorem dX11_all_103 : decode cX11_all 103 = .ok (.ireturn, 1) := by decide +kernel
theorem dX11_all_104 : decode cX11_all 104 = .ok (.aload_n 0, 1) := by decide +kernel
theorem dX11_all_105 : decode cX11_all 105 = .ok (.getfield 32, 3) := by decide +kernel
theorem dX11_all_108 : decode cX11_all 108 = .ok (.getfield 229, 3) := by decide +kernel
theorem dX11_all_111 : decode cX11_all 111 = .ok (.aload_n 0, 1) := by decide +kernel
theorem dX11_all_112 : decode cX11_all 112 = .ok (.getfield 32, 3) := by decide +kernel
theorem dX11_all_115 : decode cX11_all 115 = .ok (.getfield 232, 3) := by decide +kernel
theorem dX11_all_118 : decode cX11_all 118 = .ok (.iconst 5, 1) := by decide +kernel
theorem dX11_all_119 : decode cX11_all 119 = .ok (.iaload, 1) := by decide +kernel
theorem dX11_all_120 : decode cX11_all 120 = .ok (.if_icmp .gt 7, 3) := by decide +kernel
theorem dX11_all_123 : decode cX11_all 123 = .ok (.iconst 1, 1) := by decide +kernel
theorem dX11_all_124 : decode cX11_all 124 = .ok (.goto 4, 3) := by decide +kernel
theorem dX11_all_127 : decode cX11_all 127 = .ok (.iconst 0, 1) := by decide +kernel
theorem dX11_all_128 : decode cX11_all 128 = .ok (.ireturn, 1) := by decide +kernel
set_option maxRecDepth 20000 in
theorem ggX11_burn_X11_isWithin : GoodIn wsX11_burn wsX11_isWithin := goodIn_r _ [9] (by decide +kernel) (by decide +kernel)
set_option maxRecDepth 20000 in
theorem gX11_burn_X11_isWithin : GoodIn wsX11_burn (va_wsS RX11 55 yX11_isWithin wsX11_isWithin) := goodIn_app (goodIn_of _ (by decide +kernel)) ggX11_burn_X11_isWithin
set_option maxRecDepth 20000 in
theorem ggX11_burn_X6_reaches : GoodIn wsX11_burn wsX6_reaches := goodIn_r _ [14, 15, 16, 17, 18, 19, 20, 21, 22, 23, 24, 25, 26, 27, 28, 29, 30, 31, 32, 33, 34, 35, 36, 37, 38, 39, 40, 41, 42, 43, 44, 45, 46, 47, 48, 49, 50, 51, 52, 53, 54, 55, 56, 57, 58, 59, 60, 61, 62, 63, 64, 65, 66, 67, 68, 69, 70, 71, 72, 73, 74, 75, 76, 77, 78, 79, 80, 81, 8, 82, 83, 84, 85, 86, 87, 88, 89, 90, 91, 92, 93, 94, 95, 96, 97, 98, 99, 100, 101, 102, 103, 13, 104, 105, 106, 107, 108, 109, 110, 111, 112, 113, 114, 115, 116, 117, 118, 119, 120, 121, 122, 123, 124, 125, 126, 127, 128, 129, 130, 131, 7, 9, 132, 133, 134, 135, 136, 137, 138, 139, 147, 148, 149, 150, 151, 152, 153, 154, 155, 156, 157, 158, 159, 160, 161, 162, 163, 164, 165, 166, 167, 168, 169, 170, 171, 172, 173, 174, 175, 176] (by decide +kernel) (by decide +kernel)
set_option maxRecDepth 20000 in
theorem gX11_burn_X6_reaches : GoodIn wsX11_burn (wsV RX11 179 RX6 yX6_reaches wsX6_reaches) := goodIn_app (goodIn_of _ (by decide +kernel)) ggX11_burn_X6_reaches
theorem dX11_burn_0 : decode cX11_burn 0 = .ok (.iload_n 1, 1) := by decide +kernel
theorem dX11_burn_1 : decode cX11_burn 1 = .ok (.iconst 0, 1) := by decide +kernel
theorem dX11_burn_2 : decode cX11_burn 2 = .ok (.bipush 10, 2) := by decide +kernel
theorem dX11_burn_4 : decode cX11_burn 4 = .ok (.invokestatic 55, 3) := by decide +kernel
theorem dX11_burn_7 : decode cX11_burn 7 = .ok (.ifCond .eq 13, 3) := by decide +kernel
theorem dX11_burn_10 : decode cX11_burn 10 = .ok (.iload_n 2, 1) := by decide +kernel
theorem dX11_burn_11 : decode cX11_burn 11 = .ok (.iconst 0, 1) := by decide +kernel
theorem dX11_burn_12 : decode cX11_burn 12 = .ok (.bipush 10, 2) := by decide +kernel
theorem dX11_burn_14 : decode cX11_burn 14 = .ok (.invokestatic 55, 3) := by decide +kernel
theorem dX11_burn_17 : decode cX11_burn 17 = .ok (.ifCond .ne 6, 3) := by decide +kernel
theorem dX11_burn_20 : decode cX11_burn 20 = .ok (.ldc 59, 2) := by decide +kernel
theorem dX11_burn_22 : decode cX11_burn 22 = .ok (.ireturn, 1) := by decide +kernel
theorem dX11_burn_23 : decode cX11_burn 23 = .ok (.aload_n 0, 1) := by decide +kernel
theorem dX11_burn_24 : decode cX11_burn 24 = .ok (.getfield 32, 3) := by decide +kernel
theorem dX11_burn_27 : decode cX11_burn 27 = .ok (.iconst 3, 1) := by decide +kernel
theorem dX11_burn_28 : decode cX11_burn 28 = .ok (.aload_n 0, 1) := by decide +kernel
theorem dX11_burn_29 : decode cX11_burn 29 = .ok (.getfield 18, 3) := by decide +kernel
theorem dX11_burn_32 : decode cX11_burn 32 = .ok (.invokevirtual 179, 3) := by decide +kernel
theorem dX11_burn_35 : decode cX11_burn 35 = .ok (.ifCond .eq 17, 3) := by decide +kernel
theorem dX11_burn_38 : decode cX11_burn 38 = .ok (.aload_n 0, 1) := by decide +kernel
theorem dX11_burn_39 : decode cX11_burn 39 = .ok (.getfield 32, 3) := by decide +kernel
theorem dX11_burn_42 : decode cX11_burn 42 = .ok (.getfield 235, 3) := by decide +kernel
theorem dX11_burn_45 : decode cX11_burn 45 = .ok (.iload_n 1, 1) := by decide +kernel
theorem dX11_burn_46 : decode cX11_burn 46 = .ok (.aaload, 1) := by decide +kernel
theorem dX11_burn_47 : decode cX11_burn 47 = .ok (.iload_n 2, 1) := by decide +kernel
theorem dX11_burn_48 : decode cX11_burn 48 = .ok (.iaload, 1) := by decide +kernel
theorem dX11_burn_49 : decode cX11_burn 49 = .ok (.goto 5, 3) := by decide +kernel
theorem dX11_burn_52 : decode cX11_burn 52 = .ok (.ldc 103, 2) := by decide +kernel
theorem dX11_burn_54 : decode cX11_burn 54 = .ok (.ireturn, 1) := by decide +kernel
set_option maxRecDepth 20000 in
theorem ggX11_feed_X11_isWithin : GoodIn wsX11_feed wsX11_isWithin := goodIn_r _ [8] (by decide +kernel) (by decide +kernel)
set_option maxRecDepth 20000 in
theorem gX11_feed_X11_isWithin : GoodIn wsX11_feed (va_wsS RX11 55 yX11_isWithin wsX11_isWithin) := goodIn_app (goodIn_of _ (by decide +kernel)) ggX11_feed_X11_isWithin
set_option maxRecDepth 20000 in
theorem ggX11_feed_X0_takeBytes : GoodIn wsX11_feed wsX0_takeBytes := goodIn_r _ [13, 14, 15, 23, 24, 25, 26, 27, 28, 29, 30, 31, 32] (by decide +kernel) (by decide +kernel)
set_option maxRecDepth 20000 in
theorem gX11_feed_X0_takeBytes : GoodIn wsX11_feed (wsV RX11 239 RX0 yX0_takeBytes wsX0_takeBytes) := goodIn_app (goodIn_of _ (by decide +kernel)) ggX11_feed_X0_takeBytes
theorem dX11_feed_0 : decode cX11_feed 0 = .ok (.iload_n 3, 1) := by decide +kernel
theorem dX11_feed_1 : decode cX11_feed 1 = .ok (.iconst 1, 1) := by decide +kernel
theorem dX11_feed_2 : decode cX11_feed 2 = .ok (.bipush 8, 2) := by decide +kernel
theorem dX11_feed_4 : decode cX11_feed 4 = .ok (.invokestatic 55, 3) := by decide +kernel
theorem dX11_feed_7 : decode cX11_feed 7 = .ok (.ifCond .ne 6, 3) := by decide +kernel
theorem dX11_feed_10 : decode cX11_feed 10 = .ok (.ldc 59, 2) := by decide +kernel
theorem dX11_feed_12 : decode cX11_feed 12 = .ok (.ireturn, 1) := by decide +kernel
theorem dX11_feed_13 : decode cX11_feed 13 = .ok (.aload_n 0, 1) := by decide +kernel
theorem dX11_feed_14 : decode cX11_feed 14 = .ok (.getfield 39, 3) := by decide +kernel
theorem dX11_feed_17 : decode cX11_feed 17 = .ok (.lload_n 1, 1) := by decide +kernel
theorem dX11_feed_18 : decode cX11_feed 18 = .ok (.iload_n 3, 1) := by decide +kernel
theorem dX11_feed_19 : decode cX11_feed 19 = .ok (.invokevirtual 239, 3) := by decide +kernel
theorem dX11_feed_22 : decode cX11_feed 22 = .ok (.ifCond .eq 13, 3) := by decide +kernel
theorem dX11_feed_25 : decode cX11_feed 25 = .ok (.aload_n 0, 1) := by decide +kernel
theorem dX11_feed_26 : decode cX11_feed 26 = .ok (.getfield 39, 3) := by decide +kernel
theorem dX11_feed_29 : decode cX11_feed 29 = .ok (.getfield 243, 3) := by decide +kernel
theorem dX11_feed_32 : decode cX11_feed 32 = .ok (.goto 5, 3) := by decide +kernel
theorem dX11_feed_35 : decode cX11_feed 35 = .ok (.ldc 103, 2) := by decide +kernel
theorem dX11_feed_37 : decode cX11_feed 37 = .ok (.ireturn, 1) := by decide +kernel
set_option maxRecDepth 20000 in
theorem ggX11_cues_X0_readTape : GoodIn wsX11_cues wsX0_readTape := goodIn_r _ [6, 7, 8, 9, 10, 11, 12, 13, 14, 15, 16, 17, 18, 19, 5, 20, 21, 22, 23, 24, 25, 26, 27, 28, 29, 30, 31, 32, 33, 34, 35, 36, 37, 38, 39, 40, 41, 42, 43, 44, 45, 46, 47, 48, 49, 50, 51, 52, 53, 54, 55, 56, 57, 58, 59, 60, 61, 62, 63, 64, 65, 66, 67, 68, 69, 70, 71, 72, 73, 74, 75, 76, 77, 78, 79, 80, 81, 82, 83, 84, 85, 86, 87, 88, 89, 90, 91, 92, 93, 94, 95, 96, 104, 105, 106, 107, 108, 109, 110, 111, 112, 113] (by decide +kernel) (by decide +kernel)
set_option maxRecDepth 20000 in
theorem gX11_cues_X0_readTape : GoodIn wsX11_cues (wsV RX11 244 RX0 yX0_readTape wsX0_readTape) := goodIn_app (goodIn_of _ (by decide +kernel)) ggX11_cues_X0_readTape
theorem dX11_cues_0 : decode cX11_cues 0 = .ok (.aload_n 0, 1) := by decide +kernel
theorem dX11_cues_1 : decode cX11_cues 1 = .ok (.getfield 39, 3) := by decide +kernel
theorem dX11_cues_4 : decode cX11_cues 4 = .ok (.invokevirtual 244, 3) := by decide +kernel
theorem dX11_cues_7 : decode cX11_cues 7 = .ok (.ireturn, 1) := by decide +kernel
theorem dX11_fault_0 : decode cX11_fault 0 = .ok (.aload_n 0, 1) := by decide +kernel
theorem dX11_fault_1 : decode cX11_fault 1 = .ok (.getfield 39, 3) := by decide +kernel
theorem dX11_fault_4 : decode cX11_fault 4 = .ok (.getfield 247, 3) := by decide +kernel
theorem dX11_fault_7 : decode cX11_fault 7 = .ok (.ireturn, 1) := by decide +kernel
set_option maxRecDepth 20000 in
theorem ggX11_frame_X11_isWithin : GoodIn wsX11_frame wsX11_isWithin := goodIn_r _ [6] (by decide +kernel) (by decide +kernel)
set_option maxRecDepth 20000 in
theorem gX11_frame_X11_isWithin : GoodIn wsX11_frame (va_wsS RX11 55 yX11_isWithin wsX11_isWithin) := goodIn_app (goodIn_of _ (by decide +kernel)) ggX11_frame_X11_isWithin
set_option maxRecDepth 20000 in
theorem ggX11_frame_X0_shownAt : GoodIn wsX11_frame wsX0_shownAt := goodIn_r _ [11, 12, 13, 28, 29, 30, 31, 32, 33, 34, 35, 36, 37] (by decide +kernel) (by decide +kernel)
set_option maxRecDepth 20000 in
theorem gX11_frame_X0_shownAt : GoodIn wsX11_frame (wsV RX11 250 RX0 yX0_shownAt wsX0_shownAt) := goodIn_app (goodIn_of _ (by decide +kernel)) ggX11_frame_X0_shownAt
set_option maxRecDepth 20000 in
theorem ggX11_frame_X0_levelAt : GoodIn wsX11_frame wsX0_levelAt := goodIn_r _ [17, 12, 13, 18, 19, 10, 20, 28, 29, 30, 31, 32, 33, 34, 35, 36, 37] (by decide +kernel) (by decide +kernel)
set_option maxRecDepth 20000 in
theorem gX11_frame_X0_levelAt : GoodIn wsX11_frame (wsV RX11 253 RX0 yX0_levelAt wsX0_levelAt) := goodIn_app (goodIn_of _ (by decide +kernel)) ggX11_frame_X0_levelAt
theorem dX11_frame_0 : decode cX11_frame 0 = .ok (.iload_n 1, 1) := by decide +kernel
theorem dX11_frame_1 : decode cX11_frame 1 = .ok (.iconst 0, 1) := by decide +kernel
theorem dX11_frame_2 : decode cX11_frame 2 = .ok (.sipush 20000, 3) := by decide +kernel
theorem dX11_frame_5 : decode cX11_frame 5 = .ok (.invokestatic 55, 3) := by decide +kernel
theorem dX11_frame_8 : decode cX11_frame 8 = .ok (.ifCond .eq 12, 3) := by decide +kernel
theorem dX11_frame_11 : decode cX11_frame 11 = .ok (.iload_n 2, 1) := by decide +kernel
theorem dX11_frame_12 : decode cX11_frame 12 = .ok (.iconst 0, 1) := by decide +kernel
theorem dX11_frame_13 : decode cX11_frame 13 = .ok (.iconst 1, 1) := by decide +kernel
theorem dX11_frame_14 : decode cX11_frame 14 = .ok (.invokestatic 55, 3) := by decide +kernel
theorem dX11_frame_17 : decode cX11_frame 17 = .ok (.ifCond .ne 6, 3) := by decide +kernel
theorem dX11_frame_20 : decode cX11_frame 20 = .ok (.ldc 59, 2) := by decide +kernel
theorem dX11_frame_22 : decode cX11_frame 22 = .ok (.ireturn, 1) := by decide +kernel
theorem dX11_frame_23 : decode cX11_frame 23 = .ok (.iload_n 2, 1) := by decide +kernel
theorem dX11_frame_24 : decode cX11_frame 24 = .ok (.ifCond .ne 14, 3) := by decide +kernel
theorem dX11_frame_27 : decode cX11_frame 27 = .ok (.aload_n 0, 1) := by decide +kernel
theorem dX11_frame_28 : decode cX11_frame 28 = .ok (.getfield 39, 3) := by decide +kernel
theorem dX11_frame_31 : decode cX11_frame 31 = .ok (.iload_n 1, 1) := by decide +kernel
theorem dX11_frame_32 : decode cX11_frame 32 = .ok (.invokevirtual 250, 3) := by decide +kernel
theorem dX11_frame_35 : decode cX11_frame 35 = .ok (.goto 11, 3) := by decide +kernel
theorem dX11_frame_38 : decode cX11_frame 38 = .ok (.aload_n 0, 1) := by decide +kernel
theorem dX11_frame_39 : decode cX11_frame 39 = .ok (.getfield 39, 3) := by decide +kernel
theorem dX11_frame_42 : decode cX11_frame 42 = .ok (.iload_n 1, 1) := by decide +kernel
theorem dX11_frame_43 : decode cX11_frame 43 = .ok (.invokevirtual 253, 3) := by decide +kernel
theorem dX11_frame_46 : decode cX11_frame 46 = .ok (.ireturn, 1) := by decide +kernel
set_option maxRecDepth 20000 in
theorem ggX11_kind_X9_at : GoodIn wsX11_kind wsX9_at := goodIn_r _ [7, 8, 9, 27, 28, 29, 30] (by decide +kernel) (by decide +kernel)
set_option maxRecDepth 20000 in
theorem gX11_kind_X9_at : GoodIn wsX11_kind (wsV RX11 118 RX9 yX9_at wsX9_at) := goodIn_app (goodIn_of _ (by decide +kernel)) ggX11_kind_X9_at
set_option maxRecDepth 20000 in
theorem ggX11_kind_X8_kindTold : GoodIn wsX11_kind wsX8_kindTold := goodIn_r _ [15, 16, 17] (by decide +kernel) (by decide +kernel)
set_option maxRecDepth 20000 in
theorem gX11_kind_X8_kindTold_u256X1 : GoodIn wsX11_kind (va_wsU RX11 256 RX1 "LightLines$Stroke" ⟨"LightLines$Stroke", "kindTold", "()I"⟩ yX8_kindTold wsX8_kindTold) := goodIn_app (goodIn_of _ (by decide +kernel)) ggX11_kind_X8_kindTold
set_option maxRecDepth 20000 in
theorem gX11_kind_X8_kindTold_u256X2 : GoodIn wsX11_kind (va_wsU RX11 256 RX2 "LightLines$Stroke" ⟨"LightLines$Stroke", "kindTold", "()I"⟩ yX8_kindTold wsX8_kindTold) := goodIn_app (goodIn_of _ (by decide +kernel)) ggX11_kind_X8_kindTold
set_option maxRecDepth 20000 in
theorem gX11_kind_X8_kindTold_u256X7 : GoodIn wsX11_kind (va_wsU RX11 256 RX7 "LightLines$Stroke" ⟨"LightLines$Stroke", "kindTold", "()I"⟩ yX8_kindTold wsX8_kindTold) := goodIn_app (goodIn_of _ (by decide +kernel)) ggX11_kind_X8_kindTold
theorem dX11_kind_0 : decode cX11_kind 0 = .ok (.aload_n 0, 1) := by decide +kernel
theorem dX11_kind_1 : decode cX11_kind 1 = .ok (.getfield 18, 3) := by decide +kernel
theorem dX11_kind_4 : decode cX11_kind 4 = .ok (.iload_n 1, 1) := by decide +kernel
theorem dX11_kind_5 : decode cX11_kind 5 = .ok (.invokevirtual 118, 3) := by decide +kernel
theorem dX11_kind_8 : decode cX11_kind 8 = .ok (.astore_n 2, 1) := by decide +kernel
theorem dX11_kind_9 : decode cX11_kind 9 = .ok (.aload_n 2, 1) := by decide +kernel
theorem dX11_kind_10 : decode cX11_kind 10 = .ok (.ifnonnull 8, 3) := by decide +kernel
theorem dX11_kind_13 : decode cX11_kind 13 = .ok (.ldc 59, 2) := by decide +kernel
theorem dX11_kind_15 : decode cX11_kind 15 = .ok (.goto 7, 3) := by decide +kernel
theorem dX11_kind_18 : decode cX11_kind 18 = .ok (.aload_n 2, 1) := by decide +kernel
theorem dX11_kind_19 : decode cX11_kind 19 = .ok (.invokevirtual 256, 3) := by decide +kernel
theorem dX11_kind_22 : decode cX11_kind 22 = .ok (.ireturn, 1) := by decide +kernel
set_option maxRecDepth 20000 in
theorem ggX11_as_X9_at : GoodIn wsX11_as wsX9_at := goodIn_r _ [7, 8, 9, 50, 51, 52, 53] (by decide +kernel) (by decide +kernel)
set_option maxRecDepth 20000 in
theorem gX11_as_X9_at : GoodIn wsX11_as (wsV RX11 118 RX9 yX9_at wsX9_at) := goodIn_app (goodIn_of _ (by decide +kernel)) ggX11_as_X9_at
set_option maxRecDepth 20000 in
theorem ggX11_as_X11_isWithin : GoodIn wsX11_as wsX11_isWithin := goodIn_r _ [13] (by decide +kernel) (by decide +kernel)
set_option maxRecDepth 20000 in
theorem gX11_as_X11_isWithin : GoodIn wsX11_as (va_wsS RX11 55 yX11_isWithin wsX11_isWithin) := goodIn_app (goodIn_of _ (by decide +kernel)) ggX11_as_X11_isWithin
set_option maxRecDepth 20000 in
theorem ggX11_as_X8_isOf : GoodIn wsX11_as wsX8_isOf := goodIn_r _ [19, 20, 21, 22] (by decide +kernel) (by decide +kernel)
set_option maxRecDepth 20000 in
theorem gX11_as_X8_isOf_u259X1 : GoodIn wsX11_as (va_wsU RX11 259 RX1 "LightLines$Stroke" ⟨"LightLines$Stroke", "isOf", "(I)Z"⟩ yX8_isOf wsX8_isOf) := goodIn_app (goodIn_of _ (by decide +kernel)) ggX11_as_X8_isOf
set_option maxRecDepth 20000 in
theorem gX11_as_X8_isOf_u259X2 : GoodIn wsX11_as (va_wsU RX11 259 RX2 "LightLines$Stroke" ⟨"LightLines$Stroke", "isOf", "(I)Z"⟩ yX8_isOf wsX8_isOf) := goodIn_app (goodIn_of _ (by decide +kernel)) ggX11_as_X8_isOf
set_option maxRecDepth 20000 in
theorem gX11_as_X8_isOf_u259X7 : GoodIn wsX11_as (va_wsU RX11 259 RX7 "LightLines$Stroke" ⟨"LightLines$Stroke", "isOf", "(I)Z"⟩ yX8_isOf wsX8_isOf) := goodIn_app (goodIn_of _ (by decide +kernel)) ggX11_as_X8_isOf
set_option maxRecDepth 20000 in
theorem ggX11_as_X8_points : GoodIn wsX11_as wsX8_points := goodIn_r _ [29, 30, 54, 55, 56, 57, 58, 59] (by decide +kernel) (by decide +kernel)
set_option maxRecDepth 20000 in
theorem gX11_as_X8_points_u122X1 : GoodIn wsX11_as (va_wsU RX11 122 RX1 "LightLines$Stroke" ⟨"LightLines$Stroke", "points", "()I"⟩ yX8_points wsX8_points) := goodIn_app (goodIn_of _ (by decide +kernel)) ggX11_as_X8_points
set_option maxRecDepth 20000 in
theorem gX11_as_X8_points_u122X2 : GoodIn wsX11_as (va_wsU RX11 122 RX2 "LightLines$Stroke" ⟨"LightLines$Stroke", "points", "()I"⟩ yX8_points wsX8_points) := goodIn_app (goodIn_of _ (by decide +kernel)) ggX11_as_X8_points
set_option maxRecDepth 20000 in
theorem gX11_as_X8_points_u122X7 : GoodIn wsX11_as (va_wsU RX11 122 RX7 "LightLines$Stroke" ⟨"LightLines$Stroke", "points", "()I"⟩ yX8_points wsX8_points) := goodIn_app (goodIn_of _ (by decide +kernel)) ggX11_as_X8_points
set_option maxRecDepth 20000 in
theorem ggX11_as_X11_fine : GoodIn wsX11_as wsX11_fine := goodIn_r _ [36, 37, 43, 44, 45, 46, 47, 48, 49] (by decide +kernel) (by decide +kernel)
set_option maxRecDepth 20000 in
theorem gX11_as_X11_fine : GoodIn wsX11_as (wsV RX11 68 RX11 yX11_fine wsX11_fine) := goodIn_app (goodIn_of _ (by decide +kernel)) ggX11_as_X11_fine
set_option maxRecDepth 20000 in
theorem ggX11_as_X11_found : GoodIn wsX11_as wsX11_found := goodIn_r _ [41, 37, 42, 43, 44, 45, 46, 47, 48, 49] (by decide +kernel) (by decide +kernel)
set_option maxRecDepth 20000 in
theorem gX11_as_X11_found : GoodIn wsX11_as (wsV RX11 60 RX11 yX11_found wsX11_found) := goodIn_app (goodIn_of _ (by decide +kernel)) ggX11_as_X11_found
theorem dX11_as_0 : decode cX11_as 0 = .ok (.aload_n 0, 1) := by decide +kernel
theorem dX11_as_1 : decode cX11_as 1 = .ok (.getfield 18, 3) := by decide +kernel
theorem dX11_as_4 : decode cX11_as 4 = .ok (.iload_n 1, 1) := by decide +kernel
theorem dX11_as_5 : decode cX11_as 5 = .ok (.invokevirtual 118, 3) := by decide +kernel
theorem dX11_as_8 : decode cX11_as 8 = .ok (.astore_n 3, 1) := by decide +kernel
theorem dX11_as_9 : decode cX11_as 9 = .ok (.aload_n 3, 1) := by decide +kernel
theorem dX11_as_10 : decode cX11_as 10 = .ok (.ifnull 12, 3) := by decide +kernel
theorem dX11_as_13 : decode cX11_as 13 = .ok (.iload_n 2, 1) := by decide +kernel
theorem dX11_as_14 : decode cX11_as 14 = .ok (.iconst 0, 1) := by decide +kernel
theorem dX11_as_15 : decode cX11_as 15 = .ok (.iconst 3, 1) := by decide +kernel
theorem dX11_as_16 : decode cX11_as 16 = .ok (.invokestatic 55, 3) := by decide +kernel
theorem dX11_as_19 : decode cX11_as 19 = .ok (.ifCond .ne 6, 3) := by decide +kernel
theorem dX11_as_22 : decode cX11_as 22 = .ok (.ldc 59, 2) := by decide +kernel
theorem dX11_as_24 : decode cX11_as 24 = .ok (.ireturn, 1) := by decide +kernel
theorem dX11_as_25 : decode cX11_as 25 = .ok (.aload_n 3, 1) := by decide +kernel
theorem dX11_as_26 : decode cX11_as 26 = .ok (.iload_n 2, 1) := by decide +kernel
theorem dX11_as_27 : decode cX11_as 27 = .ok (.invokevirtual 259, 3) := by decide +kernel
theorem dX11_as_30 : decode cX11_as 30 = .ok (.ifCond .eq 14, 3) := by decide +kernel
theorem dX11_as_33 : decode cX11_as 33 = .ok (.aload_n 0, 1) := by decide +kernel
theorem dX11_as_34 : decode cX11_as 34 = .ok (.aload_n 3, 1) := by decide +kernel
theorem dX11_as_35 : decode cX11_as 35 = .ok (.invokevirtual 122, 3) := by decide +kernel
theorem dX11_as_38 : decode cX11_as 38 = .ok (.invokevirtual 68, 3) := by decide +kernel
theorem dX11_as_41 : decode cX11_as 41 = .ok (.goto 8, 3) := by decide +kernel
theorem dX11_as_44 : decode cX11_as 44 = .ok (.aload_n 0, 1) := by decide +kernel
theorem dX11_as_45 : decode cX11_as 45 = .ok (.iconst 3, 1) := by decide +kernel
theorem dX11_as_46 : decode cX11_as 46 = .ok (.invokevirtual 60, 3) := by decide +kernel
theorem dX11_as_49 : decode cX11_as 49 = .ok (.ireturn, 1) := by decide +kernel
set_option maxRecDepth 20000 in
theorem ggX11_ask_X9_at : GoodIn wsX11_ask wsX9_at := goodIn_r _ [9, 10, 11, 120, 121, 122, 123] (by decide +kernel) (by decide +kernel)
set_option maxRecDepth 20000 in
theorem gX11_ask_X9_at : GoodIn wsX11_ask (wsV RX11 118 RX9 yX9_at wsX9_at) := goodIn_app (goodIn_of _ (by decide +kernel)) ggX11_ask_X9_at
set_option maxRecDepth 20000 in
theorem ggX11_ask_X11_isWithin : GoodIn wsX11_ask wsX11_isWithin := goodIn_r _ [15] (by decide +kernel) (by decide +kernel)
set_option maxRecDepth 20000 in
theorem gX11_ask_X11_isWithin : GoodIn wsX11_ask (va_wsS RX11 55 yX11_isWithin wsX11_isWithin) := goodIn_app (goodIn_of _ (by decide +kernel)) ggX11_ask_X11_isWithin
set_option maxRecDepth 20000 in
theorem ggX11_ask_X1_sizeAsked : GoodIn wsX11_ask wsX1_sizeAsked := goodIn_r _ [22, 23, 24, 25, 26, 27, 28, 29, 30, 17, 31, 32, 33, 34, 35, 36, 37, 38, 39, 40, 41, 42, 43, 44, 45, 46, 47, 48, 49, 50, 51, 52, 53, 54, 55, 56, 57, 58, 59, 60, 61, 14, 62, 63, 64, 65, 66, 67, 68, 69, 118, 119, 124, 125, 126, 127, 128, 129] (by decide +kernel) (by decide +kernel)
set_option maxRecDepth 20000 in
theorem gX11_ask_X1_sizeAsked_u263X1 : GoodIn wsX11_ask (va_wsO RX11 263 RX1 "LightLines$Stroke" ⟨"LightLines$Stroke", "sizeAsked", "(LLightLines$Trace;)I"⟩ yX1_sizeAsked wsX1_sizeAsked) := goodIn_app (goodIn_of _ (by decide +kernel)) ggX11_ask_X1_sizeAsked
set_option maxRecDepth 20000 in
theorem ggX11_ask_X2_sizeAsked : GoodIn wsX11_ask wsX2_sizeAsked := goodIn_r _ [73, 74, 24, 25, 26, 27, 28, 29, 75, 76, 77, 20, 21, 22, 23, 30, 17, 31, 32, 33, 34, 35, 36, 37, 38, 39, 40, 41, 42, 43, 44, 45, 46, 47, 48, 49, 50, 51, 52, 53, 54, 55, 56, 57, 58, 59, 60, 61, 14, 62, 63, 64, 65, 66, 67, 68, 69, 118, 119, 124, 125, 126, 127, 128, 129] (by decide +kernel) (by decide +kernel)
set_option maxRecDepth 20000 in
theorem gX11_ask_X2_sizeAsked_u263X2 : GoodIn wsX11_ask (va_wsO RX11 263 RX2 "LightLines$Stroke" ⟨"LightLines$Stroke", "sizeAsked", "(LLightLines$Trace;)I"⟩ yX2_sizeAsked wsX2_sizeAsked) := goodIn_app (goodIn_of _ (by decide +kernel)) ggX11_ask_X2_sizeAsked
set_option maxRecDepth 20000 in
theorem ggX11_ask_X7_sizeAsked : GoodIn wsX11_ask wsX7_sizeAsked := goodIn_r _ [81, 82, 24, 25, 26, 27, 28, 29, 118, 119] (by decide +kernel) (by decide +kernel)
set_option maxRecDepth 20000 in
theorem gX11_ask_X7_sizeAsked_u263X7 : GoodIn wsX11_ask (va_wsO RX11 263 RX7 "LightLines$Stroke" ⟨"LightLines$Stroke", "sizeAsked", "(LLightLines$Trace;)I"⟩ yX7_sizeAsked wsX7_sizeAsked) := goodIn_app (goodIn_of _ (by decide +kernel)) ggX11_ask_X7_sizeAsked
set_option maxRecDepth 20000 in
theorem ggX11_ask_X1_markAsked : GoodIn wsX11_ask wsX1_markAsked := goodIn_r _ [88, 23, 24, 25, 26, 27, 28, 29, 89, 84, 31, 90, 33, 91, 35, 92, 93, 94, 51, 52, 41, 95, 96, 97, 20, 98, 21, 22, 30, 17, 32, 34, 36, 37, 38, 39, 40, 42, 43, 44, 45, 46, 47, 48, 49, 50, 53, 54, 55, 56, 57, 58, 59, 60, 61, 14, 62, 63, 64, 65, 66, 67, 68, 69, 99, 76, 100, 101, 71, 72, 73, 74, 75, 77, 118, 119, 124, 125, 126, 127, 128, 129] (by decide +kernel) (by decide +kernel)
set_option maxRecDepth 20000 in
theorem gX11_ask_X1_markAsked_u267X1 : GoodIn wsX11_ask (va_wsO RX11 267 RX1 "LightLines$Stroke" ⟨"LightLines$Stroke", "markAsked", "(LLightLines$Trace;)I"⟩ yX1_markAsked wsX1_markAsked) := goodIn_app (goodIn_of _ (by decide +kernel)) ggX11_ask_X1_markAsked
set_option maxRecDepth 20000 in
theorem gX11_ask_X1_markAsked_u267X2 : GoodIn wsX11_ask (va_wsO RX11 267 RX2 "LightLines$Stroke" ⟨"LightLines$Stroke", "markAsked", "(LLightLines$Trace;)I"⟩ yX1_markAsked wsX1_markAsked) := goodIn_app (goodIn_of _ (by decide +kernel)) ggX11_ask_X1_markAsked
set_option maxRecDepth 20000 in
theorem ggX11_ask_X7_markAsked : GoodIn wsX11_ask wsX7_markAsked := goodIn_r _ [105, 82, 24, 25, 26, 27, 28, 29, 106, 84, 107, 90, 33, 91, 35, 92, 93, 94, 51, 52, 41, 95, 96, 108, 109, 110, 57, 58, 59, 118, 119, 124, 125, 126, 127, 128, 129] (by decide +kernel) (by decide +kernel)
set_option maxRecDepth 20000 in
theorem gX11_ask_X7_markAsked_u267X7 : GoodIn wsX11_ask (va_wsO RX11 267 RX7 "LightLines$Stroke" ⟨"LightLines$Stroke", "markAsked", "(LLightLines$Trace;)I"⟩ yX7_markAsked wsX7_markAsked) := goodIn_app (goodIn_of _ (by decide +kernel)) ggX11_ask_X7_markAsked
theorem dX11_ask_0 : decode cX11_ask 0 = .ok (.aload_n 0, 1) := by decide +kernel
theorem dX11_ask_1 : decode cX11_ask 1 = .ok (.getfield 18, 3) := by decide +kernel
theorem dX11_ask_4 : decode cX11_ask 4 = .ok (.iload_n 1, 1) := by decide +kernel
theorem dX11_ask_5 : decode cX11_ask 5 = .ok (.invokevirtual 118, 3) := by decide +kernel
theorem dX11_ask_8 : decode cX11_ask 8 = .ok (.astore_n 3, 1) := by decide +kernel
theorem dX11_ask_9 : decode cX11_ask 9 = .ok (.aload_n 3, 1) := by decide +kernel
theorem dX11_ask_10 : decode cX11_ask 10 = .ok (.ifnull 12, 3) := by decide +kernel
theorem dX11_ask_13 : decode cX11_ask 13 = .ok (.iload_n 2, 1) := by decide +kernel
theorem dX11_ask_14 : decode cX11_ask 14 = .ok (.iconst 0, 1) := by decide +kernel
theorem dX11_ask_15 : decode cX11_ask 15 = .ok (.iconst 1, 1) := by decide +kernel
theorem dX11_ask_16 : decode cX11_ask 16 = .ok (.invokestatic 55, 3) := by decide +kernel
theorem dX11_ask_19 : decode cX11_ask 19 = .ok (.ifCond .ne 6, 3) := by decide +kernel
theorem dX11_ask_22 : decode cX11_ask 22 = .ok (.ldc 59, 2) := by decide +kernel
theorem dX11_ask_24 : decode cX11_ask 24 = .ok (.ireturn, 1) := by decide +kernel
theorem dX11_ask_25 : decode cX11_ask 25 = .ok (.aload_n 0, 1) := by decide +kernel
theorem dX11_ask_26 : decode cX11_ask 26 = .ok (.getfield 46, 3) := by decide +kernel
theorem dX11_ask_29 : decode cX11_ask 29 = .ok (.iconst 0, 1) := by decide +kernel
theorem dX11_ask_30 : decode cX11_ask 30 = .ok (.putfield 262, 3) := by decide +kernel
theorem dX11_ask_33 : decode cX11_ask 33 = .ok (.iload_n 2, 1) := by decide +kernel
theorem dX11_ask_34 : decode cX11_ask 34 = .ok (.ifCond .ne 14, 3) := by decide +kernel
theorem dX11_ask_37 : decode cX11_ask 37 = .ok (.aload_n 3, 1) := by decide +kernel
theorem dX11_ask_38 : decode cX11_ask 38 = .ok (.aload_n 0, 1) := by decide +kernel
theorem dX11_ask_39 : decode cX11_ask 39 = .ok (.getfield 46, 3) := by decide +kernel
theorem dX11_ask_42 : decode cX11_ask 42 = .ok (.invokevirtual 263, 3) := by decide +kernel
theorem dX11_ask_45 : decode cX11_ask 45 = .ok (.goto 11, 3) := by decide +kernel
theorem dX11_ask_48 : decode cX11_ask 48 = .ok (.aload_n 3, 1) := by decide +kernel
theorem dX11_ask_49 : decode cX11_ask 49 = .ok (.aload_n 0, 1) := by decide +kernel
theorem dX11_ask_50 : decode cX11_ask 50 = .ok (.getfield 46, 3) := by decide +kernel
theorem dX11_ask_53 : decode cX11_ask 53 = .ok (.invokevirtual 267, 3) := by decide +kernel
theorem dX11_ask_56 : decode cX11_ask 56 = .ok (.ireturn, 1) := by decide +kernel
set_option maxRecDepth 20000 in
theorem ggX11_trace_X11_isWithin : GoodIn wsX11_trace wsX11_isWithin := goodIn_r _ [8] (by decide +kernel) (by decide +kernel)
set_option maxRecDepth 20000 in
theorem gX11_trace_X11_isWithin : GoodIn wsX11_trace (va_wsS RX11 55 yX11_isWithin wsX11_isWithin) := goodIn_app (goodIn_of _ (by decide +kernel)) ggX11_trace_X11_isWithin
theorem dX11_trace_0 : decode cX11_trace 0 = .ok (.iload_n 1, 1) := by decide +kernel
theorem dX11_trace_1 : decode cX11_trace 1 = .ok (.iconst 0, 1) := by decide +kernel
theorem dX11_trace_2 : decode cX11_trace 2 = .ok (.aload_n 0, 1) := by decide +kernel
theorem dX11_trace_3 : decode cX11_trace 3 = .ok (.getfield 46, 3) := by decide +kernel
theorem dX11_trace_6 : decode cX11_trace 6 = .ok (.getfield 262, 3) := by decide +kernel
theorem dX11_trace_9 : decode cX11_trace 9 = .ok (.iconst 1, 1) := by decide +kernel
theorem dX11_trace_10 : decode cX11_trace 10 = .ok (.isub, 1) := by decide +kernel
theorem dX11_trace_11 : decode cX11_trace 11 = .ok (.invokestatic 55, 3) := by decide +kernel
theorem dX11_trace_14 : decode cX11_trace 14 = .ok (.ifCond .eq 15, 3) := by decide +kernel
theorem dX11_trace_17 : decode cX11_trace 17 = .ok (.aload_n 0, 1) := by decide +kernel
theorem dX11_trace_18 : decode cX11_trace 18 = .ok (.getfield 46, 3) := by decide +kernel
theorem dX11_trace_21 : decode cX11_trace 21 = .ok (.getfield 270, 3) := by decide +kernel
theorem dX11_trace_24 : decode cX11_trace 24 = .ok (.iload_n 1, 1) := by decide +kernel
theorem dX11_trace_25 : decode cX11_trace 25 = .ok (.iaload, 1) := by decide +kernel
theorem dX11_trace_26 : decode cX11_trace 26 = .ok (.goto 5, 3) := by decide +kernel
theorem dX11_trace_29 : decode cX11_trace 29 = .ok (.ldc 153, 2) := by decide +kernel
theorem dX11_trace_31 : decode cX11_trace 31 = .ok (.ireturn, 1) := by decide +kernel
set_option maxRecDepth 20000 in
theorem ggX11_count_X11_sheetsHeld : GoodIn wsX11_count wsX11_sheetsHeld := goodIn_r _ [12, 13, 14, 15, 16, 17, 18, 19, 51, 52, 53, 54, 55, 56, 57, 72, 73, 74] (by decide +kernel) (by decide +kernel)
set_option maxRecDepth 20000 in
theorem gX11_count_X11_sheetsHeld : GoodIn wsX11_count (wsV RX11 273 RX11 yX11_sheetsHeld wsX11_sheetsHeld) := goodIn_app (goodIn_of _ (by decide +kernel)) ggX11_count_X11_sheetsHeld
set_option maxRecDepth 20000 in
theorem ggX11_count_X9_pointsOfAll : GoodIn wsX11_count wsX9_pointsOfAll := goodIn_r _ [24, 25, 26, 27, 28, 23, 29, 30, 31, 32, 33, 34, 35, 36, 37, 38, 39, 58, 59, 60, 61, 75, 76, 77, 78, 79, 80] (by decide +kernel) (by decide +kernel)
set_option maxRecDepth 20000 in
theorem gX11_count_X9_pointsOfAll : GoodIn wsX11_count (wsV RX11 276 RX9 yX9_pointsOfAll wsX9_pointsOfAll) := goodIn_app (goodIn_of _ (by decide +kernel)) ggX11_count_X9_pointsOfAll
set_option maxRecDepth 20000 in
theorem ggX11_count_X9_loops : GoodIn wsX11_count wsX9_loops := goodIn_r _ [43, 25, 44, 26, 27, 28, 23, 29, 30, 58, 59, 60, 61] (by decide +kernel) (by decide +kernel)
set_option maxRecDepth 20000 in
theorem gX11_count_X9_loops : GoodIn wsX11_count (wsV RX11 279 RX9 yX9_loops wsX9_loops) := goodIn_app (goodIn_of _ (by decide +kernel)) ggX11_count_X9_loops
set_option maxRecDepth 20000 in
theorem ggX11_count_X6_zonesShut : GoodIn wsX11_count wsX6_zonesShut := goodIn_r _ [49, 50, 81, 82, 83, 84, 85, 86, 87, 88, 89, 90, 91, 92, 93] (by decide +kernel) (by decide +kernel)
set_option maxRecDepth 20000 in
theorem gX11_count_X6_zonesShut : GoodIn wsX11_count (wsV RX11 282 RX6 yX6_zonesShut wsX6_zonesShut) := goodIn_app (goodIn_of _ (by decide +kernel)) ggX11_count_X6_zonesShut
theorem dX11_count_0 : decode cX11_count 0 = .ok (.iload_n 1, 1) := by decide +kernel
theorem dX11_count_1 : decode cX11_count 1 = .ok (.tableswitch 96 0 6 #[43, 48, 56, 64, 72, 80, 88], 43) := by decide +kernel
theorem dX11_count_44 : decode cX11_count 44 = .ok (.aload_n 0, 1) := by decide +kernel
theorem dX11_count_45 : decode cX11_count 45 = .ok (.invokevirtual 273, 3) := by decide +kernel
theorem dX11_count_48 : decode cX11_count 48 = .ok (.ireturn, 1) := by decide +kernel
theorem dX11_count_49 : decode cX11_count 49 = .ok (.aload_n 0, 1) := by decide +kernel
theorem dX11_count_50 : decode cX11_count 50 = .ok (.getfield 18, 3) := by decide +kernel
theorem dX11_count_53 : decode cX11_count 53 = .ok (.getfield 100, 3) := by decide +kernel
theorem dX11_count_56 : decode cX11_count 56 = .ok (.ireturn, 1) := by decide +kernel
theorem dX11_count_57 : decode cX11_count 57 = .ok (.aload_n 0, 1) := by decide +kernel
theorem dX11_count_58 : decode cX11_count 58 = .ok (.getfield 18, 3) := by decide +kernel
theorem dX11_count_61 : decode cX11_count 61 = .ok (.invokevirtual 276, 3) := by decide +kernel
theorem dX11_count_64 : decode cX11_count 64 = .ok (.ireturn, 1) := by decide +kernel
theorem dX11_count_65 : decode cX11_count 65 = .ok (.aload_n 0, 1) := by decide +kernel
theorem dX11_count_66 : decode cX11_count 66 = .ok (.getfield 18, 3) := by decide +kernel
theorem dX11_count_69 : decode cX11_count 69 = .ok (.invokevirtual 279, 3) := by decide +kernel
theorem dX11_count_72 : decode cX11_count 72 = .ok (.ireturn, 1) := by decide +kernel
theorem dX11_count_73 : decode cX11_count 73 = .ok (.aload_n 0, 1) := by decide +kernel
theorem dX11_count_74 : decode cX11_count 74 = .ok (.getfield 32, 3) := by decide +kernel
theorem dX11_count_77 : decode cX11_count 77 = .ok (.invokevirtual 282, 3) := by decide +kernel
theorem dX11_count_80 : decode cX11_count 80 = .ok (.ireturn, 1) := by decide +kernel
theorem dX11_count_81 : decode cX11_count 81 = .ok (.aload_n 0, 1) := by decide +kernel
theorem dX11_count_82 : decode cX11_count 82 = .ok (.getfield 39, 3) := by decide +kernel
theorem dX11_count_85 : decode cX11_count 85 = .ok (.getfield 285, 3) := by decide +kernel
theorem dX11_count_88 : decode cX11_count 88 = .ok (.ireturn, 1) := by decide +kernel
theorem dX11_count_89 : decode cX11_count 89 = .ok (.aload_n 0, 1) := by decide +kernel
theorem dX11_count_90 : decode cX11_count 90 = .ok (.getfield 39, 3) := by decide +kernel
theorem dX11_count_93 : decode cX11_count 93 = .ok (.getfield 243, 3) := by decide +kernel
theorem dX11_count_96 : decode cX11_count 96 = .ok (.ireturn, 1) := by decide +kernel
theorem dX11_count_97 : decode cX11_count 97 = .ok (.ldc 59, 2) := by decide +kernel
theorem dX11_count_99 : decode cX11_count 99 = .ok (.ireturn, 1) := by decide +kernel
theorem dX11_status_0 : decode cX11_status 0 = .ok (.aload_n 0, 1) := by decide +kernel
theorem dX11_status_1 : decode cX11_status 1 = .ok (.getfield 288, 3) := by decide +kernel
theorem dX11_status_4 : decode cX11_status 4 = .ok (.ireturn, 1) := by decide +kernel
theorem dX11_found_0 : decode cX11_found 0 = .ok (.aload_n 0, 1) := by decide +kernel
theorem dX11_found_1 : decode cX11_found 1 = .ok (.iload_n 1, 1) := by decide +kernel
theorem dX11_found_2 : decode cX11_found 2 = .ok (.putfield 288, 3) := by decide +kernel
theorem dX11_found_5 : decode cX11_found 5 = .ok (.ldc_w 291, 3) := by decide +kernel
theorem dX11_found_8 : decode cX11_found 8 = .ok (.iload_n 1, 1) := by decide +kernel
theorem dX11_found_9 : decode cX11_found 9 = .ok (.isub, 1) := by decide +kernel
theorem dX11_found_10 : decode cX11_found 10 = .ok (.ireturn, 1) := by decide +kernel
theorem dX11_fine_0 : decode cX11_fine 0 = .ok (.aload_n 0, 1) := by decide +kernel
theorem dX11_fine_1 : decode cX11_fine 1 = .ok (.iconst 0, 1) := by decide +kernel
theorem dX11_fine_2 : decode cX11_fine 2 = .ok (.putfield 288, 3) := by decide +kernel
theorem dX11_fine_5 : decode cX11_fine 5 = .ok (.iload_n 1, 1) := by decide +kernel
theorem dX11_fine_6 : decode cX11_fine 6 = .ok (.ireturn, 1) := by decide +kernel
set_option maxRecDepth 20000 in
theorem ggX11_sheetsHeld_X5_isMissing : GoodIn wsX11_sheetsHeld wsX5_isMissing := goodIn_r _ [6, 7, 15, 16, 17] (by decide +kernel) (by decide +kernel)
set_option maxRecDepth 20000 in
theorem gX11_sheetsHeld_X5_isMissing : GoodIn wsX11_sheetsHeld (wsV RX11 71 RX5 yX5_isMissing wsX5_isMissing) := goodIn_app (goodIn_of _ (by decide +kernel)) ggX11_sheetsHeld_X5_isMissing
theorem dX11_sheetsHeld_0 : decode cX11_sheetsHeld 0 = .ok (.iconst 0, 1) := by decide +kernel
theorem dX11_sheetsHeld_1 : decode cX11_sheetsHeld 1 = .ok (.istore_n 1, 1) := by decide +kernel
theorem dX11_sheetsHeld_2 : decode cX11_sheetsHeld 2 = .ok (.iconst 0, 1) := by decide +kernel
theorem dX11_sheetsHeld_3 : decode cX11_sheetsHeld 3 = .ok (.istore_n 2, 1) := by decide +kernel
theorem dX11_sheetsHeld_4 : decode cX11_sheetsHeld 4 = .ok (.iload_n 2, 1) := by decide +kernel
theorem dX11_sheetsHeld_5 : decode cX11_sheetsHeld 5 = .ok (.bipush 8, 2) := by decide +kernel
theorem dX11_sheetsHeld_7 : decode cX11_sheetsHeld 7 = .ok (.if_icmp .ge 24, 3) := by decide +kernel
theorem dX11_sheetsHeld_10 : decode cX11_sheetsHeld 10 = .ok (.aload_n 0, 1) := by decide +kernel
theorem dX11_sheetsHeld_11 : decode cX11_sheetsHeld 11 = .ok (.getfield 11, 3) := by decide +kernel
theorem dX11_sheetsHeld_14 : decode cX11_sheetsHeld 14 = .ok (.iload_n 2, 1) := by decide +kernel
theorem dX11_sheetsHeld_15 : decode cX11_sheetsHeld 15 = .ok (.aaload, 1) := by decide +kernel
theorem dX11_sheetsHeld_16 : decode cX11_sheetsHeld 16 = .ok (.invokevirtual 71, 3) := by decide +kernel
theorem dX11_sheetsHeld_19 : decode cX11_sheetsHeld 19 = .ok (.ifCond .ne 6, 3) := by decide +kernel
theorem dX11_sheetsHeld_22 : decode cX11_sheetsHeld 22 = .ok (.iinc 1 1, 3) := by decide +kernel
theorem dX11_sheetsHeld_25 : decode cX11_sheetsHeld 25 = .ok (.iinc 2 1, 3) := by decide +kernel
theorem dX11_sheetsHeld_28 : decode cX11_sheetsHeld 28 = .ok (.goto (-24), 3) := by decide +kernel
theorem dX11_sheetsHeld_31 : decode cX11_sheetsHeld 31 = .ok (.iload_n 1, 1) := by decide +kernel
theorem dX11_sheetsHeld_32 : decode cX11_sheetsHeld 32 = .ok (.ireturn, 1) := by decide +kernel
set_option maxRecDepth 20000 in
theorem ggX11_isSheet_X11_isWithin : GoodIn wsX11_isSheet wsX11_isWithin := goodIn_r _ [4] (by decide +kernel) (by decide +kernel)
set_option maxRecDepth 20000 in
theorem gX11_isSheet_X11_isWithin : GoodIn wsX11_isSheet (va_wsS RX11 55 yX11_isWithin wsX11_isWithin) := goodIn_app (goodIn_of _ (by decide +kernel)) ggX11_isSheet_X11_isWithin
theorem dX11_isSheet_0 : decode cX11_isSheet 0 = .ok (.iload_n 0, 1) := by decide +kernel
theorem dX11_isSheet_1 : decode cX11_isSheet 1 = .ok (.iconst 0, 1) := by decide +kernel
theorem dX11_isSheet_2 : decode cX11_isSheet 2 = .ok (.bipush 7, 2) := by decide +kernel
theorem dX11_isSheet_4 : decode cX11_isSheet 4 = .ok (.invokestatic 55, 3) := by decide +kernel
theorem dX11_isSheet_7 : decode cX11_isSheet 7 = .ok (.ireturn, 1) := by decide +kernel
set_option maxRecDepth 20000 in
theorem ggX11_isZone_X11_isWithin : GoodIn wsX11_isZone wsX11_isWithin := goodIn_r _ [4] (by decide +kernel) (by decide +kernel)
set_option maxRecDepth 20000 in
theorem gX11_isZone_X11_isWithin : GoodIn wsX11_isZone (va_wsS RX11 55 yX11_isWithin wsX11_isWithin) := goodIn_app (goodIn_of _ (by decide +kernel)) ggX11_isZone_X11_isWithin
theorem dX11_isZone_0 : decode cX11_isZone 0 = .ok (.iload_n 0, 1) := by decide +kernel
theorem dX11_isZone_1 : decode cX11_isZone 1 = .ok (.iconst 0, 1) := by decide +kernel
theorem dX11_isZone_2 : decode cX11_isZone 2 = .ok (.iconst 3, 1) := by decide +kernel
theorem dX11_isZone_3 : decode cX11_isZone 3 = .ok (.invokestatic 55, 3) := by decide +kernel
theorem dX11_isZone_6 : decode cX11_isZone 6 = .ok (.ireturn, 1) := by decide +kernel
theorem dX11_isWithin_0 : decode cX11_isWithin 0 = .ok (.iload_n 0, 1) := by decide +kernel
theorem dX11_isWithin_1 : decode cX11_isWithin 1 = .ok (.iload_n 1, 1) := by decide +kernel
theorem dX11_isWithin_2 : decode cX11_isWithin 2 = .ok (.if_icmp .lt 12, 3) := by decide +kernel
theorem dX11_isWithin_5 : decode cX11_isWithin 5 = .ok (.iload_n 0, 1) := by decide +kernel
theorem dX11_isWithin_6 : decode cX11_isWithin 6 = .ok (.iload_n 2, 1) := by decide +kernel
theorem dX11_isWithin_7 : decode cX11_isWithin 7 = .ok (.if_icmp .gt 7, 3) := by decide +kernel
theorem dX11_isWithin_10 : decode cX11_isWithin 10 = .ok (.iconst 1, 1) := by decide +kernel
theorem dX11_isWithin_11 : decode cX11_isWithin 11 = .ok (.goto 4, 3) := by decide +kernel
theorem dX11_isWithin_14 : decode cX11_isWithin 14 = .ok (.iconst 0, 1) := by decide +kernel
theorem dX11_isWithin_15 : decode cX11_isWithin 15 = .ok (.ireturn, 1) := by decide +kernel
theorem dX11_way_0 : decode cX11_way 0 = .ok (.iload_n 2, 1) := by decide +kernel
theorem dX11_way_1 : decode cX11_way 1 = .ok (.iload_n 0, 1) := by decide +kernel
theorem dX11_way_2 : decode cX11_way 2 = .ok (.isub, 1) := by decide +kernel
theorem dX11_way_3 : decode cX11_way 3 = .ok (.invokestatic 292, 3) := by decide +kernel
theorem dX11_way_6 : decode cX11_way 6 = .ok (.iload_n 3, 1) := by decide +kernel
theorem dX11_way_7 : decode cX11_way 7 = .ok (.iload_n 1, 1) := by decide +kernel
theorem dX11_way_8 : decode cX11_way 8 = .ok (.isub, 1) := by decide +kernel
theorem dX11_way_9 : decode cX11_way 9 = .ok (.invokestatic 292, 3) := by decide +kernel
theorem dX11_way_12 : decode cX11_way 12 = .ok (.invokestatic 297, 3) := by decide +kernel
theorem dX11_way_15 : decode cX11_way 15 = .ok (.ireturn, 1) := by decide +kernel
set_option maxRecDepth 20000 in
theorem ggX11_strokeOf_X5_item : GoodIn wsX11_strokeOf wsX5_item := goodIn_r _ [15, 16, 17, 18, 19, 14, 20, 21, 48, 49, 50] (by decide +kernel) (by decide +kernel)
set_option maxRecDepth 20000 in
theorem gX11_strokeOf_X5_item : GoodIn wsX11_strokeOf (wsV RX11 139 RX5 yX5_item wsX5_item) := goodIn_app (goodIn_of _ (by decide +kernel)) ggX11_strokeOf_X5_item
set_option maxRecDepth 20000 in
theorem ggX11_strokeOf_X7_init : GoodIn wsX11_strokeOf wsX7_init := goodIn_r _ [24, 25, 26, 27, 28, 29, 30, 31, 32, 33, 46, 47, 44, 45, 42, 43] (by decide +kernel) (by decide +kernel)
set_option maxRecDepth 20000 in
theorem gX11_strokeOf_X7_init : GoodIn wsX11_strokeOf (wsX7_init) := ggX11_strokeOf_X7_init
set_option maxRecDepth 20000 in
theorem ggX11_strokeOf_X2_init : GoodIn wsX11_strokeOf wsX2_init := goodIn_r _ [36, 37, 38, 10, 39, 40, 26, 27, 28, 29, 30, 31, 32, 33, 46, 47, 44, 45, 42, 43] (by decide +kernel) (by decide +kernel)
set_option maxRecDepth 20000 in
theorem gX11_strokeOf_X2_init : GoodIn wsX11_strokeOf (wsX2_init) := ggX11_strokeOf_X2_init
set_option maxRecDepth 20000 in
theorem ggX11_strokeOf_X1_init : GoodIn wsX11_strokeOf wsX1_init := goodIn_r _ [39, 40, 26, 27, 28, 29, 30, 31, 32, 33, 46, 47, 44, 45, 42, 43] (by decide +kernel) (by decide +kernel)
set_option maxRecDepth 20000 in
theorem gX11_strokeOf_X1_init : GoodIn wsX11_strokeOf (wsX1_init) := ggX11_strokeOf_X1_init
theorem dX11_strokeOf_0 : decode cX11_strokeOf 0 = .ok (.iload_n 2, 1) := by decide +kernel
theorem dX11_strokeOf_1 : decode cX11_strokeOf 1 = .ok (.newarray .int, 2) := by decide +kernel
theorem dX11_strokeOf_3 : decode cX11_strokeOf 3 = .ok (.astore_n 3, 1) := by decide +kernel
theorem dX11_strokeOf_4 : decode cX11_strokeOf 4 = .ok (.iload_n 2, 1) := by decide +kernel
theorem dX11_strokeOf_5 : decode cX11_strokeOf 5 = .ok (.newarray .int, 2) := by decide +kernel
theorem dX11_strokeOf_7 : decode cX11_strokeOf 7 = .ok (.astore 4, 2) := by decide +kernel
theorem dX11_strokeOf_9 : decode cX11_strokeOf 9 = .ok (.iconst 0, 1) := by decide +kernel
theorem dX11_strokeOf_10 : decode cX11_strokeOf 10 = .ok (.istore 5, 2) := by decide +kernel
theorem dX11_strokeOf_12 : decode cX11_strokeOf 12 = .ok (.iload 5, 2) := by decide +kernel
theorem dX11_strokeOf_14 : decode cX11_strokeOf 14 = .ok (.iload_n 2, 1) := by decide +kernel
theorem dX11_strokeOf_15 : decode cX11_strokeOf 15 = .ok (.if_icmp .ge 40, 3) := by decide +kernel
theorem dX11_strokeOf_18 : decode cX11_strokeOf 18 = .ok (.aload_n 3, 1) := by decide +kernel
theorem dX11_strokeOf_19 : decode cX11_strokeOf 19 = .ok (.iload 5, 2) := by decide +kernel
theorem dX11_strokeOf_21 : decode cX11_strokeOf 21 = .ok (.aload_n 0, 1) := by decide +kernel
theorem dX11_strokeOf_22 : decode cX11_strokeOf 22 = .ok (.iload_n 1, 1) := by decide +kernel
theorem dX11_strokeOf_23 : decode cX11_strokeOf 23 = .ok (.iconst 2, 1) := by decide +kernel
theorem dX11_strokeOf_24 : decode cX11_strokeOf 24 = .ok (.iload 5, 2) := by decide +kernel
theorem dX11_strokeOf_26 : decode cX11_strokeOf 26 = .ok (.imul, 1) := by decide +kernel
theorem dX11_strokeOf_27 : decode cX11_strokeOf 27 = .ok (.iadd, 1) := by decide +kernel
theorem dX11_strokeOf_28 : decode cX11_strokeOf 28 = .ok (.invokevirtual 139, 3) := by decide +kernel
theorem dX11_strokeOf_31 : decode cX11_strokeOf 31 = .ok (.iastore, 1) := by decide +kernel
theorem dX11_strokeOf_32 : decode cX11_strokeOf 32 = .ok (.aload 4, 2) := by decide +kernel
theorem dX11_strokeOf_34 : decode cX11_strokeOf 34 = .ok (.iload 5, 2) := by decide +kernel
theorem dX11_strokeOf_36 : decode cX11_strokeOf 36 = .ok (.aload_n 0, 1) := by decide +kernel
theorem dX11_strokeOf_37 : decode cX11_strokeOf 37 = .ok (.iload_n 1, 1) := by decide +kernel
theorem dX11_strokeOf_38 : decode cX11_strokeOf 38 = .ok (.iconst 2, 1) := by decide +kernel
theorem dX11_strokeOf_39 : decode cX11_strokeOf 39 = .ok (.iload 5, 2) := by decide +kernel
theorem dX11_strokeOf_41 : decode cX11_strokeOf 41 = .ok (.imul, 1) := by decide +kernel
theorem dX11_strokeOf_42 : decode cX11_strokeOf 42 = .ok (.iadd, 1) := by decide +kernel
theorem dX11_strokeOf_43 : decode cX11_strokeOf 43 = .ok (.iconst 1, 1) := by decide +kernel
theorem dX11_strokeOf_44 : decode cX11_strokeOf 44 = .ok (.iadd, 1) := by decide +kernel
theorem dX11_strokeOf_45 : decode cX11_strokeOf 45 = .ok (.invokevirtual 139, 3) := by decide +kernel
theorem dX11_strokeOf_48 : decode cX11_strokeOf 48 = .ok (.iastore, 1) := by decide +kernel
theorem dX11_strokeOf_49 : decode cX11_strokeOf 49 = .ok (.iinc 5 1, 3) := by decide +kernel
theorem dX11_strokeOf_52 : decode cX11_strokeOf 52 = .ok (.goto (-40), 3) := by decide +kernel
theorem dX11_strokeOf_55 : decode cX11_strokeOf 55 = .ok (.iload_n 2, 1) := by decide +kernel
theorem dX11_strokeOf_56 : decode cX11_strokeOf 56 = .ok (.iconst 1, 1) := by decide +kernel
theorem dX11_strokeOf_57 : decode cX11_strokeOf 57 = .ok (.if_icmp .ne 14, 3) := by decide +kernel
theorem dX11_strokeOf_60 : decode cX11_strokeOf 60 = .ok (.new 300, 3) := by decide +kernel
theorem dX11_strokeOf_63 : decode cX11_strokeOf 63 = .ok (.dup, 1) := by decide +kernel
theorem dX11_strokeOf_64 : decode cX11_strokeOf 64 = .ok (.aload_n 3, 1) := by decide +kernel
theorem dX11_strokeOf_65 : decode cX11_strokeOf 65 = .ok (.aload 4, 2) := by decide +kernel
theorem dX11_strokeOf_67 : decode cX11_strokeOf 67 = .ok (.invokespecial 302, 3) := by decide +kernel
theorem dX11_strokeOf_70 : decode cX11_strokeOf 70 = .ok (.areturn, 1) := by decide +kernel
theorem dX11_strokeOf_71 : decode cX11_strokeOf 71 = .ok (.iload_n 2, 1) := by decide +kernel
theorem dX11_strokeOf_72 : decode cX11_strokeOf 72 = .ok (.iconst 3, 1) := by decide +kernel
theorem dX11_strokeOf_73 : decode cX11_strokeOf 73 = .ok (.if_icmp .lt 31, 3) := by decide +kernel
theorem dX11_strokeOf_76 : decode cX11_strokeOf 76 = .ok (.aload_n 3, 1) := by decide +kernel
theorem dX11_strokeOf_77 : decode cX11_strokeOf 77 = .ok (.iconst 0, 1) := by decide +kernel
theorem dX11_strokeOf_78 : decode cX11_strokeOf 78 = .ok (.iaload, 1) := by decide +kernel
theorem dX11_strokeOf_79 : decode cX11_strokeOf 79 = .ok (.aload_n 3, 1) := by decide +kernel
theorem dX11_strokeOf_80 : decode cX11_strokeOf 80 = .ok (.iload_n 2, 1) := by decide +kernel
theorem dX11_strokeOf_81 : decode cX11_strokeOf 81 = .ok (.iconst 1, 1) := by decide +kernel
theorem dX11_strokeOf_82 : decode cX11_strokeOf 82 = .ok (.isub, 1) := by decide +kernel
theorem dX11_strokeOf_83 : decode cX11_strokeOf 83 = .ok (.iaload, 1) := by decide +kernel
theorem dX11_strokeOf_84 : decode cX11_strokeOf 84 = .ok (.if_icmp .ne 20, 3) := by decide +kernel
theorem dX11_strokeOf_87 : decode cX11_strokeOf 87 = .ok (.aload 4, 2) := by decide +kernel
theorem dX11_strokeOf_89 : decode cX11_strokeOf 89 = .ok (.iconst 0, 1) := by decide +kernel
theorem dX11_strokeOf_90 : decode cX11_strokeOf 90 = .ok (.iaload, 1) := by decide +kernel
theorem dX11_strokeOf_91 : decode cX11_strokeOf 91 = .ok (.aload 4, 2) := by decide +kernel
theorem dX11_strokeOf_93 : decode cX11_strokeOf 93 = .ok (.iload_n 2, 1) := by decide +kernel
theorem dX11_strokeOf_94 : decode cX11_strokeOf 94 = .ok (.iconst 1, 1) := by decide +kernel
theorem dX11_strokeOf_95 : decode cX11_strokeOf 95 = .ok (.isub, 1) := by decide +kernel
theorem dX11_strokeOf_96 : decode cX11_strokeOf 96 = .ok (.iaload, 1) := by decide +kernel
theorem dX11_strokeOf_97 : decode cX11_strokeOf 97 = .ok (.if_icmp .ne 7, 3) := by decide +kernel
theorem dX11_strokeOf_100 : decode cX11_strokeOf 100 = .ok (.iconst 1, 1) := by decide +kernel
theorem dX11_strokeOf_101 : decode cX11_strokeOf 101 = .ok (.goto 4, 3) := by decide +kernel
theorem dX11_strokeOf_104 : decode cX11_strokeOf 104 = .ok (.iconst 0, 1) := by decide +kernel
theorem dX11_strokeOf_105 : decode cX11_strokeOf 105 = .ok (.istore 5, 2) := by decide +kernel
theorem dX11_strokeOf_107 : decode cX11_strokeOf 107 = .ok (.iload 5, 2) := by decide +kernel
theorem dX11_strokeOf_109 : decode cX11_strokeOf 109 = .ok (.ifCond .eq 16, 3) := by decide +kernel
theorem dX11_strokeOf_112 : decode cX11_strokeOf 112 = .ok (.new 305, 3) := by decide +kernel
theorem dX11_strokeOf_115 : decode cX11_strokeOf 115 = .ok (.dup, 1) := by decide +kernel
theorem dX11_strokeOf_116 : decode cX11_strokeOf 116 = .ok (.aload_n 3, 1) := by decide +kernel
theorem dX11_strokeOf_117 : decode cX11_strokeOf 117 = .ok (.aload 4, 2) := by decide +kernel
theorem dX11_strokeOf_119 : decode cX11_strokeOf 119 = .ok (.invokespecial 307, 3) := by decide +kernel
theorem dX11_strokeOf_122 : decode cX11_strokeOf 122 = .ok (.goto 13, 3) := by decide +kernel
theorem dX11_strokeOf_125 : decode cX11_strokeOf 125 = .ok (.new 308, 3) := by decide +kernel
theorem dX11_strokeOf_128 : decode cX11_strokeOf 128 = .ok (.dup, 1) := by decide +kernel
theorem dX11_strokeOf_129 : decode cX11_strokeOf 129 = .ok (.aload_n 3, 1) := by decide +kernel
theorem dX11_strokeOf_130 : decode cX11_strokeOf 130 = .ok (.aload 4, 2) := by decide +kernel
theorem dX11_strokeOf_132 : decode cX11_strokeOf 132 = .ok (.invokespecial 310, 3) := by decide +kernel
theorem dX11_strokeOf_135 : decode cX11_strokeOf 135 = .ok (.areturn, 1) := by decide +kernel
theorem dJ9_abs_0f7a4_0 : decode cJ9_abs_0f7a4 0 = .ok (.iload_n 0, 1) := by decide +kernel
theorem dJ9_abs_0f7a4_1 : decode cJ9_abs_0f7a4 1 = .ok (.ifCond .ge 8, 3) := by decide +kernel
theorem dJ9_abs_0f7a4_4 : decode cJ9_abs_0f7a4 4 = .ok (.iload_n 0, 1) := by decide +kernel
theorem dJ9_abs_0f7a4_5 : decode cJ9_abs_0f7a4 5 = .ok (.ineg, 1) := by decide +kernel
theorem dJ9_abs_0f7a4_6 : decode cJ9_abs_0f7a4 6 = .ok (.goto 4, 3) := by decide +kernel
theorem dJ9_abs_0f7a4_9 : decode cJ9_abs_0f7a4 9 = .ok (.iload_n 0, 1) := by decide +kernel
theorem dJ9_abs_0f7a4_10 : decode cJ9_abs_0f7a4 10 = .ok (.ireturn, 1) := by decide +kernel
theorem dJ9_max_7cf53_0 : decode cJ9_max_7cf53 0 = .ok (.iload_n 0, 1) := by decide +kernel
theorem dJ9_max_7cf53_1 : decode cJ9_max_7cf53 1 = .ok (.iload_n 1, 1) := by decide +kernel
theorem dJ9_max_7cf53_2 : decode cJ9_max_7cf53 2 = .ok (.if_icmp .lt 7, 3) := by decide +kernel
theorem dJ9_max_7cf53_5 : decode cJ9_max_7cf53 5 = .ok (.iload_n 0, 1) := by decide +kernel
theorem dJ9_max_7cf53_6 : decode cJ9_max_7cf53 6 = .ok (.goto 4, 3) := by decide +kernel
theorem dJ9_max_7cf53_9 : decode cJ9_max_7cf53 9 = .ok (.iload_n 1, 1) := by decide +kernel
theorem dJ9_max_7cf53_10 : decode cJ9_max_7cf53 10 = .ok (.ireturn, 1) := by decide +kernel
theorem dJ9_min_7cf53_0 : decode cJ9_min_7cf53 0 = .ok (.iload_n 0, 1) := by decide +kernel
theorem dJ9_min_7cf53_1 : decode cJ9_min_7cf53 1 = .ok (.iload_n 1, 1) := by decide +kernel
theorem dJ9_min_7cf53_2 : decode cJ9_min_7cf53 2 = .ok (.if_icmp .gt 7, 3) := by decide +kernel
theorem dJ9_min_7cf53_5 : decode cJ9_min_7cf53 5 = .ok (.iload_n 0, 1) := by decide +kernel
theorem dJ9_min_7cf53_6 : decode cJ9_min_7cf53 6 = .ok (.goto 4, 3) := by decide +kernel
theorem dJ9_min_7cf53_9 : decode cJ9_min_7cf53 9 = .ok (.iload_n 1, 1) := by decide +kernel
theorem dJ9_min_7cf53_10 : decode cJ9_min_7cf53 10 = .ok (.ireturn, 1) := by decide +kernel
set_option maxRecDepth 20000 in
theorem ggJ0_length_8abf5_J0_coder_7d493 : GoodIn wsJ0_length_8abf5 wsJ0_coder_7d493 := goodIn_r _ [6, 7, 8] (by decide +kernel) (by decide +kernel)
set_option maxRecDepth 20000 in
theorem gJ0_length_8abf5_J0_coder_7d493 : GoodIn wsJ0_length_8abf5 (wsV RJ0 335 RJ0 yJ0_coder_7d493 wsJ0_coder_7d493) := goodIn_app (goodIn_of _ (by decide +kernel)) ggJ0_length_8abf5_J0_coder_7d493
theorem dJ0_length_8abf5_0 : decode cJ0_length_8abf5 0 = .ok (.aload_n 0, 1) := by decide +kernel
theorem dJ0_length_8abf5_1 : decode cJ0_length_8abf5 1 = .ok (.getfield 9, 3) := by decide +kernel
theorem dJ0_length_8abf5_4 : decode cJ0_length_8abf5 4 = .ok (.arraylength, 1) := by decide +kernel
theorem dJ0_length_8abf5_5 : decode cJ0_length_8abf5 5 = .ok (.aload_n 0, 1) := by decide +kernel
theorem dJ0_length_8abf5_6 : decode cJ0_length_8abf5 6 = .ok (.invokevirtual 335, 3) := by decide +kernel
theorem dJ0_length_8abf5_9 : decode cJ0_length_8abf5 9 = .ok (.ishr, 1) := by decide +kernel
theorem dJ0_length_8abf5_10 : decode cJ0_length_8abf5 10 = .ok (.ireturn, 1) := by decide +kernel
set_option maxRecDepth 20000 in
theorem ggJ0_charAt_5068e_J0_isLatin1_aae02 : GoodIn wsJ0_charAt_5068e wsJ0_isLatin1_aae02 := goodIn_r _ [6, 7, 8] (by decide +kernel) (by decide +kernel)
set_option maxRecDepth 20000 in
theorem gJ0_charAt_5068e_J0_isLatin1_aae02 : GoodIn wsJ0_charAt_5068e (wsV RJ0 492 RJ0 yJ0_isLatin1_aae02 wsJ0_isLatin1_aae02) := goodIn_app (goodIn_of _ (by decide +kernel)) ggJ0_charAt_5068e_J0_isLatin1_aae02
set_option maxRecDepth 20000 in
theorem ggJ0_charAt_5068e_J1_charAt_3b067 : GoodIn wsJ0_charAt_5068e wsJ1_charAt_3b067 := goodIn_r _ [12, 13, 14, 5, 15, 16, 17, 18, 19, 20] (by decide +kernel) (by decide +kernel)
set_option maxRecDepth 20000 in
theorem gJ0_charAt_5068e_J1_charAt_3b067 : GoodIn wsJ0_charAt_5068e (va_wsS RJ0 495 yJ1_charAt_3b067 wsJ1_charAt_3b067) := goodIn_app (goodIn_of _ (by decide +kernel)) ggJ0_charAt_5068e_J1_charAt_3b067
set_option maxRecDepth 20000 in
theorem ggJ0_charAt_5068e_J2_charAt_3b067 : GoodIn wsJ0_charAt_5068e wsJ2_charAt_3b067 := goodIn_r _ [24, 25, 26, 23, 27, 28, 29, 30, 31, 14, 5, 15, 16, 17, 18, 19, 20, 32, 33, 34, 35, 36, 37] (by decide +kernel) (by decide +kernel)
set_option maxRecDepth 20000 in
theorem gJ0_charAt_5068e_J2_charAt_3b067 : GoodIn wsJ0_charAt_5068e (va_wsS RJ0 498 yJ2_charAt_3b067 wsJ2_charAt_3b067) := goodIn_app (goodIn_of _ (by decide +kernel)) ggJ0_charAt_5068e_J2_charAt_3b067
theorem dJ0_charAt_5068e_0 : decode cJ0_charAt_5068e 0 = .ok (.aload_n 0, 1) := by decide +kernel
theorem dJ0_charAt_5068e_1 : decode cJ0_charAt_5068e 1 = .ok (.invokevirtual 492, 3) := by decide +kernel
theorem dJ0_charAt_5068e_4 : decode cJ0_charAt_5068e 4 = .ok (.ifCond .eq 12, 3) := by decide +kernel
theorem dJ0_charAt_5068e_7 : decode cJ0_charAt_5068e 7 = .ok (.aload_n 0, 1) := by decide +kernel
theorem dJ0_charAt_5068e_8 : decode cJ0_charAt_5068e 8 = .ok (.getfield 9, 3) := by decide +kernel
theorem dJ0_charAt_5068e_11 : decode cJ0_charAt_5068e 11 = .ok (.iload_n 1, 1) := by decide +kernel
theorem dJ0_charAt_5068e_12 : decode cJ0_charAt_5068e 12 = .ok (.invokestatic 495, 3) := by decide +kernel
theorem dJ0_charAt_5068e_15 : decode cJ0_charAt_5068e 15 = .ok (.ireturn, 1) := by decide +kernel
theorem dJ0_charAt_5068e_16 : decode cJ0_charAt_5068e 16 = .ok (.aload_n 0, 1) := by decide +kernel
theorem dJ0_charAt_5068e_17 : decode cJ0_charAt_5068e 17 = .ok (.getfield 9, 3) := by decide +kernel
theorem dJ0_charAt_5068e_20 : decode cJ0_charAt_5068e 20 = .ok (.iload_n 1, 1) := by decide +kernel
theorem dJ0_charAt_5068e_21 : decode cJ0_charAt_5068e 21 = .ok (.invokestatic 498, 3) := by decide +kernel
theorem dJ0_charAt_5068e_24 : decode cJ0_charAt_5068e 24 = .ok (.ireturn, 1) := by decide +kernel
theorem dJ0_coder_7d493_0 : decode cJ0_coder_7d493 0 = .ok (.getstatic 38, 3) := by decide +kernel
theorem dJ0_coder_7d493_3 : decode cJ0_coder_7d493 3 = .ok (.ifCond .eq 10, 3) := by decide +kernel
theorem dJ0_coder_7d493_6 : decode cJ0_coder_7d493 6 = .ok (.aload_n 0, 1) := by decide +kernel
theorem dJ0_coder_7d493_7 : decode cJ0_coder_7d493 7 = .ok (.getfield 15, 3) := by decide +kernel
theorem dJ0_coder_7d493_10 : decode cJ0_coder_7d493 10 = .ok (.goto 4, 3) := by decide +kernel
theorem dJ0_coder_7d493_13 : decode cJ0_coder_7d493 13 = .ok (.iconst 1, 1) := by decide +kernel
theorem dJ0_coder_7d493_14 : decode cJ0_coder_7d493 14 = .ok (.ireturn, 1) := by decide +kernel
theorem dJ0_isLatin1_aae02_0 : decode cJ0_isLatin1_aae02 0 = .ok (.getstatic 38, 3) := by decide +kernel
theorem dJ0_isLatin1_aae02_3 : decode cJ0_isLatin1_aae02 3 = .ok (.ifCond .eq 14, 3) := by decide +kernel
theorem dJ0_isLatin1_aae02_6 : decode cJ0_isLatin1_aae02 6 = .ok (.aload_n 0, 1) := by decide +kernel
theorem dJ0_isLatin1_aae02_7 : decode cJ0_isLatin1_aae02 7 = .ok (.getfield 15, 3) := by decide +kernel
theorem dJ0_isLatin1_aae02_10 : decode cJ0_isLatin1_aae02 10 = .ok (.ifCond .ne 7, 3) := by decide +kernel
theorem dJ0_isLatin1_aae02_13 : decode cJ0_isLatin1_aae02 13 = .ok (.iconst 1, 1) := by decide +kernel
theorem dJ0_isLatin1_aae02_14 : decode cJ0_isLatin1_aae02 14 = .ok (.goto 4, 3) := by decide +kernel
theorem dJ0_isLatin1_aae02_17 : decode cJ0_isLatin1_aae02 17 = .ok (.iconst 0, 1) := by decide +kernel
theorem dJ0_isLatin1_aae02_18 : decode cJ0_isLatin1_aae02 18 = .ok (.ireturn, 1) := by decide +kernel
set_option maxRecDepth 20000 in
theorem ggJ0_checkIndex_df160_J3_checkIndex_8e157 : GoodIn wsJ0_checkIndex_df160 wsJ3_checkIndex_8e157 := goodIn_r _ [5] (by decide +kernel) (by decide +kernel)
set_option maxRecDepth 20000 in
theorem gJ0_checkIndex_df160_J3_checkIndex_8e157 : GoodIn wsJ0_checkIndex_df160 (va_wsS RJ0 1059 yJ3_checkIndex_8e157 wsJ3_checkIndex_8e157) := goodIn_app (goodIn_of _ (by decide +kernel)) ggJ0_checkIndex_df160_J3_checkIndex_8e157
theorem dJ0_checkIndex_df160_0 : decode cJ0_checkIndex_df160 0 = .ok (.iload_n 0, 1) := by decide +kernel
theorem dJ0_checkIndex_df160_1 : decode cJ0_checkIndex_df160 1 = .ok (.iload_n 1, 1) := by decide +kernel
theorem dJ0_checkIndex_df160_2 : decode cJ0_checkIndex_df160 2 = .ok (.getstatic 1053, 3) := by decide +kernel
theorem dJ0_checkIndex_df160_5 : decode cJ0_checkIndex_df160 5 = .ok (.invokestatic 1059, 3) := by decide +kernel
theorem dJ0_checkIndex_df160_8 : decode cJ0_checkIndex_df160 8 = .ok (.pop, 1) := by decide +kernel
theorem dJ0_checkIndex_df160_9 : decode cJ0_checkIndex_df160 9 = .ok (.return_, 1) := by decide +kernel
set_option maxRecDepth 20000 in
theorem ggJ1_charAt_3b067_J0_checkIndex_df160 : GoodIn wsJ1_charAt_3b067 wsJ0_checkIndex_df160 := goodIn_r _ [4, 5, 6, 7, 8, 9] (by decide +kernel) (by decide +kernel)
set_option maxRecDepth 20000 in
theorem gJ1_charAt_3b067_J0_checkIndex_df160 : GoodIn wsJ1_charAt_3b067 (va_wsS RJ1 9 yJ0_checkIndex_df160 wsJ0_checkIndex_df160) := goodIn_app (goodIn_of _ (by decide +kernel)) ggJ1_charAt_3b067_J0_checkIndex_df160
theorem dJ1_charAt_3b067_0 : decode cJ1_charAt_3b067 0 = .ok (.iload_n 1, 1) := by decide +kernel
theorem dJ1_charAt_3b067_1 : decode cJ1_charAt_3b067 1 = .ok (.aload_n 0, 1) := by decide +kernel
theorem dJ1_charAt_3b067_2 : decode cJ1_charAt_3b067 2 = .ok (.arraylength, 1) := by decide +kernel
theorem dJ1_charAt_3b067_3 : decode cJ1_charAt_3b067 3 = .ok (.invokestatic 9, 3) := by decide +kernel
theorem dJ1_charAt_3b067_6 : decode cJ1_charAt_3b067 6 = .ok (.aload_n 0, 1) := by decide +kernel
theorem dJ1_charAt_3b067_7 : decode cJ1_charAt_3b067 7 = .ok (.iload_n 1, 1) := by decide +kernel
theorem dJ1_charAt_3b067_8 : decode cJ1_charAt_3b067 8 = .ok (.baload, 1) := by decide +kernel
theorem dJ1_charAt_3b067_9 : decode cJ1_charAt_3b067 9 = .ok (.sipush 255, 3) := by decide +kernel
theorem dJ1_charAt_3b067_12 : decode cJ1_charAt_3b067 12 = .ok (.iand, 1) := by decide +kernel
theorem dJ1_charAt_3b067_13 : decode cJ1_charAt_3b067 13 = .ok (.i2c, 1) := by decide +kernel
theorem dJ1_charAt_3b067_14 : decode cJ1_charAt_3b067 14 = .ok (.ireturn, 1) := by decide +kernel
set_option maxRecDepth 20000 in
theorem ggJ2_getChar_3b067_J2_length_9d52b : GoodIn wsJ2_getChar_3b067 wsJ2_length_9d52b := goodIn_r _ [7] (by decide +kernel) (by decide +kernel)
set_option maxRecDepth 20000 in
theorem gJ2_getChar_3b067_J2_length_9d52b : GoodIn wsJ2_getChar_3b067 (va_wsS RJ2 48 yJ2_length_9d52b wsJ2_length_9d52b) := goodIn_app (goodIn_of _ (by decide +kernel)) ggJ2_getChar_3b067_J2_length_9d52b
theorem dJ2_getChar_3b067_0 : decode cJ2_getChar_3b067 0 = .ok (.getstatic 44, 3) := by decide +kernel
theorem dJ2_getChar_3b067_3 : decode cJ2_getChar_3b067 3 = .ok (.ifCond .ne 25, 3) := by decide +kernel
theorem dJ2_getChar_3b067_6 : decode cJ2_getChar_3b067 6 = .ok (.iload_n 1, 1) := by decide +kernel
theorem dJ2_getChar_3b067_7 : decode cJ2_getChar_3b067 7 = .ok (.ifCond .lt 11, 3) := by decide +kernel
theorem dJ2_getChar_3b067_10 : decode cJ2_getChar_3b067 10 = .ok (.iload_n 1, 1) := by decide +kernel
theorem dJ2_getChar_3b067_11 : decode cJ2_getChar_3b067 11 = .ok (.aload_n 0, 1) := by decide +kernel
theorem dJ2_getChar_3b067_12 : decode cJ2_getChar_3b067 12 = .ok (.invokestatic 48, 3) := by decide +kernel
theorem dJ2_getChar_3b067_15 : decode cJ2_getChar_3b067 15 = .ok (.if_icmp .lt 13, 3) := by decide +kernel
theorem dJ2_getChar_3b067_18 : decode cJ2_getChar_3b067 18 = .ok (.new 52, 3) := by decide +kernel
theorem dJ2_getChar_3b067_21 : decode cJ2_getChar_3b067 21 = .ok (.dup, 1) := by decide +kernel
theorem dJ2_getChar_3b067_22 : decode cJ2_getChar_3b067 22 = .ok (.ldc 54, 2) := by decide +kernel
theorem dJ2_getChar_3b067_24 : decode cJ2_getChar_3b067 24 = .ok (.invokespecial 56, 3) := by decide +kernel
theorem dJ2_getChar_3b067_27 : decode cJ2_getChar_3b067 27 = .ok (.athrow, 1) := by decide +kernel
theorem dJ2_getChar_3b067_28 : decode cJ2_getChar_3b067 28 = .ok (.iload_n 1, 1) := by decide +kernel
theorem dJ2_getChar_3b067_29 : decode cJ2_getChar_3b067 29 = .ok (.iconst 1, 1) := by decide +kernel
theorem dJ2_getChar_3b067_30 : decode cJ2_getChar_3b067 30 = .ok (.ishl, 1) := by decide +kernel
theorem dJ2_getChar_3b067_31 : decode cJ2_getChar_3b067 31 = .ok (.istore_n 1, 1) := by decide +kernel
theorem dJ2_getChar_3b067_32 : decode cJ2_getChar_3b067 32 = .ok (.aload_n 0, 1) := by decide +kernel
theorem dJ2_getChar_3b067_33 : decode cJ2_getChar_3b067 33 = .ok (.iload_n 1, 1) := by decide +kernel
theorem dJ2_getChar_3b067_34 : decode cJ2_getChar_3b067 34 = .ok (.iinc 1 1, 3) := by decide +kernel
theorem dJ2_getChar_3b067_37 : decode cJ2_getChar_3b067 37 = .ok (.baload, 1) := by decide +kernel
theorem dJ2_getChar_3b067_38 : decode cJ2_getChar_3b067 38 = .ok (.sipush 255, 3) := by decide +kernel
theorem dJ2_getChar_3b067_41 : decode cJ2_getChar_3b067 41 = .ok (.iand, 1) := by decide +kernel
theorem dJ2_getChar_3b067_42 : decode cJ2_getChar_3b067 42 = .ok (.getstatic 59, 3) := by decide +kernel
theorem dJ2_getChar_3b067_45 : decode cJ2_getChar_3b067 45 = .ok (.ishl, 1) := by decide +kernel
theorem dJ2_getChar_3b067_46 : decode cJ2_getChar_3b067 46 = .ok (.aload_n 0, 1) := by decide +kernel
theorem dJ2_getChar_3b067_47 : decode cJ2_getChar_3b067 47 = .ok (.iload_n 1, 1) := by decide +kernel
theorem dJ2_getChar_3b067_48 : decode cJ2_getChar_3b067 48 = .ok (.baload, 1) := by decide +kernel
theorem dJ2_getChar_3b067_49 : decode cJ2_getChar_3b067 49 = .ok (.sipush 255, 3) := by decide +kernel
theorem dJ2_getChar_3b067_52 : decode cJ2_getChar_3b067 52 = .ok (.iand, 1) := by decide +kernel
theorem dJ2_getChar_3b067_53 : decode cJ2_getChar_3b067 53 = .ok (.getstatic 63, 3) := by decide +kernel
theorem dJ2_getChar_3b067_56 : decode cJ2_getChar_3b067 56 = .ok (.ishl, 1) := by decide +kernel
theorem dJ2_getChar_3b067_57 : decode cJ2_getChar_3b067 57 = .ok (.ior, 1) := by decide +kernel
theorem dJ2_getChar_3b067_58 : decode cJ2_getChar_3b067 58 = .ok (.i2c, 1) := by decide +kernel
theorem dJ2_getChar_3b067_59 : decode cJ2_getChar_3b067 59 = .ok (.ireturn, 1) := by decide +kernel
theorem dJ2_length_9d52b_0 : decode cJ2_length_9d52b 0 = .ok (.aload_n 0, 1) := by decide +kernel
theorem dJ2_length_9d52b_1 : decode cJ2_length_9d52b 1 = .ok (.arraylength, 1) := by decide +kernel
theorem dJ2_length_9d52b_2 : decode cJ2_length_9d52b 2 = .ok (.iconst 1, 1) := by decide +kernel
theorem dJ2_length_9d52b_3 : decode cJ2_length_9d52b 3 = .ok (.ishr, 1) := by decide +kernel
theorem dJ2_length_9d52b_4 : decode cJ2_length_9d52b 4 = .ok (.ireturn, 1) := by decide +kernel
set_option maxRecDepth 20000 in
theorem ggJ2_charAt_3b067_J2_checkIndex_2214a : GoodIn wsJ2_charAt_3b067 wsJ2_checkIndex_2214a := goodIn_r _ [4, 5, 6, 3, 7, 8, 9, 10, 11, 12, 13, 14, 15, 16] (by decide +kernel) (by decide +kernel)
set_option maxRecDepth 20000 in
theorem gJ2_charAt_3b067_J2_checkIndex_2214a : GoodIn wsJ2_charAt_3b067 (va_wsS RJ2 67 yJ2_checkIndex_2214a wsJ2_checkIndex_2214a) := goodIn_app (goodIn_of _ (by decide +kernel)) ggJ2_charAt_3b067_J2_checkIndex_2214a
set_option maxRecDepth 20000 in
theorem ggJ2_charAt_3b067_J2_getChar_3b067 : GoodIn wsJ2_charAt_3b067 wsJ2_getChar_3b067 := goodIn_r _ [19, 20, 21, 22, 5, 6, 3, 7] (by decide +kernel) (by decide +kernel)
set_option maxRecDepth 20000 in
theorem gJ2_charAt_3b067_J2_getChar_3b067 : GoodIn wsJ2_charAt_3b067 (va_wsS RJ2 71 yJ2_getChar_3b067 wsJ2_getChar_3b067) := goodIn_app (goodIn_of _ (by decide +kernel)) ggJ2_charAt_3b067_J2_getChar_3b067
theorem dJ2_charAt_3b067_0 : decode cJ2_charAt_3b067 0 = .ok (.iload_n 1, 1) := by decide +kernel
theorem dJ2_charAt_3b067_1 : decode cJ2_charAt_3b067 1 = .ok (.aload_n 0, 1) := by decide +kernel
theorem dJ2_charAt_3b067_2 : decode cJ2_charAt_3b067 2 = .ok (.invokestatic 67, 3) := by decide +kernel
theorem dJ2_charAt_3b067_5 : decode cJ2_charAt_3b067 5 = .ok (.aload_n 0, 1) := by decide +kernel
theorem dJ2_charAt_3b067_6 : decode cJ2_charAt_3b067 6 = .ok (.iload_n 1, 1) := by decide +kernel
theorem dJ2_charAt_3b067_7 : decode cJ2_charAt_3b067 7 = .ok (.invokestatic 71, 3) := by decide +kernel
theorem dJ2_charAt_3b067_10 : decode cJ2_charAt_3b067 10 = .ok (.ireturn, 1) := by decide +kernel
set_option maxRecDepth 20000 in
theorem ggJ2_checkIndex_2214a_J2_length_9d52b : GoodIn wsJ2_checkIndex_2214a wsJ2_length_9d52b := goodIn_r _ [4] (by decide +kernel) (by decide +kernel)
set_option maxRecDepth 20000 in
theorem gJ2_checkIndex_2214a_J2_length_9d52b : GoodIn wsJ2_checkIndex_2214a (va_wsS RJ2 48 yJ2_length_9d52b wsJ2_length_9d52b) := goodIn_app (goodIn_of _ (by decide +kernel)) ggJ2_checkIndex_2214a_J2_length_9d52b
set_option maxRecDepth 20000 in
theorem ggJ2_checkIndex_2214a_J0_checkIndex_df160 : GoodIn wsJ2_checkIndex_2214a wsJ0_checkIndex_df160 := goodIn_r _ [8, 9, 10, 11, 12, 13] (by decide +kernel) (by decide +kernel)
set_option maxRecDepth 20000 in
theorem gJ2_checkIndex_2214a_J0_checkIndex_df160 : GoodIn wsJ2_checkIndex_2214a (va_wsS RJ2 414 yJ0_checkIndex_df160 wsJ0_checkIndex_df160) := goodIn_app (goodIn_of _ (by decide +kernel)) ggJ2_checkIndex_2214a_J0_checkIndex_df160
theorem dJ2_checkIndex_2214a_0 : decode cJ2_checkIndex_2214a 0 = .ok (.iload_n 0, 1) := by decide +kernel
theorem dJ2_checkIndex_2214a_1 : decode cJ2_checkIndex_2214a 1 = .ok (.aload_n 1, 1) := by decide +kernel
theorem dJ2_checkIndex_2214a_2 : decode cJ2_checkIndex_2214a 2 = .ok (.invokestatic 48, 3) := by decide +kernel
theorem dJ2_checkIndex_2214a_5 : decode cJ2_checkIndex_2214a 5 = .ok (.invokestatic 414, 3) := by decide +kernel
theorem dJ2_checkIndex_2214a_8 : decode cJ2_checkIndex_2214a 8 = .ok (.return_, 1) := by decide +kernel
theorem dJ7_fill_53178_0 : decode cJ7_fill_53178 0 = .ok (.iconst 0, 1) := by decide +kernel
theorem dJ7_fill_53178_1 : decode cJ7_fill_53178 1 = .ok (.istore_n 2, 1) := by decide +kernel
theorem dJ7_fill_53178_2 : decode cJ7_fill_53178 2 = .ok (.aload_n 0, 1) := by decide +kernel
theorem dJ7_fill_53178_3 : decode cJ7_fill_53178 3 = .ok (.arraylength, 1) := by decide +kernel
theorem dJ7_fill_53178_4 : decode cJ7_fill_53178 4 = .ok (.istore_n 3, 1) := by decide +kernel
theorem dJ7_fill_53178_5 : decode cJ7_fill_53178 5 = .ok (.iload_n 2, 1) := by decide +kernel
theorem dJ7_fill_53178_6 : decode cJ7_fill_53178 6 = .ok (.iload_n 3, 1) := by decide +kernel
theorem dJ7_fill_53178_7 : decode cJ7_fill_53178 7 = .ok (.if_icmp .ge 13, 3) := by decide +kernel
theorem dJ7_fill_53178_10 : decode cJ7_fill_53178 10 = .ok (.aload_n 0, 1) := by decide +kernel
theorem dJ7_fill_53178_11 : decode cJ7_fill_53178 11 = .ok (.iload_n 2, 1) := by decide +kernel
theorem dJ7_fill_53178_12 : decode cJ7_fill_53178 12 = .ok (.iload_n 1, 1) := by decide +kernel
theorem dJ7_fill_53178_13 : decode cJ7_fill_53178 13 = .ok (.iastore, 1) := by decide +kernel
theorem dJ7_fill_53178_14 : decode cJ7_fill_53178 14 = .ok (.iinc 2 1, 3) := by decide +kernel
theorem dJ7_fill_53178_17 : decode cJ7_fill_53178 17 = .ok (.goto (-12), 3) := by decide +kernel
theorem dJ7_fill_53178_20 : decode cJ7_fill_53178 20 = .ok (.return_, 1) := by decide +kernel
theorem dJ3_checkIndex_8e157_0 : decode cJ3_checkIndex_8e157 0 = .ok (.iload_n 0, 1) := by decide +kernel
theorem dJ3_checkIndex_8e157_1 : decode cJ3_checkIndex_8e157 1 = .ok (.ifCond .lt 8, 3) := by decide +kernel
theorem dJ3_checkIndex_8e157_4 : decode cJ3_checkIndex_8e157 4 = .ok (.iload_n 0, 1) := by decide +kernel
theorem dJ3_checkIndex_8e157_5 : decode cJ3_checkIndex_8e157 5 = .ok (.iload_n 1, 1) := by decide +kernel
theorem dJ3_checkIndex_8e157_6 : decode cJ3_checkIndex_8e157 6 = .ok (.if_icmp .lt 10, 3) := by decide +kernel
theorem dJ3_checkIndex_8e157_9 : decode cJ3_checkIndex_8e157 9 = .ok (.aload_n 2, 1) := by decide +kernel
theorem dJ3_checkIndex_8e157_10 : decode cJ3_checkIndex_8e157 10 = .ok (.iload_n 0, 1) := by decide +kernel
