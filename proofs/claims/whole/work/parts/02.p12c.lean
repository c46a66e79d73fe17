theorem dX12_lag_27 : decode cX12_lag 27 = .ok (.aload_n 0, 1) := by decide +kernel
theorem dX12_lag_28 : decode cX12_lag 28 = .ok (.getfield 67, 3) := by decide +kernel
theorem dX12_lag_31 : decode cX12_lag 31 = .ok (.iload_n 1, 1) := by decide +kernel
theorem dX12_lag_32 : decode cX12_lag 32 = .ok (.iaload, 1) := by decide +kernel
theorem dX12_lag_33 : decode cX12_lag 33 = .ok (.invokestatic 123, 3) := by decide +kernel
theorem dX12_lag_36 : decode cX12_lag 36 = .ok (.goto 4, 3) := by decide +kernel
theorem dX12_lag_39 : decode cX12_lag 39 = .ok (.iconst 0, 1) := by decide +kernel
theorem dX12_lag_40 : decode cX12_lag 40 = .ok (.ireturn, 1) := by decide +kernel
set_option maxRecDepth 20000 in
theorem ggX12_ticks_X12_make : GoodIn wsX12_ticks wsX12_make := goodIn_r _ [9, 4, 2, 10, 11, 12, 13, 14, 15, 16, 17, 18, 19, 20, 21, 8, 22, 23, 24, 25, 26, 27, 28, 29, 30, 31, 32, 33, 34, 35, 36, 37, 38, 39, 40, 41, 42, 43, 44, 45, 46, 47, 48, 49, 50, 51, 52, 53, 54, 55, 56, 57, 58, 59, 60, 61, 62, 63, 64, 65, 66, 67, 68, 69, 70, 71, 72, 73, 74, 75, 76, 77, 78, 79, 80, 81, 82, 83, 84, 85, 86, 87, 88, 89, 90, 91, 92, 93, 94, 95, 96, 97, 98, 99, 100, 101, 102, 103, 104, 105, 106, 107] (by decide +kernel) (by decide +kernel)
set_option maxRecDepth 20000 in
theorem gX12_ticks_X12_make : GoodIn wsX12_ticks (wsV RX12 182 RX12 yX12_make wsX12_make) := goodIn_app (goodIn_of _ (by decide +kernel)) ggX12_ticks_X12_make
theorem dX12_ticks_0 : decode cX12_ticks 0 = .ok (.aload_n 0, 1) := by decide +kernel
theorem dX12_ticks_1 : decode cX12_ticks 1 = .ok (.iconst 0, 1) := by decide +kernel
theorem dX12_ticks_2 : decode cX12_ticks 2 = .ok (.putfield 1, 3) := by decide +kernel
theorem dX12_ticks_5 : decode cX12_ticks 5 = .ok (.aload_n 0, 1) := by decide +kernel
theorem dX12_ticks_6 : decode cX12_ticks 6 = .ok (.invokevirtual 182, 3) := by decide +kernel
theorem dX12_ticks_9 : decode cX12_ticks 9 = .ok (.aload_n 0, 1) := by decide +kernel
theorem dX12_ticks_10 : decode cX12_ticks 10 = .ok (.getfield 152, 3) := by decide +kernel
theorem dX12_ticks_13 : decode cX12_ticks 13 = .ok (.ifCond .eq 8, 3) := by decide +kernel
theorem dX12_ticks_16 : decode cX12_ticks 16 = .ok (.ldc 110, 2) := by decide +kernel
theorem dX12_ticks_18 : decode cX12_ticks 18 = .ok (.goto 7, 3) := by decide +kernel
theorem dX12_ticks_21 : decode cX12_ticks 21 = .ok (.aload_n 0, 1) := by decide +kernel
theorem dX12_ticks_22 : decode cX12_ticks 22 = .ok (.getfield 149, 3) := by decide +kernel
theorem dX12_ticks_25 : decode cX12_ticks 25 = .ok (.ireturn, 1) := by decide +kernel
set_option maxRecDepth 20000 in
theorem ggX12_tick_X12_in : GoodIn wsX12_tick wsX12_in := goodIn_r _ [17] (by decide +kernel) (by decide +kernel)
set_option maxRecDepth 20000 in
theorem gX12_tick_X12_in : GoodIn wsX12_tick (va_wsS RX12 90 yX12_in wsX12_in) := goodIn_app (goodIn_of _ (by decide +kernel)) ggX12_tick_X12_in
set_option maxRecDepth 20000 in
theorem ggX12_tick_X12_make : GoodIn wsX12_tick wsX12_make := goodIn_r _ [21, 6, 4, 22, 23, 24, 25, 26, 27, 28, 29, 30, 31, 32, 33, 16, 34, 35, 36, 37, 38, 39, 40, 41, 42, 43, 44, 45, 46, 47, 48, 8, 9, 10, 49, 50, 51, 52, 53, 54, 55, 56, 57, 58, 59, 60, 61, 11, 12, 13, 62, 63, 64, 14, 15, 17, 65, 66, 67, 68, 73, 74, 75, 76, 77, 78, 79, 80, 81, 82, 83, 84, 85, 86, 87, 88, 89, 90, 91, 92, 93, 94, 95, 96, 97, 98, 99, 100, 101, 102, 103, 104, 105, 106, 107, 108, 109, 110, 111, 112, 113, 114] (by decide +kernel) (by decide +kernel)
set_option maxRecDepth 20000 in
theorem gX12_tick_X12_make : GoodIn wsX12_tick (wsV RX12 182 RX12 yX12_make wsX12_make) := goodIn_app (goodIn_of _ (by decide +kernel)) ggX12_tick_X12_make
set_option maxRecDepth 20000 in
theorem ggX12_tick_X12_isLit : GoodIn wsX12_tick wsX12_isLit := goodIn_r _ [68, 30, 10, 13, 73, 74, 75, 76, 77, 78, 79, 80, 81, 82, 83, 84, 85, 86, 87, 88, 89, 90, 91, 92, 93, 94, 95, 96, 97, 98, 99, 100, 101, 102, 103, 104, 105, 106, 107, 108, 109, 110, 111, 112, 113, 114] (by decide +kernel) (by decide +kernel)
set_option maxRecDepth 20000 in
theorem gX12_tick_X12_isLit : GoodIn wsX12_tick (wsV RX12 179 RX12 yX12_isLit wsX12_isLit) := goodIn_app (goodIn_of _ (by decide +kernel)) ggX12_tick_X12_isLit
set_option maxRecDepth 20000 in
theorem ggX12_tick_X12_lag : GoodIn wsX12_tick wsX12_lag := goodIn_r _ [72, 10, 8, 9, 11, 12, 39, 40, 16, 41, 42, 43, 44, 73, 74, 75, 76, 77, 78, 79, 80, 81, 82, 83, 84, 85, 86, 87, 88, 89, 90, 91, 92, 93, 94, 95, 96, 97, 98, 99, 100, 101, 102, 103, 104, 105, 106, 107, 108, 109, 110, 111, 112, 113, 114] (by decide +kernel) (by decide +kernel)
set_option maxRecDepth 20000 in
theorem gX12_tick_X12_lag : GoodIn wsX12_tick (wsV RX12 185 RX12 yX12_lag wsX12_lag) := goodIn_app (goodIn_of _ (by decide +kernel)) ggX12_tick_X12_lag
theorem dX12_tick_0 : decode cX12_tick 0 = .ok (.aload_n 0, 1) := by decide +kernel
theorem dX12_tick_1 : decode cX12_tick 1 = .ok (.iconst 0, 1) := by decide +kernel
theorem dX12_tick_2 : decode cX12_tick 2 = .ok (.putfield 1, 3) := by decide +kernel
theorem dX12_tick_5 : decode cX12_tick 5 = .ok (.iload_n 2, 1) := by decide +kernel
theorem dX12_tick_6 : decode cX12_tick 6 = .ok (.i2l, 1) := by decide +kernel
theorem dX12_tick_7 : decode cX12_tick 7 = .ok (.lconst 0, 1) := by decide +kernel
theorem dX12_tick_8 : decode cX12_tick 8 = .ok (.ldc2_w 88, 3) := by decide +kernel
theorem dX12_tick_11 : decode cX12_tick 11 = .ok (.invokestatic 90, 3) := by decide +kernel
theorem dX12_tick_14 : decode cX12_tick 14 = .ok (.ifCond .ne 6, 3) := by decide +kernel
theorem dX12_tick_17 : decode cX12_tick 17 = .ok (.ldc 100, 2) := by decide +kernel
theorem dX12_tick_19 : decode cX12_tick 19 = .ok (.ireturn, 1) := by decide +kernel
theorem dX12_tick_20 : decode cX12_tick 20 = .ok (.aload_n 0, 1) := by decide +kernel
theorem dX12_tick_21 : decode cX12_tick 21 = .ok (.invokevirtual 182, 3) := by decide +kernel
theorem dX12_tick_24 : decode cX12_tick 24 = .ok (.aload_n 0, 1) := by decide +kernel
theorem dX12_tick_25 : decode cX12_tick 25 = .ok (.getfield 152, 3) := by decide +kernel
theorem dX12_tick_28 : decode cX12_tick 28 = .ok (.ifCond .eq 6, 3) := by decide +kernel
theorem dX12_tick_31 : decode cX12_tick 31 = .ok (.ldc 110, 2) := by decide +kernel
theorem dX12_tick_33 : decode cX12_tick 33 = .ok (.ireturn, 1) := by decide +kernel
theorem dX12_tick_34 : decode cX12_tick 34 = .ok (.iload_n 1, 1) := by decide +kernel
theorem dX12_tick_35 : decode cX12_tick 35 = .ok (.i2l, 1) := by decide +kernel
theorem dX12_tick_36 : decode cX12_tick 36 = .ok (.lconst 0, 1) := by decide +kernel
theorem dX12_tick_37 : decode cX12_tick 37 = .ok (.aload_n 0, 1) := by decide +kernel
theorem dX12_tick_38 : decode cX12_tick 38 = .ok (.getfield 149, 3) := by decide +kernel
theorem dX12_tick_41 : decode cX12_tick 41 = .ok (.iconst 1, 1) := by decide +kernel
theorem dX12_tick_42 : decode cX12_tick 42 = .ok (.isub, 1) := by decide +kernel
theorem dX12_tick_43 : decode cX12_tick 43 = .ok (.i2l, 1) := by decide +kernel
theorem dX12_tick_44 : decode cX12_tick 44 = .ok (.invokestatic 90, 3) := by decide +kernel
theorem dX12_tick_47 : decode cX12_tick 47 = .ok (.ifCond .ne 6, 3) := by decide +kernel
theorem dX12_tick_50 : decode cX12_tick 50 = .ok (.ldc 142, 2) := by decide +kernel
theorem dX12_tick_52 : decode cX12_tick 52 = .ok (.ireturn, 1) := by decide +kernel
theorem dX12_tick_53 : decode cX12_tick 53 = .ok (.iload_n 2, 1) := by decide +kernel
theorem dX12_tick_54 : decode cX12_tick 54 = .ok (.tableswitch 114 0 6 #[42, 49, 56, 71, 78, 85, 99], 42) := by decide +kernel
theorem dX12_tick_96 : decode cX12_tick 96 = .ok (.aload_n 0, 1) := by decide +kernel
theorem dX12_tick_97 : decode cX12_tick 97 = .ok (.getfield 55, 3) := by decide +kernel
theorem dX12_tick_100 : decode cX12_tick 100 = .ok (.iload_n 1, 1) := by decide +kernel
theorem dX12_tick_101 : decode cX12_tick 101 = .ok (.iaload, 1) := by decide +kernel
theorem dX12_tick_102 : decode cX12_tick 102 = .ok (.ireturn, 1) := by decide +kernel
theorem dX12_tick_103 : decode cX12_tick 103 = .ok (.aload_n 0, 1) := by decide +kernel
theorem dX12_tick_104 : decode cX12_tick 104 = .ok (.getfield 58, 3) := by decide +kernel
theorem dX12_tick_107 : decode cX12_tick 107 = .ok (.iload_n 1, 1) := by decide +kernel
theorem dX12_tick_108 : decode cX12_tick 108 = .ok (.iaload, 1) := by decide +kernel
theorem dX12_tick_109 : decode cX12_tick 109 = .ok (.ireturn, 1) := by decide +kernel
theorem dX12_tick_110 : decode cX12_tick 110 = .ok (.aload_n 0, 1) := by decide +kernel
theorem dX12_tick_111 : decode cX12_tick 111 = .ok (.getfield 61, 3) := by decide +kernel
theorem dX12_tick_114 : decode cX12_tick 114 = .ok (.iload_n 1, 1) := by decide +kernel
theorem dX12_tick_115 : decode cX12_tick 115 = .ok (.baload, 1) := by decide +kernel
theorem dX12_tick_116 : decode cX12_tick 116 = .ok (.ifCond .eq 7, 3) := by decide +kernel
theorem dX12_tick_119 : decode cX12_tick 119 = .ok (.iconst 1, 1) := by decide +kernel
theorem dX12_tick_120 : decode cX12_tick 120 = .ok (.goto 4, 3) := by decide +kernel
theorem dX12_tick_123 : decode cX12_tick 123 = .ok (.iconst 0, 1) := by decide +kernel
theorem dX12_tick_124 : decode cX12_tick 124 = .ok (.ireturn, 1) := by decide +kernel
theorem dX12_tick_125 : decode cX12_tick 125 = .ok (.aload_n 0, 1) := by decide +kernel
theorem dX12_tick_126 : decode cX12_tick 126 = .ok (.getfield 64, 3) := by decide +kernel
theorem dX12_tick_129 : decode cX12_tick 129 = .ok (.iload_n 1, 1) := by decide +kernel
theorem dX12_tick_130 : decode cX12_tick 130 = .ok (.iaload, 1) := by decide +kernel
theorem dX12_tick_131 : decode cX12_tick 131 = .ok (.ireturn, 1) := by decide +kernel
theorem dX12_tick_132 : decode cX12_tick 132 = .ok (.aload_n 0, 1) := by decide +kernel
theorem dX12_tick_133 : decode cX12_tick 133 = .ok (.getfield 67, 3) := by decide +kernel
theorem dX12_tick_136 : decode cX12_tick 136 = .ok (.iload_n 1, 1) := by decide +kernel
theorem dX12_tick_137 : decode cX12_tick 137 = .ok (.iaload, 1) := by decide +kernel
theorem dX12_tick_138 : decode cX12_tick 138 = .ok (.ireturn, 1) := by decide +kernel
theorem dX12_tick_139 : decode cX12_tick 139 = .ok (.aload_n 0, 1) := by decide +kernel
theorem dX12_tick_140 : decode cX12_tick 140 = .ok (.iload_n 1, 1) := by decide +kernel
theorem dX12_tick_141 : decode cX12_tick 141 = .ok (.invokevirtual 179, 3) := by decide +kernel
theorem dX12_tick_144 : decode cX12_tick 144 = .ok (.ifCond .eq 7, 3) := by decide +kernel
theorem dX12_tick_147 : decode cX12_tick 147 = .ok (.iconst 1, 1) := by decide +kernel
theorem dX12_tick_148 : decode cX12_tick 148 = .ok (.goto 4, 3) := by decide +kernel
theorem dX12_tick_151 : decode cX12_tick 151 = .ok (.iconst 0, 1) := by decide +kernel
theorem dX12_tick_152 : decode cX12_tick 152 = .ok (.ireturn, 1) := by decide +kernel
theorem dX12_tick_153 : decode cX12_tick 153 = .ok (.aload_n 0, 1) := by decide +kernel
theorem dX12_tick_154 : decode cX12_tick 154 = .ok (.getfield 70, 3) := by decide +kernel
theorem dX12_tick_157 : decode cX12_tick 157 = .ok (.iload_n 1, 1) := by decide +kernel
theorem dX12_tick_158 : decode cX12_tick 158 = .ok (.baload, 1) := by decide +kernel
theorem dX12_tick_159 : decode cX12_tick 159 = .ok (.ifCond .eq 7, 3) := by decide +kernel
theorem dX12_tick_162 : decode cX12_tick 162 = .ok (.iconst 1, 1) := by decide +kernel
theorem dX12_tick_163 : decode cX12_tick 163 = .ok (.goto 4, 3) := by decide +kernel
theorem dX12_tick_166 : decode cX12_tick 166 = .ok (.iconst 0, 1) := by decide +kernel
theorem dX12_tick_167 : decode cX12_tick 167 = .ok (.ireturn, 1) := by decide +kernel
theorem dX12_tick_168 : decode cX12_tick 168 = .ok (.aload_n 0, 1) := by decide +kernel
theorem dX12_tick_169 : decode cX12_tick 169 = .ok (.iload_n 1, 1) := by decide +kernel
theorem dX12_tick_170 : decode cX12_tick 170 = .ok (.invokevirtual 185, 3) := by decide +kernel
theorem dX12_tick_173 : decode cX12_tick 173 = .ok (.ireturn, 1) := by decide +kernel
set_option maxRecDepth 20000 in
theorem ggX12_all_X12_in : GoodIn wsX12_all wsX12_in := goodIn_r _ [14] (by decide +kernel) (by decide +kernel)
set_option maxRecDepth 20000 in
theorem gX12_all_X12_in : GoodIn wsX12_all (va_wsS RX12 90 yX12_in wsX12_in) := goodIn_app (goodIn_of _ (by decide +kernel)) ggX12_all_X12_in
set_option maxRecDepth 20000 in
theorem ggX12_all_X12_make : GoodIn wsX12_all wsX12_make := goodIn_r _ [18, 6, 4, 19, 20, 21, 22, 23, 24, 25, 26, 10, 27, 28, 29, 13, 30, 31, 32, 33, 34, 35, 36, 37, 38, 39, 40, 41, 42, 43, 44, 45, 46, 7, 47, 48, 49, 50, 51, 52, 53, 54, 55, 56, 57, 58, 9, 59, 60, 8, 61, 62, 63, 11, 12, 14, 64, 65, 66, 67, 72, 73, 74, 75, 76, 77, 78, 79, 80, 81, 82, 83, 84, 85, 86, 87, 88, 89, 90, 91, 92, 93, 94, 95, 96, 97, 98, 99, 100, 101, 102, 103, 104, 105, 106, 107, 108, 109, 110, 111, 112, 113] (by decide +kernel) (by decide +kernel)
set_option maxRecDepth 20000 in
theorem gX12_all_X12_make : GoodIn wsX12_all (wsV RX12 182 RX12 yX12_make wsX12_make) := goodIn_app (goodIn_of _ (by decide +kernel)) ggX12_all_X12_make
set_option maxRecDepth 20000 in
theorem ggX12_all_X12_isLit : GoodIn wsX12_all wsX12_isLit := goodIn_r _ [67, 10, 7, 8, 72, 73, 74, 75, 76, 77, 78, 79, 80, 81, 82, 83, 84, 85, 86, 87, 88, 89, 90, 91, 92, 93, 94, 95, 96, 97, 98, 99, 100, 101, 102, 103, 104, 105, 106, 107, 108, 109, 110, 111, 112, 113] (by decide +kernel) (by decide +kernel)
set_option maxRecDepth 20000 in
theorem gX12_all_X12_isLit : GoodIn wsX12_all (wsV RX12 179 RX12 yX12_isLit wsX12_isLit) := goodIn_app (goodIn_of _ (by decide +kernel)) ggX12_all_X12_isLit
set_option maxRecDepth 20000 in
theorem ggX12_all_X12_lag : GoodIn wsX12_all wsX12_lag := goodIn_r _ [71, 7, 45, 46, 59, 60, 35, 36, 13, 37, 38, 39, 40, 72, 73, 74, 75, 76, 77, 78, 79, 80, 81, 82, 83, 84, 85, 86, 87, 88, 89, 90, 91, 92, 93, 94, 95, 96, 97, 98, 99, 100, 101, 102, 103, 104, 105, 106, 107, 108, 109, 110, 111, 112, 113] (by decide +kernel) (by decide +kernel)
set_option maxRecDepth 20000 in
theorem gX12_all_X12_lag : GoodIn wsX12_all (wsV RX12 185 RX12 yX12_lag wsX12_lag) := goodIn_app (goodIn_of _ (by decide +kernel)) ggX12_all_X12_lag
theorem dX12_all_0 : decode cX12_all 0 = .ok (.aload_n 0, 1) := by decide +kernel
theorem dX12_all_1 : decode cX12_all 1 = .ok (.iconst 0, 1) := by decide +kernel
theorem dX12_all_2 : decode cX12_all 2 = .ok (.putfield 1, 3) := by decide +kernel
theorem dX12_all_5 : decode cX12_all 5 = .ok (.iload_n 1, 1) := by decide +kernel
theorem dX12_all_6 : decode cX12_all 6 = .ok (.i2l, 1) := by decide +kernel
theorem dX12_all_7 : decode cX12_all 7 = .ok (.lconst 0, 1) := by decide +kernel
theorem dX12_all_8 : decode cX12_all 8 = .ok (.ldc2_w 143, 3) := by decide +kernel
theorem dX12_all_11 : decode cX12_all 11 = .ok (.invokestatic 90, 3) := by decide +kernel
theorem dX12_all_14 : decode cX12_all 14 = .ok (.ifCond .ne 6, 3) := by decide +kernel
theorem dX12_all_17 : decode cX12_all 17 = .ok (.ldc 100, 2) := by decide +kernel
theorem dX12_all_19 : decode cX12_all 19 = .ok (.ireturn, 1) := by decide +kernel
theorem dX12_all_20 : decode cX12_all 20 = .ok (.aload_n 0, 1) := by decide +kernel
theorem dX12_all_21 : decode cX12_all 21 = .ok (.invokevirtual 182, 3) := by decide +kernel
theorem dX12_all_24 : decode cX12_all 24 = .ok (.aload_n 0, 1) := by decide +kernel
theorem dX12_all_25 : decode cX12_all 25 = .ok (.getfield 152, 3) := by decide +kernel
theorem dX12_all_28 : decode cX12_all 28 = .ok (.ifCond .eq 6, 3) := by decide +kernel
theorem dX12_all_31 : decode cX12_all 31 = .ok (.ldc 110, 2) := by decide +kernel
theorem dX12_all_33 : decode cX12_all 33 = .ok (.ireturn, 1) := by decide +kernel
theorem dX12_all_34 : decode cX12_all 34 = .ok (.iconst 0, 1) := by decide +kernel
theorem dX12_all_35 : decode cX12_all 35 = .ok (.istore_n 2, 1) := by decide +kernel
theorem dX12_all_36 : decode cX12_all 36 = .ok (.iconst 0, 1) := by decide +kernel
theorem dX12_all_37 : decode cX12_all 37 = .ok (.istore_n 3, 1) := by decide +kernel
theorem dX12_all_38 : decode cX12_all 38 = .ok (.iconst 0, 1) := by decide +kernel
theorem dX12_all_39 : decode cX12_all 39 = .ok (.istore 4, 2) := by decide +kernel
theorem dX12_all_41 : decode cX12_all 41 = .ok (.iload 4, 2) := by decide +kernel
theorem dX12_all_43 : decode cX12_all 43 = .ok (.aload_n 0, 1) := by decide +kernel
theorem dX12_all_44 : decode cX12_all 44 = .ok (.getfield 149, 3) := by decide +kernel
theorem dX12_all_47 : decode cX12_all 47 = .ok (.if_icmp .ge 86, 3) := by decide +kernel
theorem dX12_all_50 : decode cX12_all 50 = .ok (.iload_n 2, 1) := by decide +kernel
theorem dX12_all_51 : decode cX12_all 51 = .ok (.iload_n 1, 1) := by decide +kernel
theorem dX12_all_52 : decode cX12_all 52 = .ok (.ifCond .ne 13, 3) := by decide +kernel
theorem dX12_all_55 : decode cX12_all 55 = .ok (.aload_n 0, 1) := by decide +kernel
theorem dX12_all_56 : decode cX12_all 56 = .ok (.getfield 61, 3) := by decide +kernel
theorem dX12_all_59 : decode cX12_all 59 = .ok (.iload 4, 2) := by decide +kernel
theorem dX12_all_61 : decode cX12_all 61 = .ok (.baload, 1) := by decide +kernel
theorem dX12_all_62 : decode cX12_all 62 = .ok (.ifCond .ne 32, 3) := by decide +kernel
theorem dX12_all_65 : decode cX12_all 65 = .ok (.iload_n 1, 1) := by decide +kernel
theorem dX12_all_66 : decode cX12_all 66 = .ok (.iconst 1, 1) := by decide +kernel
theorem dX12_all_67 : decode cX12_all 67 = .ok (.if_icmp .ne 12, 3) := by decide +kernel
theorem dX12_all_70 : decode cX12_all 70 = .ok (.aload_n 0, 1) := by decide +kernel
theorem dX12_all_71 : decode cX12_all 71 = .ok (.iload 4, 2) := by decide +kernel
theorem dX12_all_73 : decode cX12_all 73 = .ok (.invokevirtual 179, 3) := by decide +kernel
theorem dX12_all_76 : decode cX12_all 76 = .ok (.ifCond .ne 18, 3) := by decide +kernel
theorem dX12_all_79 : decode cX12_all 79 = .ok (.iload_n 1, 1) := by decide +kernel
theorem dX12_all_80 : decode cX12_all 80 = .ok (.iconst 2, 1) := by decide +kernel
theorem dX12_all_81 : decode cX12_all 81 = .ok (.if_icmp .ne 17, 3) := by decide +kernel
theorem dX12_all_84 : decode cX12_all 84 = .ok (.aload_n 0, 1) := by decide +kernel
theorem dX12_all_85 : decode cX12_all 85 = .ok (.getfield 70, 3) := by decide +kernel
theorem dX12_all_88 : decode cX12_all 88 = .ok (.iload 4, 2) := by decide +kernel
theorem dX12_all_90 : decode cX12_all 90 = .ok (.baload, 1) := by decide +kernel
theorem dX12_all_91 : decode cX12_all 91 = .ok (.ifCond .eq 7, 3) := by decide +kernel
theorem dX12_all_94 : decode cX12_all 94 = .ok (.iconst 1, 1) := by decide +kernel
theorem dX12_all_95 : decode cX12_all 95 = .ok (.goto 4, 3) := by decide +kernel
theorem dX12_all_98 : decode cX12_all 98 = .ok (.iconst 0, 1) := by decide +kernel
theorem dX12_all_99 : decode cX12_all 99 = .ok (.iadd, 1) := by decide +kernel
theorem dX12_all_100 : decode cX12_all 100 = .ok (.istore_n 2, 1) := by decide +kernel
theorem dX12_all_101 : decode cX12_all 101 = .ok (.iload_n 1, 1) := by decide +kernel
theorem dX12_all_102 : decode cX12_all 102 = .ok (.iconst 3, 1) := by decide +kernel
theorem dX12_all_103 : decode cX12_all 103 = .ok (.if_icmp .ne 22, 3) := by decide +kernel
theorem dX12_all_106 : decode cX12_all 106 = .ok (.aload_n 0, 1) := by decide +kernel
theorem dX12_all_107 : decode cX12_all 107 = .ok (.iload 4, 2) := by decide +kernel
theorem dX12_all_109 : decode cX12_all 109 = .ok (.invokevirtual 185, 3) := by decide +kernel
theorem dX12_all_112 : decode cX12_all 112 = .ok (.iload_n 3, 1) := by decide +kernel
theorem dX12_all_113 : decode cX12_all 113 = .ok (.if_icmp .le 12, 3) := by decide +kernel
theorem dX12_all_116 : decode cX12_all 116 = .ok (.aload_n 0, 1) := by decide +kernel
theorem dX12_all_117 : decode cX12_all 117 = .ok (.iload 4, 2) := by decide +kernel
theorem dX12_all_119 : decode cX12_all 119 = .ok (.invokevirtual 185, 3) := by decide +kernel
theorem dX12_all_122 : decode cX12_all 122 = .ok (.goto 4, 3) := by decide +kernel
theorem dX12_all_125 : decode cX12_all 125 = .ok (.iload_n 3, 1) := by decide +kernel
theorem dX12_all_126 : decode cX12_all 126 = .ok (.istore_n 3, 1) := by decide +kernel
theorem dX12_all_127 : decode cX12_all 127 = .ok (.iinc 4 1, 3) := by decide +kernel
theorem dX12_all_130 : decode cX12_all 130 = .ok (.goto (-89), 3) := by decide +kernel
theorem dX12_all_133 : decode cX12_all 133 = .ok (.iconst 0, 1) := by decide +kernel
theorem dX12_all_134 : decode cX12_all 134 = .ok (.istore 4, 2) := by decide +kernel
theorem dX12_all_136 : decode cX12_all 136 = .ok (.iload 4, 2) := by decide +kernel
theorem dX12_all_138 : decode cX12_all 138 = .ok (.bipush 121, 2) := by decide +kernel
theorem dX12_all_140 : decode cX12_all 140 = .ok (.if_icmp .ge 37, 3) := by decide +kernel
theorem dX12_all_143 : decode cX12_all 143 = .ok (.iload_n 1, 1) := by decide +kernel
theorem dX12_all_144 : decode cX12_all 144 = .ok (.iconst 3, 1) := by decide +kernel
theorem dX12_all_145 : decode cX12_all 145 = .ok (.if_icmp .le 32, 3) := by decide +kernel
theorem dX12_all_148 : decode cX12_all 148 = .ok (.aload_n 0, 1) := by decide +kernel
theorem dX12_all_149 : decode cX12_all 149 = .ok (.getfield 73, 3) := by decide +kernel
theorem dX12_all_152 : decode cX12_all 152 = .ok (.iload 4, 2) := by decide +kernel
theorem dX12_all_154 : decode cX12_all 154 = .ok (.iaload, 1) := by decide +kernel
theorem dX12_all_155 : decode cX12_all 155 = .ok (.iload_n 3, 1) := by decide +kernel
theorem dX12_all_156 : decode cX12_all 156 = .ok (.if_icmp .le 13, 3) := by decide +kernel
theorem dX12_all_159 : decode cX12_all 159 = .ok (.aload_n 0, 1) := by decide +kernel
theorem dX12_all_160 : decode cX12_all 160 = .ok (.getfield 73, 3) := by decide +kernel
theorem dX12_all_163 : decode cX12_all 163 = .ok (.iload 4, 2) := by decide +kernel
theorem dX12_all_165 : decode cX12_all 165 = .ok (.iaload, 1) := by decide +kernel
theorem dX12_all_166 : decode cX12_all 166 = .ok (.goto 4, 3) := by decide +kernel
theorem dX12_all_169 : decode cX12_all 169 = .ok (.iload_n 3, 1) := by decide +kernel
theorem dX12_all_170 : decode cX12_all 170 = .ok (.istore_n 3, 1) := by decide +kernel
theorem dX12_all_171 : decode cX12_all 171 = .ok (.iinc 4 1, 3) := by decide +kernel
theorem dX12_all_174 : decode cX12_all 174 = .ok (.goto (-38), 3) := by decide +kernel
theorem dX12_all_177 : decode cX12_all 177 = .ok (.iload_n 1, 1) := by decide +kernel
theorem dX12_all_178 : decode cX12_all 178 = .ok (.iconst 3, 1) := by decide +kernel
theorem dX12_all_179 : decode cX12_all 179 = .ok (.if_icmp .ge 7, 3) := by decide +kernel
theorem dX12_all_182 : decode cX12_all 182 = .ok (.iload_n 2, 1) := by decide +kernel
theorem dX12_all_183 : decode cX12_all 183 = .ok (.goto 27, 3) := by decide +kernel
theorem dX12_all_186 : decode cX12_all 186 = .ok (.iload_n 1, 1) := by decide +kernel
theorem dX12_all_187 : decode cX12_all 187 = .ok (.iconst 5, 1) := by decide +kernel
theorem dX12_all_188 : decode cX12_all 188 = .ok (.if_icmp .ge 7, 3) := by decide +kernel
theorem dX12_all_191 : decode cX12_all 191 = .ok (.iload_n 3, 1) := by decide +kernel
theorem dX12_all_192 : decode cX12_all 192 = .ok (.goto 18, 3) := by decide +kernel
theorem dX12_all_195 : decode cX12_all 195 = .ok (.iload_n 3, 1) := by decide +kernel
theorem dX12_all_196 : decode cX12_all 196 = .ok (.aload_n 0, 1) := by decide +kernel
theorem dX12_all_197 : decode cX12_all 197 = .ok (.getfield 45, 3) := by decide +kernel
theorem dX12_all_200 : decode cX12_all 200 = .ok (.iconst 5, 1) := by decide +kernel
theorem dX12_all_201 : decode cX12_all 201 = .ok (.iaload, 1) := by decide +kernel
theorem dX12_all_202 : decode cX12_all 202 = .ok (.if_icmp .le 7, 3) := by decide +kernel
theorem dX12_all_205 : decode cX12_all 205 = .ok (.iconst 0, 1) := by decide +kernel
theorem dX12_all_206 : decode cX12_all 206 = .ok (.goto 4, 3) := by decide +kernel
theorem dX12_all_209 : decode cX12_all 209 = .ok (.iconst 1, 1) := by decide +kernel
theorem dX12_all_210 : decode cX12_all 210 = .ok (.ireturn, 1) := by decide +kernel
set_option maxRecDepth 20000 in
theorem ggX12_burn_X12_in : GoodIn wsX12_burn wsX12_in := goodIn_r _ [10] (by decide +kernel) (by decide +kernel)
set_option maxRecDepth 20000 in
theorem gX12_burn_X12_in : GoodIn wsX12_burn (va_wsS RX12 90 yX12_in wsX12_in) := goodIn_app (goodIn_of _ (by decide +kernel)) ggX12_burn_X12_in
set_option maxRecDepth 20000 in
theorem ggX12_burn_X12_make : GoodIn wsX12_burn wsX12_make := goodIn_r _ [14, 15, 4, 16, 17, 18, 19, 20, 21, 22, 23, 24, 25, 26, 27, 9, 28, 29, 30, 31, 32, 33, 34, 35, 36, 37, 38, 39, 40, 41, 42, 43, 44, 45, 46, 47, 48, 49, 50, 51, 52, 53, 54, 55, 56, 57, 6, 58, 59, 60, 61, 62, 63, 7, 8, 10, 64, 65, 66, 67, 68, 69, 70, 71, 72, 73, 74, 75, 76, 77, 78, 79, 80, 81, 82, 83, 84, 85, 86, 87, 88, 89, 90, 91, 92, 93, 94, 95, 96, 97, 98, 99, 100, 101, 102, 103, 104, 105, 106, 107, 108, 109] (by decide +kernel) (by decide +kernel)
set_option maxRecDepth 20000 in
theorem gX12_burn_X12_make : GoodIn wsX12_burn (wsV RX12 182 RX12 yX12_make wsX12_make) := goodIn_app (goodIn_of _ (by decide +kernel)) ggX12_burn_X12_make
theorem dX12_burn_0 : decode cX12_burn 0 = .ok (.aload_n 0, 1) := by decide +kernel
theorem dX12_burn_1 : decode cX12_burn 1 = .ok (.iconst 0, 1) := by decide +kernel
theorem dX12_burn_2 : decode cX12_burn 2 = .ok (.putfield 1, 3) := by decide +kernel
theorem dX12_burn_5 : decode cX12_burn 5 = .ok (.iload_n 1, 1) := by decide +kernel
theorem dX12_burn_6 : decode cX12_burn 6 = .ok (.i2l, 1) := by decide +kernel
theorem dX12_burn_7 : decode cX12_burn 7 = .ok (.lconst 0, 1) := by decide +kernel
theorem dX12_burn_8 : decode cX12_burn 8 = .ok (.ldc2_w 188, 3) := by decide +kernel
theorem dX12_burn_11 : decode cX12_burn 11 = .ok (.invokestatic 90, 3) := by decide +kernel
theorem dX12_burn_14 : decode cX12_burn 14 = .ok (.ifCond .eq 15, 3) := by decide +kernel
theorem dX12_burn_17 : decode cX12_burn 17 = .ok (.iload_n 2, 1) := by decide +kernel
theorem dX12_burn_18 : decode cX12_burn 18 = .ok (.i2l, 1) := by decide +kernel
theorem dX12_burn_19 : decode cX12_burn 19 = .ok (.lconst 0, 1) := by decide +kernel
theorem dX12_burn_20 : decode cX12_burn 20 = .ok (.ldc2_w 188, 3) := by decide +kernel
theorem dX12_burn_23 : decode cX12_burn 23 = .ok (.invokestatic 90, 3) := by decide +kernel
theorem dX12_burn_26 : decode cX12_burn 26 = .ok (.ifCond .ne 6, 3) := by decide +kernel
theorem dX12_burn_29 : decode cX12_burn 29 = .ok (.ldc 100, 2) := by decide +kernel
theorem dX12_burn_31 : decode cX12_burn 31 = .ok (.ireturn, 1) := by decide +kernel
theorem dX12_burn_32 : decode cX12_burn 32 = .ok (.aload_n 0, 1) := by decide +kernel
theorem dX12_burn_33 : decode cX12_burn 33 = .ok (.invokevirtual 182, 3) := by decide +kernel
theorem dX12_burn_36 : decode cX12_burn 36 = .ok (.aload_n 0, 1) := by decide +kernel
theorem dX12_burn_37 : decode cX12_burn 37 = .ok (.getfield 152, 3) := by decide +kernel
theorem dX12_burn_40 : decode cX12_burn 40 = .ok (.ifCond .eq 8, 3) := by decide +kernel
theorem dX12_burn_43 : decode cX12_burn 43 = .ok (.ldc 110, 2) := by decide +kernel
theorem dX12_burn_45 : decode cX12_burn 45 = .ok (.goto 14, 3) := by decide +kernel
theorem dX12_burn_48 : decode cX12_burn 48 = .ok (.aload_n 0, 1) := by decide +kernel
theorem dX12_burn_49 : decode cX12_burn 49 = .ok (.getfield 73, 3) := by decide +kernel
theorem dX12_burn_52 : decode cX12_burn 52 = .ok (.bipush 11, 2) := by decide +kernel
theorem dX12_burn_54 : decode cX12_burn 54 = .ok (.iload_n 2, 1) := by decide +kernel
theorem dX12_burn_55 : decode cX12_burn 55 = .ok (.imul, 1) := by decide +kernel
theorem dX12_burn_56 : decode cX12_burn 56 = .ok (.iload_n 1, 1) := by decide +kernel
theorem dX12_burn_57 : decode cX12_burn 57 = .ok (.iadd, 1) := by decide +kernel
theorem dX12_burn_58 : decode cX12_burn 58 = .ok (.iaload, 1) := by decide +kernel
theorem dX12_burn_59 : decode cX12_burn 59 = .ok (.ireturn, 1) := by decide +kernel
set_option maxRecDepth 20000 in
theorem ggX12_feed_X12_in : GoodIn wsX12_feed wsX12_in := goodIn_r _ [11] (by decide +kernel) (by decide +kernel)
set_option maxRecDepth 20000 in
theorem gX12_feed_X12_in : GoodIn wsX12_feed (va_wsS RX12 90 yX12_in wsX12_in) := goodIn_app (goodIn_of _ (by decide +kernel)) ggX12_feed_X12_in
theorem dX12_feed_0 : decode cX12_feed 0 = .ok (.aload_n 0, 1) := by decide +kernel
theorem dX12_feed_1 : decode cX12_feed 1 = .ok (.iconst 0, 1) := by decide +kernel
theorem dX12_feed_2 : decode cX12_feed 2 = .ok (.putfield 1, 3) := by decide +kernel
theorem dX12_feed_5 : decode cX12_feed 5 = .ok (.iload_n 3, 1) := by decide +kernel
theorem dX12_feed_6 : decode cX12_feed 6 = .ok (.i2l, 1) := by decide +kernel
theorem dX12_feed_7 : decode cX12_feed 7 = .ok (.lconst 1, 1) := by decide +kernel
theorem dX12_feed_8 : decode cX12_feed 8 = .ok (.ldc2_w 108, 3) := by decide +kernel
theorem dX12_feed_11 : decode cX12_feed 11 = .ok (.invokestatic 90, 3) := by decide +kernel
theorem dX12_feed_14 : decode cX12_feed 14 = .ok (.ifCond .ne 6, 3) := by decide +kernel
theorem dX12_feed_17 : decode cX12_feed 17 = .ok (.ldc 100, 2) := by decide +kernel
theorem dX12_feed_19 : decode cX12_feed 19 = .ok (.ireturn, 1) := by decide +kernel
theorem dX12_feed_20 : decode cX12_feed 20 = .ok (.aload_n 0, 1) := by decide +kernel
theorem dX12_feed_21 : decode cX12_feed 21 = .ok (.getfield 190, 3) := by decide +kernel
theorem dX12_feed_24 : decode cX12_feed 24 = .ok (.iload_n 3, 1) := by decide +kernel
theorem dX12_feed_25 : decode cX12_feed 25 = .ok (.iadd, 1) := by decide +kernel
theorem dX12_feed_26 : decode cX12_feed 26 = .ok (.sipush 300, 3) := by decide +kernel
theorem dX12_feed_29 : decode cX12_feed 29 = .ok (.if_icmp .le 6, 3) := by decide +kernel
theorem dX12_feed_32 : decode cX12_feed 32 = .ok (.ldc 110, 2) := by decide +kernel
theorem dX12_feed_34 : decode cX12_feed 34 = .ok (.ireturn, 1) := by decide +kernel
theorem dX12_feed_35 : decode cX12_feed 35 = .ok (.iload_n 3, 1) := by decide +kernel
theorem dX12_feed_36 : decode cX12_feed 36 = .ok (.iconst 1, 1) := by decide +kernel
theorem dX12_feed_37 : decode cX12_feed 37 = .ok (.isub, 1) := by decide +kernel
theorem dX12_feed_38 : decode cX12_feed 38 = .ok (.istore 4, 2) := by decide +kernel
theorem dX12_feed_40 : decode cX12_feed 40 = .ok (.iload 4, 2) := by decide +kernel
theorem dX12_feed_42 : decode cX12_feed 42 = .ok (.ifCond .lt 40, 3) := by decide +kernel
theorem dX12_feed_45 : decode cX12_feed 45 = .ok (.aload_n 0, 1) := by decide +kernel
theorem dX12_feed_46 : decode cX12_feed 46 = .ok (.getfield 76, 3) := by decide +kernel
theorem dX12_feed_49 : decode cX12_feed 49 = .ok (.aload_n 0, 1) := by decide +kernel
theorem dX12_feed_50 : decode cX12_feed 50 = .ok (.getfield 190, 3) := by decide +kernel
theorem dX12_feed_53 : decode cX12_feed 53 = .ok (.lload_n 1, 1) := by decide +kernel
theorem dX12_feed_54 : decode cX12_feed 54 = .ok (.bipush 8, 2) := by decide +kernel
theorem dX12_feed_56 : decode cX12_feed 56 = .ok (.iload 4, 2) := by decide +kernel
theorem dX12_feed_58 : decode cX12_feed 58 = .ok (.imul, 1) := by decide +kernel
theorem dX12_feed_59 : decode cX12_feed 59 = .ok (.lshr, 1) := by decide +kernel
theorem dX12_feed_60 : decode cX12_feed 60 = .ok (.ldc2_w 193, 3) := by decide +kernel
theorem dX12_feed_63 : decode cX12_feed 63 = .ok (.land, 1) := by decide +kernel
theorem dX12_feed_64 : decode cX12_feed 64 = .ok (.l2i, 1) := by decide +kernel
theorem dX12_feed_65 : decode cX12_feed 65 = .ok (.iastore, 1) := by decide +kernel
theorem dX12_feed_66 : decode cX12_feed 66 = .ok (.aload_n 0, 1) := by decide +kernel
theorem dX12_feed_67 : decode cX12_feed 67 = .ok (.dup, 1) := by decide +kernel
theorem dX12_feed_68 : decode cX12_feed 68 = .ok (.getfield 190, 3) := by decide +kernel
theorem dX12_feed_71 : decode cX12_feed 71 = .ok (.iconst 1, 1) := by decide +kernel
theorem dX12_feed_72 : decode cX12_feed 72 = .ok (.iadd, 1) := by decide +kernel
theorem dX12_feed_73 : decode cX12_feed 73 = .ok (.putfield 190, 3) := by decide +kernel
theorem dX12_feed_76 : decode cX12_feed 76 = .ok (.iinc 4 (-1), 3) := by decide +kernel
theorem dX12_feed_79 : decode cX12_feed 79 = .ok (.goto (-39), 3) := by decide +kernel
theorem dX12_feed_82 : decode cX12_feed 82 = .ok (.aload_n 0, 1) := by decide +kernel
theorem dX12_feed_83 : decode cX12_feed 83 = .ok (.getfield 190, 3) := by decide +kernel
theorem dX12_feed_86 : decode cX12_feed 86 = .ok (.ireturn, 1) := by decide +kernel
theorem dX12_byteAt_0 : decode cX12_byteAt 0 = .ok (.iload_n 1, 1) := by decide +kernel
theorem dX12_byteAt_1 : decode cX12_byteAt 1 = .ok (.aload_n 0, 1) := by decide +kernel
theorem dX12_byteAt_2 : decode cX12_byteAt 2 = .ok (.getfield 195, 3) := by decide +kernel
theorem dX12_byteAt_5 : decode cX12_byteAt 5 = .ok (.if_icmp .ge 12, 3) := by decide +kernel
theorem dX12_byteAt_8 : decode cX12_byteAt 8 = .ok (.aload_n 0, 1) := by decide +kernel
theorem dX12_byteAt_9 : decode cX12_byteAt 9 = .ok (.getfield 76, 3) := by decide +kernel
theorem dX12_byteAt_12 : decode cX12_byteAt 12 = .ok (.iload_n 1, 1) := by decide +kernel
theorem dX12_byteAt_13 : decode cX12_byteAt 13 = .ok (.iaload, 1) := by decide +kernel
theorem dX12_byteAt_14 : decode cX12_byteAt 14 = .ok (.goto 5, 3) := by decide +kernel
theorem dX12_byteAt_17 : decode cX12_byteAt 17 = .ok (.ldc 142, 2) := by decide +kernel
theorem dX12_byteAt_19 : decode cX12_byteAt 19 = .ok (.ireturn, 1) := by decide +kernel
theorem dX12_isLetter_0 : decode cX12_isLetter 0 = .ok (.iload_n 0, 1) := by decide +kernel
theorem dX12_isLetter_1 : decode cX12_isLetter 1 = .ok (.bipush 97, 2) := by decide +kernel
theorem dX12_isLetter_3 : decode cX12_isLetter 3 = .ok (.if_icmp .lt 13, 3) := by decide +kernel
theorem dX12_isLetter_6 : decode cX12_isLetter 6 = .ok (.iload_n 0, 1) := by decide +kernel
theorem dX12_isLetter_7 : decode cX12_isLetter 7 = .ok (.bipush 122, 2) := by decide +kernel
theorem dX12_isLetter_9 : decode cX12_isLetter 9 = .ok (.if_icmp .gt 7, 3) := by decide +kernel
theorem dX12_isLetter_12 : decode cX12_isLetter 12 = .ok (.iconst 1, 1) := by decide +kernel
theorem dX12_isLetter_13 : decode cX12_isLetter 13 = .ok (.goto 4, 3) := by decide +kernel
theorem dX12_isLetter_16 : decode cX12_isLetter 16 = .ok (.iconst 0, 1) := by decide +kernel
theorem dX12_isLetter_17 : decode cX12_isLetter 17 = .ok (.ireturn, 1) := by decide +kernel
theorem dX12_isFigure_0 : decode cX12_isFigure 0 = .ok (.iload_n 0, 1) := by decide +kernel
theorem dX12_isFigure_1 : decode cX12_isFigure 1 = .ok (.bipush 48, 2) := by decide +kernel
theorem dX12_isFigure_3 : decode cX12_isFigure 3 = .ok (.if_icmp .lt 13, 3) := by decide +kernel
theorem dX12_isFigure_6 : decode cX12_isFigure 6 = .ok (.iload_n 0, 1) := by decide +kernel
theorem dX12_isFigure_7 : decode cX12_isFigure 7 = .ok (.bipush 57, 2) := by decide +kernel
theorem dX12_isFigure_9 : decode cX12_isFigure 9 = .ok (.if_icmp .gt 7, 3) := by decide +kernel
theorem dX12_isFigure_12 : decode cX12_isFigure 12 = .ok (.iconst 1, 1) := by decide +kernel
theorem dX12_isFigure_13 : decode cX12_isFigure 13 = .ok (.goto 4, 3) := by decide +kernel
theorem dX12_isFigure_16 : decode cX12_isFigure 16 = .ok (.iconst 0, 1) := by decide +kernel
theorem dX12_isFigure_17 : decode cX12_isFigure 17 = .ok (.ireturn, 1) := by decide +kernel
set_option maxRecDepth 20000 in
theorem ggX12_step_X12_byteAt : GoodIn wsX12_step wsX12_byteAt := goodIn_r _ [10, 11, 12, 3, 19, 20, 21, 22, 23, 24, 25, 26, 27, 28, 29, 30, 31, 32, 33, 34, 35, 36, 37, 38, 39, 40, 41, 42, 43, 44, 45, 46, 47, 48, 49, 50, 51, 52, 53, 54, 55, 56, 57, 58, 59, 60] (by decide +kernel) (by decide +kernel)
set_option maxRecDepth 20000 in
theorem gX12_step_X12_byteAt : GoodIn wsX12_step (wsV RX12 201 RX12 yX12_byteAt wsX12_byteAt) := goodIn_app (goodIn_of _ (by decide +kernel)) ggX12_step_X12_byteAt
set_option maxRecDepth 20000 in
theorem ggX12_step_X12_isLetter : GoodIn wsX12_step wsX12_isLetter := goodIn_r _ [15] (by decide +kernel) (by decide +kernel)
set_option maxRecDepth 20000 in
theorem gX12_step_X12_isLetter : GoodIn wsX12_step (va_wsS RX12 210 yX12_isLetter wsX12_isLetter) := goodIn_app (goodIn_of _ (by decide +kernel)) ggX12_step_X12_isLetter
set_option maxRecDepth 20000 in
theorem ggX12_step_X12_isFigure : GoodIn wsX12_step wsX12_isFigure := goodIn_r _ [18] (by decide +kernel) (by decide +kernel)
set_option maxRecDepth 20000 in
theorem gX12_step_X12_isFigure : GoodIn wsX12_step (va_wsS RX12 213 yX12_isFigure wsX12_isFigure) := goodIn_app (goodIn_of _ (by decide +kernel)) ggX12_step_X12_isFigure
theorem dX12_step_0 : decode cX12_step 0 = .ok (.aload_n 0, 1) := by decide +kernel
theorem dX12_step_1 : decode cX12_step 1 = .ok (.aload_n 0, 1) := by decide +kernel
theorem dX12_step_2 : decode cX12_step 2 = .ok (.getfield 198, 3) := by decide +kernel
theorem dX12_step_5 : decode cX12_step 5 = .ok (.invokevirtual 201, 3) := by decide +kernel
theorem dX12_step_8 : decode cX12_step 8 = .ok (.bipush 32, 2) := by decide +kernel
theorem dX12_step_10 : decode cX12_step 10 = .ok (.if_icmp .eq 16, 3) := by decide +kernel
theorem dX12_step_13 : decode cX12_step 13 = .ok (.aload_n 0, 1) := by decide +kernel
theorem dX12_step_14 : decode cX12_step 14 = .ok (.aload_n 0, 1) := by decide +kernel
theorem dX12_step_15 : decode cX12_step 15 = .ok (.getfield 198, 3) := by decide +kernel
theorem dX12_step_18 : decode cX12_step 18 = .ok (.invokevirtual 201, 3) := by decide +kernel
theorem dX12_step_21 : decode cX12_step 21 = .ok (.bipush 10, 2) := by decide +kernel
theorem dX12_step_23 : decode cX12_step 23 = .ok (.if_icmp .ne 16, 3) := by decide +kernel
theorem dX12_step_26 : decode cX12_step 26 = .ok (.aload_n 0, 1) := by decide +kernel
theorem dX12_step_27 : decode cX12_step 27 = .ok (.dup, 1) := by decide +kernel
theorem dX12_step_28 : decode cX12_step 28 = .ok (.getfield 198, 3) := by decide +kernel
theorem dX12_step_31 : decode cX12_step 31 = .ok (.iconst 1, 1) := by decide +kernel
theorem dX12_step_32 : decode cX12_step 32 = .ok (.iadd, 1) := by decide +kernel
theorem dX12_step_33 : decode cX12_step 33 = .ok (.putfield 198, 3) := by decide +kernel
theorem dX12_step_36 : decode cX12_step 36 = .ok (.goto (-36), 3) := by decide +kernel
theorem dX12_step_39 : decode cX12_step 39 = .ok (.aload_n 0, 1) := by decide +kernel
theorem dX12_step_40 : decode cX12_step 40 = .ok (.aload_n 0, 1) := by decide +kernel
theorem dX12_step_41 : decode cX12_step 41 = .ok (.getfield 198, 3) := by decide +kernel
theorem dX12_step_44 : decode cX12_step 44 = .ok (.putfield 204, 3) := by decide +kernel
theorem dX12_step_47 : decode cX12_step 47 = .ok (.aload_n 0, 1) := by decide +kernel
theorem dX12_step_48 : decode cX12_step 48 = .ok (.aload_n 0, 1) := by decide +kernel
theorem dX12_step_49 : decode cX12_step 49 = .ok (.getfield 198, 3) := by decide +kernel
theorem dX12_step_52 : decode cX12_step 52 = .ok (.invokevirtual 201, 3) := by decide +kernel
theorem dX12_step_55 : decode cX12_step 55 = .ok (.istore_n 1, 1) := by decide +kernel
theorem dX12_step_56 : decode cX12_step 56 = .ok (.iload_n 1, 1) := by decide +kernel
theorem dX12_step_57 : decode cX12_step 57 = .ok (.ldc 142, 2) := by decide +kernel
theorem dX12_step_59 : decode cX12_step 59 = .ok (.if_icmp .ne 11, 3) := by decide +kernel
theorem dX12_step_62 : decode cX12_step 62 = .ok (.aload_n 0, 1) := by decide +kernel
theorem dX12_step_63 : decode cX12_step 63 = .ok (.iconst 1, 1) := by decide +kernel
theorem dX12_step_64 : decode cX12_step 64 = .ok (.putfield 207, 3) := by decide +kernel
theorem dX12_step_67 : decode cX12_step 67 = .ok (.goto 147, 3) := by decide +kernel
theorem dX12_step_70 : decode cX12_step 70 = .ok (.iload_n 1, 1) := by decide +kernel
theorem dX12_step_71 : decode cX12_step 71 = .ok (.invokestatic 210, 3) := by decide +kernel
theorem dX12_step_74 : decode cX12_step 74 = .ok (.ifCond .eq 56, 3) := by decide +kernel
theorem dX12_step_77 : decode cX12_step 77 = .ok (.aload_n 0, 1) := by decide +kernel
theorem dX12_step_78 : decode cX12_step 78 = .ok (.aload_n 0, 1) := by decide +kernel
theorem dX12_step_79 : decode cX12_step 79 = .ok (.getfield 198, 3) := by decide +kernel
theorem dX12_step_82 : decode cX12_step 82 = .ok (.invokevirtual 201, 3) := by decide +kernel
theorem dX12_step_85 : decode cX12_step 85 = .ok (.invokestatic 210, 3) := by decide +kernel
theorem dX12_step_88 : decode cX12_step 88 = .ok (.ifCond .eq 16, 3) := by decide +kernel
theorem dX12_step_91 : decode cX12_step 91 = .ok (.aload_n 0, 1) := by decide +kernel
theorem dX12_step_92 : decode cX12_step 92 = .ok (.dup, 1) := by decide +kernel
theorem dX12_step_93 : decode cX12_step 93 = .ok (.getfield 198, 3) := by decide +kernel
theorem dX12_step_96 : decode cX12_step 96 = .ok (.iconst 1, 1) := by decide +kernel
theorem dX12_step_97 : decode cX12_step 97 = .ok (.iadd, 1) := by decide +kernel
theorem dX12_step_98 : decode cX12_step 98 = .ok (.putfield 198, 3) := by decide +kernel
theorem dX12_step_101 : decode cX12_step 101 = .ok (.goto (-24), 3) := by decide +kernel
theorem dX12_step_104 : decode cX12_step 104 = .ok (.aload_n 0, 1) := by decide +kernel
theorem dX12_step_105 : decode cX12_step 105 = .ok (.aload_n 0, 1) := by decide +kernel
theorem dX12_step_106 : decode cX12_step 106 = .ok (.getfield 198, 3) := by decide +kernel
theorem dX12_step_109 : decode cX12_step 109 = .ok (.aload_n 0, 1) := by decide +kernel
theorem dX12_step_110 : decode cX12_step 110 = .ok (.getfield 204, 3) := by decide +kernel
theorem dX12_step_113 : decode cX12_step 113 = .ok (.isub, 1) := by decide +kernel
theorem dX12_step_114 : decode cX12_step 114 = .ok (.bipush 6, 2) := by decide +kernel
theorem dX12_step_116 : decode cX12_step 116 = .ok (.if_icmp .le 7, 3) := by decide +kernel
theorem dX12_step_119 : decode cX12_step 119 = .ok (.iconst 0, 1) := by decide +kernel
theorem dX12_step_120 : decode cX12_step 120 = .ok (.goto 4, 3) := by decide +kernel
theorem dX12_step_123 : decode cX12_step 123 = .ok (.iconst 2, 1) := by decide +kernel
theorem dX12_step_124 : decode cX12_step 124 = .ok (.putfield 207, 3) := by decide +kernel
theorem dX12_step_127 : decode cX12_step 127 = .ok (.goto 87, 3) := by decide +kernel
theorem dX12_step_130 : decode cX12_step 130 = .ok (.iload_n 1, 1) := by decide +kernel
theorem dX12_step_131 : decode cX12_step 131 = .ok (.invokestatic 213, 3) := by decide +kernel
theorem dX12_step_134 : decode cX12_step 134 = .ok (.ifCond .eq 55, 3) := by decide +kernel
theorem dX12_step_137 : decode cX12_step 137 = .ok (.aload_n 0, 1) := by decide +kernel
theorem dX12_step_138 : decode cX12_step 138 = .ok (.aload_n 0, 1) := by decide +kernel
theorem dX12_step_139 : decode cX12_step 139 = .ok (.getfield 198, 3) := by decide +kernel
theorem dX12_step_142 : decode cX12_step 142 = .ok (.invokevirtual 201, 3) := by decide +kernel
theorem dX12_step_145 : decode cX12_step 145 = .ok (.invokestatic 213, 3) := by decide +kernel
theorem dX12_step_148 : decode cX12_step 148 = .ok (.ifCond .eq 16, 3) := by decide +kernel
theorem dX12_step_151 : decode cX12_step 151 = .ok (.aload_n 0, 1) := by decide +kernel
theorem dX12_step_152 : decode cX12_step 152 = .ok (.dup, 1) := by decide +kernel
theorem dX12_step_153 : decode cX12_step 153 = .ok (.getfield 198, 3) := by decide +kernel
theorem dX12_step_156 : decode cX12_step 156 = .ok (.iconst 1, 1) := by decide +kernel
theorem dX12_step_157 : decode cX12_step 157 = .ok (.iadd, 1) := by decide +kernel
theorem dX12_step_158 : decode cX12_step 158 = .ok (.putfield 198, 3) := by decide +kernel
theorem dX12_step_161 : decode cX12_step 161 = .ok (.goto (-24), 3) := by decide +kernel
theorem dX12_step_164 : decode cX12_step 164 = .ok (.aload_n 0, 1) := by decide +kernel
theorem dX12_step_165 : decode cX12_step 165 = .ok (.aload_n 0, 1) := by decide +kernel
theorem dX12_step_166 : decode cX12_step 166 = .ok (.getfield 198, 3) := by decide +kernel
theorem dX12_step_169 : decode cX12_step 169 = .ok (.aload_n 0, 1) := by decide +kernel
theorem dX12_step_170 : decode cX12_step 170 = .ok (.getfield 204, 3) := by decide +kernel
theorem dX12_step_173 : decode cX12_step 173 = .ok (.isub, 1) := by decide +kernel
theorem dX12_step_174 : decode cX12_step 174 = .ok (.iconst 4, 1) := by decide +kernel
theorem dX12_step_175 : decode cX12_step 175 = .ok (.if_icmp .le 7, 3) := by decide +kernel
theorem dX12_step_178 : decode cX12_step 178 = .ok (.iconst 0, 1) := by decide +kernel
theorem dX12_step_179 : decode cX12_step 179 = .ok (.goto 4, 3) := by decide +kernel
theorem dX12_step_182 : decode cX12_step 182 = .ok (.iconst 3, 1) := by decide +kernel
theorem dX12_step_183 : decode cX12_step 183 = .ok (.putfield 207, 3) := by decide +kernel
theorem dX12_step_186 : decode cX12_step 186 = .ok (.goto 28, 3) := by decide +kernel
theorem dX12_step_189 : decode cX12_step 189 = .ok (.aload_n 0, 1) := by decide +kernel
theorem dX12_step_190 : decode cX12_step 190 = .ok (.dup, 1) := by decide +kernel
theorem dX12_step_191 : decode cX12_step 191 = .ok (.getfield 198, 3) := by decide +kernel
theorem dX12_step_194 : decode cX12_step 194 = .ok (.iconst 1, 1) := by decide +kernel
theorem dX12_step_195 : decode cX12_step 195 = .ok (.iadd, 1) := by decide +kernel
theorem dX12_step_196 : decode cX12_step 196 = .ok (.putfield 198, 3) := by decide +kernel
theorem dX12_step_199 : decode cX12_step 199 = .ok (.aload_n 0, 1) := by decide +kernel
theorem dX12_step_200 : decode cX12_step 200 = .ok (.iload_n 1, 1) := by decide +kernel
theorem dX12_step_201 : decode cX12_step 201 = .ok (.bipush 59, 2) := by decide +kernel
theorem dX12_step_203 : decode cX12_step 203 = .ok (.if_icmp .ne 7, 3) := by decide +kernel
theorem dX12_step_206 : decode cX12_step 206 = .ok (.iconst 4, 1) := by decide +kernel
theorem dX12_step_207 : decode cX12_step 207 = .ok (.goto 4, 3) := by decide +kernel
theorem dX12_step_210 : decode cX12_step 210 = .ok (.iconst 0, 1) := by decide +kernel
theorem dX12_step_211 : decode cX12_step 211 = .ok (.putfield 207, 3) := by decide +kernel
theorem dX12_step_214 : decode cX12_step 214 = .ok (.aload_n 0, 1) := by decide +kernel
theorem dX12_step_215 : decode cX12_step 215 = .ok (.aload_n 0, 1) := by decide +kernel
theorem dX12_step_216 : decode cX12_step 216 = .ok (.getfield 198, 3) := by decide +kernel
theorem dX12_step_219 : decode cX12_step 219 = .ok (.putfield 216, 3) := by decide +kernel
theorem dX12_step_222 : decode cX12_step 222 = .ok (.return_, 1) := by decide +kernel
theorem dX12_bad_0 : decode cX12_bad 0 = .ok (.aload_n 0, 1) := by decide +kernel
theorem dX12_bad_1 : decode cX12_bad 1 = .ok (.getfield 219, 3) := by decide +kernel
theorem dX12_bad_4 : decode cX12_bad 4 = .ok (.ifCond .ne 16, 3) := by decide +kernel
theorem dX12_bad_7 : decode cX12_bad 7 = .ok (.aload_n 0, 1) := by decide +kernel
theorem dX12_bad_8 : decode cX12_bad 8 = .ok (.iload_n 1, 1) := by decide +kernel
theorem dX12_bad_9 : decode cX12_bad 9 = .ok (.putfield 219, 3) := by decide +kernel
theorem dX12_bad_12 : decode cX12_bad 12 = .ok (.aload_n 0, 1) := by decide +kernel
theorem dX12_bad_13 : decode cX12_bad 13 = .ok (.aload_n 0, 1) := by decide +kernel
theorem dX12_bad_14 : decode cX12_bad 14 = .ok (.getfield 204, 3) := by decide +kernel
theorem dX12_bad_17 : decode cX12_bad 17 = .ok (.putfield 222, 3) := by decide +kernel
theorem dX12_bad_20 : decode cX12_bad 20 = .ok (.return_, 1) := by decide +kernel
set_option maxRecDepth 20000 in
theorem ggX12_take_X12_bad : GoodIn wsX12_take wsX12_bad := goodIn_r _ [6, 1, 7, 8, 29, 30, 31, 32, 33, 34, 35, 36, 37, 38, 39, 40, 41, 42, 43, 44, 45, 46, 47, 48, 49, 50, 51, 52, 53, 54, 55, 56, 57, 58, 59, 60, 61, 62, 63, 64, 65, 66, 67, 68, 69, 70] (by decide +kernel) (by decide +kernel)
set_option maxRecDepth 20000 in
theorem gX12_take_X12_bad : GoodIn wsX12_take (wsV RX12 225 RX12 yX12_bad wsX12_bad) := goodIn_app (goodIn_of _ (by decide +kernel)) ggX12_take_X12_bad
set_option maxRecDepth 20000 in
theorem ggX12_take_X12_step : GoodIn wsX12_take wsX12_step := goodIn_r _ [12, 13, 7, 14, 15, 16, 17, 18, 19, 5, 20, 21, 22, 23, 24, 25, 26, 27, 28, 29, 30, 31, 32, 33, 34, 35, 36, 37, 38, 39, 40, 41, 42, 43, 44, 45, 46, 47, 48, 49, 50, 51, 52, 53, 54, 55, 56, 57, 58, 59, 60, 61, 62, 63, 64, 65, 66, 67, 68, 69, 70] (by decide +kernel) (by decide +kernel)
set_option maxRecDepth 20000 in
theorem gX12_take_X12_step : GoodIn wsX12_take (wsV RX12 229 RX12 yX12_step wsX12_step) := goodIn_app (goodIn_of _ (by decide +kernel)) ggX12_take_X12_step
theorem dX12_take_0 : decode cX12_take 0 = .ok (.iload_n 1, 1) := by decide +kernel
theorem dX12_take_1 : decode cX12_take 1 = .ok (.ifCond .ne 8, 3) := by decide +kernel
theorem dX12_take_4 : decode cX12_take 4 = .ok (.aload_n 0, 1) := by decide +kernel
theorem dX12_take_5 : decode cX12_take 5 = .ok (.iconst 1, 1) := by decide +kernel
theorem dX12_take_6 : decode cX12_take 6 = .ok (.invokevirtual 225, 3) := by decide +kernel
theorem dX12_take_9 : decode cX12_take 9 = .ok (.aload_n 0, 1) := by decide +kernel
theorem dX12_take_10 : decode cX12_take 10 = .ok (.getfield 219, 3) := by decide +kernel
theorem dX12_take_13 : decode cX12_take 13 = .ok (.ifCond .ne 7, 3) := by decide +kernel
theorem dX12_take_16 : decode cX12_take 16 = .ok (.aload_n 0, 1) := by decide +kernel
theorem dX12_take_17 : decode cX12_take 17 = .ok (.invokevirtual 229, 3) := by decide +kernel
theorem dX12_take_20 : decode cX12_take 20 = .ok (.return_, 1) := by decide +kernel
theorem dX12_name_0 : decode cX12_name 0 = .ok (.lconst 0, 1) := by decide +kernel
theorem dX12_name_1 : decode cX12_name 1 = .ok (.lstore_n 1, 1) := by decide +kernel
theorem dX12_name_2 : decode cX12_name 2 = .ok (.aload_n 0, 1) := by decide +kernel
theorem dX12_name_3 : decode cX12_name 3 = .ok (.getfield 204, 3) := by decide +kernel
theorem dX12_name_6 : decode cX12_name 6 = .ok (.istore_n 3, 1) := by decide +kernel
theorem dX12_name_7 : decode cX12_name 7 = .ok (.iload_n 3, 1) := by decide +kernel
theorem dX12_name_8 : decode cX12_name 8 = .ok (.aload_n 0, 1) := by decide +kernel
theorem dX12_name_9 : decode cX12_name 9 = .ok (.getfield 216, 3) := by decide +kernel
theorem dX12_name_12 : decode cX12_name 12 = .ok (.if_icmp .ge 30, 3) := by decide +kernel
theorem dX12_name_15 : decode cX12_name 15 = .ok (.aload_n 0, 1) := by decide +kernel
theorem dX12_name_16 : decode cX12_name 16 = .ok (.getfield 207, 3) := by decide +kernel
theorem dX12_name_19 : decode cX12_name 19 = .ok (.iconst 2, 1) := by decide +kernel
theorem dX12_name_20 : decode cX12_name 20 = .ok (.if_icmp .ne 22, 3) := by decide +kernel
theorem dX12_name_23 : decode cX12_name 23 = .ok (.lload_n 1, 1) := by decide +kernel
theorem dX12_name_24 : decode cX12_name 24 = .ok (.bipush 8, 2) := by decide +kernel
theorem dX12_name_26 : decode cX12_name 26 = .ok (.lshl, 1) := by decide +kernel
theorem dX12_name_27 : decode cX12_name 27 = .ok (.aload_n 0, 1) := by decide +kernel
theorem dX12_name_28 : decode cX12_name 28 = .ok (.getfield 76, 3) := by decide +kernel
theorem dX12_name_31 : decode cX12_name 31 = .ok (.iload_n 3, 1) := by decide +kernel
theorem dX12_name_32 : decode cX12_name 32 = .ok (.iaload, 1) := by decide +kernel
theorem dX12_name_33 : decode cX12_name 33 = .ok (.i2l, 1) := by decide +kernel
theorem dX12_name_34 : decode cX12_name 34 = .ok (.lor, 1) := by decide +kernel
theorem dX12_name_35 : decode cX12_name 35 = .ok (.lstore_n 1, 1) := by decide +kernel
theorem dX12_name_36 : decode cX12_name 36 = .ok (.iinc 3 1, 3) := by decide +kernel
theorem dX12_name_39 : decode cX12_name 39 = .ok (.goto (-32), 3) := by decide +kernel
theorem dX12_name_42 : decode cX12_name 42 = .ok (.lload_n 1, 1) := by decide +kernel
theorem dX12_name_43 : decode cX12_name 43 = .ok (.lreturn, 1) := by decide +kernel
set_option maxRecDepth 20000 in
theorem ggX12_numberIn_X12_in : GoodIn wsX12_numberIn wsX12_in := goodIn_r _ [8] (by decide +kernel) (by decide +kernel)
set_option maxRecDepth 20000 in
theorem gX12_numberIn_X12_in : GoodIn wsX12_numberIn (va_wsS RX12 90 yX12_in wsX12_in) := goodIn_app (goodIn_of _ (by decide +kernel)) ggX12_numberIn_X12_in
set_option maxRecDepth 20000 in
theorem ggX12_numberIn_X12_bad : GoodIn wsX12_numberIn wsX12_bad := goodIn_r _ [12, 13, 1, 14, 36, 37, 38, 39, 40, 41, 42, 43, 44, 45, 46, 47, 48, 49, 50, 51, 52, 53, 54, 55, 56, 57, 58, 59, 60, 61, 62, 63, 64, 65, 66, 67, 68, 69, 70, 71, 72, 73, 74, 75, 76, 77] (by decide +kernel) (by decide +kernel)
set_option maxRecDepth 20000 in
theorem gX12_numberIn_X12_bad : GoodIn wsX12_numberIn (wsV RX12 225 RX12 yX12_bad wsX12_bad) := goodIn_app (goodIn_of _ (by decide +kernel)) ggX12_numberIn_X12_bad
set_option maxRecDepth 20000 in
theorem ggX12_numberIn_X12_take : GoodIn wsX12_numberIn wsX12_take := goodIn_r _ [18, 13, 9, 10, 11, 7, 12, 1, 14, 19, 20, 21, 22, 23, 24, 3, 2, 25, 26, 27, 28, 29, 4, 30, 31, 32, 33, 34, 35, 36, 37, 38, 39, 40, 41, 42, 43, 44, 45, 46, 47, 48, 49, 50, 51, 52, 53, 54, 55, 56, 57, 58, 59, 60, 61, 62, 63, 64, 65, 66, 67, 68, 69, 70, 71, 72, 73, 74, 75, 76, 77] (by decide +kernel) (by decide +kernel)
set_option maxRecDepth 20000 in
theorem gX12_numberIn_X12_take : GoodIn wsX12_numberIn (wsV RX12 232 RX12 yX12_take wsX12_take) := goodIn_app (goodIn_of _ (by decide +kernel)) ggX12_numberIn_X12_take
theorem dX12_numberIn_0 : decode cX12_numberIn 0 = .ok (.iconst 0, 1) := by decide +kernel
theorem dX12_numberIn_1 : decode cX12_numberIn 1 = .ok (.istore_n 3, 1) := by decide +kernel
theorem dX12_numberIn_2 : decode cX12_numberIn 2 = .ok (.aload_n 0, 1) := by decide +kernel
theorem dX12_numberIn_3 : decode cX12_numberIn 3 = .ok (.getfield 204, 3) := by decide +kernel
theorem dX12_numberIn_6 : decode cX12_numberIn 6 = .ok (.istore 4, 2) := by decide +kernel
theorem dX12_numberIn_8 : decode cX12_numberIn 8 = .ok (.iload 4, 2) := by decide +kernel
theorem dX12_numberIn_10 : decode cX12_numberIn 10 = .ok (.aload_n 0, 1) := by decide +kernel
theorem dX12_numberIn_11 : decode cX12_numberIn 11 = .ok (.getfield 216, 3) := by decide +kernel
theorem dX12_numberIn_14 : decode cX12_numberIn 14 = .ok (.if_icmp .ge 33, 3) := by decide +kernel
theorem dX12_numberIn_17 : decode cX12_numberIn 17 = .ok (.aload_n 0, 1) := by decide +kernel
theorem dX12_numberIn_18 : decode cX12_numberIn 18 = .ok (.getfield 207, 3) := by decide +kernel
theorem dX12_numberIn_21 : decode cX12_numberIn 21 = .ok (.iconst 3, 1) := by decide +kernel
theorem dX12_numberIn_22 : decode cX12_numberIn 22 = .ok (.if_icmp .ne 25, 3) := by decide +kernel
theorem dX12_numberIn_25 : decode cX12_numberIn 25 = .ok (.bipush 10, 2) := by decide +kernel
theorem dX12_numberIn_27 : decode cX12_numberIn 27 = .ok (.iload_n 3, 1) := by decide +kernel
theorem dX12_numberIn_28 : decode cX12_numberIn 28 = .ok (.imul, 1) := by decide +kernel
theorem dX12_numberIn_29 : decode cX12_numberIn 29 = .ok (.aload_n 0, 1) := by decide +kernel
theorem dX12_numberIn_30 : decode cX12_numberIn 30 = .ok (.getfield 76, 3) := by decide +kernel
theorem dX12_numberIn_33 : decode cX12_numberIn 33 = .ok (.iload 4, 2) := by decide +kernel
theorem dX12_numberIn_35 : decode cX12_numberIn 35 = .ok (.iaload, 1) := by decide +kernel
theorem dX12_numberIn_36 : decode cX12_numberIn 36 = .ok (.iadd, 1) := by decide +kernel
theorem dX12_numberIn_37 : decode cX12_numberIn 37 = .ok (.bipush 48, 2) := by decide +kernel
theorem dX12_numberIn_39 : decode cX12_numberIn 39 = .ok (.isub, 1) := by decide +kernel
theorem dX12_numberIn_40 : decode cX12_numberIn 40 = .ok (.istore_n 3, 1) := by decide +kernel
theorem dX12_numberIn_41 : decode cX12_numberIn 41 = .ok (.iinc 4 1, 3) := by decide +kernel
theorem dX12_numberIn_44 : decode cX12_numberIn 44 = .ok (.goto (-36), 3) := by decide +kernel
theorem dX12_numberIn_47 : decode cX12_numberIn 47 = .ok (.aload_n 0, 1) := by decide +kernel
theorem dX12_numberIn_48 : decode cX12_numberIn 48 = .ok (.getfield 207, 3) := by decide +kernel
theorem dX12_numberIn_51 : decode cX12_numberIn 51 = .ok (.iconst 3, 1) := by decide +kernel
theorem dX12_numberIn_52 : decode cX12_numberIn 52 = .ok (.if_icmp .ne 20, 3) := by decide +kernel
theorem dX12_numberIn_55 : decode cX12_numberIn 55 = .ok (.iload_n 3, 1) := by decide +kernel
theorem dX12_numberIn_56 : decode cX12_numberIn 56 = .ok (.i2l, 1) := by decide +kernel
theorem dX12_numberIn_57 : decode cX12_numberIn 57 = .ok (.iload_n 1, 1) := by decide +kernel
theorem dX12_numberIn_58 : decode cX12_numberIn 58 = .ok (.i2l, 1) := by decide +kernel
theorem dX12_numberIn_59 : decode cX12_numberIn 59 = .ok (.iload_n 2, 1) := by decide +kernel
theorem dX12_numberIn_60 : decode cX12_numberIn 60 = .ok (.i2l, 1) := by decide +kernel
theorem dX12_numberIn_61 : decode cX12_numberIn 61 = .ok (.invokestatic 90, 3) := by decide +kernel
theorem dX12_numberIn_64 : decode cX12_numberIn 64 = .ok (.ifCond .ne 8, 3) := by decide +kernel
theorem dX12_numberIn_67 : decode cX12_numberIn 67 = .ok (.aload_n 0, 1) := by decide +kernel
theorem dX12_numberIn_68 : decode cX12_numberIn 68 = .ok (.iconst 2, 1) := by decide +kernel
theorem dX12_numberIn_69 : decode cX12_numberIn 69 = .ok (.invokevirtual 225, 3) := by decide +kernel
theorem dX12_numberIn_72 : decode cX12_numberIn 72 = .ok (.aload_n 0, 1) := by decide +kernel
theorem dX12_numberIn_73 : decode cX12_numberIn 73 = .ok (.aload_n 0, 1) := by decide +kernel
theorem dX12_numberIn_74 : decode cX12_numberIn 74 = .ok (.getfield 207, 3) := by decide +kernel
theorem dX12_numberIn_77 : decode cX12_numberIn 77 = .ok (.iconst 3, 1) := by decide +kernel
theorem dX12_numberIn_78 : decode cX12_numberIn 78 = .ok (.if_icmp .ne 7, 3) := by decide +kernel
theorem dX12_numberIn_81 : decode cX12_numberIn 81 = .ok (.iconst 1, 1) := by decide +kernel
theorem dX12_numberIn_82 : decode cX12_numberIn 82 = .ok (.goto 4, 3) := by decide +kernel
theorem dX12_numberIn_85 : decode cX12_numberIn 85 = .ok (.iconst 0, 1) := by decide +kernel
theorem dX12_numberIn_86 : decode cX12_numberIn 86 = .ok (.invokevirtual 232, 3) := by decide +kernel
theorem dX12_numberIn_89 : decode cX12_numberIn 89 = .ok (.iload_n 3, 1) := by decide +kernel
theorem dX12_numberIn_90 : decode cX12_numberIn 90 = .ok (.ireturn, 1) := by decide +kernel
set_option maxRecDepth 20000 in
theorem ggX12_readCue_X12_name : GoodIn wsX12_readCue wsX12_name := goodIn_r _ [13, 14, 15, 7, 16, 50, 51, 52, 53, 54, 55, 56, 57, 58, 59, 60, 61, 62, 63, 64, 65, 66, 67, 68, 69, 70, 71, 72, 73, 74, 75, 76, 77, 78, 79, 80, 81, 82, 83, 84, 85, 86, 87, 88, 89, 90, 91] (by decide +kernel) (by decide +kernel)
set_option maxRecDepth 20000 in
theorem gX12_readCue_X12_name : GoodIn wsX12_readCue (wsV RX12 236 RX12 yX12_name wsX12_name) := goodIn_app (goodIn_of _ (by decide +kernel)) ggX12_readCue_X12_name
set_option maxRecDepth 20000 in
theorem ggX12_readCue_X12_bad : GoodIn wsX12_readCue wsX12_bad := goodIn_r _ [20, 8, 14, 21, 50, 51, 52, 53, 54, 55, 56, 57, 58, 59, 60, 61, 62, 63, 64, 65, 66, 67, 68, 69, 70, 71, 72, 73, 74, 75, 76, 77, 78, 79, 80, 81, 82, 83, 84, 85, 86, 87, 88, 89, 90, 91] (by decide +kernel) (by decide +kernel)
set_option maxRecDepth 20000 in
theorem gX12_readCue_X12_bad : GoodIn wsX12_readCue (wsV RX12 225 RX12 yX12_bad wsX12_bad) := goodIn_app (goodIn_of _ (by decide +kernel)) ggX12_readCue_X12_bad
set_option maxRecDepth 20000 in
theorem ggX12_readCue_X12_take : GoodIn wsX12_readCue wsX12_take := goodIn_r _ [25, 8, 17, 18, 19, 12, 20, 14, 21, 26, 27, 28, 29, 30, 31, 7, 15, 32, 33, 34, 35, 36, 16, 37, 38, 39, 40, 41, 42, 50, 51, 52, 53, 54, 55, 56, 57, 58, 59, 60, 61, 62, 63, 64, 65, 66, 67, 68, 69, 70, 71, 72, 73, 74, 75, 76, 77, 78, 79, 80, 81, 82, 83, 84, 85, 86, 87, 88, 89, 90, 91] (by decide +kernel) (by decide +kernel)
set_option maxRecDepth 20000 in
theorem gX12_readCue_X12_take : GoodIn wsX12_readCue (wsV RX12 232 RX12 yX12_take wsX12_take) := goodIn_app (goodIn_of _ (by decide +kernel)) ggX12_readCue_X12_take
set_option maxRecDepth 20000 in
theorem ggX12_readCue_X12_numberIn : GoodIn wsX12_readCue wsX12_numberIn := goodIn_r _ [46, 14, 15, 7, 16, 47, 48, 12, 49, 17, 18, 19, 20, 8, 21, 22, 23, 24, 25, 26, 27, 28, 29, 30, 31, 32, 33, 34, 35, 36, 37, 38, 39, 40, 41, 42, 50, 51, 52, 53, 54, 55, 56, 57, 58, 59, 60, 61, 62, 63, 64, 65, 66, 67, 68, 69, 70, 71, 72, 73, 74, 75, 76, 77, 78, 79, 80, 81, 82, 83, 84, 85, 86, 87, 88, 89, 90, 91] (by decide +kernel) (by decide +kernel)
set_option maxRecDepth 20000 in
theorem gX12_readCue_X12_numberIn : GoodIn wsX12_readCue (wsV RX12 245 RX12 yX12_numberIn wsX12_numberIn) := goodIn_app (goodIn_of _ (by decide +kernel)) ggX12_readCue_X12_numberIn
theorem dX12_readCue_0 : decode cX12_readCue 0 = .ok (.aload_n 0, 1) := by decide +kernel
theorem dX12_readCue_1 : decode cX12_readCue 1 = .ok (.invokevirtual 236, 3) := by decide +kernel
theorem dX12_readCue_4 : decode cX12_readCue 4 = .ok (.ldc2_w 240, 3) := by decide +kernel
theorem dX12_readCue_7 : decode cX12_readCue 7 = .ok (.lcmp, 1) := by decide +kernel
theorem dX12_readCue_8 : decode cX12_readCue 8 = .ok (.ifCond .ne 17, 3) := by decide +kernel
theorem dX12_readCue_11 : decode cX12_readCue 11 = .ok (.aload_n 0, 1) := by decide +kernel
theorem dX12_readCue_12 : decode cX12_readCue 12 = .ok (.getfield 242, 3) := by decide +kernel
theorem dX12_readCue_15 : decode cX12_readCue 15 = .ok (.bipush 12, 2) := by decide +kernel
theorem dX12_readCue_17 : decode cX12_readCue 17 = .ok (.if_icmp .ne 8, 3) := by decide +kernel
theorem dX12_readCue_20 : decode cX12_readCue 20 = .ok (.aload_n 0, 1) := by decide +kernel
theorem dX12_readCue_21 : decode cX12_readCue 21 = .ok (.iconst 3, 1) := by decide +kernel
theorem dX12_readCue_22 : decode cX12_readCue 22 = .ok (.invokevirtual 225, 3) := by decide +kernel
theorem dX12_readCue_25 : decode cX12_readCue 25 = .ok (.aload_n 0, 1) := by decide +kernel
theorem dX12_readCue_26 : decode cX12_readCue 26 = .ok (.aload_n 0, 1) := by decide +kernel
theorem dX12_readCue_27 : decode cX12_readCue 27 = .ok (.invokevirtual 236, 3) := by decide +kernel
theorem dX12_readCue_30 : decode cX12_readCue 30 = .ok (.ldc2_w 240, 3) := by decide +kernel
theorem dX12_readCue_33 : decode cX12_readCue 33 = .ok (.lcmp, 1) := by decide +kernel
theorem dX12_readCue_34 : decode cX12_readCue 34 = .ok (.ifCond .ne 7, 3) := by decide +kernel
theorem dX12_readCue_37 : decode cX12_readCue 37 = .ok (.iconst 1, 1) := by decide +kernel
theorem dX12_readCue_38 : decode cX12_readCue 38 = .ok (.goto 4, 3) := by decide +kernel
theorem dX12_readCue_41 : decode cX12_readCue 41 = .ok (.iconst 0, 1) := by decide +kernel
theorem dX12_readCue_42 : decode cX12_readCue 42 = .ok (.invokevirtual 232, 3) := by decide +kernel
theorem dX12_readCue_45 : decode cX12_readCue 45 = .ok (.aload_n 0, 1) := by decide +kernel
theorem dX12_readCue_46 : decode cX12_readCue 46 = .ok (.aload_n 0, 1) := by decide +kernel
theorem dX12_readCue_47 : decode cX12_readCue 47 = .ok (.getfield 242, 3) := by decide +kernel
theorem dX12_readCue_50 : decode cX12_readCue 50 = .ok (.ifCond .ne 7, 3) := by decide +kernel
theorem dX12_readCue_53 : decode cX12_readCue 53 = .ok (.iconst 0, 1) := by decide +kernel
theorem dX12_readCue_54 : decode cX12_readCue 54 = .ok (.goto 16, 3) := by decide +kernel
theorem dX12_readCue_57 : decode cX12_readCue 57 = .ok (.aload_n 0, 1) := by decide +kernel
theorem dX12_readCue_58 : decode cX12_readCue 58 = .ok (.getfield 82, 3) := by decide +kernel
theorem dX12_readCue_61 : decode cX12_readCue 61 = .ok (.iconst 4, 1) := by decide +kernel
theorem dX12_readCue_62 : decode cX12_readCue 62 = .ok (.aload_n 0, 1) := by decide +kernel
theorem dX12_readCue_63 : decode cX12_readCue 63 = .ok (.getfield 242, 3) := by decide +kernel
theorem dX12_readCue_66 : decode cX12_readCue 66 = .ok (.imul, 1) := by decide +kernel
theorem dX12_readCue_67 : decode cX12_readCue 67 = .ok (.iconst 4, 1) := by decide +kernel
theorem dX12_readCue_68 : decode cX12_readCue 68 = .ok (.isub, 1) := by decide +kernel
theorem dX12_readCue_69 : decode cX12_readCue 69 = .ok (.iaload, 1) := by decide +kernel
theorem dX12_readCue_70 : decode cX12_readCue 70 = .ok (.sipush 9999, 3) := by decide +kernel
theorem dX12_readCue_73 : decode cX12_readCue 73 = .ok (.invokevirtual 245, 3) := by decide +kernel
theorem dX12_readCue_76 : decode cX12_readCue 76 = .ok (.istore_n 1, 1) := by decide +kernel
theorem dX12_readCue_77 : decode cX12_readCue 77 = .ok (.aload_n 0, 1) := by decide +kernel
theorem dX12_readCue_78 : decode cX12_readCue 78 = .ok (.invokevirtual 236, 3) := by decide +kernel
theorem dX12_readCue_81 : decode cX12_readCue 81 = .ok (.lstore_n 2, 1) := by decide +kernel
theorem dX12_readCue_82 : decode cX12_readCue 82 = .ok (.lload_n 2, 1) := by decide +kernel
theorem dX12_readCue_83 : decode cX12_readCue 83 = .ok (.ldc2_w 248, 3) := by decide +kernel
theorem dX12_readCue_86 : decode cX12_readCue 86 = .ok (.lcmp, 1) := by decide +kernel
theorem dX12_readCue_87 : decode cX12_readCue 87 = .ok (.ifCond .ne 7, 3) := by decide +kernel
theorem dX12_readCue_90 : decode cX12_readCue 90 = .ok (.iconst 0, 1) := by decide +kernel
theorem dX12_readCue_91 : decode cX12_readCue 91 = .ok (.goto 28, 3) := by decide +kernel
theorem dX12_readCue_94 : decode cX12_readCue 94 = .ok (.lload_n 2, 1) := by decide +kernel
theorem dX12_readCue_95 : decode cX12_readCue 95 = .ok (.ldc2_w 250, 3) := by decide +kernel
theorem dX12_readCue_98 : decode cX12_readCue 98 = .ok (.lcmp, 1) := by decide +kernel
theorem dX12_readCue_99 : decode cX12_readCue 99 = .ok (.ifCond .ne 7, 3) := by decide +kernel
theorem dX12_readCue_102 : decode cX12_readCue 102 = .ok (.iconst 1, 1) := by decide +kernel
theorem dX12_readCue_103 : decode cX12_readCue 103 = .ok (.goto 16, 3) := by decide +kernel
theorem dX12_readCue_106 : decode cX12_readCue 106 = .ok (.lload_n 2, 1) := by decide +kernel
theorem dX12_readCue_107 : decode cX12_readCue 107 = .ok (.ldc2_w 252, 3) := by decide +kernel
theorem dX12_readCue_110 : decode cX12_readCue 110 = .ok (.lcmp, 1) := by decide +kernel
theorem dX12_readCue_111 : decode cX12_readCue 111 = .ok (.ifCond .ne 7, 3) := by decide +kernel
theorem dX12_readCue_114 : decode cX12_readCue 114 = .ok (.iconst 2, 1) := by decide +kernel
theorem dX12_readCue_115 : decode cX12_readCue 115 = .ok (.goto 4, 3) := by decide +kernel
theorem dX12_readCue_118 : decode cX12_readCue 118 = .ok (.iconst 3, 1) := by decide +kernel
theorem dX12_readCue_119 : decode cX12_readCue 119 = .ok (.istore 4, 2) := by decide +kernel
theorem dX12_readCue_121 : decode cX12_readCue 121 = .ok (.aload_n 0, 1) := by decide +kernel
theorem dX12_readCue_122 : decode cX12_readCue 122 = .ok (.iload 4, 2) := by decide +kernel
theorem dX12_readCue_124 : decode cX12_readCue 124 = .ok (.iconst 3, 1) := by decide +kernel
theorem dX12_readCue_125 : decode cX12_readCue 125 = .ok (.if_icmp .ge 7, 3) := by decide +kernel
theorem dX12_readCue_128 : decode cX12_readCue 128 = .ok (.iconst 1, 1) := by decide +kernel
theorem dX12_readCue_129 : decode cX12_readCue 129 = .ok (.goto 4, 3) := by decide +kernel
theorem dX12_readCue_132 : decode cX12_readCue 132 = .ok (.iconst 0, 1) := by decide +kernel
theorem dX12_readCue_133 : decode cX12_readCue 133 = .ok (.invokevirtual 232, 3) := by decide +kernel
theorem dX12_readCue_136 : decode cX12_readCue 136 = .ok (.iload 4, 2) := by decide +kernel
theorem dX12_readCue_138 : decode cX12_readCue 138 = .ok (.ifCond .ne 14, 3) := by decide +kernel
theorem dX12_readCue_141 : decode cX12_readCue 141 = .ok (.aload_n 0, 1) := by decide +kernel
theorem dX12_readCue_142 : decode cX12_readCue 142 = .ok (.iconst 0, 1) := by decide +kernel
theorem dX12_readCue_143 : decode cX12_readCue 143 = .ok (.sipush 9999, 3) := by decide +kernel
theorem dX12_readCue_146 : decode cX12_readCue 146 = .ok (.invokevirtual 245, 3) := by decide +kernel
theorem dX12_readCue_149 : decode cX12_readCue 149 = .ok (.goto 20, 3) := by decide +kernel
theorem dX12_readCue_152 : decode cX12_readCue 152 = .ok (.iload 4, 2) := by decide +kernel
theorem dX12_readCue_154 : decode cX12_readCue 154 = .ok (.iconst 2, 1) := by decide +kernel
theorem dX12_readCue_155 : decode cX12_readCue 155 = .ok (.if_icmp .ne 13, 3) := by decide +kernel
theorem dX12_readCue_158 : decode cX12_readCue 158 = .ok (.aload_n 0, 1) := by decide +kernel
theorem dX12_readCue_159 : decode cX12_readCue 159 = .ok (.iconst 0, 1) := by decide +kernel
theorem dX12_readCue_160 : decode cX12_readCue 160 = .ok (.bipush 100, 2) := by decide +kernel
theorem dX12_readCue_162 : decode cX12_readCue 162 = .ok (.invokevirtual 245, 3) := by decide +kernel
theorem dX12_readCue_165 : decode cX12_readCue 165 = .ok (.goto 4, 3) := by decide +kernel
theorem dX12_readCue_168 : decode cX12_readCue 168 = .ok (.iconst 0, 1) := by decide +kernel
theorem dX12_readCue_169 : decode cX12_readCue 169 = .ok (.istore 5, 2) := by decide +kernel
theorem dX12_readCue_171 : decode cX12_readCue 171 = .ok (.iload 4, 2) := by decide +kernel
theorem dX12_readCue_173 : decode cX12_readCue 173 = .ok (.iconst 2, 1) := by decide +kernel
theorem dX12_readCue_174 : decode cX12_readCue 174 = .ok (.if_icmp .ne 14, 3) := by decide +kernel
theorem dX12_readCue_177 : decode cX12_readCue 177 = .ok (.aload_n 0, 1) := by decide +kernel
theorem dX12_readCue_178 : decode cX12_readCue 178 = .ok (.iconst 0, 1) := by decide +kernel
theorem dX12_readCue_179 : decode cX12_readCue 179 = .ok (.sipush 9999, 3) := by decide +kernel
theorem dX12_readCue_182 : decode cX12_readCue 182 = .ok (.invokevirtual 245, 3) := by decide +kernel
theorem dX12_readCue_185 : decode cX12_readCue 185 = .ok (.goto 4, 3) := by decide +kernel
theorem dX12_readCue_188 : decode cX12_readCue 188 = .ok (.iconst 0, 1) := by decide +kernel
theorem dX12_readCue_189 : decode cX12_readCue 189 = .ok (.istore 6, 2) := by decide +kernel
theorem dX12_readCue_191 : decode cX12_readCue 191 = .ok (.aload_n 0, 1) := by decide +kernel
theorem dX12_readCue_192 : decode cX12_readCue 192 = .ok (.aload_n 0, 1) := by decide +kernel
theorem dX12_readCue_193 : decode cX12_readCue 193 = .ok (.getfield 207, 3) := by decide +kernel
theorem dX12_readCue_196 : decode cX12_readCue 196 = .ok (.iconst 4, 1) := by decide +kernel
theorem dX12_readCue_197 : decode cX12_readCue 197 = .ok (.if_icmp .ne 7, 3) := by decide +kernel
theorem dX12_readCue_200 : decode cX12_readCue 200 = .ok (.iconst 1, 1) := by decide +kernel
theorem dX12_readCue_201 : decode cX12_readCue 201 = .ok (.goto 4, 3) := by decide +kernel
theorem dX12_readCue_204 : decode cX12_readCue 204 = .ok (.iconst 0, 1) := by decide +kernel
theorem dX12_readCue_205 : decode cX12_readCue 205 = .ok (.invokevirtual 232, 3) := by decide +kernel
theorem dX12_readCue_208 : decode cX12_readCue 208 = .ok (.aload_n 0, 1) := by decide +kernel
theorem dX12_readCue_209 : decode cX12_readCue 209 = .ok (.getfield 219, 3) := by decide +kernel
theorem dX12_readCue_212 : decode cX12_readCue 212 = .ok (.ifCond .ne 70, 3) := by decide +kernel
theorem dX12_readCue_215 : decode cX12_readCue 215 = .ok (.aload_n 0, 1) := by decide +kernel
theorem dX12_readCue_216 : decode cX12_readCue 216 = .ok (.getfield 82, 3) := by decide +kernel
theorem dX12_readCue_219 : decode cX12_readCue 219 = .ok (.iconst 4, 1) := by decide +kernel
theorem dX12_readCue_220 : decode cX12_readCue 220 = .ok (.aload_n 0, 1) := by decide +kernel
theorem dX12_readCue_221 : decode cX12_readCue 221 = .ok (.getfield 242, 3) := by decide +kernel
theorem dX12_readCue_224 : decode cX12_readCue 224 = .ok (.imul, 1) := by decide +kernel
theorem dX12_readCue_225 : decode cX12_readCue 225 = .ok (.iload_n 1, 1) := by decide +kernel
theorem dX12_readCue_226 : decode cX12_readCue 226 = .ok (.iastore, 1) := by decide +kernel
theorem dX12_readCue_227 : decode cX12_readCue 227 = .ok (.aload_n 0, 1) := by decide +kernel
theorem dX12_readCue_228 : decode cX12_readCue 228 = .ok (.getfield 82, 3) := by decide +kernel
theorem dX12_readCue_231 : decode cX12_readCue 231 = .ok (.iconst 4, 1) := by decide +kernel
theorem dX12_readCue_232 : decode cX12_readCue 232 = .ok (.aload_n 0, 1) := by decide +kernel
theorem dX12_readCue_233 : decode cX12_readCue 233 = .ok (.getfield 242, 3) := by decide +kernel
theorem dX12_readCue_236 : decode cX12_readCue 236 = .ok (.imul, 1) := by decide +kernel
theorem dX12_readCue_237 : decode cX12_readCue 237 = .ok (.iconst 1, 1) := by decide +kernel
theorem dX12_readCue_238 : decode cX12_readCue 238 = .ok (.iadd, 1) := by decide +kernel
theorem dX12_readCue_239 : decode cX12_readCue 239 = .ok (.iload 4, 2) := by decide +kernel
theorem dX12_readCue_241 : decode cX12_readCue 241 = .ok (.iastore, 1) := by decide +kernel
theorem dX12_readCue_242 : decode cX12_readCue 242 = .ok (.aload_n 0, 1) := by decide +kernel
theorem dX12_readCue_243 : decode cX12_readCue 243 = .ok (.getfield 82, 3) := by decide +kernel
theorem dX12_readCue_246 : decode cX12_readCue 246 = .ok (.iconst 4, 1) := by decide +kernel
theorem dX12_readCue_247 : decode cX12_readCue 247 = .ok (.aload_n 0, 1) := by decide +kernel
theorem dX12_readCue_248 : decode cX12_readCue 248 = .ok (.getfield 242, 3) := by decide +kernel
theorem dX12_readCue_251 : decode cX12_readCue 251 = .ok (.imul, 1) := by decide +kernel
theorem dX12_readCue_252 : decode cX12_readCue 252 = .ok (.iconst 2, 1) := by decide +kernel
theorem dX12_readCue_253 : decode cX12_readCue 253 = .ok (.iadd, 1) := by decide +kernel
theorem dX12_readCue_254 : decode cX12_readCue 254 = .ok (.iload 5, 2) := by decide +kernel
theorem dX12_readCue_256 : decode cX12_readCue 256 = .ok (.iastore, 1) := by decide +kernel
theorem dX12_readCue_257 : decode cX12_readCue 257 = .ok (.aload_n 0, 1) := by decide +kernel
theorem dX12_readCue_258 : decode cX12_readCue 258 = .ok (.getfield 82, 3) := by decide +kernel
theorem dX12_readCue_261 : decode cX12_readCue 261 = .ok (.iconst 4, 1) := by decide +kernel
theorem dX12_readCue_262 : decode cX12_readCue 262 = .ok (.aload_n 0, 1) := by decide +kernel
theorem dX12_readCue_263 : decode cX12_readCue 263 = .ok (.getfield 242, 3) := by decide +kernel
theorem dX12_readCue_266 : decode cX12_readCue 266 = .ok (.imul, 1) := by decide +kernel
theorem dX12_readCue_267 : decode cX12_readCue 267 = .ok (.iconst 3, 1) := by decide +kernel
theorem dX12_readCue_268 : decode cX12_readCue 268 = .ok (.iadd, 1) := by decide +kernel
theorem dX12_readCue_269 : decode cX12_readCue 269 = .ok (.iload 6, 2) := by decide +kernel
theorem dX12_readCue_271 : decode cX12_readCue 271 = .ok (.iastore, 1) := by decide +kernel
theorem dX12_readCue_272 : decode cX12_readCue 272 = .ok (.aload_n 0, 1) := by decide +kernel
theorem dX12_readCue_273 : decode cX12_readCue 273 = .ok (.dup, 1) := by decide +kernel
theorem dX12_readCue_274 : decode cX12_readCue 274 = .ok (.getfield 242, 3) := by decide +kernel
theorem dX12_readCue_277 : decode cX12_readCue 277 = .ok (.iconst 1, 1) := by decide +kernel
theorem dX12_readCue_278 : decode cX12_readCue 278 = .ok (.iadd, 1) := by decide +kernel
theorem dX12_readCue_279 : decode cX12_readCue 279 = .ok (.putfield 242, 3) := by decide +kernel
theorem dX12_readCue_282 : decode cX12_readCue 282 = .ok (.return_, 1) := by decide +kernel
set_option maxRecDepth 20000 in
theorem ggX12_cues_X12_step : GoodIn wsX12_cues wsX12_step := goodIn_r _ [18, 4, 19, 20, 7, 21, 22, 23, 24, 17, 25, 3, 26, 27, 28, 29, 30, 31, 32, 60, 61, 62, 63, 64, 65, 66, 67, 68, 69, 70, 71, 72, 73, 74, 75, 76, 77, 78, 79, 80, 81, 82, 83, 84, 85, 86, 87, 88, 89, 90, 91, 92, 93, 94, 95, 96, 97, 98, 99, 100, 101] (by decide +kernel) (by decide +kernel)
set_option maxRecDepth 20000 in
theorem gX12_cues_X12_step : GoodIn wsX12_cues (wsV RX12 229 RX12 yX12_step wsX12_step) := goodIn_app (goodIn_of _ (by decide +kernel)) ggX12_cues_X12_step
set_option maxRecDepth 20000 in
theorem ggX12_cues_X12_readCue : GoodIn wsX12_cues wsX12_readCue := goodIn_r _ [36, 37, 6, 13, 38, 39, 40, 7, 5, 41, 42, 43, 17, 44, 19, 21, 26, 45, 46, 47, 48, 10, 49, 50, 51, 52, 14, 15, 16, 18, 4, 20, 22, 23, 24, 25, 3, 27, 28, 29, 30, 31, 32, 53, 54, 55, 56, 57, 58, 59, 60, 61, 62, 63, 64, 65, 66, 67, 68, 69, 70, 71, 72, 73, 74, 75, 76, 77, 78, 79, 80, 81, 82, 83, 84, 85, 86, 87, 88, 89, 90, 91, 92, 93, 94, 95, 96, 97, 98, 99, 100, 101] (by decide +kernel) (by decide +kernel)
set_option maxRecDepth 20000 in
theorem gX12_cues_X12_readCue : GoodIn wsX12_cues (wsV RX12 254 RX12 yX12_readCue wsX12_readCue) := goodIn_app (goodIn_of _ (by decide +kernel)) ggX12_cues_X12_readCue
theorem dX12_cues_0 : decode cX12_cues 0 = .ok (.aload_n 0, 1) := by decide +kernel
theorem dX12_cues_1 : decode cX12_cues 1 = .ok (.iconst 0, 1) := by decide +kernel
theorem dX12_cues_2 : decode cX12_cues 2 = .ok (.putfield 1, 3) := by decide +kernel
theorem dX12_cues_5 : decode cX12_cues 5 = .ok (.aload_n 0, 1) := by decide +kernel
theorem dX12_cues_6 : decode cX12_cues 6 = .ok (.aload_n 0, 1) := by decide +kernel
theorem dX12_cues_7 : decode cX12_cues 7 = .ok (.getfield 190, 3) := by decide +kernel
theorem dX12_cues_10 : decode cX12_cues 10 = .ok (.putfield 195, 3) := by decide +kernel
theorem dX12_cues_13 : decode cX12_cues 13 = .ok (.aload_n 0, 1) := by decide +kernel
theorem dX12_cues_14 : decode cX12_cues 14 = .ok (.iconst 0, 1) := by decide +kernel
theorem dX12_cues_15 : decode cX12_cues 15 = .ok (.putfield 190, 3) := by decide +kernel
theorem dX12_cues_18 : decode cX12_cues 18 = .ok (.aload_n 0, 1) := by decide +kernel
theorem dX12_cues_19 : decode cX12_cues 19 = .ok (.iconst 0, 1) := by decide +kernel
theorem dX12_cues_20 : decode cX12_cues 20 = .ok (.putfield 198, 3) := by decide +kernel
theorem dX12_cues_23 : decode cX12_cues 23 = .ok (.aload_n 0, 1) := by decide +kernel
theorem dX12_cues_24 : decode cX12_cues 24 = .ok (.iconst 0, 1) := by decide +kernel
theorem dX12_cues_25 : decode cX12_cues 25 = .ok (.putfield 219, 3) := by decide +kernel
theorem dX12_cues_28 : decode cX12_cues 28 = .ok (.aload_n 0, 1) := by decide +kernel
theorem dX12_cues_29 : decode cX12_cues 29 = .ok (.iconst 0, 1) := by decide +kernel
theorem dX12_cues_30 : decode cX12_cues 30 = .ok (.putfield 242, 3) := by decide +kernel
theorem dX12_cues_33 : decode cX12_cues 33 = .ok (.aload_n 0, 1) := by decide +kernel
theorem dX12_cues_34 : decode cX12_cues 34 = .ok (.invokevirtual 229, 3) := by decide +kernel
theorem dX12_cues_37 : decode cX12_cues 37 = .ok (.aload_n 0, 1) := by decide +kernel
theorem dX12_cues_38 : decode cX12_cues 38 = .ok (.getfield 219, 3) := by decide +kernel
theorem dX12_cues_41 : decode cX12_cues 41 = .ok (.ifCond .ne 18, 3) := by decide +kernel
theorem dX12_cues_44 : decode cX12_cues 44 = .ok (.aload_n 0, 1) := by decide +kernel
theorem dX12_cues_45 : decode cX12_cues 45 = .ok (.getfield 207, 3) := by decide +kernel
theorem dX12_cues_48 : decode cX12_cues 48 = .ok (.iconst 1, 1) := by decide +kernel
theorem dX12_cues_49 : decode cX12_cues 49 = .ok (.if_icmp .eq 10, 3) := by decide +kernel
theorem dX12_cues_52 : decode cX12_cues 52 = .ok (.aload_n 0, 1) := by decide +kernel
theorem dX12_cues_53 : decode cX12_cues 53 = .ok (.invokevirtual 254, 3) := by decide +kernel
theorem dX12_cues_56 : decode cX12_cues 56 = .ok (.goto (-19), 3) := by decide +kernel
theorem dX12_cues_59 : decode cX12_cues 59 = .ok (.aload_n 0, 1) := by decide +kernel
theorem dX12_cues_60 : decode cX12_cues 60 = .ok (.getfield 219, 3) := by decide +kernel
theorem dX12_cues_63 : decode cX12_cues 63 = .ok (.ifCond .le 20, 3) := by decide +kernel
theorem dX12_cues_66 : decode cX12_cues 66 = .ok (.aload_n 0, 1) := by decide +kernel
theorem dX12_cues_67 : decode cX12_cues 67 = .ok (.aload_n 0, 1) := by decide +kernel
theorem dX12_cues_68 : decode cX12_cues 68 = .ok (.getfield 219, 3) := by decide +kernel
theorem dX12_cues_71 : decode cX12_cues 71 = .ok (.putfield 257, 3) := by decide +kernel
theorem dX12_cues_74 : decode cX12_cues 74 = .ok (.ldc_w 260, 3) := by decide +kernel
theorem dX12_cues_77 : decode cX12_cues 77 = .ok (.aload_n 0, 1) := by decide +kernel
theorem dX12_cues_78 : decode cX12_cues 78 = .ok (.getfield 222, 3) := by decide +kernel
theorem dX12_cues_81 : decode cX12_cues 81 = .ok (.isub, 1) := by decide +kernel
theorem dX12_cues_82 : decode cX12_cues 82 = .ok (.ireturn, 1) := by decide +kernel
theorem dX12_cues_83 : decode cX12_cues 83 = .ok (.aload_n 0, 1) := by decide +kernel
theorem dX12_cues_84 : decode cX12_cues 84 = .ok (.aload_n 0, 1) := by decide +kernel
theorem dX12_cues_85 : decode cX12_cues 85 = .ok (.getfield 242, 3) := by decide +kernel
theorem dX12_cues_88 : decode cX12_cues 88 = .ok (.putfield 261, 3) := by decide +kernel
theorem dX12_cues_91 : decode cX12_cues 91 = .ok (.iconst 0, 1) := by decide +kernel
theorem dX12_cues_92 : decode cX12_cues 92 = .ok (.istore_n 1, 1) := by decide +kernel
theorem dX12_cues_93 : decode cX12_cues 93 = .ok (.iload_n 1, 1) := by decide +kernel
theorem dX12_cues_94 : decode cX12_cues 94 = .ok (.iconst 4, 1) := by decide +kernel
theorem dX12_cues_95 : decode cX12_cues 95 = .ok (.aload_n 0, 1) := by decide +kernel
theorem dX12_cues_96 : decode cX12_cues 96 = .ok (.getfield 242, 3) := by decide +kernel
theorem dX12_cues_99 : decode cX12_cues 99 = .ok (.imul, 1) := by decide +kernel
theorem dX12_cues_100 : decode cX12_cues 100 = .ok (.if_icmp .ge 21, 3) := by decide +kernel
theorem dX12_cues_103 : decode cX12_cues 103 = .ok (.aload_n 0, 1) := by decide +kernel
theorem dX12_cues_104 : decode cX12_cues 104 = .ok (.getfield 79, 3) := by decide +kernel
theorem dX12_cues_107 : decode cX12_cues 107 = .ok (.iload_n 1, 1) := by decide +kernel
theorem dX12_cues_108 : decode cX12_cues 108 = .ok (.aload_n 0, 1) := by decide +kernel
theorem dX12_cues_109 : decode cX12_cues 109 = .ok (.getfield 82, 3) := by decide +kernel
theorem dX12_cues_112 : decode cX12_cues 112 = .ok (.iload_n 1, 1) := by decide +kernel
theorem dX12_cues_113 : decode cX12_cues 113 = .ok (.iaload, 1) := by decide +kernel
theorem dX12_cues_114 : decode cX12_cues 114 = .ok (.iastore, 1) := by decide +kernel
theorem dX12_cues_115 : decode cX12_cues 115 = .ok (.iinc 1 1, 3) := by decide +kernel
theorem dX12_cues_118 : decode cX12_cues 118 = .ok (.goto (-25), 3) := by decide +kernel
theorem dX12_cues_121 : decode cX12_cues 121 = .ok (.aload_n 0, 1) := by decide +kernel
theorem dX12_cues_122 : decode cX12_cues 122 = .ok (.getfield 261, 3) := by decide +kernel
theorem dX12_cues_125 : decode cX12_cues 125 = .ok (.ireturn, 1) := by decide +kernel
theorem dX12_fault_0 : decode cX12_fault 0 = .ok (.aload_n 0, 1) := by decide +kernel
theorem dX12_fault_1 : decode cX12_fault 1 = .ok (.iconst 0, 1) := by decide +kernel
theorem dX12_fault_2 : decode cX12_fault 2 = .ok (.putfield 1, 3) := by decide +kernel
theorem dX12_fault_5 : decode cX12_fault 5 = .ok (.aload_n 0, 1) := by decide +kernel
theorem dX12_fault_6 : decode cX12_fault 6 = .ok (.getfield 257, 3) := by decide +kernel
theorem dX12_fault_9 : decode cX12_fault 9 = .ok (.ireturn, 1) := by decide +kernel
set_option maxRecDepth 20000 in
theorem ggX12_frame_X12_in : GoodIn wsX12_frame wsX12_in := goodIn_r _ [9] (by decide +kernel) (by decide +kernel)
set_option maxRecDepth 20000 in
theorem gX12_frame_X12_in : GoodIn wsX12_frame (va_wsS RX12 90 yX12_in wsX12_in) := goodIn_app (goodIn_of _ (by decide +kernel)) ggX12_frame_X12_in
set_option maxRecDepth 20000 in
theorem ggX12_frame_X12_level : GoodIn wsX12_frame wsX12_level := goodIn_r _ [12] (by decide +kernel) (by decide +kernel)
set_option maxRecDepth 20000 in
theorem gX12_frame_X12_level : GoodIn wsX12_frame (va_wsS RX12 266 yX12_level wsX12_level) := goodIn_app (goodIn_of _ (by decide +kernel)) ggX12_frame_X12_level
theorem dX12_frame_0 : decode cX12_frame 0 = .ok (.aload_n 0, 1) := by decide +kernel
theorem dX12_frame_1 : decode cX12_frame 1 = .ok (.iconst 0, 1) := by decide +kernel
theorem dX12_frame_2 : decode cX12_frame 2 = .ok (.putfield 1, 3) := by decide +kernel
theorem dX12_frame_5 : decode cX12_frame 5 = .ok (.iload_n 1, 1) := by decide +kernel
theorem dX12_frame_6 : decode cX12_frame 6 = .ok (.i2l, 1) := by decide +kernel
theorem dX12_frame_7 : decode cX12_frame 7 = .ok (.lconst 0, 1) := by decide +kernel
theorem dX12_frame_8 : decode cX12_frame 8 = .ok (.ldc2_w 264, 3) := by decide +kernel
theorem dX12_frame_11 : decode cX12_frame 11 = .ok (.invokestatic 90, 3) := by decide +kernel
theorem dX12_frame_14 : decode cX12_frame 14 = .ok (.ifCond .eq 13, 3) := by decide +kernel
theorem dX12_frame_17 : decode cX12_frame 17 = .ok (.iload_n 2, 1) := by decide +kernel
theorem dX12_frame_18 : decode cX12_frame 18 = .ok (.i2l, 1) := by decide +kernel
theorem dX12_frame_19 : decode cX12_frame 19 = .ok (.lconst 0, 1) := by decide +kernel
theorem dX12_frame_20 : decode cX12_frame 20 = .ok (.lconst 1, 1) := by decide +kernel
theorem dX12_frame_21 : decode cX12_frame 21 = .ok (.invokestatic 90, 3) := by decide +kernel
theorem dX12_frame_24 : decode cX12_frame 24 = .ok (.ifCond .ne 6, 3) := by decide +kernel
theorem dX12_frame_27 : decode cX12_frame 27 = .ok (.ldc 100, 2) := by decide +kernel
theorem dX12_frame_29 : decode cX12_frame 29 = .ok (.ireturn, 1) := by decide +kernel
theorem dX12_frame_30 : decode cX12_frame 30 = .ok (.iconst (-1), 1) := by decide +kernel
theorem dX12_frame_31 : decode cX12_frame 31 = .ok (.istore_n 3, 1) := by decide +kernel
theorem dX12_frame_32 : decode cX12_frame 32 = .ok (.iconst 0, 1) := by decide +kernel
theorem dX12_frame_33 : decode cX12_frame 33 = .ok (.istore 4, 2) := by decide +kernel
theorem dX12_frame_35 : decode cX12_frame 35 = .ok (.bipush 100, 2) := by decide +kernel
theorem dX12_frame_37 : decode cX12_frame 37 = .ok (.istore 5, 2) := by decide +kernel
theorem dX12_frame_39 : decode cX12_frame 39 = .ok (.bipush 100, 2) := by decide +kernel
theorem dX12_frame_41 : decode cX12_frame 41 = .ok (.istore 6, 2) := by decide +kernel
theorem dX12_frame_43 : decode cX12_frame 43 = .ok (.iconst 0, 1) := by decide +kernel
theorem dX12_frame_44 : decode cX12_frame 44 = .ok (.istore 7, 2) := by decide +kernel
theorem dX12_frame_46 : decode cX12_frame 46 = .ok (.iconst 0, 1) := by decide +kernel
theorem dX12_frame_47 : decode cX12_frame 47 = .ok (.istore 8, 2) := by decide +kernel
theorem dX12_frame_49 : decode cX12_frame 49 = .ok (.iload 8, 2) := by decide +kernel
theorem dX12_frame_51 : decode cX12_frame 51 = .ok (.aload_n 0, 1) := by decide +kernel
theorem dX12_frame_52 : decode cX12_frame 52 = .ok (.getfield 261, 3) := by decide +kernel
theorem dX12_frame_55 : decode cX12_frame 55 = .ok (.if_icmp .ge 128, 3) := by decide +kernel
theorem dX12_frame_58 : decode cX12_frame 58 = .ok (.aload_n 0, 1) := by decide +kernel
theorem dX12_frame_59 : decode cX12_frame 59 = .ok (.getfield 79, 3) := by decide +kernel
theorem dX12_frame_62 : decode cX12_frame 62 = .ok (.iconst 4, 1) := by decide +kernel
theorem dX12_frame_63 : decode cX12_frame 63 = .ok (.iload 8, 2) := by decide +kernel
theorem dX12_frame_65 : decode cX12_frame 65 = .ok (.imul, 1) := by decide +kernel
theorem dX12_frame_66 : decode cX12_frame 66 = .ok (.iaload, 1) := by decide +kernel
theorem dX12_frame_67 : decode cX12_frame 67 = .ok (.iload_n 1, 1) := by decide +kernel
theorem dX12_frame_68 : decode cX12_frame 68 = .ok (.if_icmp .gt 115, 3) := by decide +kernel
theorem dX12_frame_71 : decode cX12_frame 71 = .ok (.aload_n 0, 1) := by decide +kernel
theorem dX12_frame_72 : decode cX12_frame 72 = .ok (.getfield 79, 3) := by decide +kernel
theorem dX12_frame_75 : decode cX12_frame 75 = .ok (.iconst 4, 1) := by decide +kernel
theorem dX12_frame_76 : decode cX12_frame 76 = .ok (.iload 8, 2) := by decide +kernel
theorem dX12_frame_78 : decode cX12_frame 78 = .ok (.imul, 1) := by decide +kernel
theorem dX12_frame_79 : decode cX12_frame 79 = .ok (.iaload, 1) := by decide +kernel
theorem dX12_frame_80 : decode cX12_frame 80 = .ok (.istore 9, 2) := by decide +kernel
theorem dX12_frame_82 : decode cX12_frame 82 = .ok (.aload_n 0, 1) := by decide +kernel
theorem dX12_frame_83 : decode cX12_frame 83 = .ok (.getfield 79, 3) := by decide +kernel
theorem dX12_frame_86 : decode cX12_frame 86 = .ok (.iconst 4, 1) := by decide +kernel
theorem dX12_frame_87 : decode cX12_frame 87 = .ok (.iload 8, 2) := by decide +kernel
theorem dX12_frame_89 : decode cX12_frame 89 = .ok (.imul, 1) := by decide +kernel
theorem dX12_frame_90 : decode cX12_frame 90 = .ok (.iconst 1, 1) := by decide +kernel
theorem dX12_frame_91 : decode cX12_frame 91 = .ok (.iadd, 1) := by decide +kernel
theorem dX12_frame_92 : decode cX12_frame 92 = .ok (.iaload, 1) := by decide +kernel
theorem dX12_frame_93 : decode cX12_frame 93 = .ok (.ifCond .ne 18, 3) := by decide +kernel
theorem dX12_frame_96 : decode cX12_frame 96 = .ok (.aload_n 0, 1) := by decide +kernel
theorem dX12_frame_97 : decode cX12_frame 97 = .ok (.getfield 79, 3) := by decide +kernel
theorem dX12_frame_100 : decode cX12_frame 100 = .ok (.iconst 4, 1) := by decide +kernel
theorem dX12_frame_101 : decode cX12_frame 101 = .ok (.iload 8, 2) := by decide +kernel
theorem dX12_frame_103 : decode cX12_frame 103 = .ok (.imul, 1) := by decide +kernel
theorem dX12_frame_104 : decode cX12_frame 104 = .ok (.iconst 2, 1) := by decide +kernel
theorem dX12_frame_105 : decode cX12_frame 105 = .ok (.iadd, 1) := by decide +kernel
theorem dX12_frame_106 : decode cX12_frame 106 = .ok (.iaload, 1) := by decide +kernel
theorem dX12_frame_107 : decode cX12_frame 107 = .ok (.istore_n 3, 1) := by decide +kernel
theorem dX12_frame_108 : decode cX12_frame 108 = .ok (.goto 69, 3) := by decide +kernel
theorem dX12_frame_111 : decode cX12_frame 111 = .ok (.aload_n 0, 1) := by decide +kernel
theorem dX12_frame_112 : decode cX12_frame 112 = .ok (.getfield 79, 3) := by decide +kernel
theorem dX12_frame_115 : decode cX12_frame 115 = .ok (.iconst 4, 1) := by decide +kernel
theorem dX12_frame_116 : decode cX12_frame 116 = .ok (.iload 8, 2) := by decide +kernel
theorem dX12_frame_118 : decode cX12_frame 118 = .ok (.imul, 1) := by decide +kernel
theorem dX12_frame_119 : decode cX12_frame 119 = .ok (.iconst 1, 1) := by decide +kernel
theorem dX12_frame_120 : decode cX12_frame 120 = .ok (.iadd, 1) := by decide +kernel
theorem dX12_frame_121 : decode cX12_frame 121 = .ok (.iaload, 1) := by decide +kernel
theorem dX12_frame_122 : decode cX12_frame 122 = .ok (.iconst 1, 1) := by decide +kernel
theorem dX12_frame_123 : decode cX12_frame 123 = .ok (.if_icmp .ne 9, 3) := by decide +kernel
theorem dX12_frame_126 : decode cX12_frame 126 = .ok (.bipush (-2), 2) := by decide +kernel
theorem dX12_frame_128 : decode cX12_frame 128 = .ok (.istore_n 3, 1) := by decide +kernel
theorem dX12_frame_129 : decode cX12_frame 129 = .ok (.goto 48, 3) := by decide +kernel
theorem dX12_frame_132 : decode cX12_frame 132 = .ok (.iload 9, 2) := by decide +kernel
theorem dX12_frame_134 : decode cX12_frame 134 = .ok (.iload 4, 2) := by decide +kernel
theorem dX12_frame_136 : decode cX12_frame 136 = .ok (.iload 5, 2) := by decide +kernel
theorem dX12_frame_138 : decode cX12_frame 138 = .ok (.iload 6, 2) := by decide +kernel
theorem dX12_frame_140 : decode cX12_frame 140 = .ok (.iload 7, 2) := by decide +kernel
theorem dX12_frame_142 : decode cX12_frame 142 = .ok (.invokestatic 266, 3) := by decide +kernel
theorem dX12_frame_145 : decode cX12_frame 145 = .ok (.istore 5, 2) := by decide +kernel
theorem dX12_frame_147 : decode cX12_frame 147 = .ok (.iload 9, 2) := by decide +kernel
theorem dX12_frame_149 : decode cX12_frame 149 = .ok (.istore 4, 2) := by decide +kernel
theorem dX12_frame_151 : decode cX12_frame 151 = .ok (.aload_n 0, 1) := by decide +kernel
theorem dX12_frame_152 : decode cX12_frame 152 = .ok (.getfield 79, 3) := by decide +kernel
theorem dX12_frame_155 : decode cX12_frame 155 = .ok (.iconst 4, 1) := by decide +kernel
theorem dX12_frame_156 : decode cX12_frame 156 = .ok (.iload 8, 2) := by decide +kernel
theorem dX12_frame_158 : decode cX12_frame 158 = .ok (.imul, 1) := by decide +kernel
theorem dX12_frame_159 : decode cX12_frame 159 = .ok (.iconst 2, 1) := by decide +kernel
theorem dX12_frame_160 : decode cX12_frame 160 = .ok (.iadd, 1) := by decide +kernel
theorem dX12_frame_161 : decode cX12_frame 161 = .ok (.iaload, 1) := by decide +kernel
theorem dX12_frame_162 : decode cX12_frame 162 = .ok (.istore 6, 2) := by decide +kernel
theorem dX12_frame_164 : decode cX12_frame 164 = .ok (.aload_n 0, 1) := by decide +kernel
theorem dX12_frame_165 : decode cX12_frame 165 = .ok (.getfield 79, 3) := by decide +kernel
theorem dX12_frame_168 : decode cX12_frame 168 = .ok (.iconst 4, 1) := by decide +kernel
theorem dX12_frame_169 : decode cX12_frame 169 = .ok (.iload 8, 2) := by decide +kernel
theorem dX12_frame_171 : decode cX12_frame 171 = .ok (.imul, 1) := by decide +kernel
theorem dX12_frame_172 : decode cX12_frame 172 = .ok (.iconst 3, 1) := by decide +kernel
theorem dX12_frame_173 : decode cX12_frame 173 = .ok (.iadd, 1) := by decide +kernel
theorem dX12_frame_174 : decode cX12_frame 174 = .ok (.iaload, 1) := by decide +kernel
theorem dX12_frame_175 : decode cX12_frame 175 = .ok (.istore 7, 2) := by decide +kernel
theorem dX12_frame_177 : decode cX12_frame 177 = .ok (.iinc 8 1, 3) := by decide +kernel
theorem dX12_frame_180 : decode cX12_frame 180 = .ok (.goto (-131), 3) := by decide +kernel
theorem dX12_frame_183 : decode cX12_frame 183 = .ok (.iload_n 2, 1) := by decide +kernel
theorem dX12_frame_184 : decode cX12_frame 184 = .ok (.ifCond .ne 7, 3) := by decide +kernel
theorem dX12_frame_187 : decode cX12_frame 187 = .ok (.iload_n 3, 1) := by decide +kernel
theorem dX12_frame_188 : decode cX12_frame 188 = .ok (.goto 15, 3) := by decide +kernel
theorem dX12_frame_191 : decode cX12_frame 191 = .ok (.iload_n 1, 1) := by decide +kernel
theorem dX12_frame_192 : decode cX12_frame 192 = .ok (.iload 4, 2) := by decide +kernel
theorem dX12_frame_194 : decode cX12_frame 194 = .ok (.iload 5, 2) := by decide +kernel
theorem dX12_frame_196 : decode cX12_frame 196 = .ok (.iload 6, 2) := by decide +kernel
theorem dX12_frame_198 : decode cX12_frame 198 = .ok (.iload 7, 2) := by decide +kernel
theorem dX12_frame_200 : decode cX12_frame 200 = .ok (.invokestatic 266, 3) := by decide +kernel
theorem dX12_frame_203 : decode cX12_frame 203 = .ok (.ireturn, 1) := by decide +kernel
theorem dX12_level_0 : decode cX12_level 0 = .ok (.iload_n 0, 1) := by decide +kernel
theorem dX12_level_1 : decode cX12_level 1 = .ok (.iload_n 1, 1) := by decide +kernel
theorem dX12_level_2 : decode cX12_level 2 = .ok (.iload 4, 2) := by decide +kernel
theorem dX12_level_4 : decode cX12_level 4 = .ok (.iadd, 1) := by decide +kernel
theorem dX12_level_5 : decode cX12_level 5 = .ok (.if_icmp .lt 7, 3) := by decide +kernel
theorem dX12_level_8 : decode cX12_level 8 = .ok (.iload_n 3, 1) := by decide +kernel
theorem dX12_level_9 : decode cX12_level 9 = .ok (.goto 15, 3) := by decide +kernel
theorem dX12_level_12 : decode cX12_level 12 = .ok (.iload_n 2, 1) := by decide +kernel
theorem dX12_level_13 : decode cX12_level 13 = .ok (.iload_n 3, 1) := by decide +kernel
theorem dX12_level_14 : decode cX12_level 14 = .ok (.iload_n 2, 1) := by decide +kernel
theorem dX12_level_15 : decode cX12_level 15 = .ok (.isub, 1) := by decide +kernel
theorem dX12_level_16 : decode cX12_level 16 = .ok (.iload_n 0, 1) := by decide +kernel
theorem dX12_level_17 : decode cX12_level 17 = .ok (.iload_n 1, 1) := by decide +kernel
theorem dX12_level_18 : decode cX12_level 18 = .ok (.isub, 1) := by decide +kernel
theorem dX12_level_19 : decode cX12_level 19 = .ok (.imul, 1) := by decide +kernel
theorem dX12_level_20 : decode cX12_level 20 = .ok (.iload 4, 2) := by decide +kernel
theorem dX12_level_22 : decode cX12_level 22 = .ok (.idiv, 1) := by decide +kernel
theorem dX12_level_23 : decode cX12_level 23 = .ok (.iadd, 1) := by decide +kernel
theorem dX12_level_24 : decode cX12_level 24 = .ok (.ireturn, 1) := by decide +kernel
theorem dX12_kindOf_0 : decode cX12_kindOf 0 = .ok (.aload_n 0, 1) := by decide +kernel
theorem dX12_kindOf_1 : decode cX12_kindOf 1 = .ok (.getfield 27, 3) := by decide +kernel
theorem dX12_kindOf_4 : decode cX12_kindOf 4 = .ok (.iload_n 1, 1) := by decide +kernel
theorem dX12_kindOf_5 : decode cX12_kindOf 5 = .ok (.iaload, 1) := by decide +kernel
theorem dX12_kindOf_6 : decode cX12_kindOf 6 = .ok (.istore_n 2, 1) := by decide +kernel
theorem dX12_kindOf_7 : decode cX12_kindOf 7 = .ok (.iload_n 2, 1) := by decide +kernel
theorem dX12_kindOf_8 : decode cX12_kindOf 8 = .ok (.iconst 2, 1) := by decide +kernel
theorem dX12_kindOf_9 : decode cX12_kindOf 9 = .ok (.if_icmp .le 57, 3) := by decide +kernel
theorem dX12_kindOf_12 : decode cX12_kindOf 12 = .ok (.aload_n 0, 1) := by decide +kernel
theorem dX12_kindOf_13 : decode cX12_kindOf 13 = .ok (.getfield 30, 3) := by decide +kernel
theorem dX12_kindOf_16 : decode cX12_kindOf 16 = .ok (.bipush 8, 2) := by decide +kernel
theorem dX12_kindOf_18 : decode cX12_kindOf 18 = .ok (.iload_n 1, 1) := by decide +kernel
theorem dX12_kindOf_19 : decode cX12_kindOf 19 = .ok (.imul, 1) := by decide +kernel
theorem dX12_kindOf_20 : decode cX12_kindOf 20 = .ok (.iaload, 1) := by decide +kernel
theorem dX12_kindOf_21 : decode cX12_kindOf 21 = .ok (.aload_n 0, 1) := by decide +kernel
theorem dX12_kindOf_22 : decode cX12_kindOf 22 = .ok (.getfield 30, 3) := by decide +kernel
theorem dX12_kindOf_25 : decode cX12_kindOf 25 = .ok (.bipush 8, 2) := by decide +kernel
theorem dX12_kindOf_27 : decode cX12_kindOf 27 = .ok (.iload_n 1, 1) := by decide +kernel
theorem dX12_kindOf_28 : decode cX12_kindOf 28 = .ok (.imul, 1) := by decide +kernel
theorem dX12_kindOf_29 : decode cX12_kindOf 29 = .ok (.iload_n 2, 1) := by decide +kernel
theorem dX12_kindOf_30 : decode cX12_kindOf 30 = .ok (.iadd, 1) := by decide +kernel
theorem dX12_kindOf_31 : decode cX12_kindOf 31 = .ok (.iconst 1, 1) := by decide +kernel
theorem dX12_kindOf_32 : decode cX12_kindOf 32 = .ok (.isub, 1) := by decide +kernel
theorem dX12_kindOf_33 : decode cX12_kindOf 33 = .ok (.iaload, 1) := by decide +kernel
theorem dX12_kindOf_34 : decode cX12_kindOf 34 = .ok (.if_icmp .ne 32, 3) := by decide +kernel
theorem dX12_kindOf_37 : decode cX12_kindOf 37 = .ok (.aload_n 0, 1) := by decide +kernel
theorem dX12_kindOf_38 : decode cX12_kindOf 38 = .ok (.getfield 33, 3) := by decide +kernel
theorem dX12_kindOf_41 : decode cX12_kindOf 41 = .ok (.bipush 8, 2) := by decide +kernel
theorem dX12_kindOf_43 : decode cX12_kindOf 43 = .ok (.iload_n 1, 1) := by decide +kernel
theorem dX12_kindOf_44 : decode cX12_kindOf 44 = .ok (.imul, 1) := by decide +kernel
theorem dX12_kindOf_45 : decode cX12_kindOf 45 = .ok (.iaload, 1) := by decide +kernel
theorem dX12_kindOf_46 : decode cX12_kindOf 46 = .ok (.aload_n 0, 1) := by decide +kernel
theorem dX12_kindOf_47 : decode cX12_kindOf 47 = .ok (.getfield 33, 3) := by decide +kernel
theorem dX12_kindOf_50 : decode cX12_kindOf 50 = .ok (.bipush 8, 2) := by decide +kernel
theorem dX12_kindOf_52 : decode cX12_kindOf 52 = .ok (.iload_n 1, 1) := by decide +kernel
theorem dX12_kindOf_53 : decode cX12_kindOf 53 = .ok (.imul, 1) := by decide +kernel
theorem dX12_kindOf_54 : decode cX12_kindOf 54 = .ok (.iload_n 2, 1) := by decide +kernel
theorem dX12_kindOf_55 : decode cX12_kindOf 55 = .ok (.iadd, 1) := by decide +kernel
theorem dX12_kindOf_56 : decode cX12_kindOf 56 = .ok (.iconst 1, 1) := by decide +kernel
theorem dX12_kindOf_57 : decode cX12_kindOf 57 = .ok (.isub, 1) := by decide +kernel
theorem dX12_kindOf_58 : decode cX12_kindOf 58 = .ok (.iaload, 1) := by decide +kernel
theorem dX12_kindOf_59 : decode cX12_kindOf 59 = .ok (.if_icmp .ne 7, 3) := by decide +kernel
theorem dX12_kindOf_62 : decode cX12_kindOf 62 = .ok (.iconst 1, 1) := by decide +kernel
theorem dX12_kindOf_63 : decode cX12_kindOf 63 = .ok (.goto 4, 3) := by decide +kernel
theorem dX12_kindOf_66 : decode cX12_kindOf 66 = .ok (.iconst 0, 1) := by decide +kernel
theorem dX12_kindOf_67 : decode cX12_kindOf 67 = .ok (.istore_n 3, 1) := by decide +kernel
theorem dX12_kindOf_68 : decode cX12_kindOf 68 = .ok (.iload_n 2, 1) := by decide +kernel
theorem dX12_kindOf_69 : decode cX12_kindOf 69 = .ok (.iconst 1, 1) := by decide +kernel
theorem dX12_kindOf_70 : decode cX12_kindOf 70 = .ok (.if_icmp .ne 7, 3) := by decide +kernel
theorem dX12_kindOf_73 : decode cX12_kindOf 73 = .ok (.iconst 1, 1) := by decide +kernel
theorem dX12_kindOf_74 : decode cX12_kindOf 74 = .ok (.goto 12, 3) := by decide +kernel
theorem dX12_kindOf_77 : decode cX12_kindOf 77 = .ok (.iload_n 3, 1) := by decide +kernel
theorem dX12_kindOf_78 : decode cX12_kindOf 78 = .ok (.ifCond .eq 7, 3) := by decide +kernel
theorem dX12_kindOf_81 : decode cX12_kindOf 81 = .ok (.iconst 3, 1) := by decide +kernel
theorem dX12_kindOf_82 : decode cX12_kindOf 82 = .ok (.goto 4, 3) := by decide +kernel
theorem dX12_kindOf_85 : decode cX12_kindOf 85 = .ok (.iconst 2, 1) := by decide +kernel
theorem dX12_kindOf_86 : decode cX12_kindOf 86 = .ok (.ireturn, 1) := by decide +kernel
set_option maxRecDepth 20000 in
theorem ggX12_kind_X12_isStroke : GoodIn wsX12_kind wsX12_isStroke := goodIn_r _ [7, 8, 9, 10, 6, 11, 19, 20, 21, 22, 23, 24, 25, 26, 27, 28, 29, 30, 31, 32, 33, 34, 35, 36, 37, 38, 39, 40, 41, 42, 43, 44, 45, 46, 47, 48, 49, 50, 51, 52, 53, 54, 55, 56, 57, 58, 59, 60] (by decide +kernel) (by decide +kernel)
set_option maxRecDepth 20000 in
theorem gX12_kind_X12_isStroke : GoodIn wsX12_kind (wsV RX12 113 RX12 yX12_isStroke wsX12_isStroke) := goodIn_app (goodIn_of _ (by decide +kernel)) ggX12_kind_X12_isStroke
set_option maxRecDepth 20000 in
theorem ggX12_kind_X12_kindOf : GoodIn wsX12_kind wsX12_kindOf := goodIn_r _ [15, 16, 17, 18, 19, 20, 21, 22, 23, 24, 25, 26, 27, 28, 29, 30, 31, 32, 33, 34, 35, 36, 37, 38, 39, 40, 41, 42, 43, 44, 45, 46, 47, 48, 49, 50, 51, 52, 53, 54, 55, 56, 57, 58, 59, 60] (by decide +kernel) (by decide +kernel)
set_option maxRecDepth 20000 in
theorem gX12_kind_X12_kindOf : GoodIn wsX12_kind (wsV RX12 270 RX12 yX12_kindOf wsX12_kindOf) := goodIn_app (goodIn_of _ (by decide +kernel)) ggX12_kind_X12_kindOf
theorem dX12_kind_0 : decode cX12_kind 0 = .ok (.aload_n 0, 1) := by decide +kernel
theorem dX12_kind_1 : decode cX12_kind 1 = .ok (.iconst 0, 1) := by decide +kernel
theorem dX12_kind_2 : decode cX12_kind 2 = .ok (.putfield 1, 3) := by decide +kernel
theorem dX12_kind_5 : decode cX12_kind 5 = .ok (.aload_n 0, 1) := by decide +kernel
theorem dX12_kind_6 : decode cX12_kind 6 = .ok (.iload_n 1, 1) := by decide +kernel
theorem dX12_kind_7 : decode cX12_kind 7 = .ok (.invokevirtual 113, 3) := by decide +kernel
theorem dX12_kind_10 : decode cX12_kind 10 = .ok (.ifCond .eq 11, 3) := by decide +kernel
theorem dX12_kind_13 : decode cX12_kind 13 = .ok (.aload_n 0, 1) := by decide +kernel
theorem dX12_kind_14 : decode cX12_kind 14 = .ok (.iload_n 1, 1) := by decide +kernel
theorem dX12_kind_15 : decode cX12_kind 15 = .ok (.invokevirtual 270, 3) := by decide +kernel
theorem dX12_kind_18 : decode cX12_kind 18 = .ok (.goto 5, 3) := by decide +kernel
