theorem dX6_sumUp_139 : decode cX6_sumUp 139 = .ok (.iadd, 1) := by decide +kernel
theorem dX6_sumUp_140 : decode cX6_sumUp 140 = .ok (.putfield 100, 3) := by decide +kernel
theorem dX6_sumUp_143 : decode cX6_sumUp 143 = .ok (.aload_n 0, 1) := by decide +kernel
theorem dX6_sumUp_144 : decode cX6_sumUp 144 = .ok (.aload_n 0, 1) := by decide +kernel
theorem dX6_sumUp_145 : decode cX6_sumUp 145 = .ok (.getfield 22, 3) := by decide +kernel
theorem dX6_sumUp_148 : decode cX6_sumUp 148 = .ok (.iload_n 1, 1) := by decide +kernel
theorem dX6_sumUp_149 : decode cX6_sumUp 149 = .ok (.iaload, 1) := by decide +kernel
theorem dX6_sumUp_150 : decode cX6_sumUp 150 = .ok (.aload_n 0, 1) := by decide +kernel
theorem dX6_sumUp_151 : decode cX6_sumUp 151 = .ok (.getfield 25, 3) := by decide +kernel
theorem dX6_sumUp_154 : decode cX6_sumUp 154 = .ok (.iload_n 1, 1) := by decide +kernel
theorem dX6_sumUp_155 : decode cX6_sumUp 155 = .ok (.iaload, 1) := by decide +kernel
theorem dX6_sumUp_156 : decode cX6_sumUp 156 = .ok (.invokevirtual 125, 3) := by decide +kernel
theorem dX6_sumUp_159 : decode cX6_sumUp 159 = .ok (.iinc 1 1, 3) := by decide +kernel
theorem dX6_sumUp_162 : decode cX6_sumUp 162 = .ok (.goto (-111), 3) := by decide +kernel
theorem dX6_sumUp_165 : decode cX6_sumUp 165 = .ok (.return_, 1) := by decide +kernel
set_option maxRecDepth 20000 in
theorem ggX6_burnAt_X11_isWithin : GoodIn wsX6_burnAt wsX11_isWithin := goodIn_r _ [9] (by decide +kernel) (by decide +kernel)
set_option maxRecDepth 20000 in
theorem gX6_burnAt_X11_isWithin_n79 : GoodIn wsX6_burnAt (wsX11_isWithin) := ggX6_burnAt_X11_isWithin
theorem dX6_burnAt_0 : decode cX6_burnAt 0 = .ok (.iload_n 1, 1) := by decide +kernel
theorem dX6_burnAt_1 : decode cX6_burnAt 1 = .ok (.iconst 0, 1) := by decide +kernel
theorem dX6_burnAt_2 : decode cX6_burnAt 2 = .ok (.sipush 1000, 3) := by decide +kernel
theorem dX6_burnAt_5 : decode cX6_burnAt 5 = .ok (.invokestatic 79, 3) := by decide +kernel
theorem dX6_burnAt_8 : decode cX6_burnAt 8 = .ok (.ifCond .eq 51, 3) := by decide +kernel
theorem dX6_burnAt_11 : decode cX6_burnAt 11 = .ok (.iload_n 2, 1) := by decide +kernel
theorem dX6_burnAt_12 : decode cX6_burnAt 12 = .ok (.iconst 0, 1) := by decide +kernel
theorem dX6_burnAt_13 : decode cX6_burnAt 13 = .ok (.sipush 1000, 3) := by decide +kernel
theorem dX6_burnAt_16 : decode cX6_burnAt 16 = .ok (.invokestatic 79, 3) := by decide +kernel
theorem dX6_burnAt_19 : decode cX6_burnAt 19 = .ok (.ifCond .eq 40, 3) := by decide +kernel
theorem dX6_burnAt_22 : decode cX6_burnAt 22 = .ok (.aload_n 0, 1) := by decide +kernel
theorem dX6_burnAt_23 : decode cX6_burnAt 23 = .ok (.getfield 30, 3) := by decide +kernel
theorem dX6_burnAt_26 : decode cX6_burnAt 26 = .ok (.iload_n 1, 1) := by decide +kernel
theorem dX6_burnAt_27 : decode cX6_burnAt 27 = .ok (.bipush 100, 2) := by decide +kernel
theorem dX6_burnAt_29 : decode cX6_burnAt 29 = .ok (.idiv, 1) := by decide +kernel
theorem dX6_burnAt_30 : decode cX6_burnAt 30 = .ok (.aaload, 1) := by decide +kernel
theorem dX6_burnAt_31 : decode cX6_burnAt 31 = .ok (.astore_n 3, 1) := by decide +kernel
theorem dX6_burnAt_32 : decode cX6_burnAt 32 = .ok (.aload_n 3, 1) := by decide +kernel
theorem dX6_burnAt_33 : decode cX6_burnAt 33 = .ok (.iload_n 2, 1) := by decide +kernel
theorem dX6_burnAt_34 : decode cX6_burnAt 34 = .ok (.bipush 100, 2) := by decide +kernel
theorem dX6_burnAt_36 : decode cX6_burnAt 36 = .ok (.idiv, 1) := by decide +kernel
theorem dX6_burnAt_37 : decode cX6_burnAt 37 = .ok (.dup2, 1) := by decide +kernel
theorem dX6_burnAt_38 : decode cX6_burnAt 38 = .ok (.iaload, 1) := by decide +kernel
theorem dX6_burnAt_39 : decode cX6_burnAt 39 = .ok (.iconst 1, 1) := by decide +kernel
theorem dX6_burnAt_40 : decode cX6_burnAt 40 = .ok (.iadd, 1) := by decide +kernel
theorem dX6_burnAt_41 : decode cX6_burnAt 41 = .ok (.iastore, 1) := by decide +kernel
theorem dX6_burnAt_42 : decode cX6_burnAt 42 = .ok (.aload_n 0, 1) := by decide +kernel
theorem dX6_burnAt_43 : decode cX6_burnAt 43 = .ok (.aload_n 0, 1) := by decide +kernel
theorem dX6_burnAt_44 : decode cX6_burnAt 44 = .ok (.getfield 109, 3) := by decide +kernel
theorem dX6_burnAt_47 : decode cX6_burnAt 47 = .ok (.aload_n 3, 1) := by decide +kernel
theorem dX6_burnAt_48 : decode cX6_burnAt 48 = .ok (.iload_n 2, 1) := by decide +kernel
theorem dX6_burnAt_49 : decode cX6_burnAt 49 = .ok (.bipush 100, 2) := by decide +kernel
theorem dX6_burnAt_51 : decode cX6_burnAt 51 = .ok (.idiv, 1) := by decide +kernel
theorem dX6_burnAt_52 : decode cX6_burnAt 52 = .ok (.iaload, 1) := by decide +kernel
theorem dX6_burnAt_53 : decode cX6_burnAt 53 = .ok (.invokestatic 122, 3) := by decide +kernel
theorem dX6_burnAt_56 : decode cX6_burnAt 56 = .ok (.putfield 109, 3) := by decide +kernel
theorem dX6_burnAt_59 : decode cX6_burnAt 59 = .ok (.return_, 1) := by decide +kernel
set_option maxRecDepth 20000 in
theorem ggX7_init_X8_init : GoodIn wsX7_init wsX8_init := goodIn_r _ [4, 5, 6, 7, 8, 9, 10, 11, 12, 13, 14, 15] (by decide +kernel) (by decide +kernel)
set_option maxRecDepth 20000 in
theorem gX7_init_X8_init : GoodIn wsX7_init (wsX8_init) := ggX7_init_X8_init
theorem dX7_init_0 : decode cX7_init 0 = .ok (.aload_n 0, 1) := by decide +kernel
theorem dX7_init_1 : decode cX7_init 1 = .ok (.aload_n 1, 1) := by decide +kernel
theorem dX7_init_2 : decode cX7_init 2 = .ok (.aload_n 2, 1) := by decide +kernel
theorem dX7_init_3 : decode cX7_init 3 = .ok (.invokespecial 1, 3) := by decide +kernel
theorem dX7_init_6 : decode cX7_init 6 = .ok (.return_, 1) := by decide +kernel
set_option maxRecDepth 20000 in
theorem ggX7_sizeAsked_X10_leave : GoodIn wsX7_sizeAsked wsX10_leave := goodIn_r _ [5, 6, 7, 8, 9] (by decide +kernel) (by decide +kernel)
set_option maxRecDepth 20000 in
theorem gX7_sizeAsked_X10_leave : GoodIn wsX7_sizeAsked (wsV RX7 7 RX10 yX10_leave wsX10_leave) := goodIn_app (goodIn_of _ (by decide +kernel)) ggX7_sizeAsked_X10_leave
theorem dX7_sizeAsked_0 : decode cX7_sizeAsked 0 = .ok (.aload_n 1, 1) := by decide +kernel
theorem dX7_sizeAsked_1 : decode cX7_sizeAsked 1 = .ok (.bipush 13, 2) := by decide +kernel
theorem dX7_sizeAsked_3 : decode cX7_sizeAsked 3 = .ok (.invokevirtual 7, 3) := by decide +kernel
theorem dX7_sizeAsked_6 : decode cX7_sizeAsked 6 = .ok (.iconst 0, 1) := by decide +kernel
theorem dX7_sizeAsked_7 : decode cX7_sizeAsked 7 = .ok (.ireturn, 1) := by decide +kernel
set_option maxRecDepth 20000 in
theorem ggX7_markAsked_X10_leave : GoodIn wsX7_markAsked wsX10_leave := goodIn_r _ [5, 6, 7, 29, 30] (by decide +kernel) (by decide +kernel)
set_option maxRecDepth 20000 in
theorem gX7_markAsked_X10_leave : GoodIn wsX7_markAsked (wsV RX7 7 RX10 yX10_leave wsX10_leave) := goodIn_app (goodIn_of _ (by decide +kernel)) ggX7_markAsked_X10_leave
set_option maxRecDepth 20000 in
theorem ggX7_markAsked_X8_markAsked : GoodIn wsX7_markAsked wsX8_markAsked := goodIn_r _ [13, 14, 2, 3, 4, 5, 6, 7, 15, 16, 17, 18, 12, 19, 20, 21, 22, 29, 30, 31, 32, 33, 34, 35, 36] (by decide +kernel) (by decide +kernel)
set_option maxRecDepth 20000 in
theorem gX7_markAsked_X8_markAsked_s13 : GoodIn wsX7_markAsked (va_wsSU RX7 13 yX8_markAsked wsX8_markAsked) := goodIn_app (goodIn_of _ (by decide +kernel)) ggX7_markAsked_X8_markAsked
set_option maxRecDepth 20000 in
theorem ggX7_markAsked_X8_yAt : GoodIn wsX7_markAsked wsX8_yAt := goodIn_r _ [27, 28, 31, 32, 33, 34, 35, 36] (by decide +kernel) (by decide +kernel)
set_option maxRecDepth 20000 in
theorem gX7_markAsked_X8_yAt_u17X7 : GoodIn wsX7_markAsked (va_wsU RX7 17 RX7 "LightLines$Stroke" ⟨"LightLines$Spot", "yAt", "(I)I"⟩ yX8_yAt wsX8_yAt) := goodIn_app (goodIn_of _ (by decide +kernel)) ggX7_markAsked_X8_yAt
theorem dX7_markAsked_0 : decode cX7_markAsked 0 = .ok (.aload_n 1, 1) := by decide +kernel
theorem dX7_markAsked_1 : decode cX7_markAsked 1 = .ok (.bipush 22, 2) := by decide +kernel
theorem dX7_markAsked_3 : decode cX7_markAsked 3 = .ok (.invokevirtual 7, 3) := by decide +kernel
theorem dX7_markAsked_6 : decode cX7_markAsked 6 = .ok (.aload_n 0, 1) := by decide +kernel
theorem dX7_markAsked_7 : decode cX7_markAsked 7 = .ok (.aload_n 1, 1) := by decide +kernel
theorem dX7_markAsked_8 : decode cX7_markAsked 8 = .ok (.invokespecial 13, 3) := by decide +kernel
theorem dX7_markAsked_11 : decode cX7_markAsked 11 = .ok (.aload_n 0, 1) := by decide +kernel
theorem dX7_markAsked_12 : decode cX7_markAsked 12 = .ok (.iconst 0, 1) := by decide +kernel
theorem dX7_markAsked_13 : decode cX7_markAsked 13 = .ok (.invokevirtual 17, 3) := by decide +kernel
theorem dX7_markAsked_16 : decode cX7_markAsked 16 = .ok (.iadd, 1) := by decide +kernel
theorem dX7_markAsked_17 : decode cX7_markAsked 17 = .ok (.ireturn, 1) := by decide +kernel
theorem dX8_init_0 : decode cX8_init 0 = .ok (.aload_n 0, 1) := by decide +kernel
theorem dX8_init_1 : decode cX8_init 1 = .ok (.invokespecial 3, 3) := by decide +kernel
theorem dX8_init_4 : decode cX8_init 4 = .ok (.aload_n 0, 1) := by decide +kernel
theorem dX8_init_5 : decode cX8_init 5 = .ok (.aload_n 1, 1) := by decide +kernel
theorem dX8_init_6 : decode cX8_init 6 = .ok (.putfield 9, 3) := by decide +kernel
theorem dX8_init_9 : decode cX8_init 9 = .ok (.aload_n 0, 1) := by decide +kernel
theorem dX8_init_10 : decode cX8_init 10 = .ok (.aload_n 2, 1) := by decide +kernel
theorem dX8_init_11 : decode cX8_init 11 = .ok (.putfield 15, 3) := by decide +kernel
theorem dX8_init_14 : decode cX8_init 14 = .ok (.return_, 1) := by decide +kernel
theorem dX8_points_0 : decode cX8_points 0 = .ok (.aload_n 0, 1) := by decide +kernel
theorem dX8_points_1 : decode cX8_points 1 = .ok (.getfield 9, 3) := by decide +kernel
theorem dX8_points_4 : decode cX8_points 4 = .ok (.arraylength, 1) := by decide +kernel
theorem dX8_points_5 : decode cX8_points 5 = .ok (.ireturn, 1) := by decide +kernel
theorem dX8_xAt_0 : decode cX8_xAt 0 = .ok (.iload_n 1, 1) := by decide +kernel
theorem dX8_xAt_1 : decode cX8_xAt 1 = .ok (.ifCond .lt 21, 3) := by decide +kernel
theorem dX8_xAt_4 : decode cX8_xAt 4 = .ok (.iload_n 1, 1) := by decide +kernel
theorem dX8_xAt_5 : decode cX8_xAt 5 = .ok (.aload_n 0, 1) := by decide +kernel
theorem dX8_xAt_6 : decode cX8_xAt 6 = .ok (.getfield 9, 3) := by decide +kernel
theorem dX8_xAt_9 : decode cX8_xAt 9 = .ok (.arraylength, 1) := by decide +kernel
theorem dX8_xAt_10 : decode cX8_xAt 10 = .ok (.if_icmp .ge 12, 3) := by decide +kernel
theorem dX8_xAt_13 : decode cX8_xAt 13 = .ok (.aload_n 0, 1) := by decide +kernel
theorem dX8_xAt_14 : decode cX8_xAt 14 = .ok (.getfield 9, 3) := by decide +kernel
theorem dX8_xAt_17 : decode cX8_xAt 17 = .ok (.iload_n 1, 1) := by decide +kernel
theorem dX8_xAt_18 : decode cX8_xAt 18 = .ok (.iaload, 1) := by decide +kernel
theorem dX8_xAt_19 : decode cX8_xAt 19 = .ok (.goto 4, 3) := by decide +kernel
theorem dX8_xAt_22 : decode cX8_xAt 22 = .ok (.iconst 0, 1) := by decide +kernel
theorem dX8_xAt_23 : decode cX8_xAt 23 = .ok (.ireturn, 1) := by decide +kernel
theorem dX8_yAt_0 : decode cX8_yAt 0 = .ok (.iload_n 1, 1) := by decide +kernel
theorem dX8_yAt_1 : decode cX8_yAt 1 = .ok (.ifCond .lt 21, 3) := by decide +kernel
theorem dX8_yAt_4 : decode cX8_yAt 4 = .ok (.iload_n 1, 1) := by decide +kernel
theorem dX8_yAt_5 : decode cX8_yAt 5 = .ok (.aload_n 0, 1) := by decide +kernel
theorem dX8_yAt_6 : decode cX8_yAt 6 = .ok (.getfield 15, 3) := by decide +kernel
theorem dX8_yAt_9 : decode cX8_yAt 9 = .ok (.arraylength, 1) := by decide +kernel
theorem dX8_yAt_10 : decode cX8_yAt 10 = .ok (.if_icmp .ge 12, 3) := by decide +kernel
theorem dX8_yAt_13 : decode cX8_yAt 13 = .ok (.aload_n 0, 1) := by decide +kernel
theorem dX8_yAt_14 : decode cX8_yAt 14 = .ok (.getfield 15, 3) := by decide +kernel
theorem dX8_yAt_17 : decode cX8_yAt 17 = .ok (.iload_n 1, 1) := by decide +kernel
theorem dX8_yAt_18 : decode cX8_yAt 18 = .ok (.iaload, 1) := by decide +kernel
theorem dX8_yAt_19 : decode cX8_yAt 19 = .ok (.goto 4, 3) := by decide +kernel
theorem dX8_yAt_22 : decode cX8_yAt 22 = .ok (.iconst 0, 1) := by decide +kernel
theorem dX8_yAt_23 : decode cX8_yAt 23 = .ok (.ireturn, 1) := by decide +kernel
set_option maxRecDepth 20000 in
theorem ggX8_gone_X8_points : GoodIn wsX8_gone wsX8_points := goodIn_r _ [6, 7, 10, 11, 12, 13, 14, 15] (by decide +kernel) (by decide +kernel)
set_option maxRecDepth 20000 in
theorem gX8_gone_X8_points_u18X1 : GoodIn wsX8_gone (va_wsU RX8 18 RX1 "LightLines$Stroke" ⟨"LightLines$Stroke", "points", "()I"⟩ yX8_points wsX8_points) := goodIn_app (goodIn_of _ (by decide +kernel)) ggX8_gone_X8_points
set_option maxRecDepth 20000 in
theorem gX8_gone_X8_points_u18X2 : GoodIn wsX8_gone (va_wsU RX8 18 RX2 "LightLines$Stroke" ⟨"LightLines$Stroke", "points", "()I"⟩ yX8_points wsX8_points) := goodIn_app (goodIn_of _ (by decide +kernel)) ggX8_gone_X8_points
set_option maxRecDepth 20000 in
theorem gX8_gone_X8_points_u18X7 : GoodIn wsX8_gone (va_wsU RX8 18 RX7 "LightLines$Stroke" ⟨"LightLines$Stroke", "points", "()I"⟩ yX8_points wsX8_points) := goodIn_app (goodIn_of _ (by decide +kernel)) ggX8_gone_X8_points
theorem dX8_gone_0 : decode cX8_gone 0 = .ok (.iload_n 2, 1) := by decide +kernel
theorem dX8_gone_1 : decode cX8_gone 1 = .ok (.ifCond .ne 7, 3) := by decide +kernel
theorem dX8_gone_4 : decode cX8_gone 4 = .ok (.iload_n 1, 1) := by decide +kernel
theorem dX8_gone_5 : decode cX8_gone 5 = .ok (.goto 11, 3) := by decide +kernel
theorem dX8_gone_8 : decode cX8_gone 8 = .ok (.aload_n 0, 1) := by decide +kernel
theorem dX8_gone_9 : decode cX8_gone 9 = .ok (.invokevirtual 18, 3) := by decide +kernel
theorem dX8_gone_12 : decode cX8_gone 12 = .ok (.iconst 1, 1) := by decide +kernel
theorem dX8_gone_13 : decode cX8_gone 13 = .ok (.isub, 1) := by decide +kernel
theorem dX8_gone_14 : decode cX8_gone 14 = .ok (.iload_n 1, 1) := by decide +kernel
theorem dX8_gone_15 : decode cX8_gone 15 = .ok (.isub, 1) := by decide +kernel
theorem dX8_gone_16 : decode cX8_gone 16 = .ok (.ireturn, 1) := by decide +kernel
theorem dX8_kindTold_0 : decode cX8_kindTold 0 = .ok (.aload_n 0, 1) := by decide +kernel
theorem dX8_kindTold_1 : decode cX8_kindTold 1 = .ok (.instanceof 22, 3) := by decide +kernel
theorem dX8_kindTold_4 : decode cX8_kindTold 4 = .ok (.ifCond .eq 5, 3) := by decide +kernel
theorem dX8_kindTold_7 : decode cX8_kindTold 7 = .ok (.iconst 1, 1) := by decide +kernel
theorem dX8_kindTold_8 : decode cX8_kindTold 8 = .ok (.ireturn, 1) := by decide +kernel
theorem dX8_kindTold_9 : decode cX8_kindTold 9 = .ok (.aload_n 0, 1) := by decide +kernel
theorem dX8_kindTold_10 : decode cX8_kindTold 10 = .ok (.instanceof 24, 3) := by decide +kernel
theorem dX8_kindTold_13 : decode cX8_kindTold 13 = .ok (.ifCond .eq 7, 3) := by decide +kernel
theorem dX8_kindTold_16 : decode cX8_kindTold 16 = .ok (.iconst 3, 1) := by decide +kernel
theorem dX8_kindTold_17 : decode cX8_kindTold 17 = .ok (.goto 4, 3) := by decide +kernel
theorem dX8_kindTold_20 : decode cX8_kindTold 20 = .ok (.iconst 2, 1) := by decide +kernel
theorem dX8_kindTold_21 : decode cX8_kindTold 21 = .ok (.ireturn, 1) := by decide +kernel
theorem dX8_isOf_0 : decode cX8_isOf 0 = .ok (.iload_n 1, 1) := by decide +kernel
theorem dX8_isOf_1 : decode cX8_isOf 1 = .ok (.tableswitch 42 1 3 #[27, 32, 37], 27) := by decide +kernel
theorem dX8_isOf_28 : decode cX8_isOf 28 = .ok (.aload_n 0, 1) := by decide +kernel
theorem dX8_isOf_29 : decode cX8_isOf 29 = .ok (.instanceof 22, 3) := by decide +kernel
theorem dX8_isOf_32 : decode cX8_isOf 32 = .ok (.ireturn, 1) := by decide +kernel
theorem dX8_isOf_33 : decode cX8_isOf 33 = .ok (.aload_n 0, 1) := by decide +kernel
theorem dX8_isOf_34 : decode cX8_isOf 34 = .ok (.instanceof 26, 3) := by decide +kernel
theorem dX8_isOf_37 : decode cX8_isOf 37 = .ok (.ireturn, 1) := by decide +kernel
theorem dX8_isOf_38 : decode cX8_isOf 38 = .ok (.aload_n 0, 1) := by decide +kernel
theorem dX8_isOf_39 : decode cX8_isOf 39 = .ok (.instanceof 24, 3) := by decide +kernel
theorem dX8_isOf_42 : decode cX8_isOf 42 = .ok (.ireturn, 1) := by decide +kernel
theorem dX8_isOf_43 : decode cX8_isOf 43 = .ok (.iload_n 1, 1) := by decide +kernel
theorem dX8_isOf_44 : decode cX8_isOf 44 = .ok (.ifCond .ne 7, 3) := by decide +kernel
theorem dX8_isOf_47 : decode cX8_isOf 47 = .ok (.iconst 1, 1) := by decide +kernel
theorem dX8_isOf_48 : decode cX8_isOf 48 = .ok (.goto 4, 3) := by decide +kernel
theorem dX8_isOf_51 : decode cX8_isOf 51 = .ok (.iconst 0, 1) := by decide +kernel
theorem dX8_isOf_52 : decode cX8_isOf 52 = .ok (.ireturn, 1) := by decide +kernel
set_option maxRecDepth 20000 in
theorem ggX8_sizeAsked_X10_leave : GoodIn wsX8_sizeAsked wsX10_leave := goodIn_r _ [5, 6, 7, 17, 18] (by decide +kernel) (by decide +kernel)
set_option maxRecDepth 20000 in
theorem gX8_sizeAsked_X10_leave : GoodIn wsX8_sizeAsked (wsV RX8 28 RX10 yX10_leave wsX10_leave) := goodIn_app (goodIn_of _ (by decide +kernel)) ggX8_sizeAsked_X10_leave
set_option maxRecDepth 20000 in
theorem ggX8_sizeAsked_X8_points : GoodIn wsX8_sizeAsked wsX8_points := goodIn_r _ [13, 14, 19, 20, 21, 22, 23, 24] (by decide +kernel) (by decide +kernel)
set_option maxRecDepth 20000 in
theorem gX8_sizeAsked_X8_points_u18X1 : GoodIn wsX8_sizeAsked (va_wsU RX8 18 RX1 "LightLines$Stroke" ⟨"LightLines$Stroke", "points", "()I"⟩ yX8_points wsX8_points) := goodIn_app (goodIn_of _ (by decide +kernel)) ggX8_sizeAsked_X8_points
set_option maxRecDepth 20000 in
theorem gX8_sizeAsked_X8_points_u18X2 : GoodIn wsX8_sizeAsked (va_wsU RX8 18 RX2 "LightLines$Stroke" ⟨"LightLines$Stroke", "points", "()I"⟩ yX8_points wsX8_points) := goodIn_app (goodIn_of _ (by decide +kernel)) ggX8_sizeAsked_X8_points
set_option maxRecDepth 20000 in
theorem gX8_sizeAsked_X8_points_u18X7 : GoodIn wsX8_sizeAsked (va_wsU RX8 18 RX7 "LightLines$Stroke" ⟨"LightLines$Stroke", "points", "()I"⟩ yX8_points wsX8_points) := goodIn_app (goodIn_of _ (by decide +kernel)) ggX8_sizeAsked_X8_points
theorem dX8_sizeAsked_0 : decode cX8_sizeAsked 0 = .ok (.aload_n 1, 1) := by decide +kernel
theorem dX8_sizeAsked_1 : decode cX8_sizeAsked 1 = .ok (.bipush 10, 2) := by decide +kernel
theorem dX8_sizeAsked_3 : decode cX8_sizeAsked 3 = .ok (.invokevirtual 28, 3) := by decide +kernel
theorem dX8_sizeAsked_6 : decode cX8_sizeAsked 6 = .ok (.aload_n 0, 1) := by decide +kernel
theorem dX8_sizeAsked_7 : decode cX8_sizeAsked 7 = .ok (.invokevirtual 18, 3) := by decide +kernel
theorem dX8_sizeAsked_10 : decode cX8_sizeAsked 10 = .ok (.ireturn, 1) := by decide +kernel
set_option maxRecDepth 20000 in
theorem ggX8_markAsked_X10_leave : GoodIn wsX8_markAsked wsX10_leave := goodIn_r _ [5, 6, 7, 17, 18] (by decide +kernel) (by decide +kernel)
set_option maxRecDepth 20000 in
theorem gX8_markAsked_X10_leave : GoodIn wsX8_markAsked (wsV RX8 28 RX10 yX10_leave wsX10_leave) := goodIn_app (goodIn_of _ (by decide +kernel)) ggX8_markAsked_X10_leave
set_option maxRecDepth 20000 in
theorem ggX8_markAsked_X8_xAt : GoodIn wsX8_markAsked wsX8_xAt := goodIn_r _ [13, 14, 19, 20, 21, 22, 23, 24] (by decide +kernel) (by decide +kernel)
set_option maxRecDepth 20000 in
theorem gX8_markAsked_X8_xAt_u34X1 : GoodIn wsX8_markAsked (va_wsU RX8 34 RX1 "LightLines$Stroke" ⟨"LightLines$Stroke", "xAt", "(I)I"⟩ yX8_xAt wsX8_xAt) := goodIn_app (goodIn_of _ (by decide +kernel)) ggX8_markAsked_X8_xAt
set_option maxRecDepth 20000 in
theorem gX8_markAsked_X8_xAt_u34X2 : GoodIn wsX8_markAsked (va_wsU RX8 34 RX2 "LightLines$Stroke" ⟨"LightLines$Stroke", "xAt", "(I)I"⟩ yX8_xAt wsX8_xAt) := goodIn_app (goodIn_of _ (by decide +kernel)) ggX8_markAsked_X8_xAt
set_option maxRecDepth 20000 in
theorem gX8_markAsked_X8_xAt_u34X7 : GoodIn wsX8_markAsked (va_wsU RX8 34 RX7 "LightLines$Stroke" ⟨"LightLines$Stroke", "xAt", "(I)I"⟩ yX8_xAt wsX8_xAt) := goodIn_app (goodIn_of _ (by decide +kernel)) ggX8_markAsked_X8_xAt
theorem dX8_markAsked_0 : decode cX8_markAsked 0 = .ok (.aload_n 1, 1) := by decide +kernel
theorem dX8_markAsked_1 : decode cX8_markAsked 1 = .ok (.bipush 20, 2) := by decide +kernel
theorem dX8_markAsked_3 : decode cX8_markAsked 3 = .ok (.invokevirtual 28, 3) := by decide +kernel
theorem dX8_markAsked_6 : decode cX8_markAsked 6 = .ok (.aload_n 0, 1) := by decide +kernel
theorem dX8_markAsked_7 : decode cX8_markAsked 7 = .ok (.iconst 0, 1) := by decide +kernel
theorem dX8_markAsked_8 : decode cX8_markAsked 8 = .ok (.invokevirtual 34, 3) := by decide +kernel
theorem dX8_markAsked_11 : decode cX8_markAsked 11 = .ok (.ireturn, 1) := by decide +kernel
theorem dX9_init_0 : decode cX9_init 0 = .ok (.aload_n 0, 1) := by decide +kernel
theorem dX9_init_1 : decode cX9_init 1 = .ok (.invokespecial 3, 3) := by decide +kernel
theorem dX9_init_4 : decode cX9_init 4 = .ok (.aload_n 0, 1) := by decide +kernel
theorem dX9_init_5 : decode cX9_init 5 = .ok (.bipush 8, 2) := by decide +kernel
theorem dX9_init_7 : decode cX9_init 7 = .ok (.anewarray 9, 3) := by decide +kernel
theorem dX9_init_10 : decode cX9_init 10 = .ok (.putfield 11, 3) := by decide +kernel
theorem dX9_init_13 : decode cX9_init 13 = .ok (.aload_n 0, 1) := by decide +kernel
theorem dX9_init_14 : decode cX9_init 14 = .ok (.bipush 8, 2) := by decide +kernel
theorem dX9_init_16 : decode cX9_init 16 = .ok (.newarray .int, 2) := by decide +kernel
theorem dX9_init_18 : decode cX9_init 18 = .ok (.putfield 17, 3) := by decide +kernel
theorem dX9_init_21 : decode cX9_init 21 = .ok (.aload_n 0, 1) := by decide +kernel
theorem dX9_init_22 : decode cX9_init 22 = .ok (.bipush 8, 2) := by decide +kernel
theorem dX9_init_24 : decode cX9_init 24 = .ok (.newarray .int, 2) := by decide +kernel
theorem dX9_init_26 : decode cX9_init 26 = .ok (.putfield 21, 3) := by decide +kernel
theorem dX9_init_29 : decode cX9_init 29 = .ok (.return_, 1) := by decide +kernel
theorem dX9_at_0 : decode cX9_at 0 = .ok (.iload_n 1, 1) := by decide +kernel
theorem dX9_at_1 : decode cX9_at 1 = .ok (.ifCond .lt 20, 3) := by decide +kernel
theorem dX9_at_4 : decode cX9_at 4 = .ok (.iload_n 1, 1) := by decide +kernel
theorem dX9_at_5 : decode cX9_at 5 = .ok (.aload_n 0, 1) := by decide +kernel
theorem dX9_at_6 : decode cX9_at 6 = .ok (.getfield 24, 3) := by decide +kernel
theorem dX9_at_9 : decode cX9_at 9 = .ok (.if_icmp .ge 12, 3) := by decide +kernel
theorem dX9_at_12 : decode cX9_at 12 = .ok (.aload_n 0, 1) := by decide +kernel
theorem dX9_at_13 : decode cX9_at 13 = .ok (.getfield 11, 3) := by decide +kernel
theorem dX9_at_16 : decode cX9_at 16 = .ok (.iload_n 1, 1) := by decide +kernel
theorem dX9_at_17 : decode cX9_at 17 = .ok (.aaload, 1) := by decide +kernel
theorem dX9_at_18 : decode cX9_at 18 = .ok (.goto 4, 3) := by decide +kernel
theorem dX9_at_21 : decode cX9_at 21 = .ok (.aconst_null, 1) := by decide +kernel
theorem dX9_at_22 : decode cX9_at 22 = .ok (.areturn, 1) := by decide +kernel
set_option maxRecDepth 20000 in
theorem ggX9_add_X9_planAt : GoodIn wsX9_add wsX9_planAt := goodIn_r _ [8, 9, 10, 11, 12, 13, 14] (by decide +kernel) (by decide +kernel)
set_option maxRecDepth 20000 in
theorem gX9_add_X9_planAt : GoodIn wsX9_add (wsV RX9 29 RX9 yX9_planAt wsX9_planAt) := goodIn_app (goodIn_of _ (by decide +kernel)) ggX9_add_X9_planAt
theorem dX9_add_0 : decode cX9_add 0 = .ok (.aload_n 0, 1) := by decide +kernel
theorem dX9_add_1 : decode cX9_add 1 = .ok (.getfield 24, 3) := by decide +kernel
theorem dX9_add_4 : decode cX9_add 4 = .ok (.bipush 8, 2) := by decide +kernel
theorem dX9_add_6 : decode cX9_add 6 = .ok (.if_icmp .lt 6, 3) := by decide +kernel
theorem dX9_add_9 : decode cX9_add 9 = .ok (.ldc 28, 2) := by decide +kernel
theorem dX9_add_11 : decode cX9_add 11 = .ok (.ireturn, 1) := by decide +kernel
theorem dX9_add_12 : decode cX9_add 12 = .ok (.aload_n 0, 1) := by decide +kernel
theorem dX9_add_13 : decode cX9_add 13 = .ok (.getfield 11, 3) := by decide +kernel
theorem dX9_add_16 : decode cX9_add 16 = .ok (.aload_n 0, 1) := by decide +kernel
theorem dX9_add_17 : decode cX9_add 17 = .ok (.getfield 24, 3) := by decide +kernel
theorem dX9_add_20 : decode cX9_add 20 = .ok (.aload_n 1, 1) := by decide +kernel
theorem dX9_add_21 : decode cX9_add 21 = .ok (.aastore, 1) := by decide +kernel
theorem dX9_add_22 : decode cX9_add 22 = .ok (.aload_n 0, 1) := by decide +kernel
theorem dX9_add_23 : decode cX9_add 23 = .ok (.dup, 1) := by decide +kernel
theorem dX9_add_24 : decode cX9_add 24 = .ok (.getfield 24, 3) := by decide +kernel
theorem dX9_add_27 : decode cX9_add 27 = .ok (.iconst 1, 1) := by decide +kernel
theorem dX9_add_28 : decode cX9_add 28 = .ok (.iadd, 1) := by decide +kernel
theorem dX9_add_29 : decode cX9_add 29 = .ok (.putfield 24, 3) := by decide +kernel
theorem dX9_add_32 : decode cX9_add 32 = .ok (.iconst 0, 1) := by decide +kernel
theorem dX9_add_33 : decode cX9_add 33 = .ok (.istore_n 2, 1) := by decide +kernel
theorem dX9_add_34 : decode cX9_add 34 = .ok (.iload_n 2, 1) := by decide +kernel
theorem dX9_add_35 : decode cX9_add 35 = .ok (.aload_n 0, 1) := by decide +kernel
theorem dX9_add_36 : decode cX9_add 36 = .ok (.getfield 24, 3) := by decide +kernel
theorem dX9_add_39 : decode cX9_add 39 = .ok (.if_icmp .ge 16, 3) := by decide +kernel
theorem dX9_add_42 : decode cX9_add 42 = .ok (.aload_n 0, 1) := by decide +kernel
theorem dX9_add_43 : decode cX9_add 43 = .ok (.iload_n 2, 1) := by decide +kernel
theorem dX9_add_44 : decode cX9_add 44 = .ok (.iload_n 2, 1) := by decide +kernel
theorem dX9_add_45 : decode cX9_add 45 = .ok (.iconst 0, 1) := by decide +kernel
theorem dX9_add_46 : decode cX9_add 46 = .ok (.invokevirtual 29, 3) := by decide +kernel
theorem dX9_add_49 : decode cX9_add 49 = .ok (.iinc 2 1, 3) := by decide +kernel
theorem dX9_add_52 : decode cX9_add 52 = .ok (.goto (-18), 3) := by decide +kernel
theorem dX9_add_55 : decode cX9_add 55 = .ok (.aload_n 0, 1) := by decide +kernel
theorem dX9_add_56 : decode cX9_add 56 = .ok (.getfield 24, 3) := by decide +kernel
theorem dX9_add_59 : decode cX9_add 59 = .ok (.iconst 1, 1) := by decide +kernel
theorem dX9_add_60 : decode cX9_add 60 = .ok (.isub, 1) := by decide +kernel
theorem dX9_add_61 : decode cX9_add 61 = .ok (.ireturn, 1) := by decide +kernel
theorem dX9_planAt_0 : decode cX9_planAt 0 = .ok (.iload_n 1, 1) := by decide +kernel
theorem dX9_planAt_1 : decode cX9_planAt 1 = .ok (.ifCond .lt 23, 3) := by decide +kernel
theorem dX9_planAt_4 : decode cX9_planAt 4 = .ok (.iload_n 1, 1) := by decide +kernel
theorem dX9_planAt_5 : decode cX9_planAt 5 = .ok (.bipush 8, 2) := by decide +kernel
theorem dX9_planAt_7 : decode cX9_planAt 7 = .ok (.if_icmp .ge 17, 3) := by decide +kernel
theorem dX9_planAt_10 : decode cX9_planAt 10 = .ok (.aload_n 0, 1) := by decide +kernel
theorem dX9_planAt_11 : decode cX9_planAt 11 = .ok (.getfield 17, 3) := by decide +kernel
theorem dX9_planAt_14 : decode cX9_planAt 14 = .ok (.iload_n 1, 1) := by decide +kernel
theorem dX9_planAt_15 : decode cX9_planAt 15 = .ok (.iload_n 2, 1) := by decide +kernel
theorem dX9_planAt_16 : decode cX9_planAt 16 = .ok (.iastore, 1) := by decide +kernel
theorem dX9_planAt_17 : decode cX9_planAt 17 = .ok (.aload_n 0, 1) := by decide +kernel
theorem dX9_planAt_18 : decode cX9_planAt 18 = .ok (.getfield 21, 3) := by decide +kernel
theorem dX9_planAt_21 : decode cX9_planAt 21 = .ok (.iload_n 1, 1) := by decide +kernel
theorem dX9_planAt_22 : decode cX9_planAt 22 = .ok (.iload_n 3, 1) := by decide +kernel
theorem dX9_planAt_23 : decode cX9_planAt 23 = .ok (.iastore, 1) := by decide +kernel
theorem dX9_planAt_24 : decode cX9_planAt 24 = .ok (.return_, 1) := by decide +kernel
set_option maxRecDepth 20000 in
theorem ggX9_isPlan_X5_item : GoodIn wsX9_isPlan wsX5_item := goodIn_r _ [6, 7, 8, 9, 10, 5, 11, 12, 20, 21, 22] (by decide +kernel) (by decide +kernel)
set_option maxRecDepth 20000 in
theorem gX9_isPlan_X5_item : GoodIn wsX9_isPlan (wsV RX9 33 RX5 yX5_item wsX5_item) := goodIn_app (goodIn_of _ (by decide +kernel)) ggX9_isPlan_X5_item
set_option maxRecDepth 20000 in
theorem ggX9_isPlan_X11_isWithin : GoodIn wsX9_isPlan wsX11_isWithin := goodIn_r _ [15] (by decide +kernel) (by decide +kernel)
set_option maxRecDepth 20000 in
theorem gX9_isPlan_X11_isWithin_n39 : GoodIn wsX9_isPlan (wsX11_isWithin) := ggX9_isPlan_X11_isWithin
theorem dX9_isPlan_0 : decode cX9_isPlan 0 = .ok (.iconst 0, 1) := by decide +kernel
theorem dX9_isPlan_1 : decode cX9_isPlan 1 = .ok (.istore_n 3, 1) := by decide +kernel
theorem dX9_isPlan_2 : decode cX9_isPlan 2 = .ok (.iconst 0, 1) := by decide +kernel
theorem dX9_isPlan_3 : decode cX9_isPlan 3 = .ok (.istore 4, 2) := by decide +kernel
theorem dX9_isPlan_5 : decode cX9_isPlan 5 = .ok (.iload 4, 2) := by decide +kernel
theorem dX9_isPlan_7 : decode cX9_isPlan 7 = .ok (.aload_n 0, 1) := by decide +kernel
theorem dX9_isPlan_8 : decode cX9_isPlan 8 = .ok (.getfield 24, 3) := by decide +kernel
theorem dX9_isPlan_11 : decode cX9_isPlan 11 = .ok (.if_icmp .ge 78, 3) := by decide +kernel
theorem dX9_isPlan_14 : decode cX9_isPlan 14 = .ok (.aload_n 1, 1) := by decide +kernel
theorem dX9_isPlan_15 : decode cX9_isPlan 15 = .ok (.iload_n 2, 1) := by decide +kernel
theorem dX9_isPlan_16 : decode cX9_isPlan 16 = .ok (.iconst 2, 1) := by decide +kernel
theorem dX9_isPlan_17 : decode cX9_isPlan 17 = .ok (.iload 4, 2) := by decide +kernel
theorem dX9_isPlan_19 : decode cX9_isPlan 19 = .ok (.imul, 1) := by decide +kernel
theorem dX9_isPlan_20 : decode cX9_isPlan 20 = .ok (.iadd, 1) := by decide +kernel
theorem dX9_isPlan_21 : decode cX9_isPlan 21 = .ok (.invokevirtual 33, 3) := by decide +kernel
theorem dX9_isPlan_24 : decode cX9_isPlan 24 = .ok (.istore 5, 2) := by decide +kernel
theorem dX9_isPlan_26 : decode cX9_isPlan 26 = .ok (.aload_n 1, 1) := by decide +kernel
theorem dX9_isPlan_27 : decode cX9_isPlan 27 = .ok (.iload_n 2, 1) := by decide +kernel
theorem dX9_isPlan_28 : decode cX9_isPlan 28 = .ok (.iconst 2, 1) := by decide +kernel
theorem dX9_isPlan_29 : decode cX9_isPlan 29 = .ok (.iload 4, 2) := by decide +kernel
theorem dX9_isPlan_31 : decode cX9_isPlan 31 = .ok (.imul, 1) := by decide +kernel
theorem dX9_isPlan_32 : decode cX9_isPlan 32 = .ok (.iadd, 1) := by decide +kernel
theorem dX9_isPlan_33 : decode cX9_isPlan 33 = .ok (.iconst 1, 1) := by decide +kernel
theorem dX9_isPlan_34 : decode cX9_isPlan 34 = .ok (.iadd, 1) := by decide +kernel
theorem dX9_isPlan_35 : decode cX9_isPlan 35 = .ok (.invokevirtual 33, 3) := by decide +kernel
theorem dX9_isPlan_38 : decode cX9_isPlan 38 = .ok (.istore 6, 2) := by decide +kernel
theorem dX9_isPlan_40 : decode cX9_isPlan 40 = .ok (.iload 5, 2) := by decide +kernel
theorem dX9_isPlan_42 : decode cX9_isPlan 42 = .ok (.iconst 0, 1) := by decide +kernel
theorem dX9_isPlan_43 : decode cX9_isPlan 43 = .ok (.aload_n 0, 1) := by decide +kernel
theorem dX9_isPlan_44 : decode cX9_isPlan 44 = .ok (.getfield 24, 3) := by decide +kernel
theorem dX9_isPlan_47 : decode cX9_isPlan 47 = .ok (.iconst 1, 1) := by decide +kernel
theorem dX9_isPlan_48 : decode cX9_isPlan 48 = .ok (.isub, 1) := by decide +kernel
theorem dX9_isPlan_49 : decode cX9_isPlan 49 = .ok (.invokestatic 39, 3) := by decide +kernel
theorem dX9_isPlan_52 : decode cX9_isPlan 52 = .ok (.ifCond .eq 22, 3) := by decide +kernel
theorem dX9_isPlan_55 : decode cX9_isPlan 55 = .ok (.iload 6, 2) := by decide +kernel
theorem dX9_isPlan_57 : decode cX9_isPlan 57 = .ok (.iconst 0, 1) := by decide +kernel
theorem dX9_isPlan_58 : decode cX9_isPlan 58 = .ok (.iconst 1, 1) := by decide +kernel
theorem dX9_isPlan_59 : decode cX9_isPlan 59 = .ok (.invokestatic 39, 3) := by decide +kernel
theorem dX9_isPlan_62 : decode cX9_isPlan 62 = .ok (.ifCond .eq 12, 3) := by decide +kernel
theorem dX9_isPlan_65 : decode cX9_isPlan 65 = .ok (.iload_n 3, 1) := by decide +kernel
theorem dX9_isPlan_66 : decode cX9_isPlan 66 = .ok (.iload 5, 2) := by decide +kernel
theorem dX9_isPlan_68 : decode cX9_isPlan 68 = .ok (.ishr, 1) := by decide +kernel
theorem dX9_isPlan_69 : decode cX9_isPlan 69 = .ok (.iconst 1, 1) := by decide +kernel
theorem dX9_isPlan_70 : decode cX9_isPlan 70 = .ok (.iand, 1) := by decide +kernel
theorem dX9_isPlan_71 : decode cX9_isPlan 71 = .ok (.ifCond .eq 5, 3) := by decide +kernel
theorem dX9_isPlan_74 : decode cX9_isPlan 74 = .ok (.iconst 0, 1) := by decide +kernel
theorem dX9_isPlan_75 : decode cX9_isPlan 75 = .ok (.ireturn, 1) := by decide +kernel
theorem dX9_isPlan_76 : decode cX9_isPlan 76 = .ok (.iload_n 3, 1) := by decide +kernel
theorem dX9_isPlan_77 : decode cX9_isPlan 77 = .ok (.iconst 1, 1) := by decide +kernel
theorem dX9_isPlan_78 : decode cX9_isPlan 78 = .ok (.iload 5, 2) := by decide +kernel
theorem dX9_isPlan_80 : decode cX9_isPlan 80 = .ok (.ishl, 1) := by decide +kernel
theorem dX9_isPlan_81 : decode cX9_isPlan 81 = .ok (.ior, 1) := by decide +kernel
theorem dX9_isPlan_82 : decode cX9_isPlan 82 = .ok (.istore_n 3, 1) := by decide +kernel
theorem dX9_isPlan_83 : decode cX9_isPlan 83 = .ok (.iinc 4 1, 3) := by decide +kernel
theorem dX9_isPlan_86 : decode cX9_isPlan 86 = .ok (.goto (-81), 3) := by decide +kernel
theorem dX9_isPlan_89 : decode cX9_isPlan 89 = .ok (.iconst 1, 1) := by decide +kernel
theorem dX9_isPlan_90 : decode cX9_isPlan 90 = .ok (.ireturn, 1) := by decide +kernel
set_option maxRecDepth 20000 in
theorem ggX9_darkWay_X9_at : GoodIn wsX9_darkWay wsX9_at := goodIn_r _ [8, 1, 9, 52, 53, 54, 55] (by decide +kernel) (by decide +kernel)
set_option maxRecDepth 20000 in
theorem gX9_darkWay_X9_at : GoodIn wsX9_darkWay (wsV RX9 43 RX9 yX9_at wsX9_at) := goodIn_app (goodIn_of _ (by decide +kernel)) ggX9_darkWay_X9_at
set_option maxRecDepth 20000 in
theorem ggX9_darkWay_X8_gone : GoodIn wsX9_darkWay wsX8_gone := goodIn_r _ [15, 16, 17, 18, 19, 14, 20, 21, 22, 23, 56, 57, 58, 59, 60, 61] (by decide +kernel) (by decide +kernel)
set_option maxRecDepth 20000 in
theorem gX9_darkWay_X8_gone_u47X1 : GoodIn wsX9_darkWay (va_wsU RX9 47 RX1 "LightLines$Stroke" ⟨"LightLines$Stroke", "gone", "(II)I"⟩ yX8_gone wsX8_gone) := goodIn_app (goodIn_of _ (by decide +kernel)) ggX9_darkWay_X8_gone
set_option maxRecDepth 20000 in
theorem gX9_darkWay_X8_gone_u47X2 : GoodIn wsX9_darkWay (va_wsU RX9 47 RX2 "LightLines$Stroke" ⟨"LightLines$Stroke", "gone", "(II)I"⟩ yX8_gone wsX8_gone) := goodIn_app (goodIn_of _ (by decide +kernel)) ggX9_darkWay_X8_gone
set_option maxRecDepth 20000 in
theorem gX9_darkWay_X8_gone_u47X7 : GoodIn wsX9_darkWay (va_wsU RX9 47 RX7 "LightLines$Stroke" ⟨"LightLines$Stroke", "gone", "(II)I"⟩ yX8_gone wsX8_gone) := goodIn_app (goodIn_of _ (by decide +kernel)) ggX9_darkWay_X8_gone
set_option maxRecDepth 20000 in
theorem ggX9_darkWay_X8_points : GoodIn wsX9_darkWay wsX8_points := goodIn_r _ [20, 21, 56, 57, 58, 59, 60, 61] (by decide +kernel) (by decide +kernel)
set_option maxRecDepth 20000 in
theorem gX9_darkWay_X8_points_u51X1 : GoodIn wsX9_darkWay (va_wsU RX9 51 RX1 "LightLines$Stroke" ⟨"LightLines$Stroke", "points", "()I"⟩ yX8_points wsX8_points) := goodIn_app (goodIn_of _ (by decide +kernel)) ggX9_darkWay_X8_points
set_option maxRecDepth 20000 in
theorem gX9_darkWay_X8_points_u51X2 : GoodIn wsX9_darkWay (va_wsU RX9 51 RX2 "LightLines$Stroke" ⟨"LightLines$Stroke", "points", "()I"⟩ yX8_points wsX8_points) := goodIn_app (goodIn_of _ (by decide +kernel)) ggX9_darkWay_X8_points
set_option maxRecDepth 20000 in
theorem gX9_darkWay_X8_points_u51X7 : GoodIn wsX9_darkWay (va_wsU RX9 51 RX7 "LightLines$Stroke" ⟨"LightLines$Stroke", "points", "()I"⟩ yX8_points wsX8_points) := goodIn_app (goodIn_of _ (by decide +kernel)) ggX9_darkWay_X8_points
set_option maxRecDepth 20000 in
theorem ggX9_darkWay_X8_xAt : GoodIn wsX9_darkWay wsX8_xAt := goodIn_r _ [31, 21, 56, 57, 58, 59, 60, 61] (by decide +kernel) (by decide +kernel)
set_option maxRecDepth 20000 in
theorem gX9_darkWay_X8_xAt_u55X1 : GoodIn wsX9_darkWay (va_wsU RX9 55 RX1 "LightLines$Stroke" ⟨"LightLines$Stroke", "xAt", "(I)I"⟩ yX8_xAt wsX8_xAt) := goodIn_app (goodIn_of _ (by decide +kernel)) ggX9_darkWay_X8_xAt
set_option maxRecDepth 20000 in
theorem gX9_darkWay_X8_xAt_u55X2 : GoodIn wsX9_darkWay (va_wsU RX9 55 RX2 "LightLines$Stroke" ⟨"LightLines$Stroke", "xAt", "(I)I"⟩ yX8_xAt wsX8_xAt) := goodIn_app (goodIn_of _ (by decide +kernel)) ggX9_darkWay_X8_xAt
set_option maxRecDepth 20000 in
theorem gX9_darkWay_X8_xAt_u55X7 : GoodIn wsX9_darkWay (va_wsU RX9 55 RX7 "LightLines$Stroke" ⟨"LightLines$Stroke", "xAt", "(I)I"⟩ yX8_xAt wsX8_xAt) := goodIn_app (goodIn_of _ (by decide +kernel)) ggX9_darkWay_X8_xAt
set_option maxRecDepth 20000 in
theorem ggX9_darkWay_X8_yAt : GoodIn wsX9_darkWay wsX8_yAt := goodIn_r _ [38, 39, 56, 57, 58, 59, 60, 61] (by decide +kernel) (by decide +kernel)
set_option maxRecDepth 20000 in
theorem gX9_darkWay_X8_yAt_u58X1 : GoodIn wsX9_darkWay (va_wsU RX9 58 RX1 "LightLines$Stroke" ⟨"LightLines$Stroke", "yAt", "(I)I"⟩ yX8_yAt wsX8_yAt) := goodIn_app (goodIn_of _ (by decide +kernel)) ggX9_darkWay_X8_yAt
set_option maxRecDepth 20000 in
theorem gX9_darkWay_X8_yAt_u58X2 : GoodIn wsX9_darkWay (va_wsU RX9 58 RX2 "LightLines$Stroke" ⟨"LightLines$Stroke", "yAt", "(I)I"⟩ yX8_yAt wsX8_yAt) := goodIn_app (goodIn_of _ (by decide +kernel)) ggX9_darkWay_X8_yAt
set_option maxRecDepth 20000 in
theorem gX9_darkWay_X8_yAt_u58X7 : GoodIn wsX9_darkWay (va_wsU RX9 58 RX7 "LightLines$Stroke" ⟨"LightLines$Stroke", "yAt", "(I)I"⟩ yX8_yAt wsX8_yAt) := goodIn_app (goodIn_of _ (by decide +kernel)) ggX9_darkWay_X8_yAt
set_option maxRecDepth 20000 in
theorem ggX9_darkWay_X11_way : GoodIn wsX9_darkWay wsX11_way := goodIn_r _ [44, 45, 46, 47, 48, 49, 50, 51] (by decide +kernel) (by decide +kernel)
set_option maxRecDepth 20000 in
theorem gX9_darkWay_X11_way_n61 : GoodIn wsX9_darkWay (wsX11_way) := ggX9_darkWay_X11_way
theorem dX9_darkWay_0 : decode cX9_darkWay 0 = .ok (.iconst 0, 1) := by decide +kernel
theorem dX9_darkWay_1 : decode cX9_darkWay 1 = .ok (.istore_n 1, 1) := by decide +kernel
theorem dX9_darkWay_2 : decode cX9_darkWay 2 = .ok (.iconst 0, 1) := by decide +kernel
theorem dX9_darkWay_3 : decode cX9_darkWay 3 = .ok (.istore_n 2, 1) := by decide +kernel
theorem dX9_darkWay_4 : decode cX9_darkWay 4 = .ok (.iconst 0, 1) := by decide +kernel
theorem dX9_darkWay_5 : decode cX9_darkWay 5 = .ok (.istore_n 3, 1) := by decide +kernel
theorem dX9_darkWay_6 : decode cX9_darkWay 6 = .ok (.iconst 0, 1) := by decide +kernel
theorem dX9_darkWay_7 : decode cX9_darkWay 7 = .ok (.istore 4, 2) := by decide +kernel
theorem dX9_darkWay_9 : decode cX9_darkWay 9 = .ok (.iload 4, 2) := by decide +kernel
theorem dX9_darkWay_11 : decode cX9_darkWay 11 = .ok (.aload_n 0, 1) := by decide +kernel
theorem dX9_darkWay_12 : decode cX9_darkWay 12 = .ok (.getfield 24, 3) := by decide +kernel
theorem dX9_darkWay_15 : decode cX9_darkWay 15 = .ok (.if_icmp .ge 101, 3) := by decide +kernel
theorem dX9_darkWay_18 : decode cX9_darkWay 18 = .ok (.aload_n 0, 1) := by decide +kernel
theorem dX9_darkWay_19 : decode cX9_darkWay 19 = .ok (.aload_n 0, 1) := by decide +kernel
theorem dX9_darkWay_20 : decode cX9_darkWay 20 = .ok (.getfield 17, 3) := by decide +kernel
theorem dX9_darkWay_23 : decode cX9_darkWay 23 = .ok (.iload 4, 2) := by decide +kernel
theorem dX9_darkWay_25 : decode cX9_darkWay 25 = .ok (.iaload, 1) := by decide +kernel
theorem dX9_darkWay_26 : decode cX9_darkWay 26 = .ok (.invokevirtual 43, 3) := by decide +kernel
theorem dX9_darkWay_29 : decode cX9_darkWay 29 = .ok (.astore 5, 2) := by decide +kernel
theorem dX9_darkWay_31 : decode cX9_darkWay 31 = .ok (.aload 5, 2) := by decide +kernel
theorem dX9_darkWay_33 : decode cX9_darkWay 33 = .ok (.ifnull 77, 3) := by decide +kernel
theorem dX9_darkWay_36 : decode cX9_darkWay 36 = .ok (.aload 5, 2) := by decide +kernel
theorem dX9_darkWay_38 : decode cX9_darkWay 38 = .ok (.iconst 0, 1) := by decide +kernel
theorem dX9_darkWay_39 : decode cX9_darkWay 39 = .ok (.aload_n 0, 1) := by decide +kernel
theorem dX9_darkWay_40 : decode cX9_darkWay 40 = .ok (.getfield 21, 3) := by decide +kernel
theorem dX9_darkWay_43 : decode cX9_darkWay 43 = .ok (.iload 4, 2) := by decide +kernel
theorem dX9_darkWay_45 : decode cX9_darkWay 45 = .ok (.iaload, 1) := by decide +kernel
theorem dX9_darkWay_46 : decode cX9_darkWay 46 = .ok (.invokevirtual 47, 3) := by decide +kernel
theorem dX9_darkWay_49 : decode cX9_darkWay 49 = .ok (.istore 6, 2) := by decide +kernel
theorem dX9_darkWay_51 : decode cX9_darkWay 51 = .ok (.aload 5, 2) := by decide +kernel
theorem dX9_darkWay_53 : decode cX9_darkWay 53 = .ok (.aload 5, 2) := by decide +kernel
theorem dX9_darkWay_55 : decode cX9_darkWay 55 = .ok (.invokevirtual 51, 3) := by decide +kernel
theorem dX9_darkWay_58 : decode cX9_darkWay 58 = .ok (.iconst 1, 1) := by decide +kernel
theorem dX9_darkWay_59 : decode cX9_darkWay 59 = .ok (.isub, 1) := by decide +kernel
theorem dX9_darkWay_60 : decode cX9_darkWay 60 = .ok (.aload_n 0, 1) := by decide +kernel
theorem dX9_darkWay_61 : decode cX9_darkWay 61 = .ok (.getfield 21, 3) := by decide +kernel
theorem dX9_darkWay_64 : decode cX9_darkWay 64 = .ok (.iload 4, 2) := by decide +kernel
theorem dX9_darkWay_66 : decode cX9_darkWay 66 = .ok (.iaload, 1) := by decide +kernel
theorem dX9_darkWay_67 : decode cX9_darkWay 67 = .ok (.invokevirtual 47, 3) := by decide +kernel
theorem dX9_darkWay_70 : decode cX9_darkWay 70 = .ok (.istore 7, 2) := by decide +kernel
theorem dX9_darkWay_72 : decode cX9_darkWay 72 = .ok (.iload_n 1, 1) := by decide +kernel
theorem dX9_darkWay_73 : decode cX9_darkWay 73 = .ok (.iload_n 2, 1) := by decide +kernel
theorem dX9_darkWay_74 : decode cX9_darkWay 74 = .ok (.iload_n 3, 1) := by decide +kernel
theorem dX9_darkWay_75 : decode cX9_darkWay 75 = .ok (.aload 5, 2) := by decide +kernel
theorem dX9_darkWay_77 : decode cX9_darkWay 77 = .ok (.iload 6, 2) := by decide +kernel
theorem dX9_darkWay_79 : decode cX9_darkWay 79 = .ok (.invokevirtual 55, 3) := by decide +kernel
theorem dX9_darkWay_82 : decode cX9_darkWay 82 = .ok (.aload 5, 2) := by decide +kernel
theorem dX9_darkWay_84 : decode cX9_darkWay 84 = .ok (.iload 6, 2) := by decide +kernel
theorem dX9_darkWay_86 : decode cX9_darkWay 86 = .ok (.invokevirtual 58, 3) := by decide +kernel
theorem dX9_darkWay_89 : decode cX9_darkWay 89 = .ok (.invokestatic 61, 3) := by decide +kernel
theorem dX9_darkWay_92 : decode cX9_darkWay 92 = .ok (.iadd, 1) := by decide +kernel
theorem dX9_darkWay_93 : decode cX9_darkWay 93 = .ok (.istore_n 1, 1) := by decide +kernel
theorem dX9_darkWay_94 : decode cX9_darkWay 94 = .ok (.aload 5, 2) := by decide +kernel
theorem dX9_darkWay_96 : decode cX9_darkWay 96 = .ok (.iload 7, 2) := by decide +kernel
theorem dX9_darkWay_98 : decode cX9_darkWay 98 = .ok (.invokevirtual 55, 3) := by decide +kernel
theorem dX9_darkWay_101 : decode cX9_darkWay 101 = .ok (.istore_n 2, 1) := by decide +kernel
theorem dX9_darkWay_102 : decode cX9_darkWay 102 = .ok (.aload 5, 2) := by decide +kernel
theorem dX9_darkWay_104 : decode cX9_darkWay 104 = .ok (.iload 7, 2) := by decide +kernel
theorem dX9_darkWay_106 : decode cX9_darkWay 106 = .ok (.invokevirtual 58, 3) := by decide +kernel
theorem dX9_darkWay_109 : decode cX9_darkWay 109 = .ok (.istore_n 3, 1) := by decide +kernel
theorem dX9_darkWay_110 : decode cX9_darkWay 110 = .ok (.iinc 4 1, 3) := by decide +kernel
theorem dX9_darkWay_113 : decode cX9_darkWay 113 = .ok (.goto (-104), 3) := by decide +kernel
theorem dX9_darkWay_116 : decode cX9_darkWay 116 = .ok (.iload_n 1, 1) := by decide +kernel
theorem dX9_darkWay_117 : decode cX9_darkWay 117 = .ok (.iload_n 2, 1) := by decide +kernel
theorem dX9_darkWay_118 : decode cX9_darkWay 118 = .ok (.iload_n 3, 1) := by decide +kernel
theorem dX9_darkWay_119 : decode cX9_darkWay 119 = .ok (.iconst 0, 1) := by decide +kernel
theorem dX9_darkWay_120 : decode cX9_darkWay 120 = .ok (.iconst 0, 1) := by decide +kernel
theorem dX9_darkWay_121 : decode cX9_darkWay 121 = .ok (.invokestatic 61, 3) := by decide +kernel
theorem dX9_darkWay_124 : decode cX9_darkWay 124 = .ok (.iadd, 1) := by decide +kernel
theorem dX9_darkWay_125 : decode cX9_darkWay 125 = .ok (.ireturn, 1) := by decide +kernel
set_option maxRecDepth 20000 in
theorem ggX9_pointsOfAll_X9_at : GoodIn wsX9_pointsOfAll wsX9_at := goodIn_r _ [6, 1, 7, 17, 18, 19, 20] (by decide +kernel) (by decide +kernel)
set_option maxRecDepth 20000 in
theorem gX9_pointsOfAll_X9_at : GoodIn wsX9_pointsOfAll (wsV RX9 43 RX9 yX9_at wsX9_at) := goodIn_app (goodIn_of _ (by decide +kernel)) ggX9_pointsOfAll_X9_at
set_option maxRecDepth 20000 in
theorem ggX9_pointsOfAll_X8_points : GoodIn wsX9_pointsOfAll wsX8_points := goodIn_r _ [13, 14, 21, 22, 23, 24, 25, 26] (by decide +kernel) (by decide +kernel)
set_option maxRecDepth 20000 in
theorem gX9_pointsOfAll_X8_points_u51X1 : GoodIn wsX9_pointsOfAll (va_wsU RX9 51 RX1 "LightLines$Stroke" ⟨"LightLines$Stroke", "points", "()I"⟩ yX8_points wsX8_points) := goodIn_app (goodIn_of _ (by decide +kernel)) ggX9_pointsOfAll_X8_points
set_option maxRecDepth 20000 in
theorem gX9_pointsOfAll_X8_points_u51X2 : GoodIn wsX9_pointsOfAll (va_wsU RX9 51 RX2 "LightLines$Stroke" ⟨"LightLines$Stroke", "points", "()I"⟩ yX8_points wsX8_points) := goodIn_app (goodIn_of _ (by decide +kernel)) ggX9_pointsOfAll_X8_points
set_option maxRecDepth 20000 in
theorem gX9_pointsOfAll_X8_points_u51X7 : GoodIn wsX9_pointsOfAll (va_wsU RX9 51 RX7 "LightLines$Stroke" ⟨"LightLines$Stroke", "points", "()I"⟩ yX8_points wsX8_points) := goodIn_app (goodIn_of _ (by decide +kernel)) ggX9_pointsOfAll_X8_points
theorem dX9_pointsOfAll_0 : decode cX9_pointsOfAll 0 = .ok (.iconst 0, 1) := by decide +kernel
theorem dX9_pointsOfAll_1 : decode cX9_pointsOfAll 1 = .ok (.istore_n 1, 1) := by decide +kernel
theorem dX9_pointsOfAll_2 : decode cX9_pointsOfAll 2 = .ok (.iconst 0, 1) := by decide +kernel
theorem dX9_pointsOfAll_3 : decode cX9_pointsOfAll 3 = .ok (.istore_n 2, 1) := by decide +kernel
theorem dX9_pointsOfAll_4 : decode cX9_pointsOfAll 4 = .ok (.iload_n 2, 1) := by decide +kernel
theorem dX9_pointsOfAll_5 : decode cX9_pointsOfAll 5 = .ok (.aload_n 0, 1) := by decide +kernel
theorem dX9_pointsOfAll_6 : decode cX9_pointsOfAll 6 = .ok (.getfield 24, 3) := by decide +kernel
theorem dX9_pointsOfAll_9 : decode cX9_pointsOfAll 9 = .ok (.if_icmp .ge 30, 3) := by decide +kernel
theorem dX9_pointsOfAll_12 : decode cX9_pointsOfAll 12 = .ok (.aload_n 0, 1) := by decide +kernel
theorem dX9_pointsOfAll_13 : decode cX9_pointsOfAll 13 = .ok (.iload_n 2, 1) := by decide +kernel
theorem dX9_pointsOfAll_14 : decode cX9_pointsOfAll 14 = .ok (.invokevirtual 43, 3) := by decide +kernel
theorem dX9_pointsOfAll_17 : decode cX9_pointsOfAll 17 = .ok (.astore_n 3, 1) := by decide +kernel
theorem dX9_pointsOfAll_18 : decode cX9_pointsOfAll 18 = .ok (.iload_n 1, 1) := by decide +kernel
theorem dX9_pointsOfAll_19 : decode cX9_pointsOfAll 19 = .ok (.aload_n 3, 1) := by decide +kernel
theorem dX9_pointsOfAll_20 : decode cX9_pointsOfAll 20 = .ok (.ifnonnull 7, 3) := by decide +kernel
theorem dX9_pointsOfAll_23 : decode cX9_pointsOfAll 23 = .ok (.iconst 0, 1) := by decide +kernel
theorem dX9_pointsOfAll_24 : decode cX9_pointsOfAll 24 = .ok (.goto 7, 3) := by decide +kernel
theorem dX9_pointsOfAll_27 : decode cX9_pointsOfAll 27 = .ok (.aload_n 3, 1) := by decide +kernel
theorem dX9_pointsOfAll_28 : decode cX9_pointsOfAll 28 = .ok (.invokevirtual 51, 3) := by decide +kernel
theorem dX9_pointsOfAll_31 : decode cX9_pointsOfAll 31 = .ok (.iadd, 1) := by decide +kernel
theorem dX9_pointsOfAll_32 : decode cX9_pointsOfAll 32 = .ok (.istore_n 1, 1) := by decide +kernel
theorem dX9_pointsOfAll_33 : decode cX9_pointsOfAll 33 = .ok (.iinc 2 1, 3) := by decide +kernel
theorem dX9_pointsOfAll_36 : decode cX9_pointsOfAll 36 = .ok (.goto (-32), 3) := by decide +kernel
theorem dX9_pointsOfAll_39 : decode cX9_pointsOfAll 39 = .ok (.iload_n 1, 1) := by decide +kernel
theorem dX9_pointsOfAll_40 : decode cX9_pointsOfAll 40 = .ok (.ireturn, 1) := by decide +kernel
set_option maxRecDepth 20000 in
theorem ggX9_loops_X9_at : GoodIn wsX9_loops wsX9_at := goodIn_r _ [7, 1, 8, 9, 10, 11, 12] (by decide +kernel) (by decide +kernel)
set_option maxRecDepth 20000 in
theorem gX9_loops_X9_at : GoodIn wsX9_loops (wsV RX9 43 RX9 yX9_at wsX9_at) := goodIn_app (goodIn_of _ (by decide +kernel)) ggX9_loops_X9_at
theorem dX9_loops_0 : decode cX9_loops 0 = .ok (.iconst 0, 1) := by decide +kernel
theorem dX9_loops_1 : decode cX9_loops 1 = .ok (.istore_n 1, 1) := by decide +kernel
theorem dX9_loops_2 : decode cX9_loops 2 = .ok (.iconst 0, 1) := by decide +kernel
theorem dX9_loops_3 : decode cX9_loops 3 = .ok (.istore_n 2, 1) := by decide +kernel
theorem dX9_loops_4 : decode cX9_loops 4 = .ok (.iload_n 2, 1) := by decide +kernel
theorem dX9_loops_5 : decode cX9_loops 5 = .ok (.aload_n 0, 1) := by decide +kernel
theorem dX9_loops_6 : decode cX9_loops 6 = .ok (.getfield 24, 3) := by decide +kernel
theorem dX9_loops_9 : decode cX9_loops 9 = .ok (.if_icmp .ge 28, 3) := by decide +kernel
theorem dX9_loops_12 : decode cX9_loops 12 = .ok (.iload_n 1, 1) := by decide +kernel
theorem dX9_loops_13 : decode cX9_loops 13 = .ok (.aload_n 0, 1) := by decide +kernel
theorem dX9_loops_14 : decode cX9_loops 14 = .ok (.iload_n 2, 1) := by decide +kernel
theorem dX9_loops_15 : decode cX9_loops 15 = .ok (.invokevirtual 43, 3) := by decide +kernel
theorem dX9_loops_18 : decode cX9_loops 18 = .ok (.instanceof 65, 3) := by decide +kernel
theorem dX9_loops_21 : decode cX9_loops 21 = .ok (.ifCond .eq 7, 3) := by decide +kernel
theorem dX9_loops_24 : decode cX9_loops 24 = .ok (.iconst 1, 1) := by decide +kernel
theorem dX9_loops_25 : decode cX9_loops 25 = .ok (.goto 4, 3) := by decide +kernel
theorem dX9_loops_28 : decode cX9_loops 28 = .ok (.iconst 0, 1) := by decide +kernel
theorem dX9_loops_29 : decode cX9_loops 29 = .ok (.iadd, 1) := by decide +kernel
theorem dX9_loops_30 : decode cX9_loops 30 = .ok (.istore_n 1, 1) := by decide +kernel
theorem dX9_loops_31 : decode cX9_loops 31 = .ok (.iinc 2 1, 3) := by decide +kernel
theorem dX9_loops_34 : decode cX9_loops 34 = .ok (.goto (-30), 3) := by decide +kernel
theorem dX9_loops_37 : decode cX9_loops 37 = .ok (.iload_n 1, 1) := by decide +kernel
theorem dX9_loops_38 : decode cX9_loops 38 = .ok (.ireturn, 1) := by decide +kernel
theorem dX10_init_0 : decode cX10_init 0 = .ok (.aload_n 0, 1) := by decide +kernel
theorem dX10_init_1 : decode cX10_init 1 = .ok (.invokespecial 1, 3) := by decide +kernel
theorem dX10_init_4 : decode cX10_init 4 = .ok (.aload_n 0, 1) := by decide +kernel
theorem dX10_init_5 : decode cX10_init 5 = .ok (.bipush 16, 2) := by decide +kernel
theorem dX10_init_7 : decode cX10_init 7 = .ok (.newarray .int, 2) := by decide +kernel
theorem dX10_init_9 : decode cX10_init 9 = .ok (.putfield 7, 3) := by decide +kernel
theorem dX10_init_12 : decode cX10_init 12 = .ok (.return_, 1) := by decide +kernel
theorem dX10_leave_0 : decode cX10_leave 0 = .ok (.aload_n 0, 1) := by decide +kernel
theorem dX10_leave_1 : decode cX10_leave 1 = .ok (.getfield 13, 3) := by decide +kernel
theorem dX10_leave_4 : decode cX10_leave 4 = .ok (.aload_n 0, 1) := by decide +kernel
theorem dX10_leave_5 : decode cX10_leave 5 = .ok (.getfield 7, 3) := by decide +kernel
theorem dX10_leave_8 : decode cX10_leave 8 = .ok (.arraylength, 1) := by decide +kernel
theorem dX10_leave_9 : decode cX10_leave 9 = .ok (.if_icmp .ge 23, 3) := by decide +kernel
theorem dX10_leave_12 : decode cX10_leave 12 = .ok (.aload_n 0, 1) := by decide +kernel
theorem dX10_leave_13 : decode cX10_leave 13 = .ok (.getfield 7, 3) := by decide +kernel
theorem dX10_leave_16 : decode cX10_leave 16 = .ok (.aload_n 0, 1) := by decide +kernel
theorem dX10_leave_17 : decode cX10_leave 17 = .ok (.getfield 13, 3) := by decide +kernel
theorem dX10_leave_20 : decode cX10_leave 20 = .ok (.iload_n 1, 1) := by decide +kernel
theorem dX10_leave_21 : decode cX10_leave 21 = .ok (.iastore, 1) := by decide +kernel
theorem dX10_leave_22 : decode cX10_leave 22 = .ok (.aload_n 0, 1) := by decide +kernel
theorem dX10_leave_23 : decode cX10_leave 23 = .ok (.dup, 1) := by decide +kernel
theorem dX10_leave_24 : decode cX10_leave 24 = .ok (.getfield 13, 3) := by decide +kernel
theorem dX10_leave_27 : decode cX10_leave 27 = .ok (.iconst 1, 1) := by decide +kernel
theorem dX10_leave_28 : decode cX10_leave 28 = .ok (.iadd, 1) := by decide +kernel
theorem dX10_leave_29 : decode cX10_leave 29 = .ok (.putfield 13, 3) := by decide +kernel
theorem dX10_leave_32 : decode cX10_leave 32 = .ok (.return_, 1) := by decide +kernel
set_option maxRecDepth 20000 in
theorem ggX11_init_X9_init : GoodIn wsX11_init wsX9_init := goodIn_r _ [29, 30, 2, 3, 31, 32, 33, 34, 35, 88, 89, 90, 91] (by decide +kernel) (by decide +kernel)
set_option maxRecDepth 20000 in
theorem gX11_init_X9_init_n17 : GoodIn wsX11_init (wsX9_init) := ggX11_init_X9_init
set_option maxRecDepth 20000 in
theorem ggX11_init_X4_init : GoodIn wsX11_init wsX4_init := goodIn_r _ [37, 38, 2, 3, 33, 39, 40, 41, 92, 93, 94, 95, 96] (by decide +kernel) (by decide +kernel)
set_option maxRecDepth 20000 in
theorem gX11_init_X4_init_n24 : GoodIn wsX11_init (wsX4_init) := ggX11_init_X4_init
set_option maxRecDepth 20000 in
theorem ggX11_init_X6_init : GoodIn wsX11_init wsX6_init := goodIn_r _ [43, 44, 2, 3, 33, 45, 46, 47, 48, 49, 50, 51, 52, 53, 54, 55, 56, 57, 58, 59, 60, 61, 62, 63, 97, 98, 99, 100, 101, 102, 103, 104, 105, 106, 107, 108, 109, 125, 126, 127, 128, 129, 130, 131] (by decide +kernel) (by decide +kernel)
set_option maxRecDepth 20000 in
theorem gX11_init_X6_init_n31 : GoodIn wsX11_init (wsX6_init) := ggX11_init_X6_init
set_option maxRecDepth 20000 in
theorem ggX11_init_X0_init : GoodIn wsX11_init wsX0_init := goodIn_r _ [65, 66, 2, 3, 67, 68, 69, 33, 70, 71, 110, 111, 112, 113, 114, 115, 116, 117, 118, 119] (by decide +kernel) (by decide +kernel)
set_option maxRecDepth 20000 in
theorem gX11_init_X0_init_n38 : GoodIn wsX11_init (wsX0_init) := ggX11_init_X0_init
set_option maxRecDepth 20000 in
theorem ggX11_init_X10_init : GoodIn wsX11_init wsX10_init := goodIn_r _ [73, 74, 2, 3, 33, 75, 120, 121] (by decide +kernel) (by decide +kernel)
set_option maxRecDepth 20000 in
theorem gX11_init_X10_init_n45 : GoodIn wsX11_init (wsX10_init) := ggX11_init_X10_init
set_option maxRecDepth 20000 in
theorem ggX11_init_X5_init : GoodIn wsX11_init wsX5_init := goodIn_r _ [77, 78, 2, 3, 33, 79, 80, 122, 123, 124] (by decide +kernel) (by decide +kernel)
set_option maxRecDepth 20000 in
theorem gX11_init_X5_init_n50 : GoodIn wsX11_init (wsX5_init) := ggX11_init_X5_init
theorem dX11_init_0 : decode cX11_init 0 = .ok (.aload_n 0, 1) := by decide +kernel
theorem dX11_init_1 : decode cX11_init 1 = .ok (.invokespecial 1, 3) := by decide +kernel
theorem dX11_init_4 : decode cX11_init 4 = .ok (.aload_n 0, 1) := by decide +kernel
theorem dX11_init_5 : decode cX11_init 5 = .ok (.bipush 8, 2) := by decide +kernel
theorem dX11_init_7 : decode cX11_init 7 = .ok (.anewarray 9, 3) := by decide +kernel
theorem dX11_init_10 : decode cX11_init 10 = .ok (.putfield 11, 3) := by decide +kernel
theorem dX11_init_13 : decode cX11_init 13 = .ok (.aload_n 0, 1) := by decide +kernel
theorem dX11_init_14 : decode cX11_init 14 = .ok (.new 15, 3) := by decide +kernel
theorem dX11_init_17 : decode cX11_init 17 = .ok (.dup, 1) := by decide +kernel
theorem dX11_init_18 : decode cX11_init 18 = .ok (.invokespecial 17, 3) := by decide +kernel
theorem dX11_init_21 : decode cX11_init 21 = .ok (.putfield 18, 3) := by decide +kernel
theorem dX11_init_24 : decode cX11_init 24 = .ok (.aload_n 0, 1) := by decide +kernel
theorem dX11_init_25 : decode cX11_init 25 = .ok (.new 22, 3) := by decide +kernel
theorem dX11_init_28 : decode cX11_init 28 = .ok (.dup, 1) := by decide +kernel
theorem dX11_init_29 : decode cX11_init 29 = .ok (.invokespecial 24, 3) := by decide +kernel
theorem dX11_init_32 : decode cX11_init 32 = .ok (.putfield 25, 3) := by decide +kernel
theorem dX11_init_35 : decode cX11_init 35 = .ok (.aload_n 0, 1) := by decide +kernel
theorem dX11_init_36 : decode cX11_init 36 = .ok (.new 29, 3) := by decide +kernel
theorem dX11_init_39 : decode cX11_init 39 = .ok (.dup, 1) := by decide +kernel
theorem dX11_init_40 : decode cX11_init 40 = .ok (.invokespecial 31, 3) := by decide +kernel
theorem dX11_init_43 : decode cX11_init 43 = .ok (.putfield 32, 3) := by decide +kernel
theorem dX11_init_46 : decode cX11_init 46 = .ok (.aload_n 0, 1) := by decide +kernel
theorem dX11_init_47 : decode cX11_init 47 = .ok (.new 36, 3) := by decide +kernel
theorem dX11_init_50 : decode cX11_init 50 = .ok (.dup, 1) := by decide +kernel
theorem dX11_init_51 : decode cX11_init 51 = .ok (.invokespecial 38, 3) := by decide +kernel
theorem dX11_init_54 : decode cX11_init 54 = .ok (.putfield 39, 3) := by decide +kernel
theorem dX11_init_57 : decode cX11_init 57 = .ok (.aload_n 0, 1) := by decide +kernel
theorem dX11_init_58 : decode cX11_init 58 = .ok (.new 43, 3) := by decide +kernel
theorem dX11_init_61 : decode cX11_init 61 = .ok (.dup, 1) := by decide +kernel
theorem dX11_init_62 : decode cX11_init 62 = .ok (.invokespecial 45, 3) := by decide +kernel
theorem dX11_init_65 : decode cX11_init 65 = .ok (.putfield 46, 3) := by decide +kernel
theorem dX11_init_68 : decode cX11_init 68 = .ok (.iconst 0, 1) := by decide +kernel
theorem dX11_init_69 : decode cX11_init 69 = .ok (.istore_n 1, 1) := by decide +kernel
theorem dX11_init_70 : decode cX11_init 70 = .ok (.iload_n 1, 1) := by decide +kernel
theorem dX11_init_71 : decode cX11_init 71 = .ok (.bipush 8, 2) := by decide +kernel
theorem dX11_init_73 : decode cX11_init 73 = .ok (.if_icmp .ge 22, 3) := by decide +kernel
theorem dX11_init_76 : decode cX11_init 76 = .ok (.aload_n 0, 1) := by decide +kernel
theorem dX11_init_77 : decode cX11_init 77 = .ok (.getfield 11, 3) := by decide +kernel
theorem dX11_init_80 : decode cX11_init 80 = .ok (.iload_n 1, 1) := by decide +kernel
theorem dX11_init_81 : decode cX11_init 81 = .ok (.new 9, 3) := by decide +kernel
theorem dX11_init_84 : decode cX11_init 84 = .ok (.dup, 1) := by decide +kernel
theorem dX11_init_85 : decode cX11_init 85 = .ok (.invokespecial 50, 3) := by decide +kernel
theorem dX11_init_88 : decode cX11_init 88 = .ok (.aastore, 1) := by decide +kernel
theorem dX11_init_89 : decode cX11_init 89 = .ok (.iinc 1 1, 3) := by decide +kernel
theorem dX11_init_92 : decode cX11_init 92 = .ok (.goto (-22), 3) := by decide +kernel
theorem dX11_init_95 : decode cX11_init 95 = .ok (.return_, 1) := by decide +kernel
set_option maxRecDepth 20000 in
theorem ggX11_sheet_X11_isSheet : GoodIn wsX11_sheet wsX11_isSheet := goodIn_r _ [6, 7, 8, 5, 9] (by decide +kernel) (by decide +kernel)
set_option maxRecDepth 20000 in
theorem gX11_sheet_X11_isSheet : GoodIn wsX11_sheet (va_wsS RX11 51 yX11_isSheet wsX11_isSheet) := goodIn_app (goodIn_of _ (by decide +kernel)) ggX11_sheet_X11_isSheet
set_option maxRecDepth 20000 in
theorem ggX11_sheet_X11_isWithin : GoodIn wsX11_sheet wsX11_isWithin := goodIn_r _ [9] (by decide +kernel) (by decide +kernel)
set_option maxRecDepth 20000 in
theorem gX11_sheet_X11_isWithin : GoodIn wsX11_sheet (va_wsS RX11 55 yX11_isWithin wsX11_isWithin) := goodIn_app (goodIn_of _ (by decide +kernel)) ggX11_sheet_X11_isWithin
set_option maxRecDepth 20000 in
theorem ggX11_sheet_X11_found : GoodIn wsX11_sheet wsX11_found := goodIn_r _ [13, 14, 15, 32, 33, 34, 35, 36, 37, 38] (by decide +kernel) (by decide +kernel)
set_option maxRecDepth 20000 in
theorem gX11_sheet_X11_found : GoodIn wsX11_sheet (wsV RX11 60 RX11 yX11_found wsX11_found) := goodIn_app (goodIn_of _ (by decide +kernel)) ggX11_sheet_X11_found
set_option maxRecDepth 20000 in
theorem ggX11_sheet_X5_lay : GoodIn wsX11_sheet wsX5_lay := goodIn_r _ [20, 21, 22, 23, 24, 25, 26, 27, 39, 40, 41] (by decide +kernel) (by decide +kernel)
set_option maxRecDepth 20000 in
theorem gX11_sheet_X5_lay : GoodIn wsX11_sheet (wsV RX11 64 RX5 yX5_lay wsX5_lay) := goodIn_app (goodIn_of _ (by decide +kernel)) ggX11_sheet_X5_lay
set_option maxRecDepth 20000 in
theorem ggX11_sheet_X11_fine : GoodIn wsX11_sheet wsX11_fine := goodIn_r _ [31, 14, 32, 33, 34, 35, 36, 37, 38] (by decide +kernel) (by decide +kernel)
set_option maxRecDepth 20000 in
theorem gX11_sheet_X11_fine : GoodIn wsX11_sheet (wsV RX11 68 RX11 yX11_fine wsX11_fine) := goodIn_app (goodIn_of _ (by decide +kernel)) ggX11_sheet_X11_fine
theorem dX11_sheet_0 : decode cX11_sheet 0 = .ok (.iload_n 1, 1) := by decide +kernel
theorem dX11_sheet_1 : decode cX11_sheet 1 = .ok (.invokestatic 51, 3) := by decide +kernel
theorem dX11_sheet_4 : decode cX11_sheet 4 = .ok (.ifCond .eq 18, 3) := by decide +kernel
theorem dX11_sheet_7 : decode cX11_sheet 7 = .ok (.iload_n 2, 1) := by decide +kernel
theorem dX11_sheet_8 : decode cX11_sheet 8 = .ok (.iconst 0, 1) := by decide +kernel
theorem dX11_sheet_9 : decode cX11_sheet 9 = .ok (.iconst 2, 1) := by decide +kernel
theorem dX11_sheet_10 : decode cX11_sheet 10 = .ok (.invokestatic 55, 3) := by decide +kernel
theorem dX11_sheet_13 : decode cX11_sheet 13 = .ok (.ifCond .eq 9, 3) := by decide +kernel
theorem dX11_sheet_16 : decode cX11_sheet 16 = .ok (.iload_n 3, 1) := by decide +kernel
theorem dX11_sheet_17 : decode cX11_sheet 17 = .ok (.bipush 40, 2) := by decide +kernel
theorem dX11_sheet_19 : decode cX11_sheet 19 = .ok (.if_icmp .le 6, 3) := by decide +kernel
theorem dX11_sheet_22 : decode cX11_sheet 22 = .ok (.ldc 59, 2) := by decide +kernel
theorem dX11_sheet_24 : decode cX11_sheet 24 = .ok (.ireturn, 1) := by decide +kernel
theorem dX11_sheet_25 : decode cX11_sheet 25 = .ok (.iload_n 3, 1) := by decide +kernel
theorem dX11_sheet_26 : decode cX11_sheet 26 = .ok (.ifCond .ge 9, 3) := by decide +kernel
theorem dX11_sheet_29 : decode cX11_sheet 29 = .ok (.aload_n 0, 1) := by decide +kernel
theorem dX11_sheet_30 : decode cX11_sheet 30 = .ok (.iconst 4, 1) := by decide +kernel
theorem dX11_sheet_31 : decode cX11_sheet 31 = .ok (.invokevirtual 60, 3) := by decide +kernel
theorem dX11_sheet_34 : decode cX11_sheet 34 = .ok (.ireturn, 1) := by decide +kernel
theorem dX11_sheet_35 : decode cX11_sheet 35 = .ok (.aload_n 0, 1) := by decide +kernel
theorem dX11_sheet_36 : decode cX11_sheet 36 = .ok (.getfield 11, 3) := by decide +kernel
theorem dX11_sheet_39 : decode cX11_sheet 39 = .ok (.iload_n 1, 1) := by decide +kernel
theorem dX11_sheet_40 : decode cX11_sheet 40 = .ok (.aaload, 1) := by decide +kernel
theorem dX11_sheet_41 : decode cX11_sheet 41 = .ok (.iload_n 2, 1) := by decide +kernel
theorem dX11_sheet_42 : decode cX11_sheet 42 = .ok (.iload_n 3, 1) := by decide +kernel
theorem dX11_sheet_43 : decode cX11_sheet 43 = .ok (.invokevirtual 64, 3) := by decide +kernel
theorem dX11_sheet_46 : decode cX11_sheet 46 = .ok (.aload_n 0, 1) := by decide +kernel
theorem dX11_sheet_47 : decode cX11_sheet 47 = .ok (.iload_n 3, 1) := by decide +kernel
theorem dX11_sheet_48 : decode cX11_sheet 48 = .ok (.invokevirtual 68, 3) := by decide +kernel
theorem dX11_sheet_51 : decode cX11_sheet 51 = .ok (.ireturn, 1) := by decide +kernel
set_option maxRecDepth 20000 in
theorem ggX11_set_X11_isSheet : GoodIn wsX11_set wsX11_isSheet := goodIn_r _ [6, 7, 8, 5, 9] (by decide +kernel) (by decide +kernel)
set_option maxRecDepth 20000 in
theorem gX11_set_X11_isSheet : GoodIn wsX11_set (va_wsS RX11 51 yX11_isSheet wsX11_isSheet) := goodIn_app (goodIn_of _ (by decide +kernel)) ggX11_set_X11_isSheet
set_option maxRecDepth 20000 in
theorem ggX11_set_X5_isMissing : GoodIn wsX11_set wsX5_isMissing := goodIn_r _ [14, 15, 52, 53, 54] (by decide +kernel) (by decide +kernel)
set_option maxRecDepth 20000 in
theorem gX11_set_X5_isMissing : GoodIn wsX11_set (wsV RX11 71 RX5 yX5_isMissing wsX5_isMissing) := goodIn_app (goodIn_of _ (by decide +kernel)) ggX11_set_X5_isMissing
set_option maxRecDepth 20000 in
theorem ggX11_set_X11_found : GoodIn wsX11_set wsX11_found := goodIn_r _ [19, 20, 21, 45, 46, 47, 48, 49, 50, 51] (by decide +kernel) (by decide +kernel)
set_option maxRecDepth 20000 in
theorem gX11_set_X11_found : GoodIn wsX11_set (wsV RX11 60 RX11 yX11_found wsX11_found) := goodIn_app (goodIn_of _ (by decide +kernel)) ggX11_set_X11_found
set_option maxRecDepth 20000 in
theorem ggX11_set_X5_has : GoodIn wsX11_set wsX5_has := goodIn_r _ [25, 26, 52, 53, 54] (by decide +kernel) (by decide +kernel)
set_option maxRecDepth 20000 in
theorem gX11_set_X5_has : GoodIn wsX11_set (wsV RX11 75 RX5 yX5_has wsX5_has) := goodIn_app (goodIn_of _ (by decide +kernel)) ggX11_set_X5_has
set_option maxRecDepth 20000 in
theorem ggX11_set_X5_put : GoodIn wsX11_set wsX5_put := goodIn_r _ [30, 31, 32, 23, 24, 13, 25, 26, 33, 34, 35, 36, 15, 37, 38, 39, 40, 52, 53, 54] (by decide +kernel) (by decide +kernel)
set_option maxRecDepth 20000 in
theorem gX11_set_X5_put : GoodIn wsX11_set (wsV RX11 79 RX5 yX5_put wsX5_put) := goodIn_app (goodIn_of _ (by decide +kernel)) ggX11_set_X5_put
set_option maxRecDepth 20000 in
theorem ggX11_set_X11_fine : GoodIn wsX11_set wsX11_fine := goodIn_r _ [44, 20, 45, 46, 47, 48, 49, 50, 51] (by decide +kernel) (by decide +kernel)
set_option maxRecDepth 20000 in
theorem gX11_set_X11_fine : GoodIn wsX11_set (wsV RX11 68 RX11 yX11_fine wsX11_fine) := goodIn_app (goodIn_of _ (by decide +kernel)) ggX11_set_X11_fine
theorem dX11_set_0 : decode cX11_set 0 = .ok (.iload_n 1, 1) := by decide +kernel
theorem dX11_set_1 : decode cX11_set 1 = .ok (.invokestatic 51, 3) := by decide +kernel
theorem dX11_set_4 : decode cX11_set 4 = .ok (.ifCond .ne 6, 3) := by decide +kernel
theorem dX11_set_7 : decode cX11_set 7 = .ok (.ldc 59, 2) := by decide +kernel
theorem dX11_set_9 : decode cX11_set 9 = .ok (.ireturn, 1) := by decide +kernel
theorem dX11_set_10 : decode cX11_set 10 = .ok (.aload_n 0, 1) := by decide +kernel
theorem dX11_set_11 : decode cX11_set 11 = .ok (.getfield 11, 3) := by decide +kernel
theorem dX11_set_14 : decode cX11_set 14 = .ok (.iload_n 1, 1) := by decide +kernel
theorem dX11_set_15 : decode cX11_set 15 = .ok (.aaload, 1) := by decide +kernel
theorem dX11_set_16 : decode cX11_set 16 = .ok (.astore 4, 2) := by decide +kernel
theorem dX11_set_18 : decode cX11_set 18 = .ok (.aload 4, 2) := by decide +kernel
theorem dX11_set_20 : decode cX11_set 20 = .ok (.invokevirtual 71, 3) := by decide +kernel
theorem dX11_set_23 : decode cX11_set 23 = .ok (.ifCond .eq 9, 3) := by decide +kernel
theorem dX11_set_26 : decode cX11_set 26 = .ok (.aload_n 0, 1) := by decide +kernel
theorem dX11_set_27 : decode cX11_set 27 = .ok (.iconst 1, 1) := by decide +kernel
theorem dX11_set_28 : decode cX11_set 28 = .ok (.invokevirtual 60, 3) := by decide +kernel
theorem dX11_set_31 : decode cX11_set 31 = .ok (.ireturn, 1) := by decide +kernel
theorem dX11_set_32 : decode cX11_set 32 = .ok (.aload 4, 2) := by decide +kernel
theorem dX11_set_34 : decode cX11_set 34 = .ok (.iload_n 2, 1) := by decide +kernel
theorem dX11_set_35 : decode cX11_set 35 = .ok (.iconst 1, 1) := by decide +kernel
theorem dX11_set_36 : decode cX11_set 36 = .ok (.invokevirtual 75, 3) := by decide +kernel
theorem dX11_set_39 : decode cX11_set 39 = .ok (.ifCond .ne 9, 3) := by decide +kernel
theorem dX11_set_42 : decode cX11_set 42 = .ok (.aload_n 0, 1) := by decide +kernel
theorem dX11_set_43 : decode cX11_set 43 = .ok (.iconst 2, 1) := by decide +kernel
theorem dX11_set_44 : decode cX11_set 44 = .ok (.invokevirtual 60, 3) := by decide +kernel
theorem dX11_set_47 : decode cX11_set 47 = .ok (.ireturn, 1) := by decide +kernel
theorem dX11_set_48 : decode cX11_set 48 = .ok (.aload_n 0, 1) := by decide +kernel
theorem dX11_set_49 : decode cX11_set 49 = .ok (.aload 4, 2) := by decide +kernel
theorem dX11_set_51 : decode cX11_set 51 = .ok (.iload_n 2, 1) := by decide +kernel
theorem dX11_set_52 : decode cX11_set 52 = .ok (.iload_n 3, 1) := by decide +kernel
theorem dX11_set_53 : decode cX11_set 53 = .ok (.invokevirtual 79, 3) := by decide +kernel
theorem dX11_set_56 : decode cX11_set 56 = .ok (.invokevirtual 68, 3) := by decide +kernel
theorem dX11_set_59 : decode cX11_set 59 = .ok (.ireturn, 1) := by decide +kernel
set_option maxRecDepth 20000 in
theorem ggX11_copy_X11_isSheet : GoodIn wsX11_copy wsX11_isSheet := goodIn_r _ [12, 13, 14, 11, 15] (by decide +kernel) (by decide +kernel)
set_option maxRecDepth 20000 in
theorem gX11_copy_X11_isSheet : GoodIn wsX11_copy (va_wsS RX11 51 yX11_isSheet wsX11_isSheet) := goodIn_app (goodIn_of _ (by decide +kernel)) ggX11_copy_X11_isSheet
set_option maxRecDepth 20000 in
theorem ggX11_copy_X5_isMissing : GoodIn wsX11_copy wsX5_isMissing := goodIn_r _ [20, 21, 44, 45, 46] (by decide +kernel) (by decide +kernel)
set_option maxRecDepth 20000 in
theorem gX11_copy_X5_isMissing : GoodIn wsX11_copy (wsV RX11 71 RX5 yX5_isMissing wsX5_isMissing) := goodIn_app (goodIn_of _ (by decide +kernel)) ggX11_copy_X5_isMissing
set_option maxRecDepth 20000 in
theorem ggX11_copy_X11_found : GoodIn wsX11_copy wsX11_found := goodIn_r _ [25, 26, 27, 37, 38, 39, 40, 41, 42, 43] (by decide +kernel) (by decide +kernel)
set_option maxRecDepth 20000 in
theorem gX11_copy_X11_found : GoodIn wsX11_copy (wsV RX11 60 RX11 yX11_found wsX11_found) := goodIn_app (goodIn_of _ (by decide +kernel)) ggX11_copy_X11_found
set_option maxRecDepth 20000 in
theorem ggX11_copy_X5_has : GoodIn wsX11_copy wsX5_has := goodIn_r _ [31, 32, 44, 45, 46] (by decide +kernel) (by decide +kernel)
set_option maxRecDepth 20000 in
theorem gX11_copy_X5_has : GoodIn wsX11_copy (wsV RX11 75 RX5 yX5_has wsX5_has) := goodIn_app (goodIn_of _ (by decide +kernel)) ggX11_copy_X5_has
set_option maxRecDepth 20000 in
theorem ggX11_copy_X11_fine : GoodIn wsX11_copy wsX11_fine := goodIn_r _ [36, 26, 37, 38, 39, 40, 41, 42, 43] (by decide +kernel) (by decide +kernel)
set_option maxRecDepth 20000 in
theorem gX11_copy_X11_fine : GoodIn wsX11_copy (wsV RX11 68 RX11 yX11_fine wsX11_fine) := goodIn_app (goodIn_of _ (by decide +kernel)) ggX11_copy_X11_fine
theorem dX11_copy_0 : decode cX11_copy 0 = .ok (.iload_n 1, 1) := by decide +kernel
theorem dX11_copy_1 : decode cX11_copy 1 = .ok (.invokestatic 51, 3) := by decide +kernel
theorem dX11_copy_4 : decode cX11_copy 4 = .ok (.ifCond .eq 10, 3) := by decide +kernel
theorem dX11_copy_7 : decode cX11_copy 7 = .ok (.iload_n 3, 1) := by decide +kernel
theorem dX11_copy_8 : decode cX11_copy 8 = .ok (.invokestatic 51, 3) := by decide +kernel
theorem dX11_copy_11 : decode cX11_copy 11 = .ok (.ifCond .ne 6, 3) := by decide +kernel
theorem dX11_copy_14 : decode cX11_copy 14 = .ok (.ldc 59, 2) := by decide +kernel
theorem dX11_copy_16 : decode cX11_copy 16 = .ok (.ireturn, 1) := by decide +kernel
theorem dX11_copy_17 : decode cX11_copy 17 = .ok (.aload_n 0, 1) := by decide +kernel
theorem dX11_copy_18 : decode cX11_copy 18 = .ok (.getfield 11, 3) := by decide +kernel
theorem dX11_copy_21 : decode cX11_copy 21 = .ok (.iload_n 1, 1) := by decide +kernel
theorem dX11_copy_22 : decode cX11_copy 22 = .ok (.aaload, 1) := by decide +kernel
theorem dX11_copy_23 : decode cX11_copy 23 = .ok (.astore 6, 2) := by decide +kernel
theorem dX11_copy_25 : decode cX11_copy 25 = .ok (.aload_n 0, 1) := by decide +kernel
theorem dX11_copy_26 : decode cX11_copy 26 = .ok (.getfield 11, 3) := by decide +kernel
theorem dX11_copy_29 : decode cX11_copy 29 = .ok (.iload_n 3, 1) := by decide +kernel
theorem dX11_copy_30 : decode cX11_copy 30 = .ok (.aaload, 1) := by decide +kernel
theorem dX11_copy_31 : decode cX11_copy 31 = .ok (.astore 7, 2) := by decide +kernel
theorem dX11_copy_33 : decode cX11_copy 33 = .ok (.aload 6, 2) := by decide +kernel
theorem dX11_copy_35 : decode cX11_copy 35 = .ok (.invokevirtual 71, 3) := by decide +kernel
theorem dX11_copy_38 : decode cX11_copy 38 = .ok (.ifCond .ne 11, 3) := by decide +kernel
theorem dX11_copy_41 : decode cX11_copy 41 = .ok (.aload 7, 2) := by decide +kernel
theorem dX11_copy_43 : decode cX11_copy 43 = .ok (.invokevirtual 71, 3) := by decide +kernel
theorem dX11_copy_46 : decode cX11_copy 46 = .ok (.ifCond .eq 9, 3) := by decide +kernel
theorem dX11_copy_49 : decode cX11_copy 49 = .ok (.aload_n 0, 1) := by decide +kernel
theorem dX11_copy_50 : decode cX11_copy 50 = .ok (.iconst 1, 1) := by decide +kernel
theorem dX11_copy_51 : decode cX11_copy 51 = .ok (.invokevirtual 60, 3) := by decide +kernel
theorem dX11_copy_54 : decode cX11_copy 54 = .ok (.ireturn, 1) := by decide +kernel
theorem dX11_copy_55 : decode cX11_copy 55 = .ok (.aload 6, 2) := by decide +kernel
theorem dX11_copy_57 : decode cX11_copy 57 = .ok (.getfield 83, 3) := by decide +kernel
theorem dX11_copy_60 : decode cX11_copy 60 = .ok (.aload 7, 2) := by decide +kernel
theorem dX11_copy_62 : decode cX11_copy 62 = .ok (.getfield 83, 3) := by decide +kernel
theorem dX11_copy_65 : decode cX11_copy 65 = .ok (.if_icmp .eq 9, 3) := by decide +kernel
theorem dX11_copy_68 : decode cX11_copy 68 = .ok (.aload_n 0, 1) := by decide +kernel
theorem dX11_copy_69 : decode cX11_copy 69 = .ok (.iconst 5, 1) := by decide +kernel
theorem dX11_copy_70 : decode cX11_copy 70 = .ok (.invokevirtual 60, 3) := by decide +kernel
theorem dX11_copy_73 : decode cX11_copy 73 = .ok (.ireturn, 1) := by decide +kernel
theorem dX11_copy_74 : decode cX11_copy 74 = .ok (.aload 6, 2) := by decide +kernel
theorem dX11_copy_76 : decode cX11_copy 76 = .ok (.iload_n 2, 1) := by decide +kernel
theorem dX11_copy_77 : decode cX11_copy 77 = .ok (.iload 5, 2) := by decide +kernel
theorem dX11_copy_79 : decode cX11_copy 79 = .ok (.invokevirtual 75, 3) := by decide +kernel
theorem dX11_copy_82 : decode cX11_copy 82 = .ok (.ifCond .eq 15, 3) := by decide +kernel
theorem dX11_copy_85 : decode cX11_copy 85 = .ok (.aload 7, 2) := by decide +kernel
theorem dX11_copy_87 : decode cX11_copy 87 = .ok (.iload 4, 2) := by decide +kernel
theorem dX11_copy_89 : decode cX11_copy 89 = .ok (.iload 5, 2) := by decide +kernel
theorem dX11_copy_91 : decode cX11_copy 91 = .ok (.invokevirtual 75, 3) := by decide +kernel
theorem dX11_copy_94 : decode cX11_copy 94 = .ok (.ifCond .ne 9, 3) := by decide +kernel
theorem dX11_copy_97 : decode cX11_copy 97 = .ok (.aload_n 0, 1) := by decide +kernel
theorem dX11_copy_98 : decode cX11_copy 98 = .ok (.iconst 2, 1) := by decide +kernel
theorem dX11_copy_99 : decode cX11_copy 99 = .ok (.invokevirtual 60, 3) := by decide +kernel
theorem dX11_copy_102 : decode cX11_copy 102 = .ok (.ireturn, 1) := by decide +kernel
theorem dX11_copy_103 : decode cX11_copy 103 = .ok (.aload 6, 2) := by decide +kernel
theorem dX11_copy_105 : decode cX11_copy 105 = .ok (.getfield 87, 3) := by decide +kernel
theorem dX11_copy_108 : decode cX11_copy 108 = .ok (.iload_n 2, 1) := by decide +kernel
theorem dX11_copy_109 : decode cX11_copy 109 = .ok (.aload 7, 2) := by decide +kernel
theorem dX11_copy_111 : decode cX11_copy 111 = .ok (.getfield 87, 3) := by decide +kernel
theorem dX11_copy_114 : decode cX11_copy 114 = .ok (.iload 4, 2) := by decide +kernel
theorem dX11_copy_116 : decode cX11_copy 116 = .ok (.iload 5, 2) := by decide +kernel
theorem dX11_copy_118 : decode cX11_copy 118 = .ok (.invokestatic 91, 3) := by decide +kernel
theorem dX11_copy_121 : decode cX11_copy 121 = .ok (.aload_n 0, 1) := by decide +kernel
theorem dX11_copy_122 : decode cX11_copy 122 = .ok (.iload 5, 2) := by decide +kernel
theorem dX11_copy_124 : decode cX11_copy 124 = .ok (.invokevirtual 68, 3) := by decide +kernel
theorem dX11_copy_127 : decode cX11_copy 127 = .ok (.ireturn, 1) := by decide +kernel
set_option maxRecDepth 20000 in
theorem ggX11_drop_X11_isSheet : GoodIn wsX11_drop wsX11_isSheet := goodIn_r _ [8, 9, 10, 7, 11] (by decide +kernel) (by decide +kernel)
set_option maxRecDepth 20000 in
theorem gX11_drop_X11_isSheet : GoodIn wsX11_drop (va_wsS RX11 51 yX11_isSheet wsX11_isSheet) := goodIn_app (goodIn_of _ (by decide +kernel)) ggX11_drop_X11_isSheet
set_option maxRecDepth 20000 in
theorem ggX11_drop_X5_isMissing : GoodIn wsX11_drop wsX5_isMissing := goodIn_r _ [16, 17, 35, 36, 37] (by decide +kernel) (by decide +kernel)
set_option maxRecDepth 20000 in
theorem gX11_drop_X5_isMissing : GoodIn wsX11_drop (wsV RX11 71 RX5 yX5_isMissing wsX5_isMissing) := goodIn_app (goodIn_of _ (by decide +kernel)) ggX11_drop_X5_isMissing
set_option maxRecDepth 20000 in
theorem ggX11_drop_X11_found : GoodIn wsX11_drop wsX11_found := goodIn_r _ [21, 22, 23, 28, 29, 30, 31, 32, 33, 34] (by decide +kernel) (by decide +kernel)
set_option maxRecDepth 20000 in
theorem gX11_drop_X11_found : GoodIn wsX11_drop (wsV RX11 60 RX11 yX11_found wsX11_found) := goodIn_app (goodIn_of _ (by decide +kernel)) ggX11_drop_X11_found
set_option maxRecDepth 20000 in
theorem ggX11_drop_X11_fine : GoodIn wsX11_drop wsX11_fine := goodIn_r _ [27, 22, 28, 29, 30, 31, 32, 33, 34] (by decide +kernel) (by decide +kernel)
set_option maxRecDepth 20000 in
theorem gX11_drop_X11_fine : GoodIn wsX11_drop (wsV RX11 68 RX11 yX11_fine wsX11_fine) := goodIn_app (goodIn_of _ (by decide +kernel)) ggX11_drop_X11_fine
theorem dX11_drop_0 : decode cX11_drop 0 = .ok (.iload_n 1, 1) := by decide +kernel
theorem dX11_drop_1 : decode cX11_drop 1 = .ok (.invokestatic 51, 3) := by decide +kernel
theorem dX11_drop_4 : decode cX11_drop 4 = .ok (.ifCond .ne 6, 3) := by decide +kernel
theorem dX11_drop_7 : decode cX11_drop 7 = .ok (.ldc 59, 2) := by decide +kernel
theorem dX11_drop_9 : decode cX11_drop 9 = .ok (.ireturn, 1) := by decide +kernel
theorem dX11_drop_10 : decode cX11_drop 10 = .ok (.aload_n 0, 1) := by decide +kernel
theorem dX11_drop_11 : decode cX11_drop 11 = .ok (.getfield 11, 3) := by decide +kernel
theorem dX11_drop_14 : decode cX11_drop 14 = .ok (.iload_n 1, 1) := by decide +kernel
theorem dX11_drop_15 : decode cX11_drop 15 = .ok (.aaload, 1) := by decide +kernel
theorem dX11_drop_16 : decode cX11_drop 16 = .ok (.astore_n 2, 1) := by decide +kernel
theorem dX11_drop_17 : decode cX11_drop 17 = .ok (.aload_n 2, 1) := by decide +kernel
theorem dX11_drop_18 : decode cX11_drop 18 = .ok (.invokevirtual 71, 3) := by decide +kernel
theorem dX11_drop_21 : decode cX11_drop 21 = .ok (.ifCond .eq 9, 3) := by decide +kernel
theorem dX11_drop_24 : decode cX11_drop 24 = .ok (.aload_n 0, 1) := by decide +kernel
theorem dX11_drop_25 : decode cX11_drop 25 = .ok (.iconst 1, 1) := by decide +kernel
theorem dX11_drop_26 : decode cX11_drop 26 = .ok (.invokevirtual 60, 3) := by decide +kernel
theorem dX11_drop_29 : decode cX11_drop 29 = .ok (.ireturn, 1) := by decide +kernel
theorem dX11_drop_30 : decode cX11_drop 30 = .ok (.aload_n 2, 1) := by decide +kernel
theorem dX11_drop_31 : decode cX11_drop 31 = .ok (.iconst (-1), 1) := by decide +kernel
theorem dX11_drop_32 : decode cX11_drop 32 = .ok (.putfield 83, 3) := by decide +kernel
theorem dX11_drop_35 : decode cX11_drop 35 = .ok (.aload_n 0, 1) := by decide +kernel
theorem dX11_drop_36 : decode cX11_drop 36 = .ok (.aload_n 2, 1) := by decide +kernel
theorem dX11_drop_37 : decode cX11_drop 37 = .ok (.getfield 97, 3) := by decide +kernel
theorem dX11_drop_40 : decode cX11_drop 40 = .ok (.invokevirtual 68, 3) := by decide +kernel
theorem dX11_drop_43 : decode cX11_drop 43 = .ok (.ireturn, 1) := by decide +kernel
set_option maxRecDepth 20000 in
theorem ggX11_stroke_X11_isSheet : GoodIn wsX11_stroke wsX11_isSheet := goodIn_r _ [10, 11, 12, 9, 13] (by decide +kernel) (by decide +kernel)
set_option maxRecDepth 20000 in
theorem gX11_stroke_X11_isSheet : GoodIn wsX11_stroke (va_wsS RX11 51 yX11_isSheet wsX11_isSheet) := goodIn_app (goodIn_of _ (by decide +kernel)) ggX11_stroke_X11_isSheet
set_option maxRecDepth 20000 in
theorem ggX11_stroke_X11_isWithin : GoodIn wsX11_stroke wsX11_isWithin := goodIn_r _ [13] (by decide +kernel) (by decide +kernel)
set_option maxRecDepth 20000 in
theorem gX11_stroke_X11_isWithin : GoodIn wsX11_stroke (va_wsS RX11 55 yX11_isWithin wsX11_isWithin) := goodIn_app (goodIn_of _ (by decide +kernel)) ggX11_stroke_X11_isWithin
set_option maxRecDepth 20000 in
theorem ggX11_stroke_X5_isMissing : GoodIn wsX11_stroke wsX5_isMissing := goodIn_r _ [18, 19, 110, 111, 112] (by decide +kernel) (by decide +kernel)
set_option maxRecDepth 20000 in
theorem gX11_stroke_X5_isMissing : GoodIn wsX11_stroke (wsV RX11 71 RX5 yX5_isMissing wsX5_isMissing) := goodIn_app (goodIn_of _ (by decide +kernel)) ggX11_stroke_X5_isMissing
set_option maxRecDepth 20000 in
theorem ggX11_stroke_X11_found : GoodIn wsX11_stroke wsX11_found := goodIn_r _ [23, 24, 25, 99, 100, 101, 102, 103, 104, 105] (by decide +kernel) (by decide +kernel)
set_option maxRecDepth 20000 in
theorem gX11_stroke_X11_found : GoodIn wsX11_stroke (wsV RX11 60 RX11 yX11_found wsX11_found) := goodIn_app (goodIn_of _ (by decide +kernel)) ggX11_stroke_X11_found
set_option maxRecDepth 20000 in
theorem ggX11_stroke_X5_has : GoodIn wsX11_stroke wsX5_has := goodIn_r _ [29, 30, 110, 111, 112] (by decide +kernel) (by decide +kernel)
set_option maxRecDepth 20000 in
theorem gX11_stroke_X5_has : GoodIn wsX11_stroke (wsV RX11 75 RX5 yX5_has wsX5_has) := goodIn_app (goodIn_of _ (by decide +kernel)) ggX11_stroke_X5_has
set_option maxRecDepth 20000 in
theorem ggX11_stroke_X5_holdsPlaces : GoodIn wsX11_stroke wsX5_holdsPlaces := goodIn_r _ [34, 35, 36, 37, 17, 38, 39, 40, 27, 28, 29, 30, 12, 9, 13, 110, 111, 112] (by decide +kernel) (by decide +kernel)
set_option maxRecDepth 20000 in
theorem gX11_stroke_X5_holdsPlaces : GoodIn wsX11_stroke (wsV RX11 104 RX5 yX5_holdsPlaces wsX5_holdsPlaces) := goodIn_app (goodIn_of _ (by decide +kernel)) ggX11_stroke_X5_holdsPlaces
set_option maxRecDepth 20000 in
theorem ggX11_stroke_X6_pathIsStale : GoodIn wsX11_stroke wsX6_pathIsStale := goodIn_r _ [45, 46, 113, 114, 115, 116, 117, 118, 119, 120, 121, 122, 123, 124, 125] (by decide +kernel) (by decide +kernel)
set_option maxRecDepth 20000 in
theorem gX11_stroke_X6_pathIsStale : GoodIn wsX11_stroke (wsV RX11 107 RX6 yX6_pathIsStale wsX6_pathIsStale) := goodIn_app (goodIn_of _ (by decide +kernel)) ggX11_stroke_X6_pathIsStale
set_option maxRecDepth 20000 in
theorem ggX11_stroke_X11_strokeOf : GoodIn wsX11_stroke wsX11_strokeOf := goodIn_r _ [49, 50, 51, 52, 53, 54, 55, 56, 57, 58, 59, 60, 36, 37, 17, 38, 39, 40, 27, 28, 29, 30, 61, 62, 63, 64, 65, 66, 67, 68, 69, 70, 71, 72, 73, 74, 75, 76, 77, 78, 79, 80, 126, 127, 128, 129, 130, 131, 110, 111, 112] (by decide +kernel) (by decide +kernel)
set_option maxRecDepth 20000 in
theorem gX11_stroke_X11_strokeOf : GoodIn wsX11_stroke (va_wsS RX11 110 yX11_strokeOf wsX11_strokeOf) := goodIn_app (goodIn_of _ (by decide +kernel)) ggX11_stroke_X11_strokeOf
set_option maxRecDepth 20000 in
theorem ggX11_stroke_X9_add : GoodIn wsX11_stroke wsX9_add := goodIn_r _ [85, 86, 87, 88, 89, 90, 91, 84, 92, 93, 94, 106, 107, 108, 109] (by decide +kernel) (by decide +kernel)
set_option maxRecDepth 20000 in
theorem gX11_stroke_X9_add : GoodIn wsX11_stroke (wsV RX11 114 RX9 yX9_add wsX9_add) := goodIn_app (goodIn_of _ (by decide +kernel)) ggX11_stroke_X9_add
set_option maxRecDepth 20000 in
theorem ggX11_stroke_X11_fine : GoodIn wsX11_stroke wsX11_fine := goodIn_r _ [98, 24, 99, 100, 101, 102, 103, 104, 105] (by decide +kernel) (by decide +kernel)
set_option maxRecDepth 20000 in
theorem gX11_stroke_X11_fine : GoodIn wsX11_stroke (wsV RX11 68 RX11 yX11_fine wsX11_fine) := goodIn_app (goodIn_of _ (by decide +kernel)) ggX11_stroke_X11_fine
theorem dX11_stroke_0 : decode cX11_stroke 0 = .ok (.iload_n 1, 1) := by decide +kernel
theorem dX11_stroke_1 : decode cX11_stroke 1 = .ok (.invokestatic 51, 3) := by decide +kernel
theorem dX11_stroke_4 : decode cX11_stroke 4 = .ok (.ifCond .eq 13, 3) := by decide +kernel
theorem dX11_stroke_7 : decode cX11_stroke 7 = .ok (.iload_n 3, 1) := by decide +kernel
theorem dX11_stroke_8 : decode cX11_stroke 8 = .ok (.iconst 1, 1) := by decide +kernel
theorem dX11_stroke_9 : decode cX11_stroke 9 = .ok (.bipush 8, 2) := by decide +kernel
theorem dX11_stroke_11 : decode cX11_stroke 11 = .ok (.invokestatic 55, 3) := by decide +kernel
theorem dX11_stroke_14 : decode cX11_stroke 14 = .ok (.ifCond .ne 6, 3) := by decide +kernel
theorem dX11_stroke_17 : decode cX11_stroke 17 = .ok (.ldc 59, 2) := by decide +kernel
theorem dX11_stroke_19 : decode cX11_stroke 19 = .ok (.ireturn, 1) := by decide +kernel
theorem dX11_stroke_20 : decode cX11_stroke 20 = .ok (.aload_n 0, 1) := by decide +kernel
theorem dX11_stroke_21 : decode cX11_stroke 21 = .ok (.getfield 18, 3) := by decide +kernel
theorem dX11_stroke_24 : decode cX11_stroke 24 = .ok (.getfield 100, 3) := by decide +kernel
theorem dX11_stroke_27 : decode cX11_stroke 27 = .ok (.bipush 8, 2) := by decide +kernel
theorem dX11_stroke_29 : decode cX11_stroke 29 = .ok (.if_icmp .lt 6, 3) := by decide +kernel
theorem dX11_stroke_32 : decode cX11_stroke 32 = .ok (.ldc 103, 2) := by decide +kernel
theorem dX11_stroke_34 : decode cX11_stroke 34 = .ok (.ireturn, 1) := by decide +kernel
theorem dX11_stroke_35 : decode cX11_stroke 35 = .ok (.aload_n 0, 1) := by decide +kernel
theorem dX11_stroke_36 : decode cX11_stroke 36 = .ok (.getfield 11, 3) := by decide +kernel
theorem dX11_stroke_39 : decode cX11_stroke 39 = .ok (.iload_n 1, 1) := by decide +kernel
theorem dX11_stroke_40 : decode cX11_stroke 40 = .ok (.aaload, 1) := by decide +kernel
theorem dX11_stroke_41 : decode cX11_stroke 41 = .ok (.astore 4, 2) := by decide +kernel
theorem dX11_stroke_43 : decode cX11_stroke 43 = .ok (.aload 4, 2) := by decide +kernel
theorem dX11_stroke_45 : decode cX11_stroke 45 = .ok (.invokevirtual 71, 3) := by decide +kernel
theorem dX11_stroke_48 : decode cX11_stroke 48 = .ok (.ifCond .eq 9, 3) := by decide +kernel
theorem dX11_stroke_51 : decode cX11_stroke 51 = .ok (.aload_n 0, 1) := by decide +kernel
theorem dX11_stroke_52 : decode cX11_stroke 52 = .ok (.iconst 1, 1) := by decide +kernel
theorem dX11_stroke_53 : decode cX11_stroke 53 = .ok (.invokevirtual 60, 3) := by decide +kernel
theorem dX11_stroke_56 : decode cX11_stroke 56 = .ok (.ireturn, 1) := by decide +kernel
theorem dX11_stroke_57 : decode cX11_stroke 57 = .ok (.aload 4, 2) := by decide +kernel
theorem dX11_stroke_59 : decode cX11_stroke 59 = .ok (.iload_n 2, 1) := by decide +kernel
theorem dX11_stroke_60 : decode cX11_stroke 60 = .ok (.iconst 2, 1) := by decide +kernel
theorem dX11_stroke_61 : decode cX11_stroke 61 = .ok (.iload_n 3, 1) := by decide +kernel
theorem dX11_stroke_62 : decode cX11_stroke 62 = .ok (.imul, 1) := by decide +kernel
theorem dX11_stroke_63 : decode cX11_stroke 63 = .ok (.invokevirtual 75, 3) := by decide +kernel
theorem dX11_stroke_66 : decode cX11_stroke 66 = .ok (.ifCond .ne 9, 3) := by decide +kernel
theorem dX11_stroke_69 : decode cX11_stroke 69 = .ok (.aload_n 0, 1) := by decide +kernel
theorem dX11_stroke_70 : decode cX11_stroke 70 = .ok (.iconst 2, 1) := by decide +kernel
theorem dX11_stroke_71 : decode cX11_stroke 71 = .ok (.invokevirtual 60, 3) := by decide +kernel
theorem dX11_stroke_74 : decode cX11_stroke 74 = .ok (.ireturn, 1) := by decide +kernel
theorem dX11_stroke_75 : decode cX11_stroke 75 = .ok (.aload 4, 2) := by decide +kernel
theorem dX11_stroke_77 : decode cX11_stroke 77 = .ok (.iload_n 2, 1) := by decide +kernel
theorem dX11_stroke_78 : decode cX11_stroke 78 = .ok (.iload_n 3, 1) := by decide +kernel
theorem dX11_stroke_79 : decode cX11_stroke 79 = .ok (.invokevirtual 104, 3) := by decide +kernel
theorem dX11_stroke_82 : decode cX11_stroke 82 = .ok (.ifCond .ne 6, 3) := by decide +kernel
theorem dX11_stroke_85 : decode cX11_stroke 85 = .ok (.ldc 59, 2) := by decide +kernel
theorem dX11_stroke_87 : decode cX11_stroke 87 = .ok (.ireturn, 1) := by decide +kernel
theorem dX11_stroke_88 : decode cX11_stroke 88 = .ok (.aload_n 0, 1) := by decide +kernel
theorem dX11_stroke_89 : decode cX11_stroke 89 = .ok (.getfield 32, 3) := by decide +kernel
theorem dX11_stroke_92 : decode cX11_stroke 92 = .ok (.invokevirtual 107, 3) := by decide +kernel
theorem dX11_stroke_95 : decode cX11_stroke 95 = .ok (.aload_n 0, 1) := by decide +kernel
theorem dX11_stroke_96 : decode cX11_stroke 96 = .ok (.aload_n 0, 1) := by decide +kernel
theorem dX11_stroke_97 : decode cX11_stroke 97 = .ok (.getfield 18, 3) := by decide +kernel
theorem dX11_stroke_100 : decode cX11_stroke 100 = .ok (.aload 4, 2) := by decide +kernel
theorem dX11_stroke_102 : decode cX11_stroke 102 = .ok (.iload_n 2, 1) := by decide +kernel
theorem dX11_stroke_103 : decode cX11_stroke 103 = .ok (.iload_n 3, 1) := by decide +kernel
theorem dX11_stroke_104 : decode cX11_stroke 104 = .ok (.invokestatic 110, 3) := by decide +kernel
theorem dX11_stroke_107 : decode cX11_stroke 107 = .ok (.invokevirtual 114, 3) := by decide +kernel
theorem dX11_stroke_110 : decode cX11_stroke 110 = .ok (.invokevirtual 68, 3) := by decide +kernel
theorem dX11_stroke_113 : decode cX11_stroke 113 = .ok (.ireturn, 1) := by decide +kernel
set_option maxRecDepth 20000 in
theorem ggX11_point_X9_at : GoodIn wsX11_point wsX9_at := goodIn_r _ [7, 8, 9, 45, 46, 47, 48] (by decide +kernel) (by decide +kernel)
set_option maxRecDepth 20000 in
theorem gX11_point_X9_at : GoodIn wsX11_point (wsV RX11 118 RX9 yX9_at wsX9_at) := goodIn_app (goodIn_of _ (by decide +kernel)) ggX11_point_X9_at
set_option maxRecDepth 20000 in
theorem ggX11_point_X8_points : GoodIn wsX11_point wsX8_points := goodIn_r _ [15, 16, 49, 50, 51, 52, 53, 54] (by decide +kernel) (by decide +kernel)
set_option maxRecDepth 20000 in
theorem gX11_point_X8_points_u122X1 : GoodIn wsX11_point (va_wsU RX11 122 RX1 "LightLines$Stroke" ⟨"LightLines$Stroke", "points", "()I"⟩ yX8_points wsX8_points) := goodIn_app (goodIn_of _ (by decide +kernel)) ggX11_point_X8_points
set_option maxRecDepth 20000 in
theorem gX11_point_X8_points_u122X2 : GoodIn wsX11_point (va_wsU RX11 122 RX2 "LightLines$Stroke" ⟨"LightLines$Stroke", "points", "()I"⟩ yX8_points wsX8_points) := goodIn_app (goodIn_of _ (by decide +kernel)) ggX11_point_X8_points
set_option maxRecDepth 20000 in
theorem gX11_point_X8_points_u122X7 : GoodIn wsX11_point (va_wsU RX11 122 RX7 "LightLines$Stroke" ⟨"LightLines$Stroke", "points", "()I"⟩ yX8_points wsX8_points) := goodIn_app (goodIn_of _ (by decide +kernel)) ggX11_point_X8_points
set_option maxRecDepth 20000 in
theorem ggX11_point_X11_isWithin : GoodIn wsX11_point wsX11_isWithin := goodIn_r _ [22] (by decide +kernel) (by decide +kernel)
set_option maxRecDepth 20000 in
theorem gX11_point_X11_isWithin : GoodIn wsX11_point (va_wsS RX11 55 yX11_isWithin wsX11_isWithin) := goodIn_app (goodIn_of _ (by decide +kernel)) ggX11_point_X11_isWithin
set_option maxRecDepth 20000 in
theorem ggX11_point_X8_xAt : GoodIn wsX11_point wsX8_xAt := goodIn_r _ [27, 16, 49, 50, 51, 52, 53, 54] (by decide +kernel) (by decide +kernel)
set_option maxRecDepth 20000 in
theorem gX11_point_X8_xAt_u128X1 : GoodIn wsX11_point (va_wsU RX11 128 RX1 "LightLines$Stroke" ⟨"LightLines$Stroke", "xAt", "(I)I"⟩ yX8_xAt wsX8_xAt) := goodIn_app (goodIn_of _ (by decide +kernel)) ggX11_point_X8_xAt
set_option maxRecDepth 20000 in
theorem gX11_point_X8_xAt_u128X2 : GoodIn wsX11_point (va_wsU RX11 128 RX2 "LightLines$Stroke" ⟨"LightLines$Stroke", "xAt", "(I)I"⟩ yX8_xAt wsX8_xAt) := goodIn_app (goodIn_of _ (by decide +kernel)) ggX11_point_X8_xAt
set_option maxRecDepth 20000 in
theorem gX11_point_X8_xAt_u128X7 : GoodIn wsX11_point (va_wsU RX11 128 RX7 "LightLines$Stroke" ⟨"LightLines$Stroke", "xAt", "(I)I"⟩ yX8_xAt wsX8_xAt) := goodIn_app (goodIn_of _ (by decide +kernel)) ggX11_point_X8_xAt
set_option maxRecDepth 20000 in
theorem ggX11_point_X8_yAt : GoodIn wsX11_point wsX8_yAt := goodIn_r _ [34, 35, 49, 50, 51, 52, 53, 54] (by decide +kernel) (by decide +kernel)
set_option maxRecDepth 20000 in
theorem gX11_point_X8_yAt_u131X1 : GoodIn wsX11_point (va_wsU RX11 131 RX1 "LightLines$Stroke" ⟨"LightLines$Stroke", "yAt", "(I)I"⟩ yX8_yAt wsX8_yAt) := goodIn_app (goodIn_of _ (by decide +kernel)) ggX11_point_X8_yAt
set_option maxRecDepth 20000 in
theorem gX11_point_X8_yAt_u131X2 : GoodIn wsX11_point (va_wsU RX11 131 RX2 "LightLines$Stroke" ⟨"LightLines$Stroke", "yAt", "(I)I"⟩ yX8_yAt wsX8_yAt) := goodIn_app (goodIn_of _ (by decide +kernel)) ggX11_point_X8_yAt
set_option maxRecDepth 20000 in
theorem gX11_point_X8_yAt_u131X7 : GoodIn wsX11_point (va_wsU RX11 131 RX7 "LightLines$Stroke" ⟨"LightLines$Stroke", "yAt", "(I)I"⟩ yX8_yAt wsX8_yAt) := goodIn_app (goodIn_of _ (by decide +kernel)) ggX11_point_X8_yAt
theorem dX11_point_0 : decode cX11_point 0 = .ok (.aload_n 0, 1) := by decide +kernel
theorem dX11_point_1 : decode cX11_point 1 = .ok (.getfield 18, 3) := by decide +kernel
theorem dX11_point_4 : decode cX11_point 4 = .ok (.iload_n 1, 1) := by decide +kernel
theorem dX11_point_5 : decode cX11_point 5 = .ok (.invokevirtual 118, 3) := by decide +kernel
theorem dX11_point_8 : decode cX11_point 8 = .ok (.astore 4, 2) := by decide +kernel
theorem dX11_point_10 : decode cX11_point 10 = .ok (.aload 4, 2) := by decide +kernel
theorem dX11_point_12 : decode cX11_point 12 = .ok (.ifnull 27, 3) := by decide +kernel
theorem dX11_point_15 : decode cX11_point 15 = .ok (.iload_n 2, 1) := by decide +kernel
theorem dX11_point_16 : decode cX11_point 16 = .ok (.iconst 0, 1) := by decide +kernel
theorem dX11_point_17 : decode cX11_point 17 = .ok (.aload 4, 2) := by decide +kernel
theorem dX11_point_19 : decode cX11_point 19 = .ok (.invokevirtual 122, 3) := by decide +kernel
theorem dX11_point_22 : decode cX11_point 22 = .ok (.iconst 1, 1) := by decide +kernel
theorem dX11_point_23 : decode cX11_point 23 = .ok (.isub, 1) := by decide +kernel
theorem dX11_point_24 : decode cX11_point 24 = .ok (.invokestatic 55, 3) := by decide +kernel
theorem dX11_point_27 : decode cX11_point 27 = .ok (.ifCond .eq 12, 3) := by decide +kernel
theorem dX11_point_30 : decode cX11_point 30 = .ok (.iload_n 3, 1) := by decide +kernel
theorem dX11_point_31 : decode cX11_point 31 = .ok (.iconst 0, 1) := by decide +kernel
theorem dX11_point_32 : decode cX11_point 32 = .ok (.iconst 1, 1) := by decide +kernel
theorem dX11_point_33 : decode cX11_point 33 = .ok (.invokestatic 55, 3) := by decide +kernel
theorem dX11_point_36 : decode cX11_point 36 = .ok (.ifCond .ne 6, 3) := by decide +kernel
theorem dX11_point_39 : decode cX11_point 39 = .ok (.ldc 59, 2) := by decide +kernel
theorem dX11_point_41 : decode cX11_point 41 = .ok (.ireturn, 1) := by decide +kernel
theorem dX11_point_42 : decode cX11_point 42 = .ok (.iload_n 3, 1) := by decide +kernel
theorem dX11_point_43 : decode cX11_point 43 = .ok (.ifCond .ne 12, 3) := by decide +kernel
theorem dX11_point_46 : decode cX11_point 46 = .ok (.aload 4, 2) := by decide +kernel
theorem dX11_point_48 : decode cX11_point 48 = .ok (.iload_n 2, 1) := by decide +kernel
theorem dX11_point_49 : decode cX11_point 49 = .ok (.invokevirtual 128, 3) := by decide +kernel
theorem dX11_point_52 : decode cX11_point 52 = .ok (.goto 9, 3) := by decide +kernel
theorem dX11_point_55 : decode cX11_point 55 = .ok (.aload 4, 2) := by decide +kernel
theorem dX11_point_57 : decode cX11_point 57 = .ok (.iload_n 2, 1) := by decide +kernel
theorem dX11_point_58 : decode cX11_point 58 = .ok (.invokevirtual 131, 3) := by decide +kernel
theorem dX11_point_61 : decode cX11_point 61 = .ok (.ireturn, 1) := by decide +kernel
set_option maxRecDepth 20000 in
theorem ggX11_plan_X11_isSheet : GoodIn wsX11_plan wsX11_isSheet := goodIn_r _ [10, 11, 12, 9, 13] (by decide +kernel) (by decide +kernel)
set_option maxRecDepth 20000 in
theorem gX11_plan_X11_isSheet : GoodIn wsX11_plan (va_wsS RX11 51 yX11_isSheet wsX11_isSheet) := goodIn_app (goodIn_of _ (by decide +kernel)) ggX11_plan_X11_isSheet
set_option maxRecDepth 20000 in
theorem ggX11_plan_X5_isMissing : GoodIn wsX11_plan wsX5_isMissing := goodIn_r _ [18, 19, 121, 122, 123] (by decide +kernel) (by decide +kernel)
set_option maxRecDepth 20000 in
theorem gX11_plan_X5_isMissing : GoodIn wsX11_plan (wsV RX11 71 RX5 yX5_isMissing wsX5_isMissing) := goodIn_app (goodIn_of _ (by decide +kernel)) ggX11_plan_X5_isMissing
set_option maxRecDepth 20000 in
theorem ggX11_plan_X11_found : GoodIn wsX11_plan wsX11_found := goodIn_r _ [23, 24, 25, 110, 111, 112, 113, 114, 115, 116] (by decide +kernel) (by decide +kernel)
set_option maxRecDepth 20000 in
theorem gX11_plan_X11_found : GoodIn wsX11_plan (wsV RX11 60 RX11 yX11_found wsX11_found) := goodIn_app (goodIn_of _ (by decide +kernel)) ggX11_plan_X11_found
set_option maxRecDepth 20000 in
theorem ggX11_plan_X5_has : GoodIn wsX11_plan wsX5_has := goodIn_r _ [29, 30, 121, 122, 123] (by decide +kernel) (by decide +kernel)
set_option maxRecDepth 20000 in
theorem gX11_plan_X5_has : GoodIn wsX11_plan (wsV RX11 75 RX5 yX5_has wsX5_has) := goodIn_app (goodIn_of _ (by decide +kernel)) ggX11_plan_X5_has
set_option maxRecDepth 20000 in
theorem ggX11_plan_X9_isPlan : GoodIn wsX11_plan wsX9_isPlan := goodIn_r _ [35, 36, 37, 38, 39, 17, 40, 41, 42, 27, 28, 29, 30, 12, 9, 13, 117, 118, 119, 120, 121, 122, 123] (by decide +kernel) (by decide +kernel)
set_option maxRecDepth 20000 in
theorem gX11_plan_X9_isPlan : GoodIn wsX11_plan (wsV RX11 135 RX9 yX9_isPlan wsX9_isPlan) := goodIn_app (goodIn_of _ (by decide +kernel)) ggX11_plan_X9_isPlan
set_option maxRecDepth 20000 in
theorem ggX11_plan_X5_item : GoodIn wsX11_plan wsX5_item := goodIn_r _ [40, 41, 42, 27, 28, 17, 29, 30, 121, 122, 123] (by decide +kernel) (by decide +kernel)
set_option maxRecDepth 20000 in
theorem gX11_plan_X5_item : GoodIn wsX11_plan (wsV RX11 139 RX5 yX5_item wsX5_item) := goodIn_app (goodIn_of _ (by decide +kernel)) ggX11_plan_X5_item
set_option maxRecDepth 20000 in
theorem ggX11_plan_X9_planAt : GoodIn wsX11_plan wsX9_planAt := goodIn_r _ [47, 48, 49, 117, 118, 119, 120] (by decide +kernel) (by decide +kernel)
set_option maxRecDepth 20000 in
theorem gX11_plan_X9_planAt : GoodIn wsX11_plan (wsV RX11 142 RX9 yX9_planAt wsX9_planAt) := goodIn_app (goodIn_of _ (by decide +kernel)) ggX11_plan_X9_planAt
set_option maxRecDepth 20000 in
theorem ggX11_plan_X6_pathIsStale : GoodIn wsX11_plan wsX6_pathIsStale := goodIn_r _ [54, 55, 124, 125, 126, 127, 128, 129, 130, 131, 132, 133, 134, 135, 136] (by decide +kernel) (by decide +kernel)
set_option maxRecDepth 20000 in
theorem gX11_plan_X6_pathIsStale : GoodIn wsX11_plan (wsV RX11 107 RX6 yX6_pathIsStale wsX6_pathIsStale) := goodIn_app (goodIn_of _ (by decide +kernel)) ggX11_plan_X6_pathIsStale
set_option maxRecDepth 20000 in
theorem ggX11_plan_X9_darkWay : GoodIn wsX11_plan wsX9_darkWay := goodIn_r _ [59, 36, 48, 49, 60, 61, 62, 34, 63, 64, 65, 66, 67, 68, 69, 70, 71, 72, 73, 74, 75, 76, 77, 78, 79, 80, 81, 82, 83, 84, 85, 86, 87, 88, 89, 90, 91, 92, 93, 94, 95, 96, 97, 9, 98, 99, 100, 101, 102, 103, 104, 105, 117, 118, 119, 120, 137, 138, 139, 140, 141, 142] (by decide +kernel) (by decide +kernel)
set_option maxRecDepth 20000 in
theorem gX11_plan_X9_darkWay : GoodIn wsX11_plan (wsV RX11 146 RX9 yX9_darkWay wsX9_darkWay) := goodIn_app (goodIn_of _ (by decide +kernel)) ggX11_plan_X9_darkWay
set_option maxRecDepth 20000 in
theorem ggX11_plan_X11_fine : GoodIn wsX11_plan wsX11_fine := goodIn_r _ [109, 24, 110, 111, 112, 113, 114, 115, 116] (by decide +kernel) (by decide +kernel)
set_option maxRecDepth 20000 in
theorem gX11_plan_X11_fine : GoodIn wsX11_plan (wsV RX11 68 RX11 yX11_fine wsX11_fine) := goodIn_app (goodIn_of _ (by decide +kernel)) ggX11_plan_X11_fine
theorem dX11_plan_0 : decode cX11_plan 0 = .ok (.iload_n 1, 1) := by decide +kernel
theorem dX11_plan_1 : decode cX11_plan 1 = .ok (.invokestatic 51, 3) := by decide +kernel
theorem dX11_plan_4 : decode cX11_plan 4 = .ok (.ifCond .ne 6, 3) := by decide +kernel
theorem dX11_plan_7 : decode cX11_plan 7 = .ok (.ldc 59, 2) := by decide +kernel
theorem dX11_plan_9 : decode cX11_plan 9 = .ok (.ireturn, 1) := by decide +kernel
theorem dX11_plan_10 : decode cX11_plan 10 = .ok (.aload_n 0, 1) := by decide +kernel
theorem dX11_plan_11 : decode cX11_plan 11 = .ok (.getfield 18, 3) := by decide +kernel
theorem dX11_plan_14 : decode cX11_plan 14 = .ok (.getfield 100, 3) := by decide +kernel
theorem dX11_plan_17 : decode cX11_plan 17 = .ok (.ifCond .ne 6, 3) := by decide +kernel
theorem dX11_plan_20 : decode cX11_plan 20 = .ok (.ldc 134, 2) := by decide +kernel
theorem dX11_plan_22 : decode cX11_plan 22 = .ok (.ireturn, 1) := by decide +kernel
theorem dX11_plan_23 : decode cX11_plan 23 = .ok (.aload_n 0, 1) := by decide +kernel
theorem dX11_plan_24 : decode cX11_plan 24 = .ok (.getfield 11, 3) := by decide +kernel
theorem dX11_plan_27 : decode cX11_plan 27 = .ok (.iload_n 1, 1) := by decide +kernel
theorem dX11_plan_28 : decode cX11_plan 28 = .ok (.aaload, 1) := by decide +kernel
theorem dX11_plan_29 : decode cX11_plan 29 = .ok (.astore_n 3, 1) := by decide +kernel
theorem dX11_plan_30 : decode cX11_plan 30 = .ok (.aload_n 3, 1) := by decide +kernel
theorem dX11_plan_31 : decode cX11_plan 31 = .ok (.invokevirtual 71, 3) := by decide +kernel
theorem dX11_plan_34 : decode cX11_plan 34 = .ok (.ifCond .eq 9, 3) := by decide +kernel
theorem dX11_plan_37 : decode cX11_plan 37 = .ok (.aload_n 0, 1) := by decide +kernel
theorem dX11_plan_38 : decode cX11_plan 38 = .ok (.iconst 1, 1) := by decide +kernel
theorem dX11_plan_39 : decode cX11_plan 39 = .ok (.invokevirtual 60, 3) := by decide +kernel
theorem dX11_plan_42 : decode cX11_plan 42 = .ok (.ireturn, 1) := by decide +kernel
