theorem dX3_moveTo_73 : decode cX3_moveTo 73 = .ok (.putfield 28, 3) := by decide +kernel
theorem dX3_moveTo_76 : decode cX3_moveTo 76 = .ok (.aload_n 0, 1) := by decide +kernel
theorem dX3_moveTo_77 : decode cX3_moveTo 77 = .ok (.iload 6, 2) := by decide +kernel
theorem dX3_moveTo_79 : decode cX3_moveTo 79 = .ok (.iload_n 2, 1) := by decide +kernel
theorem dX3_moveTo_80 : decode cX3_moveTo 80 = .ok (.iload 6, 2) := by decide +kernel
theorem dX3_moveTo_82 : decode cX3_moveTo 82 = .ok (.isub, 1) := by decide +kernel
theorem dX3_moveTo_83 : decode cX3_moveTo 83 = .ok (.iload 9, 2) := by decide +kernel
theorem dX3_moveTo_85 : decode cX3_moveTo 85 = .ok (.imul, 1) := by decide +kernel
theorem dX3_moveTo_86 : decode cX3_moveTo 86 = .ok (.iload 8, 2) := by decide +kernel
theorem dX3_moveTo_88 : decode cX3_moveTo 88 = .ok (.idiv, 1) := by decide +kernel
theorem dX3_moveTo_89 : decode cX3_moveTo 89 = .ok (.iadd, 1) := by decide +kernel
theorem dX3_moveTo_90 : decode cX3_moveTo 90 = .ok (.putfield 31, 3) := by decide +kernel
theorem dX3_moveTo_93 : decode cX3_moveTo 93 = .ok (.aload_n 0, 1) := by decide +kernel
theorem dX3_moveTo_94 : decode cX3_moveTo 94 = .ok (.iconst 1, 1) := by decide +kernel
theorem dX3_moveTo_95 : decode cX3_moveTo 95 = .ok (.iload 4, 2) := by decide +kernel
theorem dX3_moveTo_97 : decode cX3_moveTo 97 = .ok (.invokevirtual 70, 3) := by decide +kernel
theorem dX3_moveTo_100 : decode cX3_moveTo 100 = .ok (.iinc 9 1, 3) := by decide +kernel
theorem dX3_moveTo_103 : decode cX3_moveTo 103 = .ok (.goto (-58), 3) := by decide +kernel
theorem dX3_moveTo_106 : decode cX3_moveTo 106 = .ok (.return_, 1) := by decide +kernel
theorem dX3_stay_0 : decode cX3_stay 0 = .ok (.iconst 0, 1) := by decide +kernel
theorem dX3_stay_1 : decode cX3_stay 1 = .ok (.istore_n 3, 1) := by decide +kernel
theorem dX3_stay_2 : decode cX3_stay 2 = .ok (.iload_n 3, 1) := by decide +kernel
theorem dX3_stay_3 : decode cX3_stay 3 = .ok (.iload_n 1, 1) := by decide +kernel
theorem dX3_stay_4 : decode cX3_stay 4 = .ok (.if_icmp .ge 80, 3) := by decide +kernel
theorem dX3_stay_7 : decode cX3_stay 7 = .ok (.aload_n 0, 1) := by decide +kernel
theorem dX3_stay_8 : decode cX3_stay 8 = .ok (.getfield 24, 3) := by decide +kernel
theorem dX3_stay_11 : decode cX3_stay 11 = .ok (.ifCond .ne 73, 3) := by decide +kernel
theorem dX3_stay_14 : decode cX3_stay 14 = .ok (.aload_n 0, 1) := by decide +kernel
theorem dX3_stay_15 : decode cX3_stay 15 = .ok (.getfield 20, 3) := by decide +kernel
theorem dX3_stay_18 : decode cX3_stay 18 = .ok (.sipush 2000, 3) := by decide +kernel
theorem dX3_stay_21 : decode cX3_stay 21 = .ok (.if_icmp .ge 52, 3) := by decide +kernel
theorem dX3_stay_24 : decode cX3_stay 24 = .ok (.aload_n 0, 1) := by decide +kernel
theorem dX3_stay_25 : decode cX3_stay 25 = .ok (.getfield 9, 3) := by decide +kernel
theorem dX3_stay_28 : decode cX3_stay 28 = .ok (.aload_n 0, 1) := by decide +kernel
theorem dX3_stay_29 : decode cX3_stay 29 = .ok (.getfield 20, 3) := by decide +kernel
theorem dX3_stay_32 : decode cX3_stay 32 = .ok (.aload_n 0, 1) := by decide +kernel
theorem dX3_stay_33 : decode cX3_stay 33 = .ok (.getfield 28, 3) := by decide +kernel
theorem dX3_stay_36 : decode cX3_stay 36 = .ok (.iastore, 1) := by decide +kernel
theorem dX3_stay_37 : decode cX3_stay 37 = .ok (.aload_n 0, 1) := by decide +kernel
theorem dX3_stay_38 : decode cX3_stay 38 = .ok (.getfield 13, 3) := by decide +kernel
theorem dX3_stay_41 : decode cX3_stay 41 = .ok (.aload_n 0, 1) := by decide +kernel
theorem dX3_stay_42 : decode cX3_stay 42 = .ok (.getfield 20, 3) := by decide +kernel
theorem dX3_stay_45 : decode cX3_stay 45 = .ok (.aload_n 0, 1) := by decide +kernel
theorem dX3_stay_46 : decode cX3_stay 46 = .ok (.getfield 31, 3) := by decide +kernel
theorem dX3_stay_49 : decode cX3_stay 49 = .ok (.iastore, 1) := by decide +kernel
theorem dX3_stay_50 : decode cX3_stay 50 = .ok (.aload_n 0, 1) := by decide +kernel
theorem dX3_stay_51 : decode cX3_stay 51 = .ok (.getfield 16, 3) := by decide +kernel
theorem dX3_stay_54 : decode cX3_stay 54 = .ok (.aload_n 0, 1) := by decide +kernel
theorem dX3_stay_55 : decode cX3_stay 55 = .ok (.getfield 20, 3) := by decide +kernel
theorem dX3_stay_58 : decode cX3_stay 58 = .ok (.iload_n 2, 1) := by decide +kernel
theorem dX3_stay_59 : decode cX3_stay 59 = .ok (.bastore, 1) := by decide +kernel
theorem dX3_stay_60 : decode cX3_stay 60 = .ok (.aload_n 0, 1) := by decide +kernel
theorem dX3_stay_61 : decode cX3_stay 61 = .ok (.dup, 1) := by decide +kernel
theorem dX3_stay_62 : decode cX3_stay 62 = .ok (.getfield 20, 3) := by decide +kernel
theorem dX3_stay_65 : decode cX3_stay 65 = .ok (.iconst 1, 1) := by decide +kernel
theorem dX3_stay_66 : decode cX3_stay 66 = .ok (.iadd, 1) := by decide +kernel
theorem dX3_stay_67 : decode cX3_stay 67 = .ok (.putfield 20, 3) := by decide +kernel
theorem dX3_stay_70 : decode cX3_stay 70 = .ok (.goto 8, 3) := by decide +kernel
theorem dX3_stay_73 : decode cX3_stay 73 = .ok (.aload_n 0, 1) := by decide +kernel
theorem dX3_stay_74 : decode cX3_stay 74 = .ok (.iconst 1, 1) := by decide +kernel
theorem dX3_stay_75 : decode cX3_stay 75 = .ok (.putfield 24, 3) := by decide +kernel
theorem dX3_stay_78 : decode cX3_stay 78 = .ok (.iinc 3 1, 3) := by decide +kernel
theorem dX3_stay_81 : decode cX3_stay 81 = .ok (.goto (-79), 3) := by decide +kernel
theorem dX3_stay_84 : decode cX3_stay 84 = .ok (.return_, 1) := by decide +kernel
theorem dX4_init_0 : decode cX4_init 0 = .ok (.aload_n 0, 1) := by decide +kernel
theorem dX4_init_1 : decode cX4_init 1 = .ok (.invokespecial 3, 3) := by decide +kernel
theorem dX4_init_4 : decode cX4_init 4 = .ok (.aload_n 0, 1) := by decide +kernel
theorem dX4_init_5 : decode cX4_init 5 = .ok (.bipush 16, 2) := by decide +kernel
theorem dX4_init_7 : decode cX4_init 7 = .ok (.newarray .int, 2) := by decide +kernel
theorem dX4_init_9 : decode cX4_init 9 = .ok (.putfield 11, 3) := by decide +kernel
theorem dX4_init_12 : decode cX4_init 12 = .ok (.aload_n 0, 1) := by decide +kernel
theorem dX4_init_13 : decode cX4_init 13 = .ok (.bipush 16, 2) := by decide +kernel
theorem dX4_init_15 : decode cX4_init 15 = .ok (.newarray .int, 2) := by decide +kernel
theorem dX4_init_17 : decode cX4_init 17 = .ok (.putfield 15, 3) := by decide +kernel
theorem dX4_init_20 : decode cX4_init 20 = .ok (.aload_n 0, 1) := by decide +kernel
theorem dX4_init_21 : decode cX4_init 21 = .ok (.sipush 4096, 3) := by decide +kernel
theorem dX4_init_24 : decode cX4_init 24 = .ok (.newarray .int, 2) := by decide +kernel
theorem dX4_init_26 : decode cX4_init 26 = .ok (.putfield 18, 3) := by decide +kernel
theorem dX4_init_29 : decode cX4_init 29 = .ok (.return_, 1) := by decide +kernel
set_option maxRecDepth 20000 in
theorem ggX4_putBest_X4_takeEnds : GoodIn wsX4_putBest wsX4_takeEnds := goodIn_r _ [9, 2, 10, 3, 4, 11, 12, 13, 14, 15, 16, 17, 18, 19, 20, 21, 22, 23, 24, 25, 26, 27, 28, 29, 30, 31, 32, 33, 34, 35, 36, 37, 38, 39, 40, 41, 42, 43, 44, 45, 46, 47, 48, 83, 84, 85, 86, 78, 79, 80, 81, 82, 87, 88, 89, 90, 91, 92] (by decide +kernel) (by decide +kernel)
set_option maxRecDepth 20000 in
theorem gX4_putBest_X4_takeEnds : GoodIn wsX4_putBest (wsV RX4 30 RX4 yX4_takeEnds wsX4_takeEnds) := goodIn_app (goodIn_of _ (by decide +kernel)) ggX4_putBest_X4_takeEnds
set_option maxRecDepth 20000 in
theorem ggX4_putBest_X4_fillWaysLeft : GoodIn wsX4_putBest wsX4_fillWaysLeft := goodIn_r _ [52, 10, 3, 4, 53, 54, 55, 56, 8, 57, 58, 59, 60, 61, 62, 63, 64, 65, 66, 67, 68, 69, 70, 71, 78, 79, 80, 81, 82] (by decide +kernel) (by decide +kernel)
set_option maxRecDepth 20000 in
theorem gX4_putBest_X4_fillWaysLeft : GoodIn wsX4_putBest (wsV RX4 34 RX4 yX4_fillWaysLeft wsX4_fillWaysLeft) := goodIn_app (goodIn_of _ (by decide +kernel)) ggX4_putBest_X4_fillWaysLeft
set_option maxRecDepth 20000 in
theorem ggX4_putBest_X4_bestTurn : GoodIn wsX4_putBest wsX4_bestTurn := goodIn_r _ [57, 10, 58, 59, 60, 8, 61, 3, 4, 53, 62, 63, 64, 65, 66, 67, 68, 69, 70, 71, 78, 79, 80, 81, 82] (by decide +kernel) (by decide +kernel)
set_option maxRecDepth 20000 in
theorem gX4_putBest_X4_bestTurn : GoodIn wsX4_putBest (wsV RX4 37 RX4 yX4_bestTurn wsX4_bestTurn) := goodIn_app (goodIn_of _ (by decide +kernel)) ggX4_putBest_X4_bestTurn
set_option maxRecDepth 20000 in
theorem ggX4_putBest_X9_planAt : GoodIn wsX4_putBest wsX9_planAt := goodIn_r _ [75, 76, 77, 83, 84, 85, 86] (by decide +kernel) (by decide +kernel)
set_option maxRecDepth 20000 in
theorem gX4_putBest_X9_planAt : GoodIn wsX4_putBest (wsV RX4 41 RX9 yX9_planAt wsX9_planAt) := goodIn_app (goodIn_of _ (by decide +kernel)) ggX4_putBest_X9_planAt
theorem dX4_putBest_0 : decode cX4_putBest 0 = .ok (.aload_n 0, 1) := by decide +kernel
theorem dX4_putBest_1 : decode cX4_putBest 1 = .ok (.getfield 21, 3) := by decide +kernel
theorem dX4_putBest_4 : decode cX4_putBest 4 = .ok (.aload_n 1, 1) := by decide +kernel
theorem dX4_putBest_5 : decode cX4_putBest 5 = .ok (.getfield 25, 3) := by decide +kernel
theorem dX4_putBest_8 : decode cX4_putBest 8 = .ok (.if_icmp .eq 20, 3) := by decide +kernel
theorem dX4_putBest_11 : decode cX4_putBest 11 = .ok (.aload_n 0, 1) := by decide +kernel
theorem dX4_putBest_12 : decode cX4_putBest 12 = .ok (.aload_n 1, 1) := by decide +kernel
theorem dX4_putBest_13 : decode cX4_putBest 13 = .ok (.invokevirtual 30, 3) := by decide +kernel
theorem dX4_putBest_16 : decode cX4_putBest 16 = .ok (.aload_n 0, 1) := by decide +kernel
theorem dX4_putBest_17 : decode cX4_putBest 17 = .ok (.invokevirtual 34, 3) := by decide +kernel
theorem dX4_putBest_20 : decode cX4_putBest 20 = .ok (.aload_n 0, 1) := by decide +kernel
theorem dX4_putBest_21 : decode cX4_putBest 21 = .ok (.aload_n 1, 1) := by decide +kernel
theorem dX4_putBest_22 : decode cX4_putBest 22 = .ok (.getfield 25, 3) := by decide +kernel
theorem dX4_putBest_25 : decode cX4_putBest 25 = .ok (.putfield 21, 3) := by decide +kernel
theorem dX4_putBest_28 : decode cX4_putBest 28 = .ok (.iconst 0, 1) := by decide +kernel
theorem dX4_putBest_29 : decode cX4_putBest 29 = .ok (.istore_n 2, 1) := by decide +kernel
theorem dX4_putBest_30 : decode cX4_putBest 30 = .ok (.iconst 0, 1) := by decide +kernel
theorem dX4_putBest_31 : decode cX4_putBest 31 = .ok (.istore_n 3, 1) := by decide +kernel
theorem dX4_putBest_32 : decode cX4_putBest 32 = .ok (.iconst 0, 1) := by decide +kernel
theorem dX4_putBest_33 : decode cX4_putBest 33 = .ok (.istore 4, 2) := by decide +kernel
theorem dX4_putBest_35 : decode cX4_putBest 35 = .ok (.iconst 0, 1) := by decide +kernel
theorem dX4_putBest_36 : decode cX4_putBest 36 = .ok (.istore 5, 2) := by decide +kernel
theorem dX4_putBest_38 : decode cX4_putBest 38 = .ok (.iload 5, 2) := by decide +kernel
theorem dX4_putBest_40 : decode cX4_putBest 40 = .ok (.aload_n 1, 1) := by decide +kernel
theorem dX4_putBest_41 : decode cX4_putBest 41 = .ok (.getfield 25, 3) := by decide +kernel
theorem dX4_putBest_44 : decode cX4_putBest 44 = .ok (.if_icmp .ge 75, 3) := by decide +kernel
theorem dX4_putBest_47 : decode cX4_putBest 47 = .ok (.aload_n 0, 1) := by decide +kernel
theorem dX4_putBest_48 : decode cX4_putBest 48 = .ok (.iload_n 2, 1) := by decide +kernel
theorem dX4_putBest_49 : decode cX4_putBest 49 = .ok (.iload_n 3, 1) := by decide +kernel
theorem dX4_putBest_50 : decode cX4_putBest 50 = .ok (.iload 4, 2) := by decide +kernel
theorem dX4_putBest_52 : decode cX4_putBest 52 = .ok (.invokevirtual 37, 3) := by decide +kernel
theorem dX4_putBest_55 : decode cX4_putBest 55 = .ok (.istore 6, 2) := by decide +kernel
theorem dX4_putBest_57 : decode cX4_putBest 57 = .ok (.iload 6, 2) := by decide +kernel
theorem dX4_putBest_59 : decode cX4_putBest 59 = .ok (.ifCond .lt 54, 3) := by decide +kernel
theorem dX4_putBest_62 : decode cX4_putBest 62 = .ok (.iload 6, 2) := by decide +kernel
theorem dX4_putBest_64 : decode cX4_putBest 64 = .ok (.bipush 16, 2) := by decide +kernel
theorem dX4_putBest_66 : decode cX4_putBest 66 = .ok (.if_icmp .ge 47, 3) := by decide +kernel
theorem dX4_putBest_69 : decode cX4_putBest 69 = .ok (.aload_n 1, 1) := by decide +kernel
theorem dX4_putBest_70 : decode cX4_putBest 70 = .ok (.iload 5, 2) := by decide +kernel
theorem dX4_putBest_72 : decode cX4_putBest 72 = .ok (.iload 6, 2) := by decide +kernel
theorem dX4_putBest_74 : decode cX4_putBest 74 = .ok (.iconst 2, 1) := by decide +kernel
theorem dX4_putBest_75 : decode cX4_putBest 75 = .ok (.idiv, 1) := by decide +kernel
theorem dX4_putBest_76 : decode cX4_putBest 76 = .ok (.iload 6, 2) := by decide +kernel
theorem dX4_putBest_78 : decode cX4_putBest 78 = .ok (.iconst 2, 1) := by decide +kernel
theorem dX4_putBest_79 : decode cX4_putBest 79 = .ok (.irem, 1) := by decide +kernel
theorem dX4_putBest_80 : decode cX4_putBest 80 = .ok (.invokevirtual 41, 3) := by decide +kernel
theorem dX4_putBest_83 : decode cX4_putBest 83 = .ok (.iload_n 2, 1) := by decide +kernel
theorem dX4_putBest_84 : decode cX4_putBest 84 = .ok (.iconst 1, 1) := by decide +kernel
theorem dX4_putBest_85 : decode cX4_putBest 85 = .ok (.iload 6, 2) := by decide +kernel
theorem dX4_putBest_87 : decode cX4_putBest 87 = .ok (.iconst 2, 1) := by decide +kernel
theorem dX4_putBest_88 : decode cX4_putBest 88 = .ok (.idiv, 1) := by decide +kernel
theorem dX4_putBest_89 : decode cX4_putBest 89 = .ok (.ishl, 1) := by decide +kernel
theorem dX4_putBest_90 : decode cX4_putBest 90 = .ok (.ior, 1) := by decide +kernel
theorem dX4_putBest_91 : decode cX4_putBest 91 = .ok (.istore_n 2, 1) := by decide +kernel
theorem dX4_putBest_92 : decode cX4_putBest 92 = .ok (.aload_n 0, 1) := by decide +kernel
theorem dX4_putBest_93 : decode cX4_putBest 93 = .ok (.getfield 11, 3) := by decide +kernel
theorem dX4_putBest_96 : decode cX4_putBest 96 = .ok (.iload 6, 2) := by decide +kernel
theorem dX4_putBest_98 : decode cX4_putBest 98 = .ok (.iconst 1, 1) := by decide +kernel
theorem dX4_putBest_99 : decode cX4_putBest 99 = .ok (.ixor, 1) := by decide +kernel
theorem dX4_putBest_100 : decode cX4_putBest 100 = .ok (.iaload, 1) := by decide +kernel
theorem dX4_putBest_101 : decode cX4_putBest 101 = .ok (.istore_n 3, 1) := by decide +kernel
theorem dX4_putBest_102 : decode cX4_putBest 102 = .ok (.aload_n 0, 1) := by decide +kernel
theorem dX4_putBest_103 : decode cX4_putBest 103 = .ok (.getfield 15, 3) := by decide +kernel
theorem dX4_putBest_106 : decode cX4_putBest 106 = .ok (.iload 6, 2) := by decide +kernel
theorem dX4_putBest_108 : decode cX4_putBest 108 = .ok (.iconst 1, 1) := by decide +kernel
theorem dX4_putBest_109 : decode cX4_putBest 109 = .ok (.ixor, 1) := by decide +kernel
theorem dX4_putBest_110 : decode cX4_putBest 110 = .ok (.iaload, 1) := by decide +kernel
theorem dX4_putBest_111 : decode cX4_putBest 111 = .ok (.istore 4, 2) := by decide +kernel
theorem dX4_putBest_113 : decode cX4_putBest 113 = .ok (.iinc 5 1, 3) := by decide +kernel
theorem dX4_putBest_116 : decode cX4_putBest 116 = .ok (.goto (-78), 3) := by decide +kernel
theorem dX4_putBest_119 : decode cX4_putBest 119 = .ok (.return_, 1) := by decide +kernel
set_option maxRecDepth 20000 in
theorem ggX4_takeEnds_X9_at : GoodIn wsX4_takeEnds wsX9_at := goodIn_r _ [9, 10, 11, 43, 44, 45, 46] (by decide +kernel) (by decide +kernel)
set_option maxRecDepth 20000 in
theorem gX4_takeEnds_X9_at : GoodIn wsX4_takeEnds (wsV RX4 48 RX9 yX9_at wsX9_at) := goodIn_app (goodIn_of _ (by decide +kernel)) ggX4_takeEnds_X9_at
set_option maxRecDepth 20000 in
theorem ggX4_takeEnds_X8_gone : GoodIn wsX4_takeEnds wsX8_gone := goodIn_r _ [17, 18, 19, 20, 21, 16, 22, 23, 24, 25, 52, 53, 54, 55, 56, 57] (by decide +kernel) (by decide +kernel)
set_option maxRecDepth 20000 in
theorem gX4_takeEnds_X8_gone_u52X1 : GoodIn wsX4_takeEnds (va_wsU RX4 52 RX1 "LightLines$Stroke" ⟨"LightLines$Stroke", "gone", "(II)I"⟩ yX8_gone wsX8_gone) := goodIn_app (goodIn_of _ (by decide +kernel)) ggX4_takeEnds_X8_gone
set_option maxRecDepth 20000 in
theorem gX4_takeEnds_X8_gone_u52X2 : GoodIn wsX4_takeEnds (va_wsU RX4 52 RX2 "LightLines$Stroke" ⟨"LightLines$Stroke", "gone", "(II)I"⟩ yX8_gone wsX8_gone) := goodIn_app (goodIn_of _ (by decide +kernel)) ggX4_takeEnds_X8_gone
set_option maxRecDepth 20000 in
theorem gX4_takeEnds_X8_gone_u52X7 : GoodIn wsX4_takeEnds (va_wsU RX4 52 RX7 "LightLines$Stroke" ⟨"LightLines$Stroke", "gone", "(II)I"⟩ yX8_gone wsX8_gone) := goodIn_app (goodIn_of _ (by decide +kernel)) ggX4_takeEnds_X8_gone
set_option maxRecDepth 20000 in
theorem ggX4_takeEnds_X8_xAt : GoodIn wsX4_takeEnds wsX8_xAt := goodIn_r _ [32, 23, 52, 53, 54, 55, 56, 57] (by decide +kernel) (by decide +kernel)
set_option maxRecDepth 20000 in
theorem gX4_takeEnds_X8_xAt_u58X1 : GoodIn wsX4_takeEnds (va_wsU RX4 58 RX1 "LightLines$Stroke" ⟨"LightLines$Stroke", "xAt", "(I)I"⟩ yX8_xAt wsX8_xAt) := goodIn_app (goodIn_of _ (by decide +kernel)) ggX4_takeEnds_X8_xAt
set_option maxRecDepth 20000 in
theorem gX4_takeEnds_X8_xAt_u58X2 : GoodIn wsX4_takeEnds (va_wsU RX4 58 RX2 "LightLines$Stroke" ⟨"LightLines$Stroke", "xAt", "(I)I"⟩ yX8_xAt wsX8_xAt) := goodIn_app (goodIn_of _ (by decide +kernel)) ggX4_takeEnds_X8_xAt
set_option maxRecDepth 20000 in
theorem gX4_takeEnds_X8_xAt_u58X7 : GoodIn wsX4_takeEnds (va_wsU RX4 58 RX7 "LightLines$Stroke" ⟨"LightLines$Stroke", "xAt", "(I)I"⟩ yX8_xAt wsX8_xAt) := goodIn_app (goodIn_of _ (by decide +kernel)) ggX4_takeEnds_X8_xAt
set_option maxRecDepth 20000 in
theorem ggX4_takeEnds_X8_yAt : GoodIn wsX4_takeEnds wsX8_yAt := goodIn_r _ [39, 40, 52, 53, 54, 55, 56, 57] (by decide +kernel) (by decide +kernel)
set_option maxRecDepth 20000 in
theorem gX4_takeEnds_X8_yAt_u62X1 : GoodIn wsX4_takeEnds (va_wsU RX4 62 RX1 "LightLines$Stroke" ⟨"LightLines$Stroke", "yAt", "(I)I"⟩ yX8_yAt wsX8_yAt) := goodIn_app (goodIn_of _ (by decide +kernel)) ggX4_takeEnds_X8_yAt
set_option maxRecDepth 20000 in
theorem gX4_takeEnds_X8_yAt_u62X2 : GoodIn wsX4_takeEnds (va_wsU RX4 62 RX2 "LightLines$Stroke" ⟨"LightLines$Stroke", "yAt", "(I)I"⟩ yX8_yAt wsX8_yAt) := goodIn_app (goodIn_of _ (by decide +kernel)) ggX4_takeEnds_X8_yAt
set_option maxRecDepth 20000 in
theorem gX4_takeEnds_X8_yAt_u62X7 : GoodIn wsX4_takeEnds (va_wsU RX4 62 RX7 "LightLines$Stroke" ⟨"LightLines$Stroke", "yAt", "(I)I"⟩ yX8_yAt wsX8_yAt) := goodIn_app (goodIn_of _ (by decide +kernel)) ggX4_takeEnds_X8_yAt
theorem dX4_takeEnds_0 : decode cX4_takeEnds 0 = .ok (.aload_n 0, 1) := by decide +kernel
theorem dX4_takeEnds_1 : decode cX4_takeEnds 1 = .ok (.iconst 2, 1) := by decide +kernel
theorem dX4_takeEnds_2 : decode cX4_takeEnds 2 = .ok (.aload_n 1, 1) := by decide +kernel
theorem dX4_takeEnds_3 : decode cX4_takeEnds 3 = .ok (.getfield 25, 3) := by decide +kernel
theorem dX4_takeEnds_6 : decode cX4_takeEnds 6 = .ok (.imul, 1) := by decide +kernel
theorem dX4_takeEnds_7 : decode cX4_takeEnds 7 = .ok (.putfield 45, 3) := by decide +kernel
theorem dX4_takeEnds_10 : decode cX4_takeEnds 10 = .ok (.iconst 0, 1) := by decide +kernel
theorem dX4_takeEnds_11 : decode cX4_takeEnds 11 = .ok (.istore_n 2, 1) := by decide +kernel
theorem dX4_takeEnds_12 : decode cX4_takeEnds 12 = .ok (.iload_n 2, 1) := by decide +kernel
theorem dX4_takeEnds_13 : decode cX4_takeEnds 13 = .ok (.aload_n 0, 1) := by decide +kernel
theorem dX4_takeEnds_14 : decode cX4_takeEnds 14 = .ok (.getfield 45, 3) := by decide +kernel
theorem dX4_takeEnds_17 : decode cX4_takeEnds 17 = .ok (.if_icmp .ge 61, 3) := by decide +kernel
theorem dX4_takeEnds_20 : decode cX4_takeEnds 20 = .ok (.iload_n 2, 1) := by decide +kernel
theorem dX4_takeEnds_21 : decode cX4_takeEnds 21 = .ok (.bipush 16, 2) := by decide +kernel
theorem dX4_takeEnds_23 : decode cX4_takeEnds 23 = .ok (.if_icmp .ge 55, 3) := by decide +kernel
theorem dX4_takeEnds_26 : decode cX4_takeEnds 26 = .ok (.aload_n 1, 1) := by decide +kernel
theorem dX4_takeEnds_27 : decode cX4_takeEnds 27 = .ok (.iload_n 2, 1) := by decide +kernel
theorem dX4_takeEnds_28 : decode cX4_takeEnds 28 = .ok (.iconst 2, 1) := by decide +kernel
theorem dX4_takeEnds_29 : decode cX4_takeEnds 29 = .ok (.idiv, 1) := by decide +kernel
theorem dX4_takeEnds_30 : decode cX4_takeEnds 30 = .ok (.invokevirtual 48, 3) := by decide +kernel
theorem dX4_takeEnds_33 : decode cX4_takeEnds 33 = .ok (.astore_n 3, 1) := by decide +kernel
theorem dX4_takeEnds_34 : decode cX4_takeEnds 34 = .ok (.aload_n 3, 1) := by decide +kernel
theorem dX4_takeEnds_35 : decode cX4_takeEnds 35 = .ok (.ifnull 37, 3) := by decide +kernel
theorem dX4_takeEnds_38 : decode cX4_takeEnds 38 = .ok (.aload_n 3, 1) := by decide +kernel
theorem dX4_takeEnds_39 : decode cX4_takeEnds 39 = .ok (.iconst 0, 1) := by decide +kernel
theorem dX4_takeEnds_40 : decode cX4_takeEnds 40 = .ok (.iload_n 2, 1) := by decide +kernel
theorem dX4_takeEnds_41 : decode cX4_takeEnds 41 = .ok (.iconst 2, 1) := by decide +kernel
theorem dX4_takeEnds_42 : decode cX4_takeEnds 42 = .ok (.irem, 1) := by decide +kernel
theorem dX4_takeEnds_43 : decode cX4_takeEnds 43 = .ok (.invokevirtual 52, 3) := by decide +kernel
theorem dX4_takeEnds_46 : decode cX4_takeEnds 46 = .ok (.istore 4, 2) := by decide +kernel
theorem dX4_takeEnds_48 : decode cX4_takeEnds 48 = .ok (.aload_n 0, 1) := by decide +kernel
theorem dX4_takeEnds_49 : decode cX4_takeEnds 49 = .ok (.getfield 11, 3) := by decide +kernel
theorem dX4_takeEnds_52 : decode cX4_takeEnds 52 = .ok (.iload_n 2, 1) := by decide +kernel
theorem dX4_takeEnds_53 : decode cX4_takeEnds 53 = .ok (.aload_n 3, 1) := by decide +kernel
theorem dX4_takeEnds_54 : decode cX4_takeEnds 54 = .ok (.iload 4, 2) := by decide +kernel
theorem dX4_takeEnds_56 : decode cX4_takeEnds 56 = .ok (.invokevirtual 58, 3) := by decide +kernel
theorem dX4_takeEnds_59 : decode cX4_takeEnds 59 = .ok (.iastore, 1) := by decide +kernel
theorem dX4_takeEnds_60 : decode cX4_takeEnds 60 = .ok (.aload_n 0, 1) := by decide +kernel
theorem dX4_takeEnds_61 : decode cX4_takeEnds 61 = .ok (.getfield 15, 3) := by decide +kernel
theorem dX4_takeEnds_64 : decode cX4_takeEnds 64 = .ok (.iload_n 2, 1) := by decide +kernel
theorem dX4_takeEnds_65 : decode cX4_takeEnds 65 = .ok (.aload_n 3, 1) := by decide +kernel
theorem dX4_takeEnds_66 : decode cX4_takeEnds 66 = .ok (.iload 4, 2) := by decide +kernel
theorem dX4_takeEnds_68 : decode cX4_takeEnds 68 = .ok (.invokevirtual 62, 3) := by decide +kernel
theorem dX4_takeEnds_71 : decode cX4_takeEnds 71 = .ok (.iastore, 1) := by decide +kernel
theorem dX4_takeEnds_72 : decode cX4_takeEnds 72 = .ok (.iinc 2 1, 3) := by decide +kernel
theorem dX4_takeEnds_75 : decode cX4_takeEnds 75 = .ok (.goto (-63), 3) := by decide +kernel
theorem dX4_takeEnds_78 : decode cX4_takeEnds 78 = .ok (.return_, 1) := by decide +kernel
set_option maxRecDepth 20000 in
theorem ggX4_fillWaysLeft_X4_bestTurn : GoodIn wsX4_fillWaysLeft wsX4_bestTurn := goodIn_r _ [9, 1, 10, 11, 12, 8, 13, 2, 3, 4, 14, 15, 16, 17, 18, 19, 20, 21, 22, 23, 24, 25, 26, 27, 28] (by decide +kernel) (by decide +kernel)
set_option maxRecDepth 20000 in
theorem gX4_fillWaysLeft_X4_bestTurn : GoodIn wsX4_fillWaysLeft (wsV RX4 37 RX4 yX4_bestTurn wsX4_bestTurn) := goodIn_app (goodIn_of _ (by decide +kernel)) ggX4_fillWaysLeft_X4_bestTurn
set_option maxRecDepth 20000 in
theorem ggX4_fillWaysLeft_X11_way : GoodIn wsX4_fillWaysLeft wsX11_way := goodIn_r _ [16, 17, 18, 19, 20, 21, 22, 23] (by decide +kernel) (by decide +kernel)
set_option maxRecDepth 20000 in
theorem gX4_fillWaysLeft_X11_way_n65 : GoodIn wsX4_fillWaysLeft (wsX11_way) := ggX4_fillWaysLeft_X11_way
set_option maxRecDepth 20000 in
theorem ggX4_fillWaysLeft_X4_wayThrough : GoodIn wsX4_fillWaysLeft wsX4_wayThrough := goodIn_r _ [13, 2, 3, 4, 14, 15, 16, 17, 18, 19, 20, 21, 22, 23, 24, 25, 26, 27, 28] (by decide +kernel) (by decide +kernel)
set_option maxRecDepth 20000 in
theorem gX4_fillWaysLeft_X4_wayThrough : GoodIn wsX4_fillWaysLeft (wsV RX4 69 RX4 yX4_wayThrough wsX4_wayThrough) := goodIn_app (goodIn_of _ (by decide +kernel)) ggX4_fillWaysLeft_X4_wayThrough
theorem dX4_fillWaysLeft_0 : decode cX4_fillWaysLeft 0 = .ok (.iconst 1, 1) := by decide +kernel
theorem dX4_fillWaysLeft_1 : decode cX4_fillWaysLeft 1 = .ok (.aload_n 0, 1) := by decide +kernel
theorem dX4_fillWaysLeft_2 : decode cX4_fillWaysLeft 2 = .ok (.getfield 45, 3) := by decide +kernel
theorem dX4_fillWaysLeft_5 : decode cX4_fillWaysLeft 5 = .ok (.iconst 2, 1) := by decide +kernel
theorem dX4_fillWaysLeft_6 : decode cX4_fillWaysLeft 6 = .ok (.idiv, 1) := by decide +kernel
theorem dX4_fillWaysLeft_7 : decode cX4_fillWaysLeft 7 = .ok (.ishl, 1) := by decide +kernel
theorem dX4_fillWaysLeft_8 : decode cX4_fillWaysLeft 8 = .ok (.iconst 1, 1) := by decide +kernel
theorem dX4_fillWaysLeft_9 : decode cX4_fillWaysLeft 9 = .ok (.isub, 1) := by decide +kernel
theorem dX4_fillWaysLeft_10 : decode cX4_fillWaysLeft 10 = .ok (.istore_n 1, 1) := by decide +kernel
theorem dX4_fillWaysLeft_11 : decode cX4_fillWaysLeft 11 = .ok (.iload_n 1, 1) := by decide +kernel
theorem dX4_fillWaysLeft_12 : decode cX4_fillWaysLeft 12 = .ok (.istore_n 2, 1) := by decide +kernel
theorem dX4_fillWaysLeft_13 : decode cX4_fillWaysLeft 13 = .ok (.iload_n 2, 1) := by decide +kernel
theorem dX4_fillWaysLeft_14 : decode cX4_fillWaysLeft 14 = .ok (.ifCond .le 105, 3) := by decide +kernel
theorem dX4_fillWaysLeft_17 : decode cX4_fillWaysLeft 17 = .ok (.iconst 0, 1) := by decide +kernel
theorem dX4_fillWaysLeft_18 : decode cX4_fillWaysLeft 18 = .ok (.istore_n 3, 1) := by decide +kernel
theorem dX4_fillWaysLeft_19 : decode cX4_fillWaysLeft 19 = .ok (.iload_n 3, 1) := by decide +kernel
theorem dX4_fillWaysLeft_20 : decode cX4_fillWaysLeft 20 = .ok (.aload_n 0, 1) := by decide +kernel
theorem dX4_fillWaysLeft_21 : decode cX4_fillWaysLeft 21 = .ok (.getfield 45, 3) := by decide +kernel
theorem dX4_fillWaysLeft_24 : decode cX4_fillWaysLeft 24 = .ok (.if_icmp .ge 89, 3) := by decide +kernel
theorem dX4_fillWaysLeft_27 : decode cX4_fillWaysLeft 27 = .ok (.iload_n 2, 1) := by decide +kernel
theorem dX4_fillWaysLeft_28 : decode cX4_fillWaysLeft 28 = .ok (.iload_n 3, 1) := by decide +kernel
theorem dX4_fillWaysLeft_29 : decode cX4_fillWaysLeft 29 = .ok (.iconst 2, 1) := by decide +kernel
theorem dX4_fillWaysLeft_30 : decode cX4_fillWaysLeft 30 = .ok (.idiv, 1) := by decide +kernel
theorem dX4_fillWaysLeft_31 : decode cX4_fillWaysLeft 31 = .ok (.ishr, 1) := by decide +kernel
theorem dX4_fillWaysLeft_32 : decode cX4_fillWaysLeft 32 = .ok (.iconst 1, 1) := by decide +kernel
theorem dX4_fillWaysLeft_33 : decode cX4_fillWaysLeft 33 = .ok (.iand, 1) := by decide +kernel
theorem dX4_fillWaysLeft_34 : decode cX4_fillWaysLeft 34 = .ok (.ifCond .eq 73, 3) := by decide +kernel
theorem dX4_fillWaysLeft_37 : decode cX4_fillWaysLeft 37 = .ok (.aload_n 0, 1) := by decide +kernel
theorem dX4_fillWaysLeft_38 : decode cX4_fillWaysLeft 38 = .ok (.getfield 11, 3) := by decide +kernel
theorem dX4_fillWaysLeft_41 : decode cX4_fillWaysLeft 41 = .ok (.iload_n 3, 1) := by decide +kernel
theorem dX4_fillWaysLeft_42 : decode cX4_fillWaysLeft 42 = .ok (.iconst 1, 1) := by decide +kernel
theorem dX4_fillWaysLeft_43 : decode cX4_fillWaysLeft 43 = .ok (.ixor, 1) := by decide +kernel
theorem dX4_fillWaysLeft_44 : decode cX4_fillWaysLeft 44 = .ok (.iaload, 1) := by decide +kernel
theorem dX4_fillWaysLeft_45 : decode cX4_fillWaysLeft 45 = .ok (.istore 4, 2) := by decide +kernel
theorem dX4_fillWaysLeft_47 : decode cX4_fillWaysLeft 47 = .ok (.aload_n 0, 1) := by decide +kernel
theorem dX4_fillWaysLeft_48 : decode cX4_fillWaysLeft 48 = .ok (.getfield 15, 3) := by decide +kernel
theorem dX4_fillWaysLeft_51 : decode cX4_fillWaysLeft 51 = .ok (.iload_n 3, 1) := by decide +kernel
theorem dX4_fillWaysLeft_52 : decode cX4_fillWaysLeft 52 = .ok (.iconst 1, 1) := by decide +kernel
theorem dX4_fillWaysLeft_53 : decode cX4_fillWaysLeft 53 = .ok (.ixor, 1) := by decide +kernel
theorem dX4_fillWaysLeft_54 : decode cX4_fillWaysLeft 54 = .ok (.iaload, 1) := by decide +kernel
theorem dX4_fillWaysLeft_55 : decode cX4_fillWaysLeft 55 = .ok (.istore 5, 2) := by decide +kernel
theorem dX4_fillWaysLeft_57 : decode cX4_fillWaysLeft 57 = .ok (.aload_n 0, 1) := by decide +kernel
theorem dX4_fillWaysLeft_58 : decode cX4_fillWaysLeft 58 = .ok (.iload_n 2, 1) := by decide +kernel
theorem dX4_fillWaysLeft_59 : decode cX4_fillWaysLeft 59 = .ok (.iload 4, 2) := by decide +kernel
theorem dX4_fillWaysLeft_61 : decode cX4_fillWaysLeft 61 = .ok (.iload 5, 2) := by decide +kernel
theorem dX4_fillWaysLeft_63 : decode cX4_fillWaysLeft 63 = .ok (.invokevirtual 37, 3) := by decide +kernel
theorem dX4_fillWaysLeft_66 : decode cX4_fillWaysLeft 66 = .ok (.istore 6, 2) := by decide +kernel
theorem dX4_fillWaysLeft_68 : decode cX4_fillWaysLeft 68 = .ok (.aload_n 0, 1) := by decide +kernel
theorem dX4_fillWaysLeft_69 : decode cX4_fillWaysLeft 69 = .ok (.getfield 18, 3) := by decide +kernel
theorem dX4_fillWaysLeft_72 : decode cX4_fillWaysLeft 72 = .ok (.iload_n 2, 1) := by decide +kernel
theorem dX4_fillWaysLeft_73 : decode cX4_fillWaysLeft 73 = .ok (.bipush 16, 2) := by decide +kernel
theorem dX4_fillWaysLeft_75 : decode cX4_fillWaysLeft 75 = .ok (.imul, 1) := by decide +kernel
theorem dX4_fillWaysLeft_76 : decode cX4_fillWaysLeft 76 = .ok (.iload_n 3, 1) := by decide +kernel
theorem dX4_fillWaysLeft_77 : decode cX4_fillWaysLeft 77 = .ok (.iadd, 1) := by decide +kernel
theorem dX4_fillWaysLeft_78 : decode cX4_fillWaysLeft 78 = .ok (.iload 6, 2) := by decide +kernel
theorem dX4_fillWaysLeft_80 : decode cX4_fillWaysLeft 80 = .ok (.ifCond .ge 15, 3) := by decide +kernel
theorem dX4_fillWaysLeft_83 : decode cX4_fillWaysLeft 83 = .ok (.iload 4, 2) := by decide +kernel
theorem dX4_fillWaysLeft_85 : decode cX4_fillWaysLeft 85 = .ok (.iload 5, 2) := by decide +kernel
theorem dX4_fillWaysLeft_87 : decode cX4_fillWaysLeft 87 = .ok (.iconst 0, 1) := by decide +kernel
theorem dX4_fillWaysLeft_88 : decode cX4_fillWaysLeft 88 = .ok (.iconst 0, 1) := by decide +kernel
theorem dX4_fillWaysLeft_89 : decode cX4_fillWaysLeft 89 = .ok (.invokestatic 65, 3) := by decide +kernel
theorem dX4_fillWaysLeft_92 : decode cX4_fillWaysLeft 92 = .ok (.goto 14, 3) := by decide +kernel
theorem dX4_fillWaysLeft_95 : decode cX4_fillWaysLeft 95 = .ok (.aload_n 0, 1) := by decide +kernel
theorem dX4_fillWaysLeft_96 : decode cX4_fillWaysLeft 96 = .ok (.iload_n 2, 1) := by decide +kernel
theorem dX4_fillWaysLeft_97 : decode cX4_fillWaysLeft 97 = .ok (.iload 4, 2) := by decide +kernel
theorem dX4_fillWaysLeft_99 : decode cX4_fillWaysLeft 99 = .ok (.iload 5, 2) := by decide +kernel
theorem dX4_fillWaysLeft_101 : decode cX4_fillWaysLeft 101 = .ok (.iload 6, 2) := by decide +kernel
theorem dX4_fillWaysLeft_103 : decode cX4_fillWaysLeft 103 = .ok (.invokevirtual 69, 3) := by decide +kernel
theorem dX4_fillWaysLeft_106 : decode cX4_fillWaysLeft 106 = .ok (.iastore, 1) := by decide +kernel
theorem dX4_fillWaysLeft_107 : decode cX4_fillWaysLeft 107 = .ok (.iinc 3 1, 3) := by decide +kernel
theorem dX4_fillWaysLeft_110 : decode cX4_fillWaysLeft 110 = .ok (.goto (-91), 3) := by decide +kernel
theorem dX4_fillWaysLeft_113 : decode cX4_fillWaysLeft 113 = .ok (.iinc 2 (-1), 3) := by decide +kernel
theorem dX4_fillWaysLeft_116 : decode cX4_fillWaysLeft 116 = .ok (.goto (-103), 3) := by decide +kernel
theorem dX4_fillWaysLeft_119 : decode cX4_fillWaysLeft 119 = .ok (.return_, 1) := by decide +kernel
set_option maxRecDepth 20000 in
theorem ggX4_bestTurn_X4_wayThrough : GoodIn wsX4_bestTurn wsX4_wayThrough := goodIn_r _ [6, 7, 8, 9, 10, 11, 12, 13, 14, 15, 16, 17, 18, 19, 20, 21, 22, 23, 24] (by decide +kernel) (by decide +kernel)
set_option maxRecDepth 20000 in
theorem gX4_bestTurn_X4_wayThrough : GoodIn wsX4_bestTurn (wsV RX4 69 RX4 yX4_wayThrough wsX4_wayThrough) := goodIn_app (goodIn_of _ (by decide +kernel)) ggX4_bestTurn_X4_wayThrough
theorem dX4_bestTurn_0 : decode cX4_bestTurn 0 = .ok (.iconst (-1), 1) := by decide +kernel
theorem dX4_bestTurn_1 : decode cX4_bestTurn 1 = .ok (.istore 4, 2) := by decide +kernel
theorem dX4_bestTurn_3 : decode cX4_bestTurn 3 = .ok (.iconst 0, 1) := by decide +kernel
theorem dX4_bestTurn_4 : decode cX4_bestTurn 4 = .ok (.istore 5, 2) := by decide +kernel
theorem dX4_bestTurn_6 : decode cX4_bestTurn 6 = .ok (.iconst 0, 1) := by decide +kernel
theorem dX4_bestTurn_7 : decode cX4_bestTurn 7 = .ok (.istore 6, 2) := by decide +kernel
theorem dX4_bestTurn_9 : decode cX4_bestTurn 9 = .ok (.iload 6, 2) := by decide +kernel
theorem dX4_bestTurn_11 : decode cX4_bestTurn 11 = .ok (.aload_n 0, 1) := by decide +kernel
theorem dX4_bestTurn_12 : decode cX4_bestTurn 12 = .ok (.getfield 45, 3) := by decide +kernel
theorem dX4_bestTurn_15 : decode cX4_bestTurn 15 = .ok (.if_icmp .ge 51, 3) := by decide +kernel
theorem dX4_bestTurn_18 : decode cX4_bestTurn 18 = .ok (.iload_n 1, 1) := by decide +kernel
theorem dX4_bestTurn_19 : decode cX4_bestTurn 19 = .ok (.iload 6, 2) := by decide +kernel
theorem dX4_bestTurn_21 : decode cX4_bestTurn 21 = .ok (.iconst 2, 1) := by decide +kernel
theorem dX4_bestTurn_22 : decode cX4_bestTurn 22 = .ok (.idiv, 1) := by decide +kernel
theorem dX4_bestTurn_23 : decode cX4_bestTurn 23 = .ok (.ishr, 1) := by decide +kernel
theorem dX4_bestTurn_24 : decode cX4_bestTurn 24 = .ok (.iconst 1, 1) := by decide +kernel
theorem dX4_bestTurn_25 : decode cX4_bestTurn 25 = .ok (.iand, 1) := by decide +kernel
theorem dX4_bestTurn_26 : decode cX4_bestTurn 26 = .ok (.ifCond .ne 34, 3) := by decide +kernel
theorem dX4_bestTurn_29 : decode cX4_bestTurn 29 = .ok (.aload_n 0, 1) := by decide +kernel
theorem dX4_bestTurn_30 : decode cX4_bestTurn 30 = .ok (.iload_n 1, 1) := by decide +kernel
theorem dX4_bestTurn_31 : decode cX4_bestTurn 31 = .ok (.iload_n 2, 1) := by decide +kernel
theorem dX4_bestTurn_32 : decode cX4_bestTurn 32 = .ok (.iload_n 3, 1) := by decide +kernel
theorem dX4_bestTurn_33 : decode cX4_bestTurn 33 = .ok (.iload 6, 2) := by decide +kernel
theorem dX4_bestTurn_35 : decode cX4_bestTurn 35 = .ok (.invokevirtual 69, 3) := by decide +kernel
theorem dX4_bestTurn_38 : decode cX4_bestTurn 38 = .ok (.istore 7, 2) := by decide +kernel
theorem dX4_bestTurn_40 : decode cX4_bestTurn 40 = .ok (.iload 4, 2) := by decide +kernel
theorem dX4_bestTurn_42 : decode cX4_bestTurn 42 = .ok (.ifCond .lt 10, 3) := by decide +kernel
theorem dX4_bestTurn_45 : decode cX4_bestTurn 45 = .ok (.iload 7, 2) := by decide +kernel
theorem dX4_bestTurn_47 : decode cX4_bestTurn 47 = .ok (.iload 5, 2) := by decide +kernel
theorem dX4_bestTurn_49 : decode cX4_bestTurn 49 = .ok (.if_icmp .ge 11, 3) := by decide +kernel
theorem dX4_bestTurn_52 : decode cX4_bestTurn 52 = .ok (.iload 6, 2) := by decide +kernel
theorem dX4_bestTurn_54 : decode cX4_bestTurn 54 = .ok (.istore 4, 2) := by decide +kernel
theorem dX4_bestTurn_56 : decode cX4_bestTurn 56 = .ok (.iload 7, 2) := by decide +kernel
theorem dX4_bestTurn_58 : decode cX4_bestTurn 58 = .ok (.istore 5, 2) := by decide +kernel
theorem dX4_bestTurn_60 : decode cX4_bestTurn 60 = .ok (.iinc 6 1, 3) := by decide +kernel
theorem dX4_bestTurn_63 : decode cX4_bestTurn 63 = .ok (.goto (-54), 3) := by decide +kernel
theorem dX4_bestTurn_66 : decode cX4_bestTurn 66 = .ok (.iload 4, 2) := by decide +kernel
theorem dX4_bestTurn_68 : decode cX4_bestTurn 68 = .ok (.ireturn, 1) := by decide +kernel
set_option maxRecDepth 20000 in
theorem ggX4_wayThrough_X11_way : GoodIn wsX4_wayThrough wsX11_way := goodIn_r _ [6, 7, 8, 9, 10, 11, 12, 13] (by decide +kernel) (by decide +kernel)
set_option maxRecDepth 20000 in
theorem gX4_wayThrough_X11_way_n65 : GoodIn wsX4_wayThrough (wsX11_way) := ggX4_wayThrough_X11_way
theorem dX4_wayThrough_0 : decode cX4_wayThrough 0 = .ok (.iload_n 1, 1) := by decide +kernel
theorem dX4_wayThrough_1 : decode cX4_wayThrough 1 = .ok (.iconst 1, 1) := by decide +kernel
theorem dX4_wayThrough_2 : decode cX4_wayThrough 2 = .ok (.iload 4, 2) := by decide +kernel
theorem dX4_wayThrough_4 : decode cX4_wayThrough 4 = .ok (.iconst 2, 1) := by decide +kernel
theorem dX4_wayThrough_5 : decode cX4_wayThrough 5 = .ok (.idiv, 1) := by decide +kernel
theorem dX4_wayThrough_6 : decode cX4_wayThrough 6 = .ok (.ishl, 1) := by decide +kernel
theorem dX4_wayThrough_7 : decode cX4_wayThrough 7 = .ok (.ior, 1) := by decide +kernel
theorem dX4_wayThrough_8 : decode cX4_wayThrough 8 = .ok (.istore 5, 2) := by decide +kernel
theorem dX4_wayThrough_10 : decode cX4_wayThrough 10 = .ok (.iload_n 2, 1) := by decide +kernel
theorem dX4_wayThrough_11 : decode cX4_wayThrough 11 = .ok (.iload_n 3, 1) := by decide +kernel
theorem dX4_wayThrough_12 : decode cX4_wayThrough 12 = .ok (.aload_n 0, 1) := by decide +kernel
theorem dX4_wayThrough_13 : decode cX4_wayThrough 13 = .ok (.getfield 11, 3) := by decide +kernel
theorem dX4_wayThrough_16 : decode cX4_wayThrough 16 = .ok (.iload 4, 2) := by decide +kernel
theorem dX4_wayThrough_18 : decode cX4_wayThrough 18 = .ok (.iaload, 1) := by decide +kernel
theorem dX4_wayThrough_19 : decode cX4_wayThrough 19 = .ok (.aload_n 0, 1) := by decide +kernel
theorem dX4_wayThrough_20 : decode cX4_wayThrough 20 = .ok (.getfield 15, 3) := by decide +kernel
theorem dX4_wayThrough_23 : decode cX4_wayThrough 23 = .ok (.iload 4, 2) := by decide +kernel
theorem dX4_wayThrough_25 : decode cX4_wayThrough 25 = .ok (.iaload, 1) := by decide +kernel
theorem dX4_wayThrough_26 : decode cX4_wayThrough 26 = .ok (.invokestatic 65, 3) := by decide +kernel
theorem dX4_wayThrough_29 : decode cX4_wayThrough 29 = .ok (.aload_n 0, 1) := by decide +kernel
theorem dX4_wayThrough_30 : decode cX4_wayThrough 30 = .ok (.getfield 18, 3) := by decide +kernel
theorem dX4_wayThrough_33 : decode cX4_wayThrough 33 = .ok (.iload 5, 2) := by decide +kernel
theorem dX4_wayThrough_35 : decode cX4_wayThrough 35 = .ok (.bipush 16, 2) := by decide +kernel
theorem dX4_wayThrough_37 : decode cX4_wayThrough 37 = .ok (.imul, 1) := by decide +kernel
theorem dX4_wayThrough_38 : decode cX4_wayThrough 38 = .ok (.iload 4, 2) := by decide +kernel
theorem dX4_wayThrough_40 : decode cX4_wayThrough 40 = .ok (.iadd, 1) := by decide +kernel
theorem dX4_wayThrough_41 : decode cX4_wayThrough 41 = .ok (.iaload, 1) := by decide +kernel
theorem dX4_wayThrough_42 : decode cX4_wayThrough 42 = .ok (.iadd, 1) := by decide +kernel
theorem dX4_wayThrough_43 : decode cX4_wayThrough 43 = .ok (.ireturn, 1) := by decide +kernel
theorem dX5_init_0 : decode cX5_init 0 = .ok (.aload_n 0, 1) := by decide +kernel
theorem dX5_init_1 : decode cX5_init 1 = .ok (.invokespecial 3, 3) := by decide +kernel
theorem dX5_init_4 : decode cX5_init 4 = .ok (.aload_n 0, 1) := by decide +kernel
theorem dX5_init_5 : decode cX5_init 5 = .ok (.bipush 40, 2) := by decide +kernel
theorem dX5_init_7 : decode cX5_init 7 = .ok (.newarray .int, 2) := by decide +kernel
theorem dX5_init_9 : decode cX5_init 9 = .ok (.putfield 9, 3) := by decide +kernel
theorem dX5_init_12 : decode cX5_init 12 = .ok (.aload_n 0, 1) := by decide +kernel
theorem dX5_init_13 : decode cX5_init 13 = .ok (.iconst (-1), 1) := by decide +kernel
theorem dX5_init_14 : decode cX5_init 14 = .ok (.putfield 15, 3) := by decide +kernel
theorem dX5_init_17 : decode cX5_init 17 = .ok (.return_, 1) := by decide +kernel
theorem dX5_isMissing_0 : decode cX5_isMissing 0 = .ok (.aload_n 0, 1) := by decide +kernel
theorem dX5_isMissing_1 : decode cX5_isMissing 1 = .ok (.getfield 15, 3) := by decide +kernel
theorem dX5_isMissing_4 : decode cX5_isMissing 4 = .ok (.iconst (-1), 1) := by decide +kernel
theorem dX5_isMissing_5 : decode cX5_isMissing 5 = .ok (.if_icmp .ne 7, 3) := by decide +kernel
theorem dX5_isMissing_8 : decode cX5_isMissing 8 = .ok (.iconst 1, 1) := by decide +kernel
theorem dX5_isMissing_9 : decode cX5_isMissing 9 = .ok (.goto 4, 3) := by decide +kernel
theorem dX5_isMissing_12 : decode cX5_isMissing 12 = .ok (.iconst 0, 1) := by decide +kernel
theorem dX5_isMissing_13 : decode cX5_isMissing 13 = .ok (.ireturn, 1) := by decide +kernel
set_option maxRecDepth 20000 in
theorem ggX5_lay_J7_fill_53178 : GoodIn wsX5_lay wsJ7_fill_53178 := goodIn_r _ [7] (by decide +kernel) (by decide +kernel)
set_option maxRecDepth 20000 in
theorem gX5_lay_J7_fill_53178 : GoodIn wsX5_lay (va_wsS RX5 19 yJ7_fill_53178 wsJ7_fill_53178) := goodIn_app (goodIn_of _ (by decide +kernel)) ggX5_lay_J7_fill_53178
theorem dX5_lay_0 : decode cX5_lay 0 = .ok (.aload_n 0, 1) := by decide +kernel
theorem dX5_lay_1 : decode cX5_lay 1 = .ok (.getfield 9, 3) := by decide +kernel
theorem dX5_lay_4 : decode cX5_lay 4 = .ok (.iconst 0, 1) := by decide +kernel
theorem dX5_lay_5 : decode cX5_lay 5 = .ok (.invokestatic 19, 3) := by decide +kernel
theorem dX5_lay_8 : decode cX5_lay 8 = .ok (.aload_n 0, 1) := by decide +kernel
theorem dX5_lay_9 : decode cX5_lay 9 = .ok (.iload_n 1, 1) := by decide +kernel
theorem dX5_lay_10 : decode cX5_lay 10 = .ok (.putfield 15, 3) := by decide +kernel
theorem dX5_lay_13 : decode cX5_lay 13 = .ok (.aload_n 0, 1) := by decide +kernel
theorem dX5_lay_14 : decode cX5_lay 14 = .ok (.iload_n 2, 1) := by decide +kernel
theorem dX5_lay_15 : decode cX5_lay 15 = .ok (.putfield 25, 3) := by decide +kernel
theorem dX5_lay_18 : decode cX5_lay 18 = .ok (.return_, 1) := by decide +kernel
theorem dX5_has_0 : decode cX5_has 0 = .ok (.iload_n 1, 1) := by decide +kernel
theorem dX5_has_1 : decode cX5_has 1 = .ok (.ifCond .lt 21, 3) := by decide +kernel
theorem dX5_has_4 : decode cX5_has 4 = .ok (.iload_n 2, 1) := by decide +kernel
theorem dX5_has_5 : decode cX5_has 5 = .ok (.ifCond .lt 17, 3) := by decide +kernel
theorem dX5_has_8 : decode cX5_has 8 = .ok (.iload_n 1, 1) := by decide +kernel
theorem dX5_has_9 : decode cX5_has 9 = .ok (.aload_n 0, 1) := by decide +kernel
theorem dX5_has_10 : decode cX5_has 10 = .ok (.getfield 25, 3) := by decide +kernel
theorem dX5_has_13 : decode cX5_has 13 = .ok (.iload_n 2, 1) := by decide +kernel
theorem dX5_has_14 : decode cX5_has 14 = .ok (.isub, 1) := by decide +kernel
theorem dX5_has_15 : decode cX5_has 15 = .ok (.if_icmp .gt 7, 3) := by decide +kernel
theorem dX5_has_18 : decode cX5_has 18 = .ok (.iconst 1, 1) := by decide +kernel
theorem dX5_has_19 : decode cX5_has 19 = .ok (.goto 4, 3) := by decide +kernel
theorem dX5_has_22 : decode cX5_has 22 = .ok (.iconst 0, 1) := by decide +kernel
theorem dX5_has_23 : decode cX5_has 23 = .ok (.ireturn, 1) := by decide +kernel
set_option maxRecDepth 20000 in
theorem ggX5_item_X5_has : GoodIn wsX5_item wsX5_has := goodIn_r _ [6, 7, 8, 9, 10] (by decide +kernel) (by decide +kernel)
set_option maxRecDepth 20000 in
theorem gX5_item_X5_has : GoodIn wsX5_item (wsV RX5 28 RX5 yX5_has wsX5_has) := goodIn_app (goodIn_of _ (by decide +kernel)) ggX5_item_X5_has
theorem dX5_item_0 : decode cX5_item 0 = .ok (.aload_n 0, 1) := by decide +kernel
theorem dX5_item_1 : decode cX5_item 1 = .ok (.iload_n 1, 1) := by decide +kernel
theorem dX5_item_2 : decode cX5_item 2 = .ok (.iconst 1, 1) := by decide +kernel
theorem dX5_item_3 : decode cX5_item 3 = .ok (.invokevirtual 28, 3) := by decide +kernel
theorem dX5_item_6 : decode cX5_item 6 = .ok (.ifCond .eq 12, 3) := by decide +kernel
theorem dX5_item_9 : decode cX5_item 9 = .ok (.aload_n 0, 1) := by decide +kernel
theorem dX5_item_10 : decode cX5_item 10 = .ok (.getfield 9, 3) := by decide +kernel
theorem dX5_item_13 : decode cX5_item 13 = .ok (.iload_n 1, 1) := by decide +kernel
theorem dX5_item_14 : decode cX5_item 14 = .ok (.iaload, 1) := by decide +kernel
theorem dX5_item_15 : decode cX5_item 15 = .ok (.goto 4, 3) := by decide +kernel
theorem dX5_item_18 : decode cX5_item 18 = .ok (.iconst 0, 1) := by decide +kernel
theorem dX5_item_19 : decode cX5_item 19 = .ok (.ireturn, 1) := by decide +kernel
set_option maxRecDepth 20000 in
theorem ggX5_put_X5_has : GoodIn wsX5_put wsX5_has := goodIn_r _ [6, 7, 17, 18, 19] (by decide +kernel) (by decide +kernel)
set_option maxRecDepth 20000 in
theorem gX5_put_X5_has : GoodIn wsX5_put (wsV RX5 28 RX5 yX5_has wsX5_has) := goodIn_app (goodIn_of _ (by decide +kernel)) ggX5_put_X5_has
set_option maxRecDepth 20000 in
theorem ggX5_put_X5_narrowed : GoodIn wsX5_put wsX5_narrowed := goodIn_r _ [11, 12, 17, 18, 19] (by decide +kernel) (by decide +kernel)
set_option maxRecDepth 20000 in
theorem gX5_put_X5_narrowed : GoodIn wsX5_put (wsV RX5 32 RX5 yX5_narrowed wsX5_narrowed) := goodIn_app (goodIn_of _ (by decide +kernel)) ggX5_put_X5_narrowed
set_option maxRecDepth 20000 in
theorem ggX5_put_X5_item : GoodIn wsX5_put wsX5_item := goodIn_r _ [16, 1, 2, 3, 4, 5, 6, 7, 17, 18, 19] (by decide +kernel) (by decide +kernel)
set_option maxRecDepth 20000 in
theorem gX5_put_X5_item : GoodIn wsX5_put (wsV RX5 36 RX5 yX5_item wsX5_item) := goodIn_app (goodIn_of _ (by decide +kernel)) ggX5_put_X5_item
theorem dX5_put_0 : decode cX5_put 0 = .ok (.aload_n 0, 1) := by decide +kernel
theorem dX5_put_1 : decode cX5_put 1 = .ok (.iload_n 1, 1) := by decide +kernel
theorem dX5_put_2 : decode cX5_put 2 = .ok (.iconst 1, 1) := by decide +kernel
theorem dX5_put_3 : decode cX5_put 3 = .ok (.invokevirtual 28, 3) := by decide +kernel
theorem dX5_put_6 : decode cX5_put 6 = .ok (.ifCond .eq 14, 3) := by decide +kernel
theorem dX5_put_9 : decode cX5_put 9 = .ok (.aload_n 0, 1) := by decide +kernel
theorem dX5_put_10 : decode cX5_put 10 = .ok (.getfield 9, 3) := by decide +kernel
theorem dX5_put_13 : decode cX5_put 13 = .ok (.iload_n 1, 1) := by decide +kernel
theorem dX5_put_14 : decode cX5_put 14 = .ok (.aload_n 0, 1) := by decide +kernel
theorem dX5_put_15 : decode cX5_put 15 = .ok (.iload_n 2, 1) := by decide +kernel
theorem dX5_put_16 : decode cX5_put 16 = .ok (.invokevirtual 32, 3) := by decide +kernel
theorem dX5_put_19 : decode cX5_put 19 = .ok (.iastore, 1) := by decide +kernel
theorem dX5_put_20 : decode cX5_put 20 = .ok (.aload_n 0, 1) := by decide +kernel
theorem dX5_put_21 : decode cX5_put 21 = .ok (.iload_n 1, 1) := by decide +kernel
theorem dX5_put_22 : decode cX5_put 22 = .ok (.invokevirtual 36, 3) := by decide +kernel
theorem dX5_put_25 : decode cX5_put 25 = .ok (.ireturn, 1) := by decide +kernel
theorem dX5_narrowed_0 : decode cX5_narrowed 0 = .ok (.aload_n 0, 1) := by decide +kernel
theorem dX5_narrowed_1 : decode cX5_narrowed 1 = .ok (.getfield 15, 3) := by decide +kernel
theorem dX5_narrowed_4 : decode cX5_narrowed 4 = .ok (.lookupswitch 34 #[(0, 28), (1, 31)], 28) := by decide +kernel
theorem dX5_narrowed_32 : decode cX5_narrowed 32 = .ok (.iload_n 1, 1) := by decide +kernel
theorem dX5_narrowed_33 : decode cX5_narrowed 33 = .ok (.i2b, 1) := by decide +kernel
theorem dX5_narrowed_34 : decode cX5_narrowed 34 = .ok (.ireturn, 1) := by decide +kernel
theorem dX5_narrowed_35 : decode cX5_narrowed 35 = .ok (.iload_n 1, 1) := by decide +kernel
theorem dX5_narrowed_36 : decode cX5_narrowed 36 = .ok (.i2s, 1) := by decide +kernel
theorem dX5_narrowed_37 : decode cX5_narrowed 37 = .ok (.ireturn, 1) := by decide +kernel
theorem dX5_narrowed_38 : decode cX5_narrowed 38 = .ok (.iload_n 1, 1) := by decide +kernel
theorem dX5_narrowed_39 : decode cX5_narrowed 39 = .ok (.ireturn, 1) := by decide +kernel
set_option maxRecDepth 20000 in
theorem ggX5_holdsPlaces_X5_item : GoodIn wsX5_holdsPlaces wsX5_item := goodIn_r _ [5, 6, 7, 8, 9, 4, 10, 11, 15, 16, 17] (by decide +kernel) (by decide +kernel)
set_option maxRecDepth 20000 in
theorem gX5_holdsPlaces_X5_item : GoodIn wsX5_holdsPlaces (wsV RX5 36 RX5 yX5_item wsX5_item) := goodIn_app (goodIn_of _ (by decide +kernel)) ggX5_holdsPlaces_X5_item
set_option maxRecDepth 20000 in
theorem ggX5_holdsPlaces_X11_isWithin : GoodIn wsX5_holdsPlaces wsX11_isWithin := goodIn_r _ [14] (by decide +kernel) (by decide +kernel)
set_option maxRecDepth 20000 in
theorem gX5_holdsPlaces_X11_isWithin_n39 : GoodIn wsX5_holdsPlaces (wsX11_isWithin) := ggX5_holdsPlaces_X11_isWithin
theorem dX5_holdsPlaces_0 : decode cX5_holdsPlaces 0 = .ok (.iconst 0, 1) := by decide +kernel
theorem dX5_holdsPlaces_1 : decode cX5_holdsPlaces 1 = .ok (.istore_n 3, 1) := by decide +kernel
theorem dX5_holdsPlaces_2 : decode cX5_holdsPlaces 2 = .ok (.iload_n 3, 1) := by decide +kernel
theorem dX5_holdsPlaces_3 : decode cX5_holdsPlaces 3 = .ok (.iconst 2, 1) := by decide +kernel
theorem dX5_holdsPlaces_4 : decode cX5_holdsPlaces 4 = .ok (.iload_n 2, 1) := by decide +kernel
theorem dX5_holdsPlaces_5 : decode cX5_holdsPlaces 5 = .ok (.imul, 1) := by decide +kernel
theorem dX5_holdsPlaces_6 : decode cX5_holdsPlaces 6 = .ok (.if_icmp .ge 28, 3) := by decide +kernel
theorem dX5_holdsPlaces_9 : decode cX5_holdsPlaces 9 = .ok (.aload_n 0, 1) := by decide +kernel
theorem dX5_holdsPlaces_10 : decode cX5_holdsPlaces 10 = .ok (.iload_n 1, 1) := by decide +kernel
theorem dX5_holdsPlaces_11 : decode cX5_holdsPlaces 11 = .ok (.iload_n 3, 1) := by decide +kernel
theorem dX5_holdsPlaces_12 : decode cX5_holdsPlaces 12 = .ok (.iadd, 1) := by decide +kernel
theorem dX5_holdsPlaces_13 : decode cX5_holdsPlaces 13 = .ok (.invokevirtual 36, 3) := by decide +kernel
theorem dX5_holdsPlaces_16 : decode cX5_holdsPlaces 16 = .ok (.iconst 0, 1) := by decide +kernel
theorem dX5_holdsPlaces_17 : decode cX5_holdsPlaces 17 = .ok (.sipush 1000, 3) := by decide +kernel
theorem dX5_holdsPlaces_20 : decode cX5_holdsPlaces 20 = .ok (.invokestatic 39, 3) := by decide +kernel
theorem dX5_holdsPlaces_23 : decode cX5_holdsPlaces 23 = .ok (.ifCond .ne 5, 3) := by decide +kernel
theorem dX5_holdsPlaces_26 : decode cX5_holdsPlaces 26 = .ok (.iconst 0, 1) := by decide +kernel
theorem dX5_holdsPlaces_27 : decode cX5_holdsPlaces 27 = .ok (.ireturn, 1) := by decide +kernel
theorem dX5_holdsPlaces_28 : decode cX5_holdsPlaces 28 = .ok (.iinc 3 1, 3) := by decide +kernel
theorem dX5_holdsPlaces_31 : decode cX5_holdsPlaces 31 = .ok (.goto (-29), 3) := by decide +kernel
theorem dX5_holdsPlaces_34 : decode cX5_holdsPlaces 34 = .ok (.iconst 1, 1) := by decide +kernel
theorem dX5_holdsPlaces_35 : decode cX5_holdsPlaces 35 = .ok (.ireturn, 1) := by decide +kernel
set_option maxRecDepth 20000 in
theorem ggX6_init_X3_init : GoodIn wsX6_init wsX3_init := goodIn_r _ [19, 20, 2, 3, 4, 21, 22, 15, 23, 37, 38, 39, 40, 41, 42, 43] (by decide +kernel) (by decide +kernel)
set_option maxRecDepth 20000 in
theorem gX6_init_X3_init_n17 : GoodIn wsX6_init (wsX3_init) := ggX6_init_X3_init
theorem dX6_init_0 : decode cX6_init 0 = .ok (.aload_n 0, 1) := by decide +kernel
theorem dX6_init_1 : decode cX6_init 1 = .ok (.invokespecial 3, 3) := by decide +kernel
theorem dX6_init_4 : decode cX6_init 4 = .ok (.aload_n 0, 1) := by decide +kernel
theorem dX6_init_5 : decode cX6_init 5 = .ok (.bipush 6, 2) := by decide +kernel
theorem dX6_init_7 : decode cX6_init 7 = .ok (.newarray .int, 2) := by decide +kernel
theorem dX6_init_9 : decode cX6_init 9 = .ok (.dup, 1) := by decide +kernel
theorem dX6_init_10 : decode cX6_init 10 = .ok (.iconst 0, 1) := by decide +kernel
theorem dX6_init_11 : decode cX6_init 11 = .ok (.bipush 50, 2) := by decide +kernel
theorem dX6_init_13 : decode cX6_init 13 = .ok (.iastore, 1) := by decide +kernel
theorem dX6_init_14 : decode cX6_init 14 = .ok (.dup, 1) := by decide +kernel
theorem dX6_init_15 : decode cX6_init 15 = .ok (.iconst 1, 1) := by decide +kernel
theorem dX6_init_16 : decode cX6_init 16 = .ok (.iconst 1, 1) := by decide +kernel
theorem dX6_init_17 : decode cX6_init 17 = .ok (.iastore, 1) := by decide +kernel
theorem dX6_init_18 : decode cX6_init 18 = .ok (.dup, 1) := by decide +kernel
theorem dX6_init_19 : decode cX6_init 19 = .ok (.iconst 2, 1) := by decide +kernel
theorem dX6_init_20 : decode cX6_init 20 = .ok (.bipush 8, 2) := by decide +kernel
theorem dX6_init_22 : decode cX6_init 22 = .ok (.iastore, 1) := by decide +kernel
theorem dX6_init_23 : decode cX6_init 23 = .ok (.dup, 1) := by decide +kernel
theorem dX6_init_24 : decode cX6_init 24 = .ok (.iconst 3, 1) := by decide +kernel
theorem dX6_init_25 : decode cX6_init 25 = .ok (.bipush 10, 2) := by decide +kernel
theorem dX6_init_27 : decode cX6_init 27 = .ok (.iastore, 1) := by decide +kernel
theorem dX6_init_28 : decode cX6_init 28 = .ok (.dup, 1) := by decide +kernel
theorem dX6_init_29 : decode cX6_init 29 = .ok (.iconst 4, 1) := by decide +kernel
theorem dX6_init_30 : decode cX6_init 30 = .ok (.iconst 0, 1) := by decide +kernel
theorem dX6_init_31 : decode cX6_init 31 = .ok (.iastore, 1) := by decide +kernel
theorem dX6_init_32 : decode cX6_init 32 = .ok (.dup, 1) := by decide +kernel
theorem dX6_init_33 : decode cX6_init 33 = .ok (.iconst 5, 1) := by decide +kernel
theorem dX6_init_34 : decode cX6_init 34 = .ok (.bipush 40, 2) := by decide +kernel
theorem dX6_init_36 : decode cX6_init 36 = .ok (.iastore, 1) := by decide +kernel
theorem dX6_init_37 : decode cX6_init 37 = .ok (.putfield 9, 3) := by decide +kernel
theorem dX6_init_40 : decode cX6_init 40 = .ok (.aload_n 0, 1) := by decide +kernel
theorem dX6_init_41 : decode cX6_init 41 = .ok (.new 15, 3) := by decide +kernel
theorem dX6_init_44 : decode cX6_init 44 = .ok (.dup, 1) := by decide +kernel
theorem dX6_init_45 : decode cX6_init 45 = .ok (.invokespecial 17, 3) := by decide +kernel
theorem dX6_init_48 : decode cX6_init 48 = .ok (.putfield 18, 3) := by decide +kernel
theorem dX6_init_51 : decode cX6_init 51 = .ok (.aload_n 0, 1) := by decide +kernel
theorem dX6_init_52 : decode cX6_init 52 = .ok (.sipush 2000, 3) := by decide +kernel
theorem dX6_init_55 : decode cX6_init 55 = .ok (.newarray .int, 2) := by decide +kernel
theorem dX6_init_57 : decode cX6_init 57 = .ok (.putfield 22, 3) := by decide +kernel
theorem dX6_init_60 : decode cX6_init 60 = .ok (.aload_n 0, 1) := by decide +kernel
theorem dX6_init_61 : decode cX6_init 61 = .ok (.sipush 2000, 3) := by decide +kernel
theorem dX6_init_64 : decode cX6_init 64 = .ok (.newarray .int, 2) := by decide +kernel
theorem dX6_init_66 : decode cX6_init 66 = .ok (.putfield 25, 3) := by decide +kernel
theorem dX6_init_69 : decode cX6_init 69 = .ok (.aload_n 0, 1) := by decide +kernel
theorem dX6_init_70 : decode cX6_init 70 = .ok (.bipush 11, 2) := by decide +kernel
theorem dX6_init_72 : decode cX6_init 72 = .ok (.bipush 11, 2) := by decide +kernel
theorem dX6_init_74 : decode cX6_init 74 = .ok (.multianewarray 28 2, 4) := by decide +kernel
theorem dX6_init_78 : decode cX6_init 78 = .ok (.putfield 30, 3) := by decide +kernel
theorem dX6_init_81 : decode cX6_init 81 = .ok (.aload_n 0, 1) := by decide +kernel
theorem dX6_init_82 : decode cX6_init 82 = .ok (.iconst 4, 1) := by decide +kernel
theorem dX6_init_83 : decode cX6_init 83 = .ok (.iconst 4, 1) := by decide +kernel
theorem dX6_init_84 : decode cX6_init 84 = .ok (.multianewarray 28 2, 4) := by decide +kernel
theorem dX6_init_88 : decode cX6_init 88 = .ok (.putfield 33, 3) := by decide +kernel
theorem dX6_init_91 : decode cX6_init 91 = .ok (.aload_n 0, 1) := by decide +kernel
theorem dX6_init_92 : decode cX6_init 92 = .ok (.iconst 4, 1) := by decide +kernel
theorem dX6_init_93 : decode cX6_init 93 = .ok (.newarray .boolean, 2) := by decide +kernel
theorem dX6_init_95 : decode cX6_init 95 = .ok (.putfield 36, 3) := by decide +kernel
theorem dX6_init_98 : decode cX6_init 98 = .ok (.aload_n 0, 1) := by decide +kernel
theorem dX6_init_99 : decode cX6_init 99 = .ok (.iconst 0, 1) := by decide +kernel
theorem dX6_init_100 : decode cX6_init 100 = .ok (.putfield 40, 3) := by decide +kernel
theorem dX6_init_103 : decode cX6_init 103 = .ok (.return_, 1) := by decide +kernel
theorem dX6_pathIsStale_0 : decode cX6_pathIsStale 0 = .ok (.aload_n 0, 1) := by decide +kernel
theorem dX6_pathIsStale_1 : decode cX6_pathIsStale 1 = .ok (.iconst 0, 1) := by decide +kernel
theorem dX6_pathIsStale_2 : decode cX6_pathIsStale 2 = .ok (.putfield 40, 3) := by decide +kernel
theorem dX6_pathIsStale_5 : decode cX6_pathIsStale 5 = .ok (.return_, 1) := by decide +kernel
theorem dX6_stageEndsAt_0 : decode cX6_stageEndsAt 0 = .ok (.aload_n 0, 1) := by decide +kernel
theorem dX6_stageEndsAt_1 : decode cX6_stageEndsAt 1 = .ok (.aload_n 0, 1) := by decide +kernel
theorem dX6_stageEndsAt_2 : decode cX6_stageEndsAt 2 = .ok (.getfield 40, 3) := by decide +kernel
theorem dX6_stageEndsAt_5 : decode cX6_stageEndsAt 5 = .ok (.iload_n 1, 1) := by decide +kernel
theorem dX6_stageEndsAt_6 : decode cX6_stageEndsAt 6 = .ok (.invokestatic 44, 3) := by decide +kernel
theorem dX6_stageEndsAt_9 : decode cX6_stageEndsAt 9 = .ok (.putfield 40, 3) := by decide +kernel
theorem dX6_stageEndsAt_12 : decode cX6_stageEndsAt 12 = .ok (.return_, 1) := by decide +kernel
set_option maxRecDepth 20000 in
theorem ggX6_changeRule_X6_stageEndsAt : GoodIn wsX6_changeRule wsX6_stageEndsAt := goodIn_r _ [7, 8, 9, 10, 11, 12, 13, 14, 15, 16, 17, 18, 19, 20, 21, 22, 23, 24, 25] (by decide +kernel) (by decide +kernel)
set_option maxRecDepth 20000 in
theorem gX6_changeRule_X6_stageEndsAt : GoodIn wsX6_changeRule (wsV RX6 51 RX6 yX6_stageEndsAt wsX6_stageEndsAt) := goodIn_app (goodIn_of _ (by decide +kernel)) ggX6_changeRule_X6_stageEndsAt
theorem dX6_changeRule_0 : decode cX6_changeRule 0 = .ok (.iload_n 1, 1) := by decide +kernel
theorem dX6_changeRule_1 : decode cX6_changeRule 1 = .ok (.ifCond .lt 12, 3) := by decide +kernel
theorem dX6_changeRule_4 : decode cX6_changeRule 4 = .ok (.iload_n 1, 1) := by decide +kernel
theorem dX6_changeRule_5 : decode cX6_changeRule 5 = .ok (.aload_n 0, 1) := by decide +kernel
theorem dX6_changeRule_6 : decode cX6_changeRule 6 = .ok (.getfield 9, 3) := by decide +kernel
theorem dX6_changeRule_9 : decode cX6_changeRule 9 = .ok (.arraylength, 1) := by decide +kernel
theorem dX6_changeRule_10 : decode cX6_changeRule 10 = .ok (.if_icmp .lt 6, 3) := by decide +kernel
theorem dX6_changeRule_13 : decode cX6_changeRule 13 = .ok (.ldc 50, 2) := by decide +kernel
theorem dX6_changeRule_15 : decode cX6_changeRule 15 = .ok (.ireturn, 1) := by decide +kernel
theorem dX6_changeRule_16 : decode cX6_changeRule 16 = .ok (.aload_n 0, 1) := by decide +kernel
theorem dX6_changeRule_17 : decode cX6_changeRule 17 = .ok (.getfield 9, 3) := by decide +kernel
theorem dX6_changeRule_20 : decode cX6_changeRule 20 = .ok (.iload_n 1, 1) := by decide +kernel
theorem dX6_changeRule_21 : decode cX6_changeRule 21 = .ok (.iaload, 1) := by decide +kernel
theorem dX6_changeRule_22 : decode cX6_changeRule 22 = .ok (.istore_n 3, 1) := by decide +kernel
theorem dX6_changeRule_23 : decode cX6_changeRule 23 = .ok (.aload_n 0, 1) := by decide +kernel
theorem dX6_changeRule_24 : decode cX6_changeRule 24 = .ok (.getfield 9, 3) := by decide +kernel
theorem dX6_changeRule_27 : decode cX6_changeRule 27 = .ok (.iload_n 1, 1) := by decide +kernel
theorem dX6_changeRule_28 : decode cX6_changeRule 28 = .ok (.iload_n 2, 1) := by decide +kernel
theorem dX6_changeRule_29 : decode cX6_changeRule 29 = .ok (.iastore, 1) := by decide +kernel
theorem dX6_changeRule_30 : decode cX6_changeRule 30 = .ok (.iload_n 1, 1) := by decide +kernel
theorem dX6_changeRule_31 : decode cX6_changeRule 31 = .ok (.ifCond .eq 8, 3) := by decide +kernel
theorem dX6_changeRule_34 : decode cX6_changeRule 34 = .ok (.iload_n 1, 1) := by decide +kernel
theorem dX6_changeRule_35 : decode cX6_changeRule 35 = .ok (.iconst 1, 1) := by decide +kernel
theorem dX6_changeRule_36 : decode cX6_changeRule 36 = .ok (.if_icmp .ne 11, 3) := by decide +kernel
theorem dX6_changeRule_39 : decode cX6_changeRule 39 = .ok (.aload_n 0, 1) := by decide +kernel
theorem dX6_changeRule_40 : decode cX6_changeRule 40 = .ok (.iconst 0, 1) := by decide +kernel
theorem dX6_changeRule_41 : decode cX6_changeRule 41 = .ok (.invokevirtual 51, 3) := by decide +kernel
theorem dX6_changeRule_44 : decode cX6_changeRule 44 = .ok (.goto 31, 3) := by decide +kernel
theorem dX6_changeRule_47 : decode cX6_changeRule 47 = .ok (.iload_n 1, 1) := by decide +kernel
theorem dX6_changeRule_48 : decode cX6_changeRule 48 = .ok (.iconst 2, 1) := by decide +kernel
theorem dX6_changeRule_49 : decode cX6_changeRule 49 = .ok (.if_icmp .eq 8, 3) := by decide +kernel
theorem dX6_changeRule_52 : decode cX6_changeRule 52 = .ok (.iload_n 1, 1) := by decide +kernel
theorem dX6_changeRule_53 : decode cX6_changeRule 53 = .ok (.iconst 3, 1) := by decide +kernel
theorem dX6_changeRule_54 : decode cX6_changeRule 54 = .ok (.if_icmp .ne 11, 3) := by decide +kernel
theorem dX6_changeRule_57 : decode cX6_changeRule 57 = .ok (.aload_n 0, 1) := by decide +kernel
theorem dX6_changeRule_58 : decode cX6_changeRule 58 = .ok (.iconst 1, 1) := by decide +kernel
theorem dX6_changeRule_59 : decode cX6_changeRule 59 = .ok (.invokevirtual 51, 3) := by decide +kernel
theorem dX6_changeRule_62 : decode cX6_changeRule 62 = .ok (.goto 13, 3) := by decide +kernel
theorem dX6_changeRule_65 : decode cX6_changeRule 65 = .ok (.iload_n 1, 1) := by decide +kernel
theorem dX6_changeRule_66 : decode cX6_changeRule 66 = .ok (.iconst 4, 1) := by decide +kernel
theorem dX6_changeRule_67 : decode cX6_changeRule 67 = .ok (.if_icmp .ne 8, 3) := by decide +kernel
theorem dX6_changeRule_70 : decode cX6_changeRule 70 = .ok (.aload_n 0, 1) := by decide +kernel
theorem dX6_changeRule_71 : decode cX6_changeRule 71 = .ok (.iconst 2, 1) := by decide +kernel
theorem dX6_changeRule_72 : decode cX6_changeRule 72 = .ok (.invokevirtual 51, 3) := by decide +kernel
theorem dX6_changeRule_75 : decode cX6_changeRule 75 = .ok (.iload_n 3, 1) := by decide +kernel
theorem dX6_changeRule_76 : decode cX6_changeRule 76 = .ok (.ireturn, 1) := by decide +kernel
set_option maxRecDepth 20000 in
theorem ggX6_shutZone_X6_stageEndsAt : GoodIn wsX6_shutZone wsX6_stageEndsAt := goodIn_r _ [7, 8, 9, 10, 11, 12, 13, 14, 15, 16, 17, 18, 19, 20, 21, 22, 23, 24, 25] (by decide +kernel) (by decide +kernel)
set_option maxRecDepth 20000 in
theorem gX6_shutZone_X6_stageEndsAt : GoodIn wsX6_shutZone (wsV RX6 51 RX6 yX6_stageEndsAt wsX6_stageEndsAt) := goodIn_app (goodIn_of _ (by decide +kernel)) ggX6_shutZone_X6_stageEndsAt
theorem dX6_shutZone_0 : decode cX6_shutZone 0 = .ok (.iload_n 1, 1) := by decide +kernel
theorem dX6_shutZone_1 : decode cX6_shutZone 1 = .ok (.ifCond .lt 58, 3) := by decide +kernel
theorem dX6_shutZone_4 : decode cX6_shutZone 4 = .ok (.iload_n 1, 1) := by decide +kernel
theorem dX6_shutZone_5 : decode cX6_shutZone 5 = .ok (.iconst 4, 1) := by decide +kernel
theorem dX6_shutZone_6 : decode cX6_shutZone 6 = .ok (.if_icmp .ge 53, 3) := by decide +kernel
theorem dX6_shutZone_9 : decode cX6_shutZone 9 = .ok (.aload_n 0, 1) := by decide +kernel
theorem dX6_shutZone_10 : decode cX6_shutZone 10 = .ok (.getfield 33, 3) := by decide +kernel
theorem dX6_shutZone_13 : decode cX6_shutZone 13 = .ok (.iload_n 1, 1) := by decide +kernel
theorem dX6_shutZone_14 : decode cX6_shutZone 14 = .ok (.aaload, 1) := by decide +kernel
theorem dX6_shutZone_15 : decode cX6_shutZone 15 = .ok (.iconst 0, 1) := by decide +kernel
theorem dX6_shutZone_16 : decode cX6_shutZone 16 = .ok (.iload_n 2, 1) := by decide +kernel
theorem dX6_shutZone_17 : decode cX6_shutZone 17 = .ok (.iastore, 1) := by decide +kernel
theorem dX6_shutZone_18 : decode cX6_shutZone 18 = .ok (.aload_n 0, 1) := by decide +kernel
theorem dX6_shutZone_19 : decode cX6_shutZone 19 = .ok (.getfield 33, 3) := by decide +kernel
theorem dX6_shutZone_22 : decode cX6_shutZone 22 = .ok (.iload_n 1, 1) := by decide +kernel
theorem dX6_shutZone_23 : decode cX6_shutZone 23 = .ok (.aaload, 1) := by decide +kernel
theorem dX6_shutZone_24 : decode cX6_shutZone 24 = .ok (.iconst 1, 1) := by decide +kernel
theorem dX6_shutZone_25 : decode cX6_shutZone 25 = .ok (.iload_n 3, 1) := by decide +kernel
theorem dX6_shutZone_26 : decode cX6_shutZone 26 = .ok (.iastore, 1) := by decide +kernel
theorem dX6_shutZone_27 : decode cX6_shutZone 27 = .ok (.aload_n 0, 1) := by decide +kernel
theorem dX6_shutZone_28 : decode cX6_shutZone 28 = .ok (.getfield 33, 3) := by decide +kernel
theorem dX6_shutZone_31 : decode cX6_shutZone 31 = .ok (.iload_n 1, 1) := by decide +kernel
theorem dX6_shutZone_32 : decode cX6_shutZone 32 = .ok (.aaload, 1) := by decide +kernel
theorem dX6_shutZone_33 : decode cX6_shutZone 33 = .ok (.iconst 2, 1) := by decide +kernel
theorem dX6_shutZone_34 : decode cX6_shutZone 34 = .ok (.iload 4, 2) := by decide +kernel
theorem dX6_shutZone_36 : decode cX6_shutZone 36 = .ok (.iastore, 1) := by decide +kernel
theorem dX6_shutZone_37 : decode cX6_shutZone 37 = .ok (.aload_n 0, 1) := by decide +kernel
theorem dX6_shutZone_38 : decode cX6_shutZone 38 = .ok (.getfield 33, 3) := by decide +kernel
theorem dX6_shutZone_41 : decode cX6_shutZone 41 = .ok (.iload_n 1, 1) := by decide +kernel
theorem dX6_shutZone_42 : decode cX6_shutZone 42 = .ok (.aaload, 1) := by decide +kernel
theorem dX6_shutZone_43 : decode cX6_shutZone 43 = .ok (.iconst 3, 1) := by decide +kernel
theorem dX6_shutZone_44 : decode cX6_shutZone 44 = .ok (.iload 5, 2) := by decide +kernel
theorem dX6_shutZone_46 : decode cX6_shutZone 46 = .ok (.iastore, 1) := by decide +kernel
theorem dX6_shutZone_47 : decode cX6_shutZone 47 = .ok (.aload_n 0, 1) := by decide +kernel
theorem dX6_shutZone_48 : decode cX6_shutZone 48 = .ok (.getfield 36, 3) := by decide +kernel
theorem dX6_shutZone_51 : decode cX6_shutZone 51 = .ok (.iload_n 1, 1) := by decide +kernel
theorem dX6_shutZone_52 : decode cX6_shutZone 52 = .ok (.iconst 1, 1) := by decide +kernel
theorem dX6_shutZone_53 : decode cX6_shutZone 53 = .ok (.bastore, 1) := by decide +kernel
theorem dX6_shutZone_54 : decode cX6_shutZone 54 = .ok (.aload_n 0, 1) := by decide +kernel
theorem dX6_shutZone_55 : decode cX6_shutZone 55 = .ok (.iconst 2, 1) := by decide +kernel
theorem dX6_shutZone_56 : decode cX6_shutZone 56 = .ok (.invokevirtual 51, 3) := by decide +kernel
theorem dX6_shutZone_59 : decode cX6_shutZone 59 = .ok (.return_, 1) := by decide +kernel
set_option maxRecDepth 20000 in
theorem ggX6_openZone_X6_stageEndsAt : GoodIn wsX6_openZone wsX6_stageEndsAt := goodIn_r _ [6, 7, 8, 9, 10, 11, 12, 13, 14, 15, 16, 17, 18, 19, 20, 21, 22, 23, 24] (by decide +kernel) (by decide +kernel)
set_option maxRecDepth 20000 in
theorem gX6_openZone_X6_stageEndsAt : GoodIn wsX6_openZone (wsV RX6 51 RX6 yX6_stageEndsAt wsX6_stageEndsAt) := goodIn_app (goodIn_of _ (by decide +kernel)) ggX6_openZone_X6_stageEndsAt
theorem dX6_openZone_0 : decode cX6_openZone 0 = .ok (.iload_n 1, 1) := by decide +kernel
theorem dX6_openZone_1 : decode cX6_openZone 1 = .ok (.ifCond .lt 21, 3) := by decide +kernel
theorem dX6_openZone_4 : decode cX6_openZone 4 = .ok (.iload_n 1, 1) := by decide +kernel
theorem dX6_openZone_5 : decode cX6_openZone 5 = .ok (.iconst 4, 1) := by decide +kernel
theorem dX6_openZone_6 : decode cX6_openZone 6 = .ok (.if_icmp .ge 16, 3) := by decide +kernel
theorem dX6_openZone_9 : decode cX6_openZone 9 = .ok (.aload_n 0, 1) := by decide +kernel
theorem dX6_openZone_10 : decode cX6_openZone 10 = .ok (.getfield 36, 3) := by decide +kernel
theorem dX6_openZone_13 : decode cX6_openZone 13 = .ok (.iload_n 1, 1) := by decide +kernel
theorem dX6_openZone_14 : decode cX6_openZone 14 = .ok (.baload, 1) := by decide +kernel
theorem dX6_openZone_15 : decode cX6_openZone 15 = .ok (.ifCond .eq 7, 3) := by decide +kernel
theorem dX6_openZone_18 : decode cX6_openZone 18 = .ok (.iconst 1, 1) := by decide +kernel
theorem dX6_openZone_19 : decode cX6_openZone 19 = .ok (.goto 4, 3) := by decide +kernel
theorem dX6_openZone_22 : decode cX6_openZone 22 = .ok (.iconst 0, 1) := by decide +kernel
theorem dX6_openZone_23 : decode cX6_openZone 23 = .ok (.istore_n 2, 1) := by decide +kernel
theorem dX6_openZone_24 : decode cX6_openZone 24 = .ok (.iload_n 2, 1) := by decide +kernel
theorem dX6_openZone_25 : decode cX6_openZone 25 = .ok (.ifCond .eq 15, 3) := by decide +kernel
theorem dX6_openZone_28 : decode cX6_openZone 28 = .ok (.aload_n 0, 1) := by decide +kernel
theorem dX6_openZone_29 : decode cX6_openZone 29 = .ok (.getfield 36, 3) := by decide +kernel
theorem dX6_openZone_32 : decode cX6_openZone 32 = .ok (.iload_n 1, 1) := by decide +kernel
theorem dX6_openZone_33 : decode cX6_openZone 33 = .ok (.iconst 0, 1) := by decide +kernel
theorem dX6_openZone_34 : decode cX6_openZone 34 = .ok (.bastore, 1) := by decide +kernel
theorem dX6_openZone_35 : decode cX6_openZone 35 = .ok (.aload_n 0, 1) := by decide +kernel
theorem dX6_openZone_36 : decode cX6_openZone 36 = .ok (.iconst 2, 1) := by decide +kernel
theorem dX6_openZone_37 : decode cX6_openZone 37 = .ok (.invokevirtual 51, 3) := by decide +kernel
theorem dX6_openZone_40 : decode cX6_openZone 40 = .ok (.iload_n 2, 1) := by decide +kernel
theorem dX6_openZone_41 : decode cX6_openZone 41 = .ok (.ireturn, 1) := by decide +kernel
theorem dX6_zonesShut_0 : decode cX6_zonesShut 0 = .ok (.iconst 0, 1) := by decide +kernel
theorem dX6_zonesShut_1 : decode cX6_zonesShut 1 = .ok (.istore_n 1, 1) := by decide +kernel
theorem dX6_zonesShut_2 : decode cX6_zonesShut 2 = .ok (.iconst 0, 1) := by decide +kernel
theorem dX6_zonesShut_3 : decode cX6_zonesShut 3 = .ok (.istore_n 2, 1) := by decide +kernel
theorem dX6_zonesShut_4 : decode cX6_zonesShut 4 = .ok (.iload_n 2, 1) := by decide +kernel
theorem dX6_zonesShut_5 : decode cX6_zonesShut 5 = .ok (.iconst 4, 1) := by decide +kernel
theorem dX6_zonesShut_6 : decode cX6_zonesShut 6 = .ok (.if_icmp .ge 26, 3) := by decide +kernel
theorem dX6_zonesShut_9 : decode cX6_zonesShut 9 = .ok (.iload_n 1, 1) := by decide +kernel
theorem dX6_zonesShut_10 : decode cX6_zonesShut 10 = .ok (.aload_n 0, 1) := by decide +kernel
theorem dX6_zonesShut_11 : decode cX6_zonesShut 11 = .ok (.getfield 36, 3) := by decide +kernel
theorem dX6_zonesShut_14 : decode cX6_zonesShut 14 = .ok (.iload_n 2, 1) := by decide +kernel
theorem dX6_zonesShut_15 : decode cX6_zonesShut 15 = .ok (.baload, 1) := by decide +kernel
theorem dX6_zonesShut_16 : decode cX6_zonesShut 16 = .ok (.ifCond .eq 7, 3) := by decide +kernel
theorem dX6_zonesShut_19 : decode cX6_zonesShut 19 = .ok (.iconst 1, 1) := by decide +kernel
theorem dX6_zonesShut_20 : decode cX6_zonesShut 20 = .ok (.goto 4, 3) := by decide +kernel
theorem dX6_zonesShut_23 : decode cX6_zonesShut 23 = .ok (.iconst 0, 1) := by decide +kernel
theorem dX6_zonesShut_24 : decode cX6_zonesShut 24 = .ok (.iadd, 1) := by decide +kernel
theorem dX6_zonesShut_25 : decode cX6_zonesShut 25 = .ok (.istore_n 1, 1) := by decide +kernel
theorem dX6_zonesShut_26 : decode cX6_zonesShut 26 = .ok (.iinc 2 1, 3) := by decide +kernel
theorem dX6_zonesShut_29 : decode cX6_zonesShut 29 = .ok (.goto (-25), 3) := by decide +kernel
theorem dX6_zonesShut_32 : decode cX6_zonesShut 32 = .ok (.iload_n 1, 1) := by decide +kernel
theorem dX6_zonesShut_33 : decode cX6_zonesShut 33 = .ok (.ireturn, 1) := by decide +kernel
set_option maxRecDepth 20000 in
theorem ggX6_reaches_X3_drawAll : GoodIn wsX6_reaches wsX3_drawAll := goodIn_r _ [13, 14, 15, 16, 17, 18, 19, 20, 21, 22, 23, 24, 25, 26, 27, 28, 29, 30, 12, 31, 32, 33, 34, 35, 36, 37, 38, 39, 40, 41, 42, 43, 44, 45, 46, 47, 48, 49, 50, 51, 52, 53, 54, 55, 56, 57, 58, 59, 60, 61, 62, 63, 64, 65, 66, 67, 68, 69, 70, 71, 72, 73, 74, 75, 76, 77, 78, 79, 80, 81, 82, 83, 84, 85, 86, 87, 143, 144, 145, 146, 147, 148, 149, 150, 151, 152, 153, 154, 155, 156, 157, 158, 159] (by decide +kernel) (by decide +kernel)
set_option maxRecDepth 20000 in
theorem gX6_reaches_X3_drawAll : GoodIn wsX6_reaches (wsV RX6 55 RX3 yX3_drawAll wsX3_drawAll) := goodIn_app (goodIn_of _ (by decide +kernel)) ggX6_reaches_X3_drawAll
set_option maxRecDepth 20000 in
theorem ggX6_reaches_X6_follow : GoodIn wsX6_reaches wsX6_follow := goodIn_r _ [92, 2, 93, 3, 130, 131, 132, 133, 134, 135, 136, 137, 138, 139, 140, 141, 142, 143, 144, 145, 146, 147, 148, 149] (by decide +kernel) (by decide +kernel)
set_option maxRecDepth 20000 in
theorem gX6_reaches_X6_follow : GoodIn wsX6_reaches (wsV RX6 66 RX6 yX6_follow wsX6_follow) := goodIn_app (goodIn_of _ (by decide +kernel)) ggX6_reaches_X6_follow
set_option maxRecDepth 20000 in
theorem ggX6_reaches_X6_sumUp : GoodIn wsX6_reaches wsX6_sumUp := goodIn_r _ [97, 98, 99, 100, 101, 102, 103, 2, 93, 104, 105, 75, 72, 76, 6, 8, 106, 107, 108, 109, 110, 111, 112, 91, 113, 5, 7, 67, 68, 69, 70, 71, 73, 74, 114, 115, 116, 117, 118, 119, 120, 121, 122, 123, 124, 125, 3, 126, 127, 128, 129, 130, 131, 132, 133, 134, 135, 136, 137, 138, 139, 140, 141, 142, 143, 144, 145, 146, 147, 148, 149] (by decide +kernel) (by decide +kernel)
set_option maxRecDepth 20000 in
theorem gX6_reaches_X6_sumUp : GoodIn wsX6_reaches (wsV RX6 73 RX6 yX6_sumUp wsX6_sumUp) := goodIn_app (goodIn_of _ (by decide +kernel)) ggX6_reaches_X6_sumUp
theorem dX6_reaches_0 : decode cX6_reaches 0 = .ok (.aload_n 0, 1) := by decide +kernel
theorem dX6_reaches_1 : decode cX6_reaches 1 = .ok (.getfield 40, 3) := by decide +kernel
theorem dX6_reaches_4 : decode cX6_reaches 4 = .ok (.iconst 1, 1) := by decide +kernel
theorem dX6_reaches_5 : decode cX6_reaches 5 = .ok (.if_icmp .ge 28, 3) := by decide +kernel
theorem dX6_reaches_8 : decode cX6_reaches 8 = .ok (.aload_n 0, 1) := by decide +kernel
theorem dX6_reaches_9 : decode cX6_reaches 9 = .ok (.getfield 18, 3) := by decide +kernel
theorem dX6_reaches_12 : decode cX6_reaches 12 = .ok (.aload_n 2, 1) := by decide +kernel
theorem dX6_reaches_13 : decode cX6_reaches 13 = .ok (.aload_n 0, 1) := by decide +kernel
theorem dX6_reaches_14 : decode cX6_reaches 14 = .ok (.getfield 9, 3) := by decide +kernel
theorem dX6_reaches_17 : decode cX6_reaches 17 = .ok (.iconst 0, 1) := by decide +kernel
theorem dX6_reaches_18 : decode cX6_reaches 18 = .ok (.iaload, 1) := by decide +kernel
theorem dX6_reaches_19 : decode cX6_reaches 19 = .ok (.aload_n 0, 1) := by decide +kernel
theorem dX6_reaches_20 : decode cX6_reaches 20 = .ok (.getfield 9, 3) := by decide +kernel
theorem dX6_reaches_23 : decode cX6_reaches 23 = .ok (.iconst 1, 1) := by decide +kernel
theorem dX6_reaches_24 : decode cX6_reaches 24 = .ok (.iaload, 1) := by decide +kernel
theorem dX6_reaches_25 : decode cX6_reaches 25 = .ok (.invokevirtual 55, 3) := by decide +kernel
theorem dX6_reaches_28 : decode cX6_reaches 28 = .ok (.aload_n 0, 1) := by decide +kernel
theorem dX6_reaches_29 : decode cX6_reaches 29 = .ok (.iconst 1, 1) := by decide +kernel
theorem dX6_reaches_30 : decode cX6_reaches 30 = .ok (.putfield 40, 3) := by decide +kernel
theorem dX6_reaches_33 : decode cX6_reaches 33 = .ok (.aload_n 0, 1) := by decide +kernel
theorem dX6_reaches_34 : decode cX6_reaches 34 = .ok (.getfield 18, 3) := by decide +kernel
theorem dX6_reaches_37 : decode cX6_reaches 37 = .ok (.getfield 59, 3) := by decide +kernel
theorem dX6_reaches_40 : decode cX6_reaches 40 = .ok (.ifCond .eq 5, 3) := by decide +kernel
theorem dX6_reaches_43 : decode cX6_reaches 43 = .ok (.iconst 0, 1) := by decide +kernel
theorem dX6_reaches_44 : decode cX6_reaches 44 = .ok (.ireturn, 1) := by decide +kernel
theorem dX6_reaches_45 : decode cX6_reaches 45 = .ok (.iload_n 1, 1) := by decide +kernel
theorem dX6_reaches_46 : decode cX6_reaches 46 = .ok (.iconst 2, 1) := by decide +kernel
theorem dX6_reaches_47 : decode cX6_reaches 47 = .ok (.if_icmp .lt 46, 3) := by decide +kernel
theorem dX6_reaches_50 : decode cX6_reaches 50 = .ok (.aload_n 0, 1) := by decide +kernel
theorem dX6_reaches_51 : decode cX6_reaches 51 = .ok (.getfield 40, 3) := by decide +kernel
theorem dX6_reaches_54 : decode cX6_reaches 54 = .ok (.iconst 2, 1) := by decide +kernel
theorem dX6_reaches_55 : decode cX6_reaches 55 = .ok (.if_icmp .ge 38, 3) := by decide +kernel
theorem dX6_reaches_58 : decode cX6_reaches 58 = .ok (.aload_n 0, 1) := by decide +kernel
theorem dX6_reaches_59 : decode cX6_reaches 59 = .ok (.aload_n 0, 1) := by decide +kernel
theorem dX6_reaches_60 : decode cX6_reaches 60 = .ok (.getfield 18, 3) := by decide +kernel
theorem dX6_reaches_63 : decode cX6_reaches 63 = .ok (.getfield 63, 3) := by decide +kernel
theorem dX6_reaches_66 : decode cX6_reaches 66 = .ok (.aload_n 0, 1) := by decide +kernel
theorem dX6_reaches_67 : decode cX6_reaches 67 = .ok (.getfield 22, 3) := by decide +kernel
theorem dX6_reaches_70 : decode cX6_reaches 70 = .ok (.invokevirtual 66, 3) := by decide +kernel
theorem dX6_reaches_73 : decode cX6_reaches 73 = .ok (.aload_n 0, 1) := by decide +kernel
theorem dX6_reaches_74 : decode cX6_reaches 74 = .ok (.aload_n 0, 1) := by decide +kernel
theorem dX6_reaches_75 : decode cX6_reaches 75 = .ok (.getfield 18, 3) := by decide +kernel
theorem dX6_reaches_78 : decode cX6_reaches 78 = .ok (.getfield 70, 3) := by decide +kernel
theorem dX6_reaches_81 : decode cX6_reaches 81 = .ok (.aload_n 0, 1) := by decide +kernel
theorem dX6_reaches_82 : decode cX6_reaches 82 = .ok (.getfield 25, 3) := by decide +kernel
theorem dX6_reaches_85 : decode cX6_reaches 85 = .ok (.invokevirtual 66, 3) := by decide +kernel
theorem dX6_reaches_88 : decode cX6_reaches 88 = .ok (.aload_n 0, 1) := by decide +kernel
theorem dX6_reaches_89 : decode cX6_reaches 89 = .ok (.iconst 2, 1) := by decide +kernel
theorem dX6_reaches_90 : decode cX6_reaches 90 = .ok (.putfield 40, 3) := by decide +kernel
theorem dX6_reaches_93 : decode cX6_reaches 93 = .ok (.iload_n 1, 1) := by decide +kernel
theorem dX6_reaches_94 : decode cX6_reaches 94 = .ok (.iconst 3, 1) := by decide +kernel
theorem dX6_reaches_95 : decode cX6_reaches 95 = .ok (.if_icmp .lt 20, 3) := by decide +kernel
theorem dX6_reaches_98 : decode cX6_reaches 98 = .ok (.aload_n 0, 1) := by decide +kernel
theorem dX6_reaches_99 : decode cX6_reaches 99 = .ok (.getfield 40, 3) := by decide +kernel
theorem dX6_reaches_102 : decode cX6_reaches 102 = .ok (.iconst 3, 1) := by decide +kernel
theorem dX6_reaches_103 : decode cX6_reaches 103 = .ok (.if_icmp .ge 12, 3) := by decide +kernel
theorem dX6_reaches_106 : decode cX6_reaches 106 = .ok (.aload_n 0, 1) := by decide +kernel
theorem dX6_reaches_107 : decode cX6_reaches 107 = .ok (.invokevirtual 73, 3) := by decide +kernel
theorem dX6_reaches_110 : decode cX6_reaches 110 = .ok (.aload_n 0, 1) := by decide +kernel
theorem dX6_reaches_111 : decode cX6_reaches 111 = .ok (.iconst 3, 1) := by decide +kernel
theorem dX6_reaches_112 : decode cX6_reaches 112 = .ok (.putfield 40, 3) := by decide +kernel
theorem dX6_reaches_115 : decode cX6_reaches 115 = .ok (.iconst 1, 1) := by decide +kernel
theorem dX6_reaches_116 : decode cX6_reaches 116 = .ok (.ireturn, 1) := by decide +kernel
theorem dX6_follow_0 : decode cX6_follow 0 = .ok (.iconst 0, 1) := by decide +kernel
theorem dX6_follow_1 : decode cX6_follow 1 = .ok (.istore_n 3, 1) := by decide +kernel
theorem dX6_follow_2 : decode cX6_follow 2 = .ok (.iconst 0, 1) := by decide +kernel
theorem dX6_follow_3 : decode cX6_follow 3 = .ok (.istore 4, 2) := by decide +kernel
theorem dX6_follow_5 : decode cX6_follow 5 = .ok (.iconst 0, 1) := by decide +kernel
theorem dX6_follow_6 : decode cX6_follow 6 = .ok (.istore 5, 2) := by decide +kernel
theorem dX6_follow_8 : decode cX6_follow 8 = .ok (.iload 5, 2) := by decide +kernel
theorem dX6_follow_10 : decode cX6_follow 10 = .ok (.aload_n 0, 1) := by decide +kernel
theorem dX6_follow_11 : decode cX6_follow 11 = .ok (.getfield 18, 3) := by decide +kernel
theorem dX6_follow_14 : decode cX6_follow 14 = .ok (.getfield 76, 3) := by decide +kernel
theorem dX6_follow_17 : decode cX6_follow 17 = .ok (.if_icmp .ge 50, 3) := by decide +kernel
theorem dX6_follow_20 : decode cX6_follow 20 = .ok (.iload 4, 2) := by decide +kernel
theorem dX6_follow_22 : decode cX6_follow 22 = .ok (.aload_n 1, 1) := by decide +kernel
theorem dX6_follow_23 : decode cX6_follow 23 = .ok (.iload 5, 2) := by decide +kernel
theorem dX6_follow_25 : decode cX6_follow 25 = .ok (.iaload, 1) := by decide +kernel
theorem dX6_follow_26 : decode cX6_follow 26 = .ok (.iload_n 3, 1) := by decide +kernel
theorem dX6_follow_27 : decode cX6_follow 27 = .ok (.isub, 1) := by decide +kernel
theorem dX6_follow_28 : decode cX6_follow 28 = .ok (.aload_n 0, 1) := by decide +kernel
theorem dX6_follow_29 : decode cX6_follow 29 = .ok (.getfield 9, 3) := by decide +kernel
theorem dX6_follow_32 : decode cX6_follow 32 = .ok (.iconst 2, 1) := by decide +kernel
theorem dX6_follow_33 : decode cX6_follow 33 = .ok (.iaload, 1) := by decide +kernel
theorem dX6_follow_34 : decode cX6_follow 34 = .ok (.imul, 1) := by decide +kernel
theorem dX6_follow_35 : decode cX6_follow 35 = .ok (.iload 4, 2) := by decide +kernel
theorem dX6_follow_37 : decode cX6_follow 37 = .ok (.aload_n 0, 1) := by decide +kernel
theorem dX6_follow_38 : decode cX6_follow 38 = .ok (.getfield 9, 3) := by decide +kernel
theorem dX6_follow_41 : decode cX6_follow 41 = .ok (.iconst 3, 1) := by decide +kernel
theorem dX6_follow_42 : decode cX6_follow 42 = .ok (.iaload, 1) := by decide +kernel
theorem dX6_follow_43 : decode cX6_follow 43 = .ok (.imul, 1) := by decide +kernel
theorem dX6_follow_44 : decode cX6_follow 44 = .ok (.isub, 1) := by decide +kernel
theorem dX6_follow_45 : decode cX6_follow 45 = .ok (.bipush 16, 2) := by decide +kernel
theorem dX6_follow_47 : decode cX6_follow 47 = .ok (.idiv, 1) := by decide +kernel
theorem dX6_follow_48 : decode cX6_follow 48 = .ok (.iadd, 1) := by decide +kernel
theorem dX6_follow_49 : decode cX6_follow 49 = .ok (.istore 4, 2) := by decide +kernel
theorem dX6_follow_51 : decode cX6_follow 51 = .ok (.iload_n 3, 1) := by decide +kernel
theorem dX6_follow_52 : decode cX6_follow 52 = .ok (.iload 4, 2) := by decide +kernel
theorem dX6_follow_54 : decode cX6_follow 54 = .ok (.iadd, 1) := by decide +kernel
theorem dX6_follow_55 : decode cX6_follow 55 = .ok (.istore_n 3, 1) := by decide +kernel
theorem dX6_follow_56 : decode cX6_follow 56 = .ok (.aload_n 2, 1) := by decide +kernel
theorem dX6_follow_57 : decode cX6_follow 57 = .ok (.iload 5, 2) := by decide +kernel
theorem dX6_follow_59 : decode cX6_follow 59 = .ok (.iload_n 3, 1) := by decide +kernel
theorem dX6_follow_60 : decode cX6_follow 60 = .ok (.iastore, 1) := by decide +kernel
theorem dX6_follow_61 : decode cX6_follow 61 = .ok (.iinc 5 1, 3) := by decide +kernel
theorem dX6_follow_64 : decode cX6_follow 64 = .ok (.goto (-56), 3) := by decide +kernel
theorem dX6_follow_67 : decode cX6_follow 67 = .ok (.return_, 1) := by decide +kernel
set_option maxRecDepth 20000 in
theorem ggX6_isShut_X11_isWithin : GoodIn wsX6_isShut wsX11_isWithin := goodIn_r _ [7] (by decide +kernel) (by decide +kernel)
set_option maxRecDepth 20000 in
theorem gX6_isShut_X11_isWithin_n79 : GoodIn wsX6_isShut (wsX11_isWithin) := ggX6_isShut_X11_isWithin
theorem dX6_isShut_0 : decode cX6_isShut 0 = .ok (.iconst 0, 1) := by decide +kernel
theorem dX6_isShut_1 : decode cX6_isShut 1 = .ok (.istore_n 2, 1) := by decide +kernel
theorem dX6_isShut_2 : decode cX6_isShut 2 = .ok (.iload_n 2, 1) := by decide +kernel
theorem dX6_isShut_3 : decode cX6_isShut 3 = .ok (.iconst 4, 1) := by decide +kernel
theorem dX6_isShut_4 : decode cX6_isShut 4 = .ok (.if_icmp .ge 76, 3) := by decide +kernel
theorem dX6_isShut_7 : decode cX6_isShut 7 = .ok (.aload_n 0, 1) := by decide +kernel
theorem dX6_isShut_8 : decode cX6_isShut 8 = .ok (.getfield 36, 3) := by decide +kernel
theorem dX6_isShut_11 : decode cX6_isShut 11 = .ok (.iload_n 2, 1) := by decide +kernel
theorem dX6_isShut_12 : decode cX6_isShut 12 = .ok (.baload, 1) := by decide +kernel
theorem dX6_isShut_13 : decode cX6_isShut 13 = .ok (.ifCond .eq 61, 3) := by decide +kernel
theorem dX6_isShut_16 : decode cX6_isShut 16 = .ok (.aload_n 0, 1) := by decide +kernel
theorem dX6_isShut_17 : decode cX6_isShut 17 = .ok (.getfield 22, 3) := by decide +kernel
theorem dX6_isShut_20 : decode cX6_isShut 20 = .ok (.iload_n 1, 1) := by decide +kernel
theorem dX6_isShut_21 : decode cX6_isShut 21 = .ok (.iaload, 1) := by decide +kernel
theorem dX6_isShut_22 : decode cX6_isShut 22 = .ok (.aload_n 0, 1) := by decide +kernel
theorem dX6_isShut_23 : decode cX6_isShut 23 = .ok (.getfield 33, 3) := by decide +kernel
theorem dX6_isShut_26 : decode cX6_isShut 26 = .ok (.iload_n 2, 1) := by decide +kernel
theorem dX6_isShut_27 : decode cX6_isShut 27 = .ok (.aaload, 1) := by decide +kernel
theorem dX6_isShut_28 : decode cX6_isShut 28 = .ok (.iconst 0, 1) := by decide +kernel
theorem dX6_isShut_29 : decode cX6_isShut 29 = .ok (.iaload, 1) := by decide +kernel
theorem dX6_isShut_30 : decode cX6_isShut 30 = .ok (.aload_n 0, 1) := by decide +kernel
theorem dX6_isShut_31 : decode cX6_isShut 31 = .ok (.getfield 33, 3) := by decide +kernel
theorem dX6_isShut_34 : decode cX6_isShut 34 = .ok (.iload_n 2, 1) := by decide +kernel
theorem dX6_isShut_35 : decode cX6_isShut 35 = .ok (.aaload, 1) := by decide +kernel
theorem dX6_isShut_36 : decode cX6_isShut 36 = .ok (.iconst 2, 1) := by decide +kernel
theorem dX6_isShut_37 : decode cX6_isShut 37 = .ok (.iaload, 1) := by decide +kernel
theorem dX6_isShut_38 : decode cX6_isShut 38 = .ok (.invokestatic 79, 3) := by decide +kernel
theorem dX6_isShut_41 : decode cX6_isShut 41 = .ok (.ifCond .eq 33, 3) := by decide +kernel
theorem dX6_isShut_44 : decode cX6_isShut 44 = .ok (.aload_n 0, 1) := by decide +kernel
theorem dX6_isShut_45 : decode cX6_isShut 45 = .ok (.getfield 25, 3) := by decide +kernel
theorem dX6_isShut_48 : decode cX6_isShut 48 = .ok (.iload_n 1, 1) := by decide +kernel
theorem dX6_isShut_49 : decode cX6_isShut 49 = .ok (.iaload, 1) := by decide +kernel
theorem dX6_isShut_50 : decode cX6_isShut 50 = .ok (.aload_n 0, 1) := by decide +kernel
theorem dX6_isShut_51 : decode cX6_isShut 51 = .ok (.getfield 33, 3) := by decide +kernel
theorem dX6_isShut_54 : decode cX6_isShut 54 = .ok (.iload_n 2, 1) := by decide +kernel
theorem dX6_isShut_55 : decode cX6_isShut 55 = .ok (.aaload, 1) := by decide +kernel
theorem dX6_isShut_56 : decode cX6_isShut 56 = .ok (.iconst 1, 1) := by decide +kernel
theorem dX6_isShut_57 : decode cX6_isShut 57 = .ok (.iaload, 1) := by decide +kernel
theorem dX6_isShut_58 : decode cX6_isShut 58 = .ok (.aload_n 0, 1) := by decide +kernel
theorem dX6_isShut_59 : decode cX6_isShut 59 = .ok (.getfield 33, 3) := by decide +kernel
theorem dX6_isShut_62 : decode cX6_isShut 62 = .ok (.iload_n 2, 1) := by decide +kernel
theorem dX6_isShut_63 : decode cX6_isShut 63 = .ok (.aaload, 1) := by decide +kernel
theorem dX6_isShut_64 : decode cX6_isShut 64 = .ok (.iconst 3, 1) := by decide +kernel
theorem dX6_isShut_65 : decode cX6_isShut 65 = .ok (.iaload, 1) := by decide +kernel
theorem dX6_isShut_66 : decode cX6_isShut 66 = .ok (.invokestatic 79, 3) := by decide +kernel
theorem dX6_isShut_69 : decode cX6_isShut 69 = .ok (.ifCond .eq 5, 3) := by decide +kernel
theorem dX6_isShut_72 : decode cX6_isShut 72 = .ok (.iconst 1, 1) := by decide +kernel
theorem dX6_isShut_73 : decode cX6_isShut 73 = .ok (.ireturn, 1) := by decide +kernel
theorem dX6_isShut_74 : decode cX6_isShut 74 = .ok (.iinc 2 1, 3) := by decide +kernel
theorem dX6_isShut_77 : decode cX6_isShut 77 = .ok (.goto (-75), 3) := by decide +kernel
theorem dX6_isShut_80 : decode cX6_isShut 80 = .ok (.iconst 0, 1) := by decide +kernel
theorem dX6_isShut_81 : decode cX6_isShut 81 = .ok (.ireturn, 1) := by decide +kernel
set_option maxRecDepth 20000 in
theorem ggX6_isLit_X6_lightComes : GoodIn wsX6_isLit wsX6_lightComes := goodIn_r _ [5, 6, 7, 8, 20, 21, 22, 23, 24, 25, 26, 27, 28, 29, 30, 31, 32, 33, 34, 35, 36, 37, 38, 39] (by decide +kernel) (by decide +kernel)
set_option maxRecDepth 20000 in
theorem gX6_isLit_X6_lightComes : GoodIn wsX6_isLit (wsV RX6 83 RX6 yX6_lightComes wsX6_lightComes) := goodIn_app (goodIn_of _ (by decide +kernel)) ggX6_isLit_X6_lightComes
set_option maxRecDepth 20000 in
theorem ggX6_isLit_X6_isShut : GoodIn wsX6_isLit wsX6_isShut := goodIn_r _ [12, 13, 14, 15, 16, 17, 18, 19, 20, 21, 22, 23, 24, 25, 26, 27, 28, 29, 30, 31, 32] (by decide +kernel) (by decide +kernel)
set_option maxRecDepth 20000 in
theorem gX6_isLit_X6_isShut : GoodIn wsX6_isLit (wsV RX6 87 RX6 yX6_isShut wsX6_isShut) := goodIn_app (goodIn_of _ (by decide +kernel)) ggX6_isLit_X6_isShut
theorem dX6_isLit_0 : decode cX6_isLit 0 = .ok (.aload_n 0, 1) := by decide +kernel
theorem dX6_isLit_1 : decode cX6_isLit 1 = .ok (.iload_n 1, 1) := by decide +kernel
theorem dX6_isLit_2 : decode cX6_isLit 2 = .ok (.invokevirtual 83, 3) := by decide +kernel
theorem dX6_isLit_5 : decode cX6_isLit 5 = .ok (.ifCond .eq 15, 3) := by decide +kernel
theorem dX6_isLit_8 : decode cX6_isLit 8 = .ok (.aload_n 0, 1) := by decide +kernel
theorem dX6_isLit_9 : decode cX6_isLit 9 = .ok (.iload_n 1, 1) := by decide +kernel
theorem dX6_isLit_10 : decode cX6_isLit 10 = .ok (.invokevirtual 87, 3) := by decide +kernel
theorem dX6_isLit_13 : decode cX6_isLit 13 = .ok (.ifCond .ne 7, 3) := by decide +kernel
theorem dX6_isLit_16 : decode cX6_isLit 16 = .ok (.iconst 1, 1) := by decide +kernel
theorem dX6_isLit_17 : decode cX6_isLit 17 = .ok (.goto 4, 3) := by decide +kernel
theorem dX6_isLit_20 : decode cX6_isLit 20 = .ok (.iconst 0, 1) := by decide +kernel
theorem dX6_isLit_21 : decode cX6_isLit 21 = .ok (.ireturn, 1) := by decide +kernel
theorem dX6_lightComes_0 : decode cX6_lightComes 0 = .ok (.iload_n 1, 1) := by decide +kernel
theorem dX6_lightComes_1 : decode cX6_lightComes 1 = .ok (.aload_n 0, 1) := by decide +kernel
theorem dX6_lightComes_2 : decode cX6_lightComes 2 = .ok (.getfield 9, 3) := by decide +kernel
theorem dX6_lightComes_5 : decode cX6_lightComes 5 = .ok (.iconst 4, 1) := by decide +kernel
theorem dX6_lightComes_6 : decode cX6_lightComes 6 = .ok (.iaload, 1) := by decide +kernel
theorem dX6_lightComes_7 : decode cX6_lightComes 7 = .ok (.isub, 1) := by decide +kernel
theorem dX6_lightComes_8 : decode cX6_lightComes 8 = .ok (.istore_n 2, 1) := by decide +kernel
theorem dX6_lightComes_9 : decode cX6_lightComes 9 = .ok (.iload_n 2, 1) := by decide +kernel
theorem dX6_lightComes_10 : decode cX6_lightComes 10 = .ok (.ifCond .lt 19, 3) := by decide +kernel
theorem dX6_lightComes_13 : decode cX6_lightComes 13 = .ok (.aload_n 0, 1) := by decide +kernel
theorem dX6_lightComes_14 : decode cX6_lightComes 14 = .ok (.getfield 18, 3) := by decide +kernel
theorem dX6_lightComes_17 : decode cX6_lightComes 17 = .ok (.getfield 90, 3) := by decide +kernel
theorem dX6_lightComes_20 : decode cX6_lightComes 20 = .ok (.iload_n 2, 1) := by decide +kernel
theorem dX6_lightComes_21 : decode cX6_lightComes 21 = .ok (.baload, 1) := by decide +kernel
theorem dX6_lightComes_22 : decode cX6_lightComes 22 = .ok (.ifCond .eq 7, 3) := by decide +kernel
theorem dX6_lightComes_25 : decode cX6_lightComes 25 = .ok (.iconst 1, 1) := by decide +kernel
theorem dX6_lightComes_26 : decode cX6_lightComes 26 = .ok (.goto 4, 3) := by decide +kernel
theorem dX6_lightComes_29 : decode cX6_lightComes 29 = .ok (.iconst 0, 1) := by decide +kernel
theorem dX6_lightComes_30 : decode cX6_lightComes 30 = .ok (.ireturn, 1) := by decide +kernel
set_option maxRecDepth 20000 in
theorem ggX6_lagAt_X11_way : GoodIn wsX6_lagAt wsX11_way := goodIn_r _ [9, 10, 11, 12, 13, 14, 15, 16] (by decide +kernel) (by decide +kernel)
set_option maxRecDepth 20000 in
theorem gX6_lagAt_X11_way_n93 : GoodIn wsX6_lagAt (wsX11_way) := ggX6_lagAt_X11_way
theorem dX6_lagAt_0 : decode cX6_lagAt 0 = .ok (.aload_n 0, 1) := by decide +kernel
theorem dX6_lagAt_1 : decode cX6_lagAt 1 = .ok (.getfield 18, 3) := by decide +kernel
theorem dX6_lagAt_4 : decode cX6_lagAt 4 = .ok (.getfield 90, 3) := by decide +kernel
theorem dX6_lagAt_7 : decode cX6_lagAt 7 = .ok (.iload_n 1, 1) := by decide +kernel
theorem dX6_lagAt_8 : decode cX6_lagAt 8 = .ok (.baload, 1) := by decide +kernel
theorem dX6_lagAt_9 : decode cX6_lagAt 9 = .ok (.ifCond .eq 39, 3) := by decide +kernel
theorem dX6_lagAt_12 : decode cX6_lagAt 12 = .ok (.aload_n 0, 1) := by decide +kernel
theorem dX6_lagAt_13 : decode cX6_lagAt 13 = .ok (.getfield 18, 3) := by decide +kernel
theorem dX6_lagAt_16 : decode cX6_lagAt 16 = .ok (.getfield 63, 3) := by decide +kernel
theorem dX6_lagAt_19 : decode cX6_lagAt 19 = .ok (.iload_n 1, 1) := by decide +kernel
theorem dX6_lagAt_20 : decode cX6_lagAt 20 = .ok (.iaload, 1) := by decide +kernel
theorem dX6_lagAt_21 : decode cX6_lagAt 21 = .ok (.aload_n 0, 1) := by decide +kernel
theorem dX6_lagAt_22 : decode cX6_lagAt 22 = .ok (.getfield 18, 3) := by decide +kernel
theorem dX6_lagAt_25 : decode cX6_lagAt 25 = .ok (.getfield 70, 3) := by decide +kernel
theorem dX6_lagAt_28 : decode cX6_lagAt 28 = .ok (.iload_n 1, 1) := by decide +kernel
theorem dX6_lagAt_29 : decode cX6_lagAt 29 = .ok (.iaload, 1) := by decide +kernel
theorem dX6_lagAt_30 : decode cX6_lagAt 30 = .ok (.aload_n 0, 1) := by decide +kernel
theorem dX6_lagAt_31 : decode cX6_lagAt 31 = .ok (.getfield 22, 3) := by decide +kernel
theorem dX6_lagAt_34 : decode cX6_lagAt 34 = .ok (.iload_n 1, 1) := by decide +kernel
theorem dX6_lagAt_35 : decode cX6_lagAt 35 = .ok (.iaload, 1) := by decide +kernel
theorem dX6_lagAt_36 : decode cX6_lagAt 36 = .ok (.aload_n 0, 1) := by decide +kernel
theorem dX6_lagAt_37 : decode cX6_lagAt 37 = .ok (.getfield 25, 3) := by decide +kernel
theorem dX6_lagAt_40 : decode cX6_lagAt 40 = .ok (.iload_n 1, 1) := by decide +kernel
theorem dX6_lagAt_41 : decode cX6_lagAt 41 = .ok (.iaload, 1) := by decide +kernel
theorem dX6_lagAt_42 : decode cX6_lagAt 42 = .ok (.invokestatic 93, 3) := by decide +kernel
theorem dX6_lagAt_45 : decode cX6_lagAt 45 = .ok (.goto 4, 3) := by decide +kernel
theorem dX6_lagAt_48 : decode cX6_lagAt 48 = .ok (.iconst 0, 1) := by decide +kernel
theorem dX6_lagAt_49 : decode cX6_lagAt 49 = .ok (.ireturn, 1) := by decide +kernel
set_option maxRecDepth 20000 in
theorem ggX6_sumUp_J7_fill_53178 : GoodIn wsX6_sumUp wsJ7_fill_53178 := goodIn_r _ [19] (by decide +kernel) (by decide +kernel)
set_option maxRecDepth 20000 in
theorem gX6_sumUp_J7_fill_53178 : GoodIn wsX6_sumUp (va_wsS RX6 112 yJ7_fill_53178 wsJ7_fill_53178) := goodIn_app (goodIn_of _ (by decide +kernel)) ggX6_sumUp_J7_fill_53178
set_option maxRecDepth 20000 in
theorem ggX6_sumUp_X6_lagAt : GoodIn wsX6_sumUp wsX6_lagAt := goodIn_r _ [24, 7, 9, 25, 26, 14, 15, 27, 28, 29, 30, 31, 12, 32, 33, 11, 13, 51, 52, 53, 54, 55, 56, 57, 58, 59, 60, 61, 62, 63, 64, 65, 66, 67, 68, 69, 70] (by decide +kernel) (by decide +kernel)
set_option maxRecDepth 20000 in
theorem gX6_sumUp_X6_lagAt : GoodIn wsX6_sumUp (wsV RX6 118 RX6 yX6_lagAt wsX6_lagAt) := goodIn_app (goodIn_of _ (by decide +kernel)) ggX6_sumUp_X6_lagAt
set_option maxRecDepth 20000 in
theorem ggX6_sumUp_X6_isShut : GoodIn wsX6_sumUp wsX6_isShut := goodIn_r _ [37, 38, 14, 39, 15, 40, 28, 41, 51, 52, 53, 54, 55, 56, 57, 58, 59, 60, 61, 62, 63] (by decide +kernel) (by decide +kernel)
set_option maxRecDepth 20000 in
theorem gX6_sumUp_X6_isShut : GoodIn wsX6_sumUp (wsV RX6 87 RX6 yX6_isShut wsX6_isShut) := goodIn_app (goodIn_of _ (by decide +kernel)) ggX6_sumUp_X6_isShut
set_option maxRecDepth 20000 in
theorem ggX6_sumUp_X6_lightComes : GoodIn wsX6_sumUp wsX6_lightComes := goodIn_r _ [45, 46, 7, 9, 51, 52, 53, 54, 55, 56, 57, 58, 59, 60, 61, 62, 63, 64, 65, 66, 67, 68, 69, 70] (by decide +kernel) (by decide +kernel)
set_option maxRecDepth 20000 in
theorem gX6_sumUp_X6_lightComes : GoodIn wsX6_sumUp (wsV RX6 83 RX6 yX6_lightComes wsX6_lightComes) := goodIn_app (goodIn_of _ (by decide +kernel)) ggX6_sumUp_X6_lightComes
set_option maxRecDepth 20000 in
theorem ggX6_sumUp_X6_burnAt : GoodIn wsX6_sumUp wsX6_burnAt := goodIn_r _ [50, 6, 5, 10, 11, 12, 13, 40, 28, 41, 51, 52, 53, 54, 55, 56, 57, 58, 59, 60, 61, 62, 63] (by decide +kernel) (by decide +kernel)
set_option maxRecDepth 20000 in
theorem gX6_sumUp_X6_burnAt : GoodIn wsX6_sumUp (wsV RX6 125 RX6 yX6_burnAt wsX6_burnAt) := goodIn_app (goodIn_of _ (by decide +kernel)) ggX6_sumUp_X6_burnAt
theorem dX6_sumUp_0 : decode cX6_sumUp 0 = .ok (.aload_n 0, 1) := by decide +kernel
theorem dX6_sumUp_1 : decode cX6_sumUp 1 = .ok (.iconst 0, 1) := by decide +kernel
theorem dX6_sumUp_2 : decode cX6_sumUp 2 = .ok (.putfield 97, 3) := by decide +kernel
theorem dX6_sumUp_5 : decode cX6_sumUp 5 = .ok (.aload_n 0, 1) := by decide +kernel
theorem dX6_sumUp_6 : decode cX6_sumUp 6 = .ok (.iconst 0, 1) := by decide +kernel
theorem dX6_sumUp_7 : decode cX6_sumUp 7 = .ok (.putfield 100, 3) := by decide +kernel
theorem dX6_sumUp_10 : decode cX6_sumUp 10 = .ok (.aload_n 0, 1) := by decide +kernel
theorem dX6_sumUp_11 : decode cX6_sumUp 11 = .ok (.iconst 0, 1) := by decide +kernel
theorem dX6_sumUp_12 : decode cX6_sumUp 12 = .ok (.putfield 103, 3) := by decide +kernel
theorem dX6_sumUp_15 : decode cX6_sumUp 15 = .ok (.aload_n 0, 1) := by decide +kernel
theorem dX6_sumUp_16 : decode cX6_sumUp 16 = .ok (.iconst 0, 1) := by decide +kernel
theorem dX6_sumUp_17 : decode cX6_sumUp 17 = .ok (.putfield 106, 3) := by decide +kernel
theorem dX6_sumUp_20 : decode cX6_sumUp 20 = .ok (.aload_n 0, 1) := by decide +kernel
theorem dX6_sumUp_21 : decode cX6_sumUp 21 = .ok (.iconst 0, 1) := by decide +kernel
theorem dX6_sumUp_22 : decode cX6_sumUp 22 = .ok (.putfield 109, 3) := by decide +kernel
theorem dX6_sumUp_25 : decode cX6_sumUp 25 = .ok (.iconst 0, 1) := by decide +kernel
theorem dX6_sumUp_26 : decode cX6_sumUp 26 = .ok (.istore_n 1, 1) := by decide +kernel
theorem dX6_sumUp_27 : decode cX6_sumUp 27 = .ok (.iload_n 1, 1) := by decide +kernel
theorem dX6_sumUp_28 : decode cX6_sumUp 28 = .ok (.bipush 11, 2) := by decide +kernel
theorem dX6_sumUp_30 : decode cX6_sumUp 30 = .ok (.if_icmp .ge 19, 3) := by decide +kernel
theorem dX6_sumUp_33 : decode cX6_sumUp 33 = .ok (.aload_n 0, 1) := by decide +kernel
theorem dX6_sumUp_34 : decode cX6_sumUp 34 = .ok (.getfield 30, 3) := by decide +kernel
theorem dX6_sumUp_37 : decode cX6_sumUp 37 = .ok (.iload_n 1, 1) := by decide +kernel
theorem dX6_sumUp_38 : decode cX6_sumUp 38 = .ok (.aaload, 1) := by decide +kernel
theorem dX6_sumUp_39 : decode cX6_sumUp 39 = .ok (.iconst 0, 1) := by decide +kernel
theorem dX6_sumUp_40 : decode cX6_sumUp 40 = .ok (.invokestatic 112, 3) := by decide +kernel
theorem dX6_sumUp_43 : decode cX6_sumUp 43 = .ok (.iinc 1 1, 3) := by decide +kernel
theorem dX6_sumUp_46 : decode cX6_sumUp 46 = .ok (.goto (-19), 3) := by decide +kernel
theorem dX6_sumUp_49 : decode cX6_sumUp 49 = .ok (.iconst 0, 1) := by decide +kernel
theorem dX6_sumUp_50 : decode cX6_sumUp 50 = .ok (.istore_n 1, 1) := by decide +kernel
theorem dX6_sumUp_51 : decode cX6_sumUp 51 = .ok (.iload_n 1, 1) := by decide +kernel
theorem dX6_sumUp_52 : decode cX6_sumUp 52 = .ok (.aload_n 0, 1) := by decide +kernel
theorem dX6_sumUp_53 : decode cX6_sumUp 53 = .ok (.getfield 18, 3) := by decide +kernel
theorem dX6_sumUp_56 : decode cX6_sumUp 56 = .ok (.getfield 76, 3) := by decide +kernel
theorem dX6_sumUp_59 : decode cX6_sumUp 59 = .ok (.if_icmp .ge 106, 3) := by decide +kernel
theorem dX6_sumUp_62 : decode cX6_sumUp 62 = .ok (.aload_n 0, 1) := by decide +kernel
theorem dX6_sumUp_63 : decode cX6_sumUp 63 = .ok (.dup, 1) := by decide +kernel
theorem dX6_sumUp_64 : decode cX6_sumUp 64 = .ok (.getfield 97, 3) := by decide +kernel
theorem dX6_sumUp_67 : decode cX6_sumUp 67 = .ok (.aload_n 0, 1) := by decide +kernel
theorem dX6_sumUp_68 : decode cX6_sumUp 68 = .ok (.getfield 18, 3) := by decide +kernel
theorem dX6_sumUp_71 : decode cX6_sumUp 71 = .ok (.getfield 90, 3) := by decide +kernel
theorem dX6_sumUp_74 : decode cX6_sumUp 74 = .ok (.iload_n 1, 1) := by decide +kernel
theorem dX6_sumUp_75 : decode cX6_sumUp 75 = .ok (.baload, 1) := by decide +kernel
theorem dX6_sumUp_76 : decode cX6_sumUp 76 = .ok (.ifCond .eq 7, 3) := by decide +kernel
theorem dX6_sumUp_79 : decode cX6_sumUp 79 = .ok (.iconst 1, 1) := by decide +kernel
theorem dX6_sumUp_80 : decode cX6_sumUp 80 = .ok (.goto 4, 3) := by decide +kernel
theorem dX6_sumUp_83 : decode cX6_sumUp 83 = .ok (.iconst 0, 1) := by decide +kernel
theorem dX6_sumUp_84 : decode cX6_sumUp 84 = .ok (.iadd, 1) := by decide +kernel
theorem dX6_sumUp_85 : decode cX6_sumUp 85 = .ok (.putfield 97, 3) := by decide +kernel
theorem dX6_sumUp_88 : decode cX6_sumUp 88 = .ok (.aload_n 0, 1) := by decide +kernel
theorem dX6_sumUp_89 : decode cX6_sumUp 89 = .ok (.aload_n 0, 1) := by decide +kernel
theorem dX6_sumUp_90 : decode cX6_sumUp 90 = .ok (.getfield 106, 3) := by decide +kernel
theorem dX6_sumUp_93 : decode cX6_sumUp 93 = .ok (.aload_n 0, 1) := by decide +kernel
theorem dX6_sumUp_94 : decode cX6_sumUp 94 = .ok (.iload_n 1, 1) := by decide +kernel
theorem dX6_sumUp_95 : decode cX6_sumUp 95 = .ok (.invokevirtual 118, 3) := by decide +kernel
theorem dX6_sumUp_98 : decode cX6_sumUp 98 = .ok (.invokestatic 122, 3) := by decide +kernel
theorem dX6_sumUp_101 : decode cX6_sumUp 101 = .ok (.putfield 106, 3) := by decide +kernel
theorem dX6_sumUp_104 : decode cX6_sumUp 104 = .ok (.aload_n 0, 1) := by decide +kernel
theorem dX6_sumUp_105 : decode cX6_sumUp 105 = .ok (.iload_n 1, 1) := by decide +kernel
theorem dX6_sumUp_106 : decode cX6_sumUp 106 = .ok (.invokevirtual 87, 3) := by decide +kernel
theorem dX6_sumUp_109 : decode cX6_sumUp 109 = .ok (.ifCond .eq 16, 3) := by decide +kernel
theorem dX6_sumUp_112 : decode cX6_sumUp 112 = .ok (.aload_n 0, 1) := by decide +kernel
theorem dX6_sumUp_113 : decode cX6_sumUp 113 = .ok (.dup, 1) := by decide +kernel
theorem dX6_sumUp_114 : decode cX6_sumUp 114 = .ok (.getfield 103, 3) := by decide +kernel
theorem dX6_sumUp_117 : decode cX6_sumUp 117 = .ok (.iconst 1, 1) := by decide +kernel
theorem dX6_sumUp_118 : decode cX6_sumUp 118 = .ok (.iadd, 1) := by decide +kernel
theorem dX6_sumUp_119 : decode cX6_sumUp 119 = .ok (.putfield 103, 3) := by decide +kernel
theorem dX6_sumUp_122 : decode cX6_sumUp 122 = .ok (.goto 37, 3) := by decide +kernel
theorem dX6_sumUp_125 : decode cX6_sumUp 125 = .ok (.aload_n 0, 1) := by decide +kernel
theorem dX6_sumUp_126 : decode cX6_sumUp 126 = .ok (.iload_n 1, 1) := by decide +kernel
theorem dX6_sumUp_127 : decode cX6_sumUp 127 = .ok (.invokevirtual 83, 3) := by decide +kernel
theorem dX6_sumUp_130 : decode cX6_sumUp 130 = .ok (.ifCond .eq 29, 3) := by decide +kernel
theorem dX6_sumUp_133 : decode cX6_sumUp 133 = .ok (.aload_n 0, 1) := by decide +kernel
theorem dX6_sumUp_134 : decode cX6_sumUp 134 = .ok (.dup, 1) := by decide +kernel
theorem dX6_sumUp_135 : decode cX6_sumUp 135 = .ok (.getfield 100, 3) := by decide +kernel
theorem dX6_sumUp_138 : decode cX6_sumUp 138 = .ok (.iconst 1, 1) := by decide +kernel
