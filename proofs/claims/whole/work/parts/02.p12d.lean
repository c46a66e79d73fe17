theorem dX12_kind_21 : decode cX12_kind 21 = .ok (.ldc 100, 2) := by decide +kernel
theorem dX12_kind_23 : decode cX12_kind 23 = .ok (.ireturn, 1) := by decide +kernel
set_option maxRecDepth 20000 in
theorem ggX12_as_X12_isStroke : GoodIn wsX12_as wsX12_isStroke := goodIn_r _ [10, 11, 12, 13, 9, 14, 26, 27, 28, 29, 30, 31, 32, 33, 34, 35, 36, 37, 38, 39, 40, 41, 42, 43, 44, 45, 46, 47, 48, 49, 50, 51, 52, 53, 54, 55, 56, 57, 58, 59, 60, 61, 62, 63, 64, 65, 66, 67] (by decide +kernel) (by decide +kernel)
set_option maxRecDepth 20000 in
theorem gX12_as_X12_isStroke : GoodIn wsX12_as (wsV RX12 113 RX12 yX12_isStroke wsX12_isStroke) := goodIn_app (goodIn_of _ (by decide +kernel)) ggX12_as_X12_isStroke
set_option maxRecDepth 20000 in
theorem ggX12_as_X12_in : GoodIn wsX12_as wsX12_in := goodIn_r _ [14] (by decide +kernel) (by decide +kernel)
set_option maxRecDepth 20000 in
theorem gX12_as_X12_in : GoodIn wsX12_as (va_wsS RX12 90 yX12_in wsX12_in) := goodIn_app (goodIn_of _ (by decide +kernel)) ggX12_as_X12_in
set_option maxRecDepth 20000 in
theorem ggX12_as_X12_kindOf : GoodIn wsX12_as wsX12_kindOf := goodIn_r _ [18, 5, 19, 20, 26, 27, 28, 29, 30, 31, 32, 33, 34, 35, 36, 37, 38, 39, 40, 41, 42, 43, 44, 45, 46, 47, 48, 49, 50, 51, 52, 53, 54, 55, 56, 57, 58, 59, 60, 61, 62, 63, 64, 65, 66, 67] (by decide +kernel) (by decide +kernel)
set_option maxRecDepth 20000 in
theorem gX12_as_X12_kindOf : GoodIn wsX12_as (wsV RX12 270 RX12 yX12_kindOf wsX12_kindOf) := goodIn_app (goodIn_of _ (by decide +kernel)) ggX12_as_X12_kindOf
set_option maxRecDepth 20000 in
theorem ggX12_as_X12_found : GoodIn wsX12_as wsX12_found := goodIn_r _ [24, 4, 25, 26, 27, 28, 29, 30, 31, 32, 33, 34, 35, 36, 37, 38, 39, 40, 41, 42, 43, 44, 45, 46, 47, 48, 49, 50, 51, 52, 53, 54, 55, 56, 57, 58, 59, 60, 61, 62, 63, 64, 65, 66, 67] (by decide +kernel) (by decide +kernel)
set_option maxRecDepth 20000 in
theorem gX12_as_X12_found : GoodIn wsX12_as (wsV RX12 101 RX12 yX12_found wsX12_found) := goodIn_app (goodIn_of _ (by decide +kernel)) ggX12_as_X12_found
theorem dX12_as_0 : decode cX12_as 0 = .ok (.aload_n 0, 1) := by decide +kernel
theorem dX12_as_1 : decode cX12_as 1 = .ok (.iconst 0, 1) := by decide +kernel
theorem dX12_as_2 : decode cX12_as 2 = .ok (.putfield 1, 3) := by decide +kernel
theorem dX12_as_5 : decode cX12_as 5 = .ok (.aload_n 0, 1) := by decide +kernel
theorem dX12_as_6 : decode cX12_as 6 = .ok (.iload_n 1, 1) := by decide +kernel
theorem dX12_as_7 : decode cX12_as 7 = .ok (.invokevirtual 113, 3) := by decide +kernel
theorem dX12_as_10 : decode cX12_as 10 = .ok (.ifCond .eq 15, 3) := by decide +kernel
theorem dX12_as_13 : decode cX12_as 13 = .ok (.iload_n 2, 1) := by decide +kernel
theorem dX12_as_14 : decode cX12_as 14 = .ok (.i2l, 1) := by decide +kernel
theorem dX12_as_15 : decode cX12_as 15 = .ok (.lconst 0, 1) := by decide +kernel
theorem dX12_as_16 : decode cX12_as 16 = .ok (.ldc2_w 147, 3) := by decide +kernel
theorem dX12_as_19 : decode cX12_as 19 = .ok (.invokestatic 90, 3) := by decide +kernel
theorem dX12_as_22 : decode cX12_as 22 = .ok (.ifCond .ne 6, 3) := by decide +kernel
theorem dX12_as_25 : decode cX12_as 25 = .ok (.ldc 100, 2) := by decide +kernel
theorem dX12_as_27 : decode cX12_as 27 = .ok (.ireturn, 1) := by decide +kernel
theorem dX12_as_28 : decode cX12_as 28 = .ok (.aload_n 0, 1) := by decide +kernel
theorem dX12_as_29 : decode cX12_as 29 = .ok (.iconst 0, 1) := by decide +kernel
theorem dX12_as_30 : decode cX12_as 30 = .ok (.putfield 7, 3) := by decide +kernel
theorem dX12_as_33 : decode cX12_as 33 = .ok (.aload_n 0, 1) := by decide +kernel
theorem dX12_as_34 : decode cX12_as 34 = .ok (.iload_n 1, 1) := by decide +kernel
theorem dX12_as_35 : decode cX12_as 35 = .ok (.invokevirtual 270, 3) := by decide +kernel
theorem dX12_as_38 : decode cX12_as 38 = .ok (.istore_n 3, 1) := by decide +kernel
theorem dX12_as_39 : decode cX12_as 39 = .ok (.iload_n 2, 1) := by decide +kernel
theorem dX12_as_40 : decode cX12_as 40 = .ok (.ifCond .eq 18, 3) := by decide +kernel
theorem dX12_as_43 : decode cX12_as 43 = .ok (.iload_n 3, 1) := by decide +kernel
theorem dX12_as_44 : decode cX12_as 44 = .ok (.iload_n 2, 1) := by decide +kernel
theorem dX12_as_45 : decode cX12_as 45 = .ok (.if_icmp .eq 13, 3) := by decide +kernel
theorem dX12_as_48 : decode cX12_as 48 = .ok (.iload_n 2, 1) := by decide +kernel
theorem dX12_as_49 : decode cX12_as 49 = .ok (.iconst 2, 1) := by decide +kernel
theorem dX12_as_50 : decode cX12_as 50 = .ok (.if_icmp .ne 17, 3) := by decide +kernel
theorem dX12_as_53 : decode cX12_as 53 = .ok (.iload_n 3, 1) := by decide +kernel
theorem dX12_as_54 : decode cX12_as 54 = .ok (.iconst 3, 1) := by decide +kernel
theorem dX12_as_55 : decode cX12_as 55 = .ok (.if_icmp .ne 12, 3) := by decide +kernel
theorem dX12_as_58 : decode cX12_as 58 = .ok (.aload_n 0, 1) := by decide +kernel
theorem dX12_as_59 : decode cX12_as 59 = .ok (.getfield 27, 3) := by decide +kernel
theorem dX12_as_62 : decode cX12_as 62 = .ok (.iload_n 1, 1) := by decide +kernel
theorem dX12_as_63 : decode cX12_as 63 = .ok (.iaload, 1) := by decide +kernel
theorem dX12_as_64 : decode cX12_as 64 = .ok (.goto 8, 3) := by decide +kernel
theorem dX12_as_67 : decode cX12_as 67 = .ok (.aload_n 0, 1) := by decide +kernel
theorem dX12_as_68 : decode cX12_as 68 = .ok (.iconst 3, 1) := by decide +kernel
theorem dX12_as_69 : decode cX12_as 69 = .ok (.invokevirtual 101, 3) := by decide +kernel
theorem dX12_as_72 : decode cX12_as 72 = .ok (.ireturn, 1) := by decide +kernel
theorem dX12_began_0 : decode cX12_began 0 = .ok (.aload_n 0, 1) := by decide +kernel
theorem dX12_began_1 : decode cX12_began 1 = .ok (.getfield 273, 3) := by decide +kernel
theorem dX12_began_4 : decode cX12_began 4 = .ok (.bipush 16, 2) := by decide +kernel
theorem dX12_began_6 : decode cX12_began 6 = .ok (.if_icmp .ge 23, 3) := by decide +kernel
theorem dX12_began_9 : decode cX12_began 9 = .ok (.aload_n 0, 1) := by decide +kernel
theorem dX12_began_10 : decode cX12_began 10 = .ok (.getfield 85, 3) := by decide +kernel
theorem dX12_began_13 : decode cX12_began 13 = .ok (.aload_n 0, 1) := by decide +kernel
theorem dX12_began_14 : decode cX12_began 14 = .ok (.getfield 273, 3) := by decide +kernel
theorem dX12_began_17 : decode cX12_began 17 = .ok (.iload_n 1, 1) := by decide +kernel
theorem dX12_began_18 : decode cX12_began 18 = .ok (.iastore, 1) := by decide +kernel
theorem dX12_began_19 : decode cX12_began 19 = .ok (.aload_n 0, 1) := by decide +kernel
theorem dX12_began_20 : decode cX12_began 20 = .ok (.dup, 1) := by decide +kernel
theorem dX12_began_21 : decode cX12_began 21 = .ok (.getfield 273, 3) := by decide +kernel
theorem dX12_began_24 : decode cX12_began 24 = .ok (.iconst 1, 1) := by decide +kernel
theorem dX12_began_25 : decode cX12_began 25 = .ok (.iadd, 1) := by decide +kernel
theorem dX12_began_26 : decode cX12_began 26 = .ok (.putfield 273, 3) := by decide +kernel
theorem dX12_began_29 : decode cX12_began 29 = .ok (.return_, 1) := by decide +kernel
set_option maxRecDepth 20000 in
theorem ggX12_sized_X12_kindOf : GoodIn wsX12_sized wsX12_kindOf := goodIn_r _ [8, 1, 2, 3, 21, 22, 23, 24, 25, 26, 27, 28, 29, 30, 31, 32, 33, 34, 35, 36, 37, 38, 39, 40, 41, 42, 43, 44, 45, 46, 47, 48, 49, 50, 51, 52, 53, 54, 55, 56, 57, 58, 59, 60, 61, 62] (by decide +kernel) (by decide +kernel)
set_option maxRecDepth 20000 in
theorem gX12_sized_X12_kindOf : GoodIn wsX12_sized (wsV RX12 270 RX12 yX12_kindOf wsX12_kindOf) := goodIn_app (goodIn_of _ (by decide +kernel)) ggX12_sized_X12_kindOf
set_option maxRecDepth 20000 in
theorem ggX12_sized_X12_began : GoodIn wsX12_sized wsX12_began := goodIn_r _ [12, 13, 14, 21, 22, 23, 24, 25, 26, 27, 28, 29, 30, 31, 32, 33, 34, 35, 36, 37, 38, 39, 40, 41, 42, 43, 44, 45, 46, 47, 48, 49, 50, 51, 52, 53, 54, 55, 56, 57, 58, 59, 60, 61, 62] (by decide +kernel) (by decide +kernel)
set_option maxRecDepth 20000 in
theorem gX12_sized_X12_began : GoodIn wsX12_sized (wsV RX12 276 RX12 yX12_began wsX12_began) := goodIn_app (goodIn_of _ (by decide +kernel)) ggX12_sized_X12_began
set_option maxRecDepth 20000 in
theorem ggX12_sized_X12_way : GoodIn wsX12_sized wsX12_way := goodIn_r _ [17, 18, 19, 7, 20] (by decide +kernel) (by decide +kernel)
set_option maxRecDepth 20000 in
theorem gX12_sized_X12_way : GoodIn wsX12_sized (va_wsS RX12 123 yX12_way wsX12_way) := goodIn_app (goodIn_of _ (by decide +kernel)) ggX12_sized_X12_way
theorem dX12_sized_0 : decode cX12_sized 0 = .ok (.aload_n 0, 1) := by decide +kernel
theorem dX12_sized_1 : decode cX12_sized 1 = .ok (.iload_n 1, 1) := by decide +kernel
theorem dX12_sized_2 : decode cX12_sized 2 = .ok (.invokevirtual 270, 3) := by decide +kernel
theorem dX12_sized_5 : decode cX12_sized 5 = .ok (.istore_n 2, 1) := by decide +kernel
theorem dX12_sized_6 : decode cX12_sized 6 = .ok (.iload_n 2, 1) := by decide +kernel
theorem dX12_sized_7 : decode cX12_sized 7 = .ok (.iconst 1, 1) := by decide +kernel
theorem dX12_sized_8 : decode cX12_sized 8 = .ok (.if_icmp .ne 11, 3) := by decide +kernel
theorem dX12_sized_11 : decode cX12_sized 11 = .ok (.aload_n 0, 1) := by decide +kernel
theorem dX12_sized_12 : decode cX12_sized 12 = .ok (.bipush 13, 2) := by decide +kernel
theorem dX12_sized_14 : decode cX12_sized 14 = .ok (.invokevirtual 276, 3) := by decide +kernel
theorem dX12_sized_17 : decode cX12_sized 17 = .ok (.iconst 0, 1) := by decide +kernel
theorem dX12_sized_18 : decode cX12_sized 18 = .ok (.ireturn, 1) := by decide +kernel
theorem dX12_sized_19 : decode cX12_sized 19 = .ok (.iload_n 2, 1) := by decide +kernel
theorem dX12_sized_20 : decode cX12_sized 20 = .ok (.iconst 3, 1) := by decide +kernel
theorem dX12_sized_21 : decode cX12_sized 21 = .ok (.if_icmp .ne 9, 3) := by decide +kernel
theorem dX12_sized_24 : decode cX12_sized 24 = .ok (.aload_n 0, 1) := by decide +kernel
theorem dX12_sized_25 : decode cX12_sized 25 = .ok (.bipush 12, 2) := by decide +kernel
theorem dX12_sized_27 : decode cX12_sized 27 = .ok (.invokevirtual 276, 3) := by decide +kernel
theorem dX12_sized_30 : decode cX12_sized 30 = .ok (.aload_n 0, 1) := by decide +kernel
theorem dX12_sized_31 : decode cX12_sized 31 = .ok (.bipush 11, 2) := by decide +kernel
theorem dX12_sized_33 : decode cX12_sized 33 = .ok (.invokevirtual 276, 3) := by decide +kernel
theorem dX12_sized_36 : decode cX12_sized 36 = .ok (.aload_n 0, 1) := by decide +kernel
theorem dX12_sized_37 : decode cX12_sized 37 = .ok (.bipush 10, 2) := by decide +kernel
theorem dX12_sized_39 : decode cX12_sized 39 = .ok (.invokevirtual 276, 3) := by decide +kernel
theorem dX12_sized_42 : decode cX12_sized 42 = .ok (.aload_n 0, 1) := by decide +kernel
theorem dX12_sized_43 : decode cX12_sized 43 = .ok (.getfield 27, 3) := by decide +kernel
theorem dX12_sized_46 : decode cX12_sized 46 = .ok (.iload_n 1, 1) := by decide +kernel
theorem dX12_sized_47 : decode cX12_sized 47 = .ok (.iaload, 1) := by decide +kernel
theorem dX12_sized_48 : decode cX12_sized 48 = .ok (.istore_n 3, 1) := by decide +kernel
theorem dX12_sized_49 : decode cX12_sized 49 = .ok (.bipush 8, 2) := by decide +kernel
theorem dX12_sized_51 : decode cX12_sized 51 = .ok (.iload_n 1, 1) := by decide +kernel
theorem dX12_sized_52 : decode cX12_sized 52 = .ok (.imul, 1) := by decide +kernel
theorem dX12_sized_53 : decode cX12_sized 53 = .ok (.iconst 1, 1) := by decide +kernel
theorem dX12_sized_54 : decode cX12_sized 54 = .ok (.iadd, 1) := by decide +kernel
theorem dX12_sized_55 : decode cX12_sized 55 = .ok (.istore 4, 2) := by decide +kernel
theorem dX12_sized_57 : decode cX12_sized 57 = .ok (.iload 4, 2) := by decide +kernel
theorem dX12_sized_59 : decode cX12_sized 59 = .ok (.bipush 8, 2) := by decide +kernel
theorem dX12_sized_61 : decode cX12_sized 61 = .ok (.iload_n 1, 1) := by decide +kernel
theorem dX12_sized_62 : decode cX12_sized 62 = .ok (.imul, 1) := by decide +kernel
theorem dX12_sized_63 : decode cX12_sized 63 = .ok (.aload_n 0, 1) := by decide +kernel
theorem dX12_sized_64 : decode cX12_sized 64 = .ok (.getfield 27, 3) := by decide +kernel
theorem dX12_sized_67 : decode cX12_sized 67 = .ok (.iload_n 1, 1) := by decide +kernel
theorem dX12_sized_68 : decode cX12_sized 68 = .ok (.iaload, 1) := by decide +kernel
theorem dX12_sized_69 : decode cX12_sized 69 = .ok (.iadd, 1) := by decide +kernel
theorem dX12_sized_70 : decode cX12_sized 70 = .ok (.if_icmp .ge 47, 3) := by decide +kernel
theorem dX12_sized_73 : decode cX12_sized 73 = .ok (.iload_n 3, 1) := by decide +kernel
theorem dX12_sized_74 : decode cX12_sized 74 = .ok (.aload_n 0, 1) := by decide +kernel
theorem dX12_sized_75 : decode cX12_sized 75 = .ok (.getfield 30, 3) := by decide +kernel
theorem dX12_sized_78 : decode cX12_sized 78 = .ok (.iload 4, 2) := by decide +kernel
theorem dX12_sized_80 : decode cX12_sized 80 = .ok (.iconst 1, 1) := by decide +kernel
theorem dX12_sized_81 : decode cX12_sized 81 = .ok (.isub, 1) := by decide +kernel
theorem dX12_sized_82 : decode cX12_sized 82 = .ok (.iaload, 1) := by decide +kernel
theorem dX12_sized_83 : decode cX12_sized 83 = .ok (.aload_n 0, 1) := by decide +kernel
theorem dX12_sized_84 : decode cX12_sized 84 = .ok (.getfield 33, 3) := by decide +kernel
theorem dX12_sized_87 : decode cX12_sized 87 = .ok (.iload 4, 2) := by decide +kernel
theorem dX12_sized_89 : decode cX12_sized 89 = .ok (.iconst 1, 1) := by decide +kernel
theorem dX12_sized_90 : decode cX12_sized 90 = .ok (.isub, 1) := by decide +kernel
theorem dX12_sized_91 : decode cX12_sized 91 = .ok (.iaload, 1) := by decide +kernel
theorem dX12_sized_92 : decode cX12_sized 92 = .ok (.aload_n 0, 1) := by decide +kernel
theorem dX12_sized_93 : decode cX12_sized 93 = .ok (.getfield 30, 3) := by decide +kernel
theorem dX12_sized_96 : decode cX12_sized 96 = .ok (.iload 4, 2) := by decide +kernel
theorem dX12_sized_98 : decode cX12_sized 98 = .ok (.iaload, 1) := by decide +kernel
theorem dX12_sized_99 : decode cX12_sized 99 = .ok (.aload_n 0, 1) := by decide +kernel
theorem dX12_sized_100 : decode cX12_sized 100 = .ok (.getfield 33, 3) := by decide +kernel
theorem dX12_sized_103 : decode cX12_sized 103 = .ok (.iload 4, 2) := by decide +kernel
theorem dX12_sized_105 : decode cX12_sized 105 = .ok (.iaload, 1) := by decide +kernel
theorem dX12_sized_106 : decode cX12_sized 106 = .ok (.invokestatic 123, 3) := by decide +kernel
theorem dX12_sized_109 : decode cX12_sized 109 = .ok (.iadd, 1) := by decide +kernel
theorem dX12_sized_110 : decode cX12_sized 110 = .ok (.istore_n 3, 1) := by decide +kernel
theorem dX12_sized_111 : decode cX12_sized 111 = .ok (.iinc 4 1, 3) := by decide +kernel
theorem dX12_sized_114 : decode cX12_sized 114 = .ok (.goto (-57), 3) := by decide +kernel
theorem dX12_sized_117 : decode cX12_sized 117 = .ok (.iload_n 2, 1) := by decide +kernel
theorem dX12_sized_118 : decode cX12_sized 118 = .ok (.iconst 3, 1) := by decide +kernel
theorem dX12_sized_119 : decode cX12_sized 119 = .ok (.if_icmp .ne 9, 3) := by decide +kernel
theorem dX12_sized_122 : decode cX12_sized 122 = .ok (.iconst 2, 1) := by decide +kernel
theorem dX12_sized_123 : decode cX12_sized 123 = .ok (.iload_n 3, 1) := by decide +kernel
theorem dX12_sized_124 : decode cX12_sized 124 = .ok (.imul, 1) := by decide +kernel
theorem dX12_sized_125 : decode cX12_sized 125 = .ok (.goto 4, 3) := by decide +kernel
theorem dX12_sized_128 : decode cX12_sized 128 = .ok (.iload_n 3, 1) := by decide +kernel
theorem dX12_sized_129 : decode cX12_sized 129 = .ok (.ireturn, 1) := by decide +kernel
set_option maxRecDepth 20000 in
theorem ggX12_marked_X12_kindOf : GoodIn wsX12_marked wsX12_kindOf := goodIn_r _ [7, 8, 1, 2, 25, 26, 27, 28, 29, 30, 31, 32, 33, 34, 35, 36, 37, 38, 39, 40, 41, 42, 43, 44, 45, 46, 47, 48, 49, 50, 51, 52, 53, 54, 55, 56, 57, 58, 59, 60, 61, 62, 63, 64, 65, 66] (by decide +kernel) (by decide +kernel)
set_option maxRecDepth 20000 in
theorem gX12_marked_X12_kindOf : GoodIn wsX12_marked (wsV RX12 270 RX12 yX12_kindOf wsX12_kindOf) := goodIn_app (goodIn_of _ (by decide +kernel)) ggX12_marked_X12_kindOf
set_option maxRecDepth 20000 in
theorem ggX12_marked_X12_began : GoodIn wsX12_marked wsX12_began := goodIn_r _ [12, 13, 14, 25, 26, 27, 28, 29, 30, 31, 32, 33, 34, 35, 36, 37, 38, 39, 40, 41, 42, 43, 44, 45, 46, 47, 48, 49, 50, 51, 52, 53, 54, 55, 56, 57, 58, 59, 60, 61, 62, 63, 64, 65, 66] (by decide +kernel) (by decide +kernel)
set_option maxRecDepth 20000 in
theorem gX12_marked_X12_began : GoodIn wsX12_marked (wsV RX12 276 RX12 yX12_began wsX12_began) := goodIn_app (goodIn_of _ (by decide +kernel)) ggX12_marked_X12_began
set_option maxRecDepth 20000 in
theorem ggX12_marked_X12_sized : GoodIn wsX12_marked wsX12_sized := goodIn_r _ [18, 8, 1, 2, 3, 4, 5, 6, 7, 9, 10, 11, 12, 13, 14, 19, 20, 21, 22, 23, 24, 25, 26, 27, 28, 29, 30, 31, 32, 33, 34, 35, 36, 37, 38, 39, 40, 41, 42, 43, 44, 45, 46, 47, 48, 49, 50, 51, 52, 53, 54, 55, 56, 57, 58, 59, 60, 61, 62, 63, 64, 65, 66] (by decide +kernel) (by decide +kernel)
set_option maxRecDepth 20000 in
theorem gX12_marked_X12_sized : GoodIn wsX12_marked (wsV RX12 279 RX12 yX12_sized wsX12_sized) := goodIn_app (goodIn_of _ (by decide +kernel)) ggX12_marked_X12_sized
theorem dX12_marked_0 : decode cX12_marked 0 = .ok (.aload_n 0, 1) := by decide +kernel
theorem dX12_marked_1 : decode cX12_marked 1 = .ok (.iload_n 1, 1) := by decide +kernel
theorem dX12_marked_2 : decode cX12_marked 2 = .ok (.invokevirtual 270, 3) := by decide +kernel
theorem dX12_marked_5 : decode cX12_marked 5 = .ok (.istore_n 2, 1) := by decide +kernel
theorem dX12_marked_6 : decode cX12_marked 6 = .ok (.aload_n 0, 1) := by decide +kernel
theorem dX12_marked_7 : decode cX12_marked 7 = .ok (.iload_n 2, 1) := by decide +kernel
theorem dX12_marked_8 : decode cX12_marked 8 = .ok (.iconst 1, 1) := by decide +kernel
theorem dX12_marked_9 : decode cX12_marked 9 = .ok (.if_icmp .ne 8, 3) := by decide +kernel
theorem dX12_marked_12 : decode cX12_marked 12 = .ok (.bipush 22, 2) := by decide +kernel
theorem dX12_marked_14 : decode cX12_marked 14 = .ok (.goto 5, 3) := by decide +kernel
theorem dX12_marked_17 : decode cX12_marked 17 = .ok (.bipush 21, 2) := by decide +kernel
theorem dX12_marked_19 : decode cX12_marked 19 = .ok (.invokevirtual 276, 3) := by decide +kernel
theorem dX12_marked_22 : decode cX12_marked 22 = .ok (.aload_n 0, 1) := by decide +kernel
theorem dX12_marked_23 : decode cX12_marked 23 = .ok (.bipush 20, 2) := by decide +kernel
theorem dX12_marked_25 : decode cX12_marked 25 = .ok (.invokevirtual 276, 3) := by decide +kernel
theorem dX12_marked_28 : decode cX12_marked 28 = .ok (.aload_n 0, 1) := by decide +kernel
theorem dX12_marked_29 : decode cX12_marked 29 = .ok (.getfield 30, 3) := by decide +kernel
theorem dX12_marked_32 : decode cX12_marked 32 = .ok (.bipush 8, 2) := by decide +kernel
theorem dX12_marked_34 : decode cX12_marked 34 = .ok (.iload_n 1, 1) := by decide +kernel
theorem dX12_marked_35 : decode cX12_marked 35 = .ok (.imul, 1) := by decide +kernel
theorem dX12_marked_36 : decode cX12_marked 36 = .ok (.iaload, 1) := by decide +kernel
theorem dX12_marked_37 : decode cX12_marked 37 = .ok (.iload_n 2, 1) := by decide +kernel
theorem dX12_marked_38 : decode cX12_marked 38 = .ok (.iconst 1, 1) := by decide +kernel
theorem dX12_marked_39 : decode cX12_marked 39 = .ok (.if_icmp .ne 15, 3) := by decide +kernel
theorem dX12_marked_42 : decode cX12_marked 42 = .ok (.aload_n 0, 1) := by decide +kernel
theorem dX12_marked_43 : decode cX12_marked 43 = .ok (.getfield 33, 3) := by decide +kernel
theorem dX12_marked_46 : decode cX12_marked 46 = .ok (.bipush 8, 2) := by decide +kernel
theorem dX12_marked_48 : decode cX12_marked 48 = .ok (.iload_n 1, 1) := by decide +kernel
theorem dX12_marked_49 : decode cX12_marked 49 = .ok (.imul, 1) := by decide +kernel
theorem dX12_marked_50 : decode cX12_marked 50 = .ok (.iaload, 1) := by decide +kernel
theorem dX12_marked_51 : decode cX12_marked 51 = .ok (.goto 8, 3) := by decide +kernel
theorem dX12_marked_54 : decode cX12_marked 54 = .ok (.aload_n 0, 1) := by decide +kernel
theorem dX12_marked_55 : decode cX12_marked 55 = .ok (.iload_n 1, 1) := by decide +kernel
theorem dX12_marked_56 : decode cX12_marked 56 = .ok (.invokevirtual 279, 3) := by decide +kernel
theorem dX12_marked_59 : decode cX12_marked 59 = .ok (.iadd, 1) := by decide +kernel
theorem dX12_marked_60 : decode cX12_marked 60 = .ok (.ireturn, 1) := by decide +kernel
set_option maxRecDepth 20000 in
theorem ggX12_ask_X12_isStroke : GoodIn wsX12_ask wsX12_isStroke := goodIn_r _ [8, 9, 10, 11, 7, 12, 39, 40, 41, 42, 43, 44, 45, 46, 47, 48, 49, 50, 51, 52, 53, 54, 55, 56, 57, 58, 59, 60, 61, 62, 63, 64, 65, 66, 67, 68, 69, 70, 71, 72, 73, 74, 75, 76, 77, 78, 79, 80] (by decide +kernel) (by decide +kernel)
set_option maxRecDepth 20000 in
theorem gX12_ask_X12_isStroke : GoodIn wsX12_ask (wsV RX12 113 RX12 yX12_isStroke wsX12_isStroke) := goodIn_app (goodIn_of _ (by decide +kernel)) ggX12_ask_X12_isStroke
set_option maxRecDepth 20000 in
theorem ggX12_ask_X12_in : GoodIn wsX12_ask wsX12_in := goodIn_r _ [12] (by decide +kernel) (by decide +kernel)
set_option maxRecDepth 20000 in
theorem gX12_ask_X12_in : GoodIn wsX12_ask (va_wsS RX12 90 yX12_in wsX12_in) := goodIn_app (goodIn_of _ (by decide +kernel)) ggX12_ask_X12_in
set_option maxRecDepth 20000 in
theorem ggX12_ask_X12_sized : GoodIn wsX12_ask wsX12_sized := goodIn_r _ [16, 17, 18, 19, 20, 21, 22, 7, 23, 24, 25, 26, 27, 3, 28, 29, 30, 31, 32, 33, 34, 39, 40, 41, 42, 43, 44, 45, 46, 47, 48, 49, 50, 51, 52, 53, 54, 55, 56, 57, 58, 59, 60, 61, 62, 63, 64, 65, 66, 67, 68, 69, 70, 71, 72, 73, 74, 75, 76, 77, 78, 79, 80] (by decide +kernel) (by decide +kernel)
set_option maxRecDepth 20000 in
theorem gX12_ask_X12_sized : GoodIn wsX12_ask (wsV RX12 279 RX12 yX12_sized wsX12_sized) := goodIn_app (goodIn_of _ (by decide +kernel)) ggX12_ask_X12_sized
set_option maxRecDepth 20000 in
theorem ggX12_ask_X12_marked : GoodIn wsX12_ask wsX12_marked := goodIn_r _ [38, 18, 19, 20, 21, 22, 7, 23, 17, 24, 25, 26, 27, 3, 28, 13, 14, 15, 16, 29, 30, 31, 32, 33, 34, 39, 40, 41, 42, 43, 44, 45, 46, 47, 48, 49, 50, 51, 52, 53, 54, 55, 56, 57, 58, 59, 60, 61, 62, 63, 64, 65, 66, 67, 68, 69, 70, 71, 72, 73, 74, 75, 76, 77, 78, 79, 80] (by decide +kernel) (by decide +kernel)
set_option maxRecDepth 20000 in
theorem gX12_ask_X12_marked : GoodIn wsX12_ask (wsV RX12 282 RX12 yX12_marked wsX12_marked) := goodIn_app (goodIn_of _ (by decide +kernel)) ggX12_ask_X12_marked
theorem dX12_ask_0 : decode cX12_ask 0 = .ok (.aload_n 0, 1) := by decide +kernel
theorem dX12_ask_1 : decode cX12_ask 1 = .ok (.iconst 0, 1) := by decide +kernel
theorem dX12_ask_2 : decode cX12_ask 2 = .ok (.putfield 1, 3) := by decide +kernel
theorem dX12_ask_5 : decode cX12_ask 5 = .ok (.aload_n 0, 1) := by decide +kernel
theorem dX12_ask_6 : decode cX12_ask 6 = .ok (.iload_n 1, 1) := by decide +kernel
theorem dX12_ask_7 : decode cX12_ask 7 = .ok (.invokevirtual 113, 3) := by decide +kernel
theorem dX12_ask_10 : decode cX12_ask 10 = .ok (.ifCond .eq 13, 3) := by decide +kernel
theorem dX12_ask_13 : decode cX12_ask 13 = .ok (.iload_n 2, 1) := by decide +kernel
theorem dX12_ask_14 : decode cX12_ask 14 = .ok (.i2l, 1) := by decide +kernel
theorem dX12_ask_15 : decode cX12_ask 15 = .ok (.lconst 0, 1) := by decide +kernel
theorem dX12_ask_16 : decode cX12_ask 16 = .ok (.lconst 1, 1) := by decide +kernel
theorem dX12_ask_17 : decode cX12_ask 17 = .ok (.invokestatic 90, 3) := by decide +kernel
theorem dX12_ask_20 : decode cX12_ask 20 = .ok (.ifCond .ne 6, 3) := by decide +kernel
theorem dX12_ask_23 : decode cX12_ask 23 = .ok (.ldc 100, 2) := by decide +kernel
theorem dX12_ask_25 : decode cX12_ask 25 = .ok (.ireturn, 1) := by decide +kernel
theorem dX12_ask_26 : decode cX12_ask 26 = .ok (.aload_n 0, 1) := by decide +kernel
theorem dX12_ask_27 : decode cX12_ask 27 = .ok (.iconst 0, 1) := by decide +kernel
theorem dX12_ask_28 : decode cX12_ask 28 = .ok (.putfield 273, 3) := by decide +kernel
theorem dX12_ask_31 : decode cX12_ask 31 = .ok (.iload_n 2, 1) := by decide +kernel
theorem dX12_ask_32 : decode cX12_ask 32 = .ok (.ifCond .ne 11, 3) := by decide +kernel
theorem dX12_ask_35 : decode cX12_ask 35 = .ok (.aload_n 0, 1) := by decide +kernel
theorem dX12_ask_36 : decode cX12_ask 36 = .ok (.iload_n 1, 1) := by decide +kernel
theorem dX12_ask_37 : decode cX12_ask 37 = .ok (.invokevirtual 279, 3) := by decide +kernel
theorem dX12_ask_40 : decode cX12_ask 40 = .ok (.goto 8, 3) := by decide +kernel
theorem dX12_ask_43 : decode cX12_ask 43 = .ok (.aload_n 0, 1) := by decide +kernel
theorem dX12_ask_44 : decode cX12_ask 44 = .ok (.iload_n 1, 1) := by decide +kernel
theorem dX12_ask_45 : decode cX12_ask 45 = .ok (.invokevirtual 282, 3) := by decide +kernel
theorem dX12_ask_48 : decode cX12_ask 48 = .ok (.ireturn, 1) := by decide +kernel
set_option maxRecDepth 20000 in
theorem ggX12_trace_X12_in : GoodIn wsX12_trace wsX12_in := goodIn_r _ [8] (by decide +kernel) (by decide +kernel)
set_option maxRecDepth 20000 in
theorem gX12_trace_X12_in : GoodIn wsX12_trace (va_wsS RX12 90 yX12_in wsX12_in) := goodIn_app (goodIn_of _ (by decide +kernel)) ggX12_trace_X12_in
theorem dX12_trace_0 : decode cX12_trace 0 = .ok (.aload_n 0, 1) := by decide +kernel
theorem dX12_trace_1 : decode cX12_trace 1 = .ok (.iconst 0, 1) := by decide +kernel
theorem dX12_trace_2 : decode cX12_trace 2 = .ok (.putfield 1, 3) := by decide +kernel
theorem dX12_trace_5 : decode cX12_trace 5 = .ok (.iload_n 1, 1) := by decide +kernel
theorem dX12_trace_6 : decode cX12_trace 6 = .ok (.i2l, 1) := by decide +kernel
theorem dX12_trace_7 : decode cX12_trace 7 = .ok (.lconst 0, 1) := by decide +kernel
theorem dX12_trace_8 : decode cX12_trace 8 = .ok (.aload_n 0, 1) := by decide +kernel
theorem dX12_trace_9 : decode cX12_trace 9 = .ok (.getfield 273, 3) := by decide +kernel
theorem dX12_trace_12 : decode cX12_trace 12 = .ok (.iconst 1, 1) := by decide +kernel
theorem dX12_trace_13 : decode cX12_trace 13 = .ok (.isub, 1) := by decide +kernel
theorem dX12_trace_14 : decode cX12_trace 14 = .ok (.i2l, 1) := by decide +kernel
theorem dX12_trace_15 : decode cX12_trace 15 = .ok (.invokestatic 90, 3) := by decide +kernel
theorem dX12_trace_18 : decode cX12_trace 18 = .ok (.ifCond .eq 12, 3) := by decide +kernel
theorem dX12_trace_21 : decode cX12_trace 21 = .ok (.aload_n 0, 1) := by decide +kernel
theorem dX12_trace_22 : decode cX12_trace 22 = .ok (.getfield 85, 3) := by decide +kernel
theorem dX12_trace_25 : decode cX12_trace 25 = .ok (.iload_n 1, 1) := by decide +kernel
theorem dX12_trace_26 : decode cX12_trace 26 = .ok (.iaload, 1) := by decide +kernel
theorem dX12_trace_27 : decode cX12_trace 27 = .ok (.goto 5, 3) := by decide +kernel
theorem dX12_trace_30 : decode cX12_trace 30 = .ok (.ldc 142, 2) := by decide +kernel
theorem dX12_trace_32 : decode cX12_trace 32 = .ok (.ireturn, 1) := by decide +kernel
set_option maxRecDepth 20000 in
theorem ggX12_count_X12_kindOf : GoodIn wsX12_count wsX12_kindOf := goodIn_r _ [13, 4, 14, 15, 16, 17, 18, 19, 20, 21, 22, 23, 24, 25, 26, 27, 28, 29, 30, 31, 32, 33, 34, 35, 36, 37, 38, 39, 40, 41, 42, 43, 44, 45, 46, 47, 48, 49, 50, 51, 52, 53, 54, 55, 56, 57] (by decide +kernel) (by decide +kernel)
set_option maxRecDepth 20000 in
theorem gX12_count_X12_kindOf : GoodIn wsX12_count (wsV RX12 270 RX12 yX12_kindOf wsX12_kindOf) := goodIn_app (goodIn_of _ (by decide +kernel)) ggX12_count_X12_kindOf
theorem dX12_count_0 : decode cX12_count 0 = .ok (.aload_n 0, 1) := by decide +kernel
theorem dX12_count_1 : decode cX12_count 1 = .ok (.iconst 0, 1) := by decide +kernel
theorem dX12_count_2 : decode cX12_count 2 = .ok (.putfield 1, 3) := by decide +kernel
theorem dX12_count_5 : decode cX12_count 5 = .ok (.iconst 0, 1) := by decide +kernel
theorem dX12_count_6 : decode cX12_count 6 = .ok (.istore_n 2, 1) := by decide +kernel
theorem dX12_count_7 : decode cX12_count 7 = .ok (.iload_n 1, 1) := by decide +kernel
theorem dX12_count_8 : decode cX12_count 8 = .ok (.tableswitch 173 0 6 #[44, 77, 82, 82, 131, 163, 168], 44) := by decide +kernel
theorem dX12_count_52 : decode cX12_count 52 = .ok (.iconst 0, 1) := by decide +kernel
theorem dX12_count_53 : decode cX12_count 53 = .ok (.istore_n 3, 1) := by decide +kernel
theorem dX12_count_54 : decode cX12_count 54 = .ok (.iload_n 3, 1) := by decide +kernel
theorem dX12_count_55 : decode cX12_count 55 = .ok (.bipush 8, 2) := by decide +kernel
theorem dX12_count_57 : decode cX12_count 57 = .ok (.if_icmp .ge 26, 3) := by decide +kernel
theorem dX12_count_60 : decode cX12_count 60 = .ok (.iload_n 2, 1) := by decide +kernel
theorem dX12_count_61 : decode cX12_count 61 = .ok (.aload_n 0, 1) := by decide +kernel
theorem dX12_count_62 : decode cX12_count 62 = .ok (.getfield 17, 3) := by decide +kernel
theorem dX12_count_65 : decode cX12_count 65 = .ok (.iload_n 3, 1) := by decide +kernel
theorem dX12_count_66 : decode cX12_count 66 = .ok (.iaload, 1) := by decide +kernel
theorem dX12_count_67 : decode cX12_count 67 = .ok (.ifCond .lt 7, 3) := by decide +kernel
theorem dX12_count_70 : decode cX12_count 70 = .ok (.iconst 1, 1) := by decide +kernel
theorem dX12_count_71 : decode cX12_count 71 = .ok (.goto 4, 3) := by decide +kernel
theorem dX12_count_74 : decode cX12_count 74 = .ok (.iconst 0, 1) := by decide +kernel
theorem dX12_count_75 : decode cX12_count 75 = .ok (.iadd, 1) := by decide +kernel
theorem dX12_count_76 : decode cX12_count 76 = .ok (.istore_n 2, 1) := by decide +kernel
theorem dX12_count_77 : decode cX12_count 77 = .ok (.iinc 3 1, 3) := by decide +kernel
theorem dX12_count_80 : decode cX12_count 80 = .ok (.goto (-26), 3) := by decide +kernel
theorem dX12_count_83 : decode cX12_count 83 = .ok (.iload_n 2, 1) := by decide +kernel
theorem dX12_count_84 : decode cX12_count 84 = .ok (.ireturn, 1) := by decide +kernel
theorem dX12_count_85 : decode cX12_count 85 = .ok (.aload_n 0, 1) := by decide +kernel
theorem dX12_count_86 : decode cX12_count 86 = .ok (.getfield 105, 3) := by decide +kernel
theorem dX12_count_89 : decode cX12_count 89 = .ok (.ireturn, 1) := by decide +kernel
theorem dX12_count_90 : decode cX12_count 90 = .ok (.iconst 0, 1) := by decide +kernel
theorem dX12_count_91 : decode cX12_count 91 = .ok (.istore_n 3, 1) := by decide +kernel
theorem dX12_count_92 : decode cX12_count 92 = .ok (.iload_n 3, 1) := by decide +kernel
theorem dX12_count_93 : decode cX12_count 93 = .ok (.aload_n 0, 1) := by decide +kernel
theorem dX12_count_94 : decode cX12_count 94 = .ok (.getfield 105, 3) := by decide +kernel
theorem dX12_count_97 : decode cX12_count 97 = .ok (.if_icmp .ge 40, 3) := by decide +kernel
theorem dX12_count_100 : decode cX12_count 100 = .ok (.iload_n 2, 1) := by decide +kernel
theorem dX12_count_101 : decode cX12_count 101 = .ok (.iload_n 1, 1) := by decide +kernel
theorem dX12_count_102 : decode cX12_count 102 = .ok (.iconst 2, 1) := by decide +kernel
theorem dX12_count_103 : decode cX12_count 103 = .ok (.if_icmp .ne 12, 3) := by decide +kernel
theorem dX12_count_106 : decode cX12_count 106 = .ok (.aload_n 0, 1) := by decide +kernel
theorem dX12_count_107 : decode cX12_count 107 = .ok (.getfield 27, 3) := by decide +kernel
theorem dX12_count_110 : decode cX12_count 110 = .ok (.iload_n 3, 1) := by decide +kernel
theorem dX12_count_111 : decode cX12_count 111 = .ok (.iaload, 1) := by decide +kernel
theorem dX12_count_112 : decode cX12_count 112 = .ok (.goto 17, 3) := by decide +kernel
theorem dX12_count_115 : decode cX12_count 115 = .ok (.aload_n 0, 1) := by decide +kernel
theorem dX12_count_116 : decode cX12_count 116 = .ok (.iload_n 3, 1) := by decide +kernel
theorem dX12_count_117 : decode cX12_count 117 = .ok (.invokevirtual 270, 3) := by decide +kernel
theorem dX12_count_120 : decode cX12_count 120 = .ok (.iconst 3, 1) := by decide +kernel
theorem dX12_count_121 : decode cX12_count 121 = .ok (.if_icmp .ne 7, 3) := by decide +kernel
theorem dX12_count_124 : decode cX12_count 124 = .ok (.iconst 1, 1) := by decide +kernel
theorem dX12_count_125 : decode cX12_count 125 = .ok (.goto 4, 3) := by decide +kernel
theorem dX12_count_128 : decode cX12_count 128 = .ok (.iconst 0, 1) := by decide +kernel
theorem dX12_count_129 : decode cX12_count 129 = .ok (.iadd, 1) := by decide +kernel
theorem dX12_count_130 : decode cX12_count 130 = .ok (.istore_n 2, 1) := by decide +kernel
theorem dX12_count_131 : decode cX12_count 131 = .ok (.iinc 3 1, 3) := by decide +kernel
theorem dX12_count_134 : decode cX12_count 134 = .ok (.goto (-42), 3) := by decide +kernel
theorem dX12_count_137 : decode cX12_count 137 = .ok (.iload_n 2, 1) := by decide +kernel
theorem dX12_count_138 : decode cX12_count 138 = .ok (.ireturn, 1) := by decide +kernel
theorem dX12_count_139 : decode cX12_count 139 = .ok (.iconst 0, 1) := by decide +kernel
theorem dX12_count_140 : decode cX12_count 140 = .ok (.istore_n 3, 1) := by decide +kernel
theorem dX12_count_141 : decode cX12_count 141 = .ok (.iload_n 3, 1) := by decide +kernel
theorem dX12_count_142 : decode cX12_count 142 = .ok (.iconst 4, 1) := by decide +kernel
theorem dX12_count_143 : decode cX12_count 143 = .ok (.if_icmp .ge 26, 3) := by decide +kernel
theorem dX12_count_146 : decode cX12_count 146 = .ok (.iload_n 2, 1) := by decide +kernel
theorem dX12_count_147 : decode cX12_count 147 = .ok (.aload_n 0, 1) := by decide +kernel
theorem dX12_count_148 : decode cX12_count 148 = .ok (.getfield 48, 3) := by decide +kernel
theorem dX12_count_151 : decode cX12_count 151 = .ok (.iload_n 3, 1) := by decide +kernel
theorem dX12_count_152 : decode cX12_count 152 = .ok (.baload, 1) := by decide +kernel
theorem dX12_count_153 : decode cX12_count 153 = .ok (.ifCond .eq 7, 3) := by decide +kernel
theorem dX12_count_156 : decode cX12_count 156 = .ok (.iconst 1, 1) := by decide +kernel
theorem dX12_count_157 : decode cX12_count 157 = .ok (.goto 4, 3) := by decide +kernel
theorem dX12_count_160 : decode cX12_count 160 = .ok (.iconst 0, 1) := by decide +kernel
theorem dX12_count_161 : decode cX12_count 161 = .ok (.iadd, 1) := by decide +kernel
theorem dX12_count_162 : decode cX12_count 162 = .ok (.istore_n 2, 1) := by decide +kernel
theorem dX12_count_163 : decode cX12_count 163 = .ok (.iinc 3 1, 3) := by decide +kernel
theorem dX12_count_166 : decode cX12_count 166 = .ok (.goto (-25), 3) := by decide +kernel
theorem dX12_count_169 : decode cX12_count 169 = .ok (.iload_n 2, 1) := by decide +kernel
theorem dX12_count_170 : decode cX12_count 170 = .ok (.ireturn, 1) := by decide +kernel
theorem dX12_count_171 : decode cX12_count 171 = .ok (.aload_n 0, 1) := by decide +kernel
theorem dX12_count_172 : decode cX12_count 172 = .ok (.getfield 261, 3) := by decide +kernel
theorem dX12_count_175 : decode cX12_count 175 = .ok (.ireturn, 1) := by decide +kernel
theorem dX12_count_176 : decode cX12_count 176 = .ok (.aload_n 0, 1) := by decide +kernel
theorem dX12_count_177 : decode cX12_count 177 = .ok (.getfield 190, 3) := by decide +kernel
theorem dX12_count_180 : decode cX12_count 180 = .ok (.ireturn, 1) := by decide +kernel
theorem dX12_count_181 : decode cX12_count 181 = .ok (.ldc 100, 2) := by decide +kernel
theorem dX12_count_183 : decode cX12_count 183 = .ok (.ireturn, 1) := by decide +kernel
theorem dX12_status_0 : decode cX12_status 0 = .ok (.aload_n 0, 1) := by decide +kernel
theorem dX12_status_1 : decode cX12_status 1 = .ok (.iconst 0, 1) := by decide +kernel
theorem dX12_status_2 : decode cX12_status 2 = .ok (.putfield 1, 3) := by decide +kernel
theorem dX12_status_5 : decode cX12_status 5 = .ok (.aload_n 0, 1) := by decide +kernel
theorem dX12_status_6 : decode cX12_status 6 = .ok (.getfield 7, 3) := by decide +kernel
theorem dX12_status_9 : decode cX12_status 9 = .ok (.ireturn, 1) := by decide +kernel
