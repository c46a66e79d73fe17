theorem dX0_init_0 : decode cX0_init 0 = .ok (.aload_n 0, 1) := by decide +kernel
theorem dX0_init_1 : decode cX0_init 1 = .ok (.invokespecial 3, 3) := by decide +kernel
theorem dX0_init_4 : decode cX0_init 4 = .ok (.aload_n 0, 1) := by decide +kernel
theorem dX0_init_5 : decode cX0_init 5 = .ok (.sipush 300, 3) := by decide +kernel
theorem dX0_init_8 : decode cX0_init 8 = .ok (.newarray .byte, 2) := by decide +kernel
theorem dX0_init_10 : decode cX0_init 10 = .ok (.putfield 11, 3) := by decide +kernel
theorem dX0_init_13 : decode cX0_init 13 = .ok (.aload_n 0, 1) := by decide +kernel
theorem dX0_init_14 : decode cX0_init 14 = .ok (.bipush 12, 2) := by decide +kernel
theorem dX0_init_16 : decode cX0_init 16 = .ok (.iconst 4, 1) := by decide +kernel
theorem dX0_init_17 : decode cX0_init 17 = .ok (.multianewarray 15 2, 4) := by decide +kernel
theorem dX0_init_21 : decode cX0_init 21 = .ok (.putfield 17, 3) := by decide +kernel
theorem dX0_init_24 : decode cX0_init 24 = .ok (.aload_n 0, 1) := by decide +kernel
theorem dX0_init_25 : decode cX0_init 25 = .ok (.bipush 12, 2) := by decide +kernel
theorem dX0_init_27 : decode cX0_init 27 = .ok (.iconst 4, 1) := by decide +kernel
theorem dX0_init_28 : decode cX0_init 28 = .ok (.multianewarray 15 2, 4) := by decide +kernel
theorem dX0_init_32 : decode cX0_init 32 = .ok (.putfield 20, 3) := by decide +kernel
theorem dX0_init_35 : decode cX0_init 35 = .ok (.return_, 1) := by decide +kernel
theorem dX0_takeBytes_0 : decode cX0_takeBytes 0 = .ok (.iload_n 3, 1) := by decide +kernel
theorem dX0_takeBytes_1 : decode cX0_takeBytes 1 = .ok (.sipush 300, 3) := by decide +kernel
theorem dX0_takeBytes_4 : decode cX0_takeBytes 4 = .ok (.aload_n 0, 1) := by decide +kernel
theorem dX0_takeBytes_5 : decode cX0_takeBytes 5 = .ok (.getfield 23, 3) := by decide +kernel
theorem dX0_takeBytes_8 : decode cX0_takeBytes 8 = .ok (.isub, 1) := by decide +kernel
theorem dX0_takeBytes_9 : decode cX0_takeBytes 9 = .ok (.if_icmp .le 5, 3) := by decide +kernel
theorem dX0_takeBytes_12 : decode cX0_takeBytes 12 = .ok (.iconst 0, 1) := by decide +kernel
theorem dX0_takeBytes_13 : decode cX0_takeBytes 13 = .ok (.ireturn, 1) := by decide +kernel
theorem dX0_takeBytes_14 : decode cX0_takeBytes 14 = .ok (.iload_n 3, 1) := by decide +kernel
theorem dX0_takeBytes_15 : decode cX0_takeBytes 15 = .ok (.iconst 1, 1) := by decide +kernel
theorem dX0_takeBytes_16 : decode cX0_takeBytes 16 = .ok (.isub, 1) := by decide +kernel
theorem dX0_takeBytes_17 : decode cX0_takeBytes 17 = .ok (.istore 4, 2) := by decide +kernel
theorem dX0_takeBytes_19 : decode cX0_takeBytes 19 = .ok (.iload 4, 2) := by decide +kernel
theorem dX0_takeBytes_21 : decode cX0_takeBytes 21 = .ok (.ifCond .lt 37, 3) := by decide +kernel
theorem dX0_takeBytes_24 : decode cX0_takeBytes 24 = .ok (.aload_n 0, 1) := by decide +kernel
theorem dX0_takeBytes_25 : decode cX0_takeBytes 25 = .ok (.getfield 11, 3) := by decide +kernel
theorem dX0_takeBytes_28 : decode cX0_takeBytes 28 = .ok (.aload_n 0, 1) := by decide +kernel
theorem dX0_takeBytes_29 : decode cX0_takeBytes 29 = .ok (.getfield 23, 3) := by decide +kernel
theorem dX0_takeBytes_32 : decode cX0_takeBytes 32 = .ok (.lload_n 1, 1) := by decide +kernel
theorem dX0_takeBytes_33 : decode cX0_takeBytes 33 = .ok (.bipush 8, 2) := by decide +kernel
theorem dX0_takeBytes_35 : decode cX0_takeBytes 35 = .ok (.iload 4, 2) := by decide +kernel
theorem dX0_takeBytes_37 : decode cX0_takeBytes 37 = .ok (.imul, 1) := by decide +kernel
theorem dX0_takeBytes_38 : decode cX0_takeBytes 38 = .ok (.lshr, 1) := by decide +kernel
theorem dX0_takeBytes_39 : decode cX0_takeBytes 39 = .ok (.l2i, 1) := by decide +kernel
theorem dX0_takeBytes_40 : decode cX0_takeBytes 40 = .ok (.i2b, 1) := by decide +kernel
theorem dX0_takeBytes_41 : decode cX0_takeBytes 41 = .ok (.bastore, 1) := by decide +kernel
theorem dX0_takeBytes_42 : decode cX0_takeBytes 42 = .ok (.aload_n 0, 1) := by decide +kernel
theorem dX0_takeBytes_43 : decode cX0_takeBytes 43 = .ok (.dup, 1) := by decide +kernel
theorem dX0_takeBytes_44 : decode cX0_takeBytes 44 = .ok (.getfield 23, 3) := by decide +kernel
theorem dX0_takeBytes_47 : decode cX0_takeBytes 47 = .ok (.iconst 1, 1) := by decide +kernel
theorem dX0_takeBytes_48 : decode cX0_takeBytes 48 = .ok (.iadd, 1) := by decide +kernel
theorem dX0_takeBytes_49 : decode cX0_takeBytes 49 = .ok (.putfield 23, 3) := by decide +kernel
theorem dX0_takeBytes_52 : decode cX0_takeBytes 52 = .ok (.iinc 4 (-1), 3) := by decide +kernel
theorem dX0_takeBytes_55 : decode cX0_takeBytes 55 = .ok (.goto (-36), 3) := by decide +kernel
theorem dX0_takeBytes_58 : decode cX0_takeBytes 58 = .ok (.iconst 1, 1) := by decide +kernel
theorem dX0_takeBytes_59 : decode cX0_takeBytes 59 = .ok (.ireturn, 1) := by decide +kernel
set_option maxRecDepth 20000 in
theorem ggX0_readTape_X0_nextToken : GoodIn wsX0_readTape wsX0_nextToken := goodIn_r _ [15, 2, 4, 16, 7, 3, 17, 18, 14, 19, 92, 93, 94, 95, 96, 97, 98, 99, 100, 101] (by decide +kernel) (by decide +kernel)
set_option maxRecDepth 20000 in
theorem gX0_readTape_X0_nextToken : GoodIn wsX0_readTape (wsV RX0 33 RX0 yX0_nextToken wsX0_nextToken) := goodIn_app (goodIn_of _ (by decide +kernel)) ggX0_readTape_X0_nextToken
set_option maxRecDepth 20000 in
theorem ggX0_readTape_X0_readCue : GoodIn wsX0_readTape wsX0_readCue := goodIn_r _ [23, 1, 9, 3, 24, 25, 26, 14, 27, 2, 7, 16, 28, 29, 30, 31, 32, 33, 34, 35, 36, 37, 38, 39, 40, 41, 42, 43, 44, 45, 46, 47, 48, 49, 50, 51, 52, 53, 54, 55, 56, 57, 58, 59, 60, 61, 62, 63, 64, 65, 66, 67, 68, 69, 70, 71, 72, 73, 74, 75, 76, 11, 12, 13, 15, 4, 17, 18, 19, 77, 78, 79, 80, 81, 82, 83, 84, 85, 86, 87, 88, 89, 90, 91, 92, 93, 94, 95, 96, 97, 98, 99, 100, 101] (by decide +kernel) (by decide +kernel)
set_option maxRecDepth 20000 in
theorem gX0_readTape_X0_readCue : GoodIn wsX0_readTape (wsV RX0 39 RX0 yX0_readCue wsX0_readCue) := goodIn_app (goodIn_of _ (by decide +kernel)) ggX0_readTape_X0_readCue
theorem dX0_readTape_0 : decode cX0_readTape 0 = .ok (.iconst 0, 1) := by decide +kernel
theorem dX0_readTape_1 : decode cX0_readTape 1 = .ok (.istore_n 1, 1) := by decide +kernel
theorem dX0_readTape_2 : decode cX0_readTape 2 = .ok (.aload_n 0, 1) := by decide +kernel
theorem dX0_readTape_3 : decode cX0_readTape 3 = .ok (.iconst 0, 1) := by decide +kernel
theorem dX0_readTape_4 : decode cX0_readTape 4 = .ok (.putfield 27, 3) := by decide +kernel
theorem dX0_readTape_7 : decode cX0_readTape 7 = .ok (.aload_n 0, 1) := by decide +kernel
theorem dX0_readTape_8 : decode cX0_readTape 8 = .ok (.iconst 0, 1) := by decide +kernel
theorem dX0_readTape_9 : decode cX0_readTape 9 = .ok (.putfield 30, 3) := by decide +kernel
theorem dX0_readTape_12 : decode cX0_readTape 12 = .ok (.aload_n 0, 1) := by decide +kernel
theorem dX0_readTape_13 : decode cX0_readTape 13 = .ok (.invokevirtual 33, 3) := by decide +kernel
theorem dX0_readTape_16 : decode cX0_readTape 16 = .ok (.iconst 0, 1) := by decide +kernel
theorem dX0_readTape_17 : decode cX0_readTape 17 = .ok (.istore_n 2, 1) := by decide +kernel
theorem dX0_readTape_18 : decode cX0_readTape 18 = .ok (.iload_n 2, 1) := by decide +kernel
theorem dX0_readTape_19 : decode cX0_readTape 19 = .ok (.bipush 12, 2) := by decide +kernel
theorem dX0_readTape_21 : decode cX0_readTape 21 = .ok (.if_icmp .gt 25, 3) := by decide +kernel
theorem dX0_readTape_24 : decode cX0_readTape 24 = .ok (.iload_n 1, 1) := by decide +kernel
theorem dX0_readTape_25 : decode cX0_readTape 25 = .ok (.ifCond .ne 21, 3) := by decide +kernel
theorem dX0_readTape_28 : decode cX0_readTape 28 = .ok (.aload_n 0, 1) := by decide +kernel
theorem dX0_readTape_29 : decode cX0_readTape 29 = .ok (.getfield 36, 3) := by decide +kernel
theorem dX0_readTape_32 : decode cX0_readTape 32 = .ok (.ifCond .eq 14, 3) := by decide +kernel
theorem dX0_readTape_35 : decode cX0_readTape 35 = .ok (.aload_n 0, 1) := by decide +kernel
theorem dX0_readTape_36 : decode cX0_readTape 36 = .ok (.invokevirtual 39, 3) := by decide +kernel
theorem dX0_readTape_39 : decode cX0_readTape 39 = .ok (.istore_n 1, 1) := by decide +kernel
theorem dX0_readTape_40 : decode cX0_readTape 40 = .ok (.iinc 2 1, 3) := by decide +kernel
theorem dX0_readTape_43 : decode cX0_readTape 43 = .ok (.goto (-25), 3) := by decide +kernel
theorem dX0_readTape_46 : decode cX0_readTape 46 = .ok (.aload_n 0, 1) := by decide +kernel
theorem dX0_readTape_47 : decode cX0_readTape 47 = .ok (.iconst 0, 1) := by decide +kernel
theorem dX0_readTape_48 : decode cX0_readTape 48 = .ok (.putfield 23, 3) := by decide +kernel
theorem dX0_readTape_51 : decode cX0_readTape 51 = .ok (.iload_n 1, 1) := by decide +kernel
theorem dX0_readTape_52 : decode cX0_readTape 52 = .ok (.ifCond .eq 16, 3) := by decide +kernel
theorem dX0_readTape_55 : decode cX0_readTape 55 = .ok (.aload_n 0, 1) := by decide +kernel
theorem dX0_readTape_56 : decode cX0_readTape 56 = .ok (.iload_n 1, 1) := by decide +kernel
theorem dX0_readTape_57 : decode cX0_readTape 57 = .ok (.putfield 43, 3) := by decide +kernel
theorem dX0_readTape_60 : decode cX0_readTape 60 = .ok (.ldc 46, 2) := by decide +kernel
theorem dX0_readTape_62 : decode cX0_readTape 62 = .ok (.aload_n 0, 1) := by decide +kernel
theorem dX0_readTape_63 : decode cX0_readTape 63 = .ok (.getfield 47, 3) := by decide +kernel
theorem dX0_readTape_66 : decode cX0_readTape 66 = .ok (.isub, 1) := by decide +kernel
theorem dX0_readTape_67 : decode cX0_readTape 67 = .ok (.ireturn, 1) := by decide +kernel
theorem dX0_readTape_68 : decode cX0_readTape 68 = .ok (.aload_n 0, 1) := by decide +kernel
theorem dX0_readTape_69 : decode cX0_readTape 69 = .ok (.getfield 17, 3) := by decide +kernel
theorem dX0_readTape_72 : decode cX0_readTape 72 = .ok (.astore_n 2, 1) := by decide +kernel
theorem dX0_readTape_73 : decode cX0_readTape 73 = .ok (.aload_n 0, 1) := by decide +kernel
theorem dX0_readTape_74 : decode cX0_readTape 74 = .ok (.aload_n 0, 1) := by decide +kernel
theorem dX0_readTape_75 : decode cX0_readTape 75 = .ok (.getfield 20, 3) := by decide +kernel
theorem dX0_readTape_78 : decode cX0_readTape 78 = .ok (.putfield 17, 3) := by decide +kernel
theorem dX0_readTape_81 : decode cX0_readTape 81 = .ok (.aload_n 0, 1) := by decide +kernel
theorem dX0_readTape_82 : decode cX0_readTape 82 = .ok (.aload_n 2, 1) := by decide +kernel
theorem dX0_readTape_83 : decode cX0_readTape 83 = .ok (.putfield 20, 3) := by decide +kernel
theorem dX0_readTape_86 : decode cX0_readTape 86 = .ok (.aload_n 0, 1) := by decide +kernel
theorem dX0_readTape_87 : decode cX0_readTape 87 = .ok (.aload_n 0, 1) := by decide +kernel
theorem dX0_readTape_88 : decode cX0_readTape 88 = .ok (.getfield 27, 3) := by decide +kernel
theorem dX0_readTape_91 : decode cX0_readTape 91 = .ok (.putfield 50, 3) := by decide +kernel
theorem dX0_readTape_94 : decode cX0_readTape 94 = .ok (.aload_n 0, 1) := by decide +kernel
theorem dX0_readTape_95 : decode cX0_readTape 95 = .ok (.getfield 50, 3) := by decide +kernel
theorem dX0_readTape_98 : decode cX0_readTape 98 = .ok (.ireturn, 1) := by decide +kernel
set_option maxRecDepth 20000 in
theorem ggX0_readCue_X0_isWord : GoodIn wsX0_readCue wsX0_isWord := goodIn_r _ [8, 3, 9, 10, 11, 12, 13, 14, 15, 16, 17, 18, 19, 20, 21, 22, 23, 24, 25, 26, 27, 28, 29, 30, 31, 32, 33, 34, 35, 36, 37, 38, 39, 40, 41, 42, 43, 44, 45, 46, 47, 48, 49, 50, 51, 52, 53, 54, 55, 56, 57, 58, 59, 60, 84, 85, 86, 87, 88, 89, 90, 91, 92, 93] (by decide +kernel) (by decide +kernel)
set_option maxRecDepth 20000 in
theorem gX0_readCue_X0_isWord : GoodIn wsX0_readCue (wsV RX0 55 RX0 yX0_isWord wsX0_isWord) := goodIn_app (goodIn_of _ (by decide +kernel)) ggX0_readCue_X0_isWord
set_option maxRecDepth 20000 in
theorem ggX0_readCue_X0_nextToken : GoodIn wsX0_readCue wsX0_nextToken := goodIn_r _ [64, 9, 65, 11, 10, 3, 66, 67, 7, 68, 84, 85, 86, 87, 88, 89, 90, 91, 92, 93] (by decide +kernel) (by decide +kernel)
set_option maxRecDepth 20000 in
theorem gX0_readCue_X0_nextToken : GoodIn wsX0_readCue (wsV RX0 33 RX0 yX0_nextToken wsX0_nextToken) := goodIn_app (goodIn_of _ (by decide +kernel)) ggX0_readCue_X0_nextToken
set_option maxRecDepth 20000 in
theorem ggX0_readCue_X0_readNumber : GoodIn wsX0_readCue wsX0_readNumber := goodIn_r _ [72, 3, 73, 74, 75, 7, 76, 10, 9, 11, 77, 78, 79, 61, 62, 63, 64, 65, 66, 67, 68, 84, 85, 86, 87, 88, 89, 90, 91, 92, 93] (by decide +kernel) (by decide +kernel)
set_option maxRecDepth 20000 in
theorem gX0_readCue_X0_readNumber : GoodIn wsX0_readCue (wsV RX0 59 RX0 yX0_readNumber wsX0_readNumber) := goodIn_app (goodIn_of _ (by decide +kernel)) ggX0_readCue_X0_readNumber
set_option maxRecDepth 20000 in
theorem ggX0_readCue_X0_readDeed : GoodIn wsX0_readCue wsX0_readDeed := goodIn_r _ [83, 4, 5, 6, 7, 8, 3, 9, 10, 11, 12, 13, 14, 15, 16, 17, 18, 19, 20, 21, 22, 23, 24, 25, 26, 27, 28, 29, 30, 31, 32, 33, 34, 35, 36, 37, 38, 39, 40, 41, 42, 43, 44, 45, 46, 47, 48, 49, 50, 51, 52, 53, 54, 55, 56, 57, 58, 59, 60, 61, 62, 63, 64, 65, 66, 67, 68, 69, 70, 71, 72, 73, 74, 75, 76, 77, 78, 79, 84, 85, 86, 87, 88, 89, 90, 91, 92, 93] (by decide +kernel) (by decide +kernel)
set_option maxRecDepth 20000 in
theorem gX0_readCue_X0_readDeed : GoodIn wsX0_readCue (wsV RX0 63 RX0 yX0_readDeed wsX0_readDeed) := goodIn_app (goodIn_of _ (by decide +kernel)) ggX0_readCue_X0_readDeed
theorem dX0_readCue_0 : decode cX0_readCue 0 = .ok (.aload_n 0, 1) := by decide +kernel
theorem dX0_readCue_1 : decode cX0_readCue 1 = .ok (.ldc 53, 2) := by decide +kernel
theorem dX0_readCue_3 : decode cX0_readCue 3 = .ok (.invokevirtual 55, 3) := by decide +kernel
theorem dX0_readCue_6 : decode cX0_readCue 6 = .ok (.ifCond .ne 5, 3) := by decide +kernel
theorem dX0_readCue_9 : decode cX0_readCue 9 = .ok (.iconst 1, 1) := by decide +kernel
theorem dX0_readCue_10 : decode cX0_readCue 10 = .ok (.ireturn, 1) := by decide +kernel
theorem dX0_readCue_11 : decode cX0_readCue 11 = .ok (.aload_n 0, 1) := by decide +kernel
theorem dX0_readCue_12 : decode cX0_readCue 12 = .ok (.getfield 27, 3) := by decide +kernel
theorem dX0_readCue_15 : decode cX0_readCue 15 = .ok (.bipush 12, 2) := by decide +kernel
theorem dX0_readCue_17 : decode cX0_readCue 17 = .ok (.if_icmp .lt 5, 3) := by decide +kernel
theorem dX0_readCue_20 : decode cX0_readCue 20 = .ok (.iconst 3, 1) := by decide +kernel
theorem dX0_readCue_21 : decode cX0_readCue 21 = .ok (.ireturn, 1) := by decide +kernel
theorem dX0_readCue_22 : decode cX0_readCue 22 = .ok (.aload_n 0, 1) := by decide +kernel
theorem dX0_readCue_23 : decode cX0_readCue 23 = .ok (.getfield 20, 3) := by decide +kernel
theorem dX0_readCue_26 : decode cX0_readCue 26 = .ok (.aload_n 0, 1) := by decide +kernel
theorem dX0_readCue_27 : decode cX0_readCue 27 = .ok (.getfield 27, 3) := by decide +kernel
theorem dX0_readCue_30 : decode cX0_readCue 30 = .ok (.aaload, 1) := by decide +kernel
theorem dX0_readCue_31 : decode cX0_readCue 31 = .ok (.astore_n 1, 1) := by decide +kernel
theorem dX0_readCue_32 : decode cX0_readCue 32 = .ok (.aload_n 0, 1) := by decide +kernel
theorem dX0_readCue_33 : decode cX0_readCue 33 = .ok (.invokevirtual 33, 3) := by decide +kernel
theorem dX0_readCue_36 : decode cX0_readCue 36 = .ok (.aload_n 0, 1) := by decide +kernel
theorem dX0_readCue_37 : decode cX0_readCue 37 = .ok (.aload_n 1, 1) := by decide +kernel
theorem dX0_readCue_38 : decode cX0_readCue 38 = .ok (.iconst 0, 1) := by decide +kernel
theorem dX0_readCue_39 : decode cX0_readCue 39 = .ok (.aload_n 0, 1) := by decide +kernel
theorem dX0_readCue_40 : decode cX0_readCue 40 = .ok (.getfield 27, 3) := by decide +kernel
theorem dX0_readCue_43 : decode cX0_readCue 43 = .ok (.ifCond .ne 7, 3) := by decide +kernel
theorem dX0_readCue_46 : decode cX0_readCue 46 = .ok (.iconst 0, 1) := by decide +kernel
theorem dX0_readCue_47 : decode cX0_readCue 47 = .ok (.goto 16, 3) := by decide +kernel
theorem dX0_readCue_50 : decode cX0_readCue 50 = .ok (.aload_n 0, 1) := by decide +kernel
theorem dX0_readCue_51 : decode cX0_readCue 51 = .ok (.getfield 20, 3) := by decide +kernel
theorem dX0_readCue_54 : decode cX0_readCue 54 = .ok (.aload_n 0, 1) := by decide +kernel
theorem dX0_readCue_55 : decode cX0_readCue 55 = .ok (.getfield 27, 3) := by decide +kernel
theorem dX0_readCue_58 : decode cX0_readCue 58 = .ok (.iconst 1, 1) := by decide +kernel
theorem dX0_readCue_59 : decode cX0_readCue 59 = .ok (.isub, 1) := by decide +kernel
theorem dX0_readCue_60 : decode cX0_readCue 60 = .ok (.aaload, 1) := by decide +kernel
theorem dX0_readCue_61 : decode cX0_readCue 61 = .ok (.iconst 0, 1) := by decide +kernel
theorem dX0_readCue_62 : decode cX0_readCue 62 = .ok (.iaload, 1) := by decide +kernel
theorem dX0_readCue_63 : decode cX0_readCue 63 = .ok (.sipush 9999, 3) := by decide +kernel
theorem dX0_readCue_66 : decode cX0_readCue 66 = .ok (.invokevirtual 59, 3) := by decide +kernel
theorem dX0_readCue_69 : decode cX0_readCue 69 = .ok (.istore_n 2, 1) := by decide +kernel
theorem dX0_readCue_70 : decode cX0_readCue 70 = .ok (.iload_n 2, 1) := by decide +kernel
theorem dX0_readCue_71 : decode cX0_readCue 71 = .ok (.ifCond .ne 9, 3) := by decide +kernel
theorem dX0_readCue_74 : decode cX0_readCue 74 = .ok (.aload_n 0, 1) := by decide +kernel
theorem dX0_readCue_75 : decode cX0_readCue 75 = .ok (.aload_n 1, 1) := by decide +kernel
theorem dX0_readCue_76 : decode cX0_readCue 76 = .ok (.invokevirtual 63, 3) := by decide +kernel
theorem dX0_readCue_79 : decode cX0_readCue 79 = .ok (.istore_n 2, 1) := by decide +kernel
theorem dX0_readCue_80 : decode cX0_readCue 80 = .ok (.iload_n 2, 1) := by decide +kernel
theorem dX0_readCue_81 : decode cX0_readCue 81 = .ok (.ifCond .ne 13, 3) := by decide +kernel
theorem dX0_readCue_84 : decode cX0_readCue 84 = .ok (.aload_n 0, 1) := by decide +kernel
theorem dX0_readCue_85 : decode cX0_readCue 85 = .ok (.getfield 36, 3) := by decide +kernel
theorem dX0_readCue_88 : decode cX0_readCue 88 = .ok (.iconst 3, 1) := by decide +kernel
theorem dX0_readCue_89 : decode cX0_readCue 89 = .ok (.if_icmp .eq 5, 3) := by decide +kernel
theorem dX0_readCue_92 : decode cX0_readCue 92 = .ok (.iconst 1, 1) := by decide +kernel
theorem dX0_readCue_93 : decode cX0_readCue 93 = .ok (.istore_n 2, 1) := by decide +kernel
theorem dX0_readCue_94 : decode cX0_readCue 94 = .ok (.iload_n 2, 1) := by decide +kernel
theorem dX0_readCue_95 : decode cX0_readCue 95 = .ok (.ifCond .ne 17, 3) := by decide +kernel
theorem dX0_readCue_98 : decode cX0_readCue 98 = .ok (.aload_n 0, 1) := by decide +kernel
theorem dX0_readCue_99 : decode cX0_readCue 99 = .ok (.dup, 1) := by decide +kernel
theorem dX0_readCue_100 : decode cX0_readCue 100 = .ok (.getfield 27, 3) := by decide +kernel
theorem dX0_readCue_103 : decode cX0_readCue 103 = .ok (.iconst 1, 1) := by decide +kernel
theorem dX0_readCue_104 : decode cX0_readCue 104 = .ok (.iadd, 1) := by decide +kernel
theorem dX0_readCue_105 : decode cX0_readCue 105 = .ok (.putfield 27, 3) := by decide +kernel
theorem dX0_readCue_108 : decode cX0_readCue 108 = .ok (.aload_n 0, 1) := by decide +kernel
theorem dX0_readCue_109 : decode cX0_readCue 109 = .ok (.invokevirtual 33, 3) := by decide +kernel
theorem dX0_readCue_112 : decode cX0_readCue 112 = .ok (.iload_n 2, 1) := by decide +kernel
theorem dX0_readCue_113 : decode cX0_readCue 113 = .ok (.ireturn, 1) := by decide +kernel
set_option maxRecDepth 20000 in
theorem ggX0_readDeed_X0_isWord : GoodIn wsX0_readDeed wsX0_isWord := goodIn_r _ [5, 6, 7, 8, 9, 10, 11, 12, 13, 14, 15, 16, 17, 18, 19, 20, 21, 22, 23, 24, 25, 26, 27, 28, 29, 30, 31, 32, 33, 34, 35, 36, 37, 38, 39, 40, 41, 42, 43, 44, 45, 46, 47, 48, 49, 50, 51, 52, 53, 54, 55, 56, 57, 58, 78, 79, 80, 81, 82, 83, 84, 85, 86, 87] (by decide +kernel) (by decide +kernel)
set_option maxRecDepth 20000 in
theorem gX0_readDeed_X0_isWord : GoodIn wsX0_readDeed (wsV RX0 55 RX0 yX0_isWord wsX0_isWord) := goodIn_app (goodIn_of _ (by decide +kernel)) ggX0_readDeed_X0_isWord
set_option maxRecDepth 20000 in
theorem ggX0_readDeed_X0_nextToken : GoodIn wsX0_readDeed wsX0_nextToken := goodIn_r _ [62, 7, 63, 9, 8, 6, 64, 65, 4, 66, 78, 79, 80, 81, 82, 83, 84, 85, 86, 87] (by decide +kernel) (by decide +kernel)
set_option maxRecDepth 20000 in
theorem gX0_readDeed_X0_nextToken : GoodIn wsX0_readDeed (wsV RX0 33 RX0 yX0_nextToken wsX0_nextToken) := goodIn_app (goodIn_of _ (by decide +kernel)) ggX0_readDeed_X0_nextToken
set_option maxRecDepth 20000 in
theorem ggX0_readDeed_X0_readNumber : GoodIn wsX0_readDeed wsX0_readNumber := goodIn_r _ [70, 6, 71, 72, 73, 4, 74, 8, 7, 9, 75, 76, 77, 59, 60, 61, 62, 63, 64, 65, 66, 78, 79, 80, 81, 82, 83, 84, 85, 86, 87] (by decide +kernel) (by decide +kernel)
set_option maxRecDepth 20000 in
theorem gX0_readDeed_X0_readNumber : GoodIn wsX0_readDeed (wsV RX0 59 RX0 yX0_readNumber wsX0_readNumber) := goodIn_app (goodIn_of _ (by decide +kernel)) ggX0_readDeed_X0_readNumber
theorem dX0_readDeed_0 : decode cX0_readDeed 0 = .ok (.aload_n 0, 1) := by decide +kernel
theorem dX0_readDeed_1 : decode cX0_readDeed 1 = .ok (.ldc 67, 2) := by decide +kernel
theorem dX0_readDeed_3 : decode cX0_readDeed 3 = .ok (.invokevirtual 55, 3) := by decide +kernel
theorem dX0_readDeed_6 : decode cX0_readDeed 6 = .ok (.ifCond .eq 13, 3) := by decide +kernel
theorem dX0_readDeed_9 : decode cX0_readDeed 9 = .ok (.aload_n 1, 1) := by decide +kernel
theorem dX0_readDeed_10 : decode cX0_readDeed 10 = .ok (.iconst 1, 1) := by decide +kernel
theorem dX0_readDeed_11 : decode cX0_readDeed 11 = .ok (.iconst 1, 1) := by decide +kernel
theorem dX0_readDeed_12 : decode cX0_readDeed 12 = .ok (.iastore, 1) := by decide +kernel
theorem dX0_readDeed_13 : decode cX0_readDeed 13 = .ok (.aload_n 0, 1) := by decide +kernel
theorem dX0_readDeed_14 : decode cX0_readDeed 14 = .ok (.invokevirtual 33, 3) := by decide +kernel
theorem dX0_readDeed_17 : decode cX0_readDeed 17 = .ok (.iconst 0, 1) := by decide +kernel
theorem dX0_readDeed_18 : decode cX0_readDeed 18 = .ok (.ireturn, 1) := by decide +kernel
theorem dX0_readDeed_19 : decode cX0_readDeed 19 = .ok (.aload_n 0, 1) := by decide +kernel
theorem dX0_readDeed_20 : decode cX0_readDeed 20 = .ok (.ldc 69, 2) := by decide +kernel
theorem dX0_readDeed_22 : decode cX0_readDeed 22 = .ok (.invokevirtual 55, 3) := by decide +kernel
theorem dX0_readDeed_25 : decode cX0_readDeed 25 = .ok (.ifCond .eq 22, 3) := by decide +kernel
theorem dX0_readDeed_28 : decode cX0_readDeed 28 = .ok (.aload_n 1, 1) := by decide +kernel
theorem dX0_readDeed_29 : decode cX0_readDeed 29 = .ok (.iconst 1, 1) := by decide +kernel
theorem dX0_readDeed_30 : decode cX0_readDeed 30 = .ok (.iconst 0, 1) := by decide +kernel
theorem dX0_readDeed_31 : decode cX0_readDeed 31 = .ok (.iastore, 1) := by decide +kernel
theorem dX0_readDeed_32 : decode cX0_readDeed 32 = .ok (.aload_n 0, 1) := by decide +kernel
theorem dX0_readDeed_33 : decode cX0_readDeed 33 = .ok (.invokevirtual 33, 3) := by decide +kernel
theorem dX0_readDeed_36 : decode cX0_readDeed 36 = .ok (.aload_n 0, 1) := by decide +kernel
theorem dX0_readDeed_37 : decode cX0_readDeed 37 = .ok (.aload_n 1, 1) := by decide +kernel
theorem dX0_readDeed_38 : decode cX0_readDeed 38 = .ok (.iconst 2, 1) := by decide +kernel
theorem dX0_readDeed_39 : decode cX0_readDeed 39 = .ok (.iconst 0, 1) := by decide +kernel
theorem dX0_readDeed_40 : decode cX0_readDeed 40 = .ok (.sipush 9999, 3) := by decide +kernel
theorem dX0_readDeed_43 : decode cX0_readDeed 43 = .ok (.invokevirtual 59, 3) := by decide +kernel
theorem dX0_readDeed_46 : decode cX0_readDeed 46 = .ok (.ireturn, 1) := by decide +kernel
theorem dX0_readDeed_47 : decode cX0_readDeed 47 = .ok (.aload_n 0, 1) := by decide +kernel
theorem dX0_readDeed_48 : decode cX0_readDeed 48 = .ok (.ldc 71, 2) := by decide +kernel
theorem dX0_readDeed_50 : decode cX0_readDeed 50 = .ok (.invokevirtual 55, 3) := by decide +kernel
theorem dX0_readDeed_53 : decode cX0_readDeed 53 = .ok (.ifCond .eq 40, 3) := by decide +kernel
theorem dX0_readDeed_56 : decode cX0_readDeed 56 = .ok (.aload_n 1, 1) := by decide +kernel
theorem dX0_readDeed_57 : decode cX0_readDeed 57 = .ok (.iconst 1, 1) := by decide +kernel
theorem dX0_readDeed_58 : decode cX0_readDeed 58 = .ok (.iconst 2, 1) := by decide +kernel
theorem dX0_readDeed_59 : decode cX0_readDeed 59 = .ok (.iastore, 1) := by decide +kernel
theorem dX0_readDeed_60 : decode cX0_readDeed 60 = .ok (.aload_n 0, 1) := by decide +kernel
theorem dX0_readDeed_61 : decode cX0_readDeed 61 = .ok (.invokevirtual 33, 3) := by decide +kernel
theorem dX0_readDeed_64 : decode cX0_readDeed 64 = .ok (.aload_n 0, 1) := by decide +kernel
theorem dX0_readDeed_65 : decode cX0_readDeed 65 = .ok (.aload_n 1, 1) := by decide +kernel
theorem dX0_readDeed_66 : decode cX0_readDeed 66 = .ok (.iconst 2, 1) := by decide +kernel
theorem dX0_readDeed_67 : decode cX0_readDeed 67 = .ok (.iconst 0, 1) := by decide +kernel
theorem dX0_readDeed_68 : decode cX0_readDeed 68 = .ok (.bipush 100, 2) := by decide +kernel
theorem dX0_readDeed_70 : decode cX0_readDeed 70 = .ok (.invokevirtual 59, 3) := by decide +kernel
theorem dX0_readDeed_73 : decode cX0_readDeed 73 = .ok (.istore_n 2, 1) := by decide +kernel
theorem dX0_readDeed_74 : decode cX0_readDeed 74 = .ok (.iload_n 2, 1) := by decide +kernel
theorem dX0_readDeed_75 : decode cX0_readDeed 75 = .ok (.ifCond .eq 7, 3) := by decide +kernel
theorem dX0_readDeed_78 : decode cX0_readDeed 78 = .ok (.iload_n 2, 1) := by decide +kernel
theorem dX0_readDeed_79 : decode cX0_readDeed 79 = .ok (.goto 13, 3) := by decide +kernel
theorem dX0_readDeed_82 : decode cX0_readDeed 82 = .ok (.aload_n 0, 1) := by decide +kernel
theorem dX0_readDeed_83 : decode cX0_readDeed 83 = .ok (.aload_n 1, 1) := by decide +kernel
theorem dX0_readDeed_84 : decode cX0_readDeed 84 = .ok (.iconst 3, 1) := by decide +kernel
theorem dX0_readDeed_85 : decode cX0_readDeed 85 = .ok (.iconst 0, 1) := by decide +kernel
theorem dX0_readDeed_86 : decode cX0_readDeed 86 = .ok (.sipush 9999, 3) := by decide +kernel
theorem dX0_readDeed_89 : decode cX0_readDeed 89 = .ok (.invokevirtual 59, 3) := by decide +kernel
theorem dX0_readDeed_92 : decode cX0_readDeed 92 = .ok (.ireturn, 1) := by decide +kernel
theorem dX0_readDeed_93 : decode cX0_readDeed 93 = .ok (.iconst 1, 1) := by decide +kernel
theorem dX0_readDeed_94 : decode cX0_readDeed 94 = .ok (.ireturn, 1) := by decide +kernel
set_option maxRecDepth 20000 in
theorem ggX0_readNumber_X0_numberOfToken : GoodIn wsX0_readNumber wsX0_numberOfToken := goodIn_r _ [6, 7, 8, 9, 21, 22, 23, 24, 25, 26, 27, 28, 29, 30] (by decide +kernel) (by decide +kernel)
set_option maxRecDepth 20000 in
theorem gX0_readNumber_X0_numberOfToken : GoodIn wsX0_readNumber (wsV RX0 73 RX0 yX0_numberOfToken wsX0_numberOfToken) := goodIn_app (goodIn_of _ (by decide +kernel)) ggX0_readNumber_X0_numberOfToken
set_option maxRecDepth 20000 in
theorem ggX0_readNumber_X11_isWithin : GoodIn wsX0_readNumber wsX11_isWithin := goodIn_r _ [12] (by decide +kernel) (by decide +kernel)
set_option maxRecDepth 20000 in
theorem gX0_readNumber_X11_isWithin_n76 : GoodIn wsX0_readNumber (wsX11_isWithin) := ggX0_readNumber_X11_isWithin
set_option maxRecDepth 20000 in
theorem ggX0_readNumber_X0_nextToken : GoodIn wsX0_readNumber wsX0_nextToken := goodIn_r _ [16, 8, 17, 9, 7, 1, 18, 19, 5, 20, 21, 22, 23, 24, 25, 26, 27, 28, 29, 30] (by decide +kernel) (by decide +kernel)
set_option maxRecDepth 20000 in
theorem gX0_readNumber_X0_nextToken : GoodIn wsX0_readNumber (wsV RX0 33 RX0 yX0_nextToken wsX0_nextToken) := goodIn_app (goodIn_of _ (by decide +kernel)) ggX0_readNumber_X0_nextToken
theorem dX0_readNumber_0 : decode cX0_readNumber 0 = .ok (.aload_n 0, 1) := by decide +kernel
theorem dX0_readNumber_1 : decode cX0_readNumber 1 = .ok (.getfield 36, 3) := by decide +kernel
theorem dX0_readNumber_4 : decode cX0_readNumber 4 = .ok (.iconst 2, 1) := by decide +kernel
theorem dX0_readNumber_5 : decode cX0_readNumber 5 = .ok (.if_icmp .eq 5, 3) := by decide +kernel
theorem dX0_readNumber_8 : decode cX0_readNumber 8 = .ok (.iconst 1, 1) := by decide +kernel
theorem dX0_readNumber_9 : decode cX0_readNumber 9 = .ok (.ireturn, 1) := by decide +kernel
theorem dX0_readNumber_10 : decode cX0_readNumber 10 = .ok (.aload_n 0, 1) := by decide +kernel
theorem dX0_readNumber_11 : decode cX0_readNumber 11 = .ok (.invokevirtual 73, 3) := by decide +kernel
theorem dX0_readNumber_14 : decode cX0_readNumber 14 = .ok (.istore 5, 2) := by decide +kernel
theorem dX0_readNumber_16 : decode cX0_readNumber 16 = .ok (.iload 5, 2) := by decide +kernel
theorem dX0_readNumber_18 : decode cX0_readNumber 18 = .ok (.iload_n 3, 1) := by decide +kernel
theorem dX0_readNumber_19 : decode cX0_readNumber 19 = .ok (.iload 4, 2) := by decide +kernel
theorem dX0_readNumber_21 : decode cX0_readNumber 21 = .ok (.invokestatic 76, 3) := by decide +kernel
theorem dX0_readNumber_24 : decode cX0_readNumber 24 = .ok (.ifCond .ne 5, 3) := by decide +kernel
theorem dX0_readNumber_27 : decode cX0_readNumber 27 = .ok (.iconst 2, 1) := by decide +kernel
theorem dX0_readNumber_28 : decode cX0_readNumber 28 = .ok (.ireturn, 1) := by decide +kernel
theorem dX0_readNumber_29 : decode cX0_readNumber 29 = .ok (.aload_n 1, 1) := by decide +kernel
theorem dX0_readNumber_30 : decode cX0_readNumber 30 = .ok (.iload_n 2, 1) := by decide +kernel
theorem dX0_readNumber_31 : decode cX0_readNumber 31 = .ok (.iload 5, 2) := by decide +kernel
theorem dX0_readNumber_33 : decode cX0_readNumber 33 = .ok (.iastore, 1) := by decide +kernel
theorem dX0_readNumber_34 : decode cX0_readNumber 34 = .ok (.aload_n 0, 1) := by decide +kernel
theorem dX0_readNumber_35 : decode cX0_readNumber 35 = .ok (.invokevirtual 33, 3) := by decide +kernel
theorem dX0_readNumber_38 : decode cX0_readNumber 38 = .ok (.iconst 0, 1) := by decide +kernel
theorem dX0_readNumber_39 : decode cX0_readNumber 39 = .ok (.ireturn, 1) := by decide +kernel
set_option maxRecDepth 20000 in
theorem ggX0_nextToken_X0_sortOf : GoodIn wsX0_nextToken wsX0_sortOf := goodIn_r _ [9] (by decide +kernel) (by decide +kernel)
set_option maxRecDepth 20000 in
theorem gX0_nextToken_X0_sortOf : GoodIn wsX0_nextToken (va_wsS RX0 80 yX0_sortOf wsX0_sortOf) := goodIn_app (goodIn_of _ (by decide +kernel)) ggX0_nextToken_X0_sortOf
theorem dX0_nextToken_0 : decode cX0_nextToken 0 = .ok (.aload_n 0, 1) := by decide +kernel
theorem dX0_nextToken_1 : decode cX0_nextToken 1 = .ok (.getfield 30, 3) := by decide +kernel
theorem dX0_nextToken_4 : decode cX0_nextToken 4 = .ok (.istore_n 1, 1) := by decide +kernel
theorem dX0_nextToken_5 : decode cX0_nextToken 5 = .ok (.iload_n 1, 1) := by decide +kernel
theorem dX0_nextToken_6 : decode cX0_nextToken 6 = .ok (.aload_n 0, 1) := by decide +kernel
theorem dX0_nextToken_7 : decode cX0_nextToken 7 = .ok (.getfield 23, 3) := by decide +kernel
theorem dX0_nextToken_10 : decode cX0_nextToken 10 = .ok (.if_icmp .ge 22, 3) := by decide +kernel
theorem dX0_nextToken_13 : decode cX0_nextToken 13 = .ok (.aload_n 0, 1) := by decide +kernel
theorem dX0_nextToken_14 : decode cX0_nextToken 14 = .ok (.getfield 11, 3) := by decide +kernel
theorem dX0_nextToken_17 : decode cX0_nextToken 17 = .ok (.iload_n 1, 1) := by decide +kernel
theorem dX0_nextToken_18 : decode cX0_nextToken 18 = .ok (.baload, 1) := by decide +kernel
theorem dX0_nextToken_19 : decode cX0_nextToken 19 = .ok (.invokestatic 80, 3) := by decide +kernel
theorem dX0_nextToken_22 : decode cX0_nextToken 22 = .ok (.iconst 5, 1) := by decide +kernel
theorem dX0_nextToken_23 : decode cX0_nextToken 23 = .ok (.if_icmp .ne 9, 3) := by decide +kernel
theorem dX0_nextToken_26 : decode cX0_nextToken 26 = .ok (.iinc 1 1, 3) := by decide +kernel
theorem dX0_nextToken_29 : decode cX0_nextToken 29 = .ok (.goto (-24), 3) := by decide +kernel
theorem dX0_nextToken_32 : decode cX0_nextToken 32 = .ok (.aload_n 0, 1) := by decide +kernel
theorem dX0_nextToken_33 : decode cX0_nextToken 33 = .ok (.iload_n 1, 1) := by decide +kernel
theorem dX0_nextToken_34 : decode cX0_nextToken 34 = .ok (.putfield 47, 3) := by decide +kernel
theorem dX0_nextToken_37 : decode cX0_nextToken 37 = .ok (.aload_n 0, 1) := by decide +kernel
theorem dX0_nextToken_38 : decode cX0_nextToken 38 = .ok (.iload_n 1, 1) := by decide +kernel
theorem dX0_nextToken_39 : decode cX0_nextToken 39 = .ok (.aload_n 0, 1) := by decide +kernel
theorem dX0_nextToken_40 : decode cX0_nextToken 40 = .ok (.getfield 23, 3) := by decide +kernel
theorem dX0_nextToken_43 : decode cX0_nextToken 43 = .ok (.if_icmp .ge 15, 3) := by decide +kernel
theorem dX0_nextToken_46 : decode cX0_nextToken 46 = .ok (.aload_n 0, 1) := by decide +kernel
theorem dX0_nextToken_47 : decode cX0_nextToken 47 = .ok (.getfield 11, 3) := by decide +kernel
theorem dX0_nextToken_50 : decode cX0_nextToken 50 = .ok (.iload_n 1, 1) := by decide +kernel
theorem dX0_nextToken_51 : decode cX0_nextToken 51 = .ok (.baload, 1) := by decide +kernel
theorem dX0_nextToken_52 : decode cX0_nextToken 52 = .ok (.invokestatic 80, 3) := by decide +kernel
theorem dX0_nextToken_55 : decode cX0_nextToken 55 = .ok (.goto 4, 3) := by decide +kernel
theorem dX0_nextToken_58 : decode cX0_nextToken 58 = .ok (.iconst 0, 1) := by decide +kernel
theorem dX0_nextToken_59 : decode cX0_nextToken 59 = .ok (.putfield 36, 3) := by decide +kernel
theorem dX0_nextToken_62 : decode cX0_nextToken 62 = .ok (.aload_n 0, 1) := by decide +kernel
theorem dX0_nextToken_63 : decode cX0_nextToken 63 = .ok (.iload_n 1, 1) := by decide +kernel
theorem dX0_nextToken_64 : decode cX0_nextToken 64 = .ok (.aload_n 0, 1) := by decide +kernel
theorem dX0_nextToken_65 : decode cX0_nextToken 65 = .ok (.getfield 23, 3) := by decide +kernel
theorem dX0_nextToken_68 : decode cX0_nextToken 68 = .ok (.if_icmp .ge 9, 3) := by decide +kernel
theorem dX0_nextToken_71 : decode cX0_nextToken 71 = .ok (.iload_n 1, 1) := by decide +kernel
theorem dX0_nextToken_72 : decode cX0_nextToken 72 = .ok (.iconst 1, 1) := by decide +kernel
theorem dX0_nextToken_73 : decode cX0_nextToken 73 = .ok (.iadd, 1) := by decide +kernel
theorem dX0_nextToken_74 : decode cX0_nextToken 74 = .ok (.goto 4, 3) := by decide +kernel
theorem dX0_nextToken_77 : decode cX0_nextToken 77 = .ok (.iload_n 1, 1) := by decide +kernel
theorem dX0_nextToken_78 : decode cX0_nextToken 78 = .ok (.putfield 30, 3) := by decide +kernel
theorem dX0_nextToken_81 : decode cX0_nextToken 81 = .ok (.aload_n 0, 1) := by decide +kernel
theorem dX0_nextToken_82 : decode cX0_nextToken 82 = .ok (.getfield 36, 3) := by decide +kernel
theorem dX0_nextToken_85 : decode cX0_nextToken 85 = .ok (.iconst 1, 1) := by decide +kernel
theorem dX0_nextToken_86 : decode cX0_nextToken 86 = .ok (.if_icmp .eq 11, 3) := by decide +kernel
theorem dX0_nextToken_89 : decode cX0_nextToken 89 = .ok (.aload_n 0, 1) := by decide +kernel
theorem dX0_nextToken_90 : decode cX0_nextToken 90 = .ok (.getfield 36, 3) := by decide +kernel
theorem dX0_nextToken_93 : decode cX0_nextToken 93 = .ok (.iconst 2, 1) := by decide +kernel
theorem dX0_nextToken_94 : decode cX0_nextToken 94 = .ok (.if_icmp .ne 86, 3) := by decide +kernel
theorem dX0_nextToken_97 : decode cX0_nextToken 97 = .ok (.aload_n 0, 1) := by decide +kernel
theorem dX0_nextToken_98 : decode cX0_nextToken 98 = .ok (.getfield 30, 3) := by decide +kernel
theorem dX0_nextToken_101 : decode cX0_nextToken 101 = .ok (.aload_n 0, 1) := by decide +kernel
theorem dX0_nextToken_102 : decode cX0_nextToken 102 = .ok (.getfield 23, 3) := by decide +kernel
theorem dX0_nextToken_105 : decode cX0_nextToken 105 = .ok (.if_icmp .ge 35, 3) := by decide +kernel
theorem dX0_nextToken_108 : decode cX0_nextToken 108 = .ok (.aload_n 0, 1) := by decide +kernel
theorem dX0_nextToken_109 : decode cX0_nextToken 109 = .ok (.getfield 11, 3) := by decide +kernel
theorem dX0_nextToken_112 : decode cX0_nextToken 112 = .ok (.aload_n 0, 1) := by decide +kernel
theorem dX0_nextToken_113 : decode cX0_nextToken 113 = .ok (.getfield 30, 3) := by decide +kernel
theorem dX0_nextToken_116 : decode cX0_nextToken 116 = .ok (.baload, 1) := by decide +kernel
theorem dX0_nextToken_117 : decode cX0_nextToken 117 = .ok (.invokestatic 80, 3) := by decide +kernel
theorem dX0_nextToken_120 : decode cX0_nextToken 120 = .ok (.aload_n 0, 1) := by decide +kernel
theorem dX0_nextToken_121 : decode cX0_nextToken 121 = .ok (.getfield 36, 3) := by decide +kernel
theorem dX0_nextToken_124 : decode cX0_nextToken 124 = .ok (.if_icmp .ne 16, 3) := by decide +kernel
theorem dX0_nextToken_127 : decode cX0_nextToken 127 = .ok (.aload_n 0, 1) := by decide +kernel
theorem dX0_nextToken_128 : decode cX0_nextToken 128 = .ok (.dup, 1) := by decide +kernel
theorem dX0_nextToken_129 : decode cX0_nextToken 129 = .ok (.getfield 30, 3) := by decide +kernel
theorem dX0_nextToken_132 : decode cX0_nextToken 132 = .ok (.iconst 1, 1) := by decide +kernel
theorem dX0_nextToken_133 : decode cX0_nextToken 133 = .ok (.iadd, 1) := by decide +kernel
theorem dX0_nextToken_134 : decode cX0_nextToken 134 = .ok (.putfield 30, 3) := by decide +kernel
theorem dX0_nextToken_137 : decode cX0_nextToken 137 = .ok (.goto (-40), 3) := by decide +kernel
theorem dX0_nextToken_140 : decode cX0_nextToken 140 = .ok (.aload_n 0, 1) := by decide +kernel
theorem dX0_nextToken_141 : decode cX0_nextToken 141 = .ok (.getfield 36, 3) := by decide +kernel
theorem dX0_nextToken_144 : decode cX0_nextToken 144 = .ok (.iconst 1, 1) := by decide +kernel
theorem dX0_nextToken_145 : decode cX0_nextToken 145 = .ok (.if_icmp .ne 8, 3) := by decide +kernel
theorem dX0_nextToken_148 : decode cX0_nextToken 148 = .ok (.bipush 6, 2) := by decide +kernel
theorem dX0_nextToken_150 : decode cX0_nextToken 150 = .ok (.goto 4, 3) := by decide +kernel
theorem dX0_nextToken_153 : decode cX0_nextToken 153 = .ok (.iconst 4, 1) := by decide +kernel
theorem dX0_nextToken_154 : decode cX0_nextToken 154 = .ok (.istore_n 2, 1) := by decide +kernel
theorem dX0_nextToken_155 : decode cX0_nextToken 155 = .ok (.aload_n 0, 1) := by decide +kernel
theorem dX0_nextToken_156 : decode cX0_nextToken 156 = .ok (.aload_n 0, 1) := by decide +kernel
theorem dX0_nextToken_157 : decode cX0_nextToken 157 = .ok (.getfield 30, 3) := by decide +kernel
theorem dX0_nextToken_160 : decode cX0_nextToken 160 = .ok (.aload_n 0, 1) := by decide +kernel
theorem dX0_nextToken_161 : decode cX0_nextToken 161 = .ok (.getfield 47, 3) := by decide +kernel
theorem dX0_nextToken_164 : decode cX0_nextToken 164 = .ok (.isub, 1) := by decide +kernel
theorem dX0_nextToken_165 : decode cX0_nextToken 165 = .ok (.iload_n 2, 1) := by decide +kernel
theorem dX0_nextToken_166 : decode cX0_nextToken 166 = .ok (.if_icmp .le 7, 3) := by decide +kernel
theorem dX0_nextToken_169 : decode cX0_nextToken 169 = .ok (.iconst 4, 1) := by decide +kernel
theorem dX0_nextToken_170 : decode cX0_nextToken 170 = .ok (.goto 7, 3) := by decide +kernel
theorem dX0_nextToken_173 : decode cX0_nextToken 173 = .ok (.aload_n 0, 1) := by decide +kernel
theorem dX0_nextToken_174 : decode cX0_nextToken 174 = .ok (.getfield 36, 3) := by decide +kernel
theorem dX0_nextToken_177 : decode cX0_nextToken 177 = .ok (.putfield 36, 3) := by decide +kernel
theorem dX0_nextToken_180 : decode cX0_nextToken 180 = .ok (.return_, 1) := by decide +kernel
theorem dX0_sortOf_0 : decode cX0_sortOf 0 = .ok (.iload_n 0, 1) := by decide +kernel
theorem dX0_sortOf_1 : decode cX0_sortOf 1 = .ok (.bipush 32, 2) := by decide +kernel
theorem dX0_sortOf_3 : decode cX0_sortOf 3 = .ok (.if_icmp .eq 9, 3) := by decide +kernel
theorem dX0_sortOf_6 : decode cX0_sortOf 6 = .ok (.iload_n 0, 1) := by decide +kernel
theorem dX0_sortOf_7 : decode cX0_sortOf 7 = .ok (.bipush 10, 2) := by decide +kernel
theorem dX0_sortOf_9 : decode cX0_sortOf 9 = .ok (.if_icmp .ne 5, 3) := by decide +kernel
theorem dX0_sortOf_12 : decode cX0_sortOf 12 = .ok (.iconst 5, 1) := by decide +kernel
theorem dX0_sortOf_13 : decode cX0_sortOf 13 = .ok (.ireturn, 1) := by decide +kernel
theorem dX0_sortOf_14 : decode cX0_sortOf 14 = .ok (.iload_n 0, 1) := by decide +kernel
theorem dX0_sortOf_15 : decode cX0_sortOf 15 = .ok (.bipush 97, 2) := by decide +kernel
theorem dX0_sortOf_17 : decode cX0_sortOf 17 = .ok (.if_icmp .lt 11, 3) := by decide +kernel
theorem dX0_sortOf_20 : decode cX0_sortOf 20 = .ok (.iload_n 0, 1) := by decide +kernel
theorem dX0_sortOf_21 : decode cX0_sortOf 21 = .ok (.bipush 122, 2) := by decide +kernel
theorem dX0_sortOf_23 : decode cX0_sortOf 23 = .ok (.if_icmp .gt 5, 3) := by decide +kernel
theorem dX0_sortOf_26 : decode cX0_sortOf 26 = .ok (.iconst 1, 1) := by decide +kernel
theorem dX0_sortOf_27 : decode cX0_sortOf 27 = .ok (.ireturn, 1) := by decide +kernel
theorem dX0_sortOf_28 : decode cX0_sortOf 28 = .ok (.iload_n 0, 1) := by decide +kernel
theorem dX0_sortOf_29 : decode cX0_sortOf 29 = .ok (.bipush 48, 2) := by decide +kernel
theorem dX0_sortOf_31 : decode cX0_sortOf 31 = .ok (.if_icmp .lt 11, 3) := by decide +kernel
theorem dX0_sortOf_34 : decode cX0_sortOf 34 = .ok (.iload_n 0, 1) := by decide +kernel
theorem dX0_sortOf_35 : decode cX0_sortOf 35 = .ok (.bipush 57, 2) := by decide +kernel
theorem dX0_sortOf_37 : decode cX0_sortOf 37 = .ok (.if_icmp .gt 5, 3) := by decide +kernel
theorem dX0_sortOf_40 : decode cX0_sortOf 40 = .ok (.iconst 2, 1) := by decide +kernel
theorem dX0_sortOf_41 : decode cX0_sortOf 41 = .ok (.ireturn, 1) := by decide +kernel
theorem dX0_sortOf_42 : decode cX0_sortOf 42 = .ok (.iload_n 0, 1) := by decide +kernel
theorem dX0_sortOf_43 : decode cX0_sortOf 43 = .ok (.bipush 59, 2) := by decide +kernel
theorem dX0_sortOf_45 : decode cX0_sortOf 45 = .ok (.if_icmp .ne 7, 3) := by decide +kernel
theorem dX0_sortOf_48 : decode cX0_sortOf 48 = .ok (.iconst 3, 1) := by decide +kernel
theorem dX0_sortOf_49 : decode cX0_sortOf 49 = .ok (.goto 4, 3) := by decide +kernel
theorem dX0_sortOf_52 : decode cX0_sortOf 52 = .ok (.iconst 4, 1) := by decide +kernel
theorem dX0_sortOf_53 : decode cX0_sortOf 53 = .ok (.ireturn, 1) := by decide +kernel
theorem dX0_numberOfToken_0 : decode cX0_numberOfToken 0 = .ok (.iconst 0, 1) := by decide +kernel
theorem dX0_numberOfToken_1 : decode cX0_numberOfToken 1 = .ok (.istore_n 1, 1) := by decide +kernel
theorem dX0_numberOfToken_2 : decode cX0_numberOfToken 2 = .ok (.aload_n 0, 1) := by decide +kernel
theorem dX0_numberOfToken_3 : decode cX0_numberOfToken 3 = .ok (.getfield 47, 3) := by decide +kernel
theorem dX0_numberOfToken_6 : decode cX0_numberOfToken 6 = .ok (.istore_n 2, 1) := by decide +kernel
theorem dX0_numberOfToken_7 : decode cX0_numberOfToken 7 = .ok (.iload_n 2, 1) := by decide +kernel
theorem dX0_numberOfToken_8 : decode cX0_numberOfToken 8 = .ok (.aload_n 0, 1) := by decide +kernel
theorem dX0_numberOfToken_9 : decode cX0_numberOfToken 9 = .ok (.getfield 30, 3) := by decide +kernel
theorem dX0_numberOfToken_12 : decode cX0_numberOfToken 12 = .ok (.if_icmp .ge 33, 3) := by decide +kernel
theorem dX0_numberOfToken_15 : decode cX0_numberOfToken 15 = .ok (.iload_n 2, 1) := by decide +kernel
theorem dX0_numberOfToken_16 : decode cX0_numberOfToken 16 = .ok (.aload_n 0, 1) := by decide +kernel
theorem dX0_numberOfToken_17 : decode cX0_numberOfToken 17 = .ok (.getfield 11, 3) := by decide +kernel
theorem dX0_numberOfToken_20 : decode cX0_numberOfToken 20 = .ok (.arraylength, 1) := by decide +kernel
theorem dX0_numberOfToken_21 : decode cX0_numberOfToken 21 = .ok (.if_icmp .ge 24, 3) := by decide +kernel
theorem dX0_numberOfToken_24 : decode cX0_numberOfToken 24 = .ok (.bipush 10, 2) := by decide +kernel
theorem dX0_numberOfToken_26 : decode cX0_numberOfToken 26 = .ok (.iload_n 1, 1) := by decide +kernel
theorem dX0_numberOfToken_27 : decode cX0_numberOfToken 27 = .ok (.imul, 1) := by decide +kernel
theorem dX0_numberOfToken_28 : decode cX0_numberOfToken 28 = .ok (.aload_n 0, 1) := by decide +kernel
theorem dX0_numberOfToken_29 : decode cX0_numberOfToken 29 = .ok (.getfield 11, 3) := by decide +kernel
theorem dX0_numberOfToken_32 : decode cX0_numberOfToken 32 = .ok (.iload_n 2, 1) := by decide +kernel
theorem dX0_numberOfToken_33 : decode cX0_numberOfToken 33 = .ok (.baload, 1) := by decide +kernel
theorem dX0_numberOfToken_34 : decode cX0_numberOfToken 34 = .ok (.iadd, 1) := by decide +kernel
theorem dX0_numberOfToken_35 : decode cX0_numberOfToken 35 = .ok (.bipush 48, 2) := by decide +kernel
theorem dX0_numberOfToken_37 : decode cX0_numberOfToken 37 = .ok (.isub, 1) := by decide +kernel
theorem dX0_numberOfToken_38 : decode cX0_numberOfToken 38 = .ok (.istore_n 1, 1) := by decide +kernel
theorem dX0_numberOfToken_39 : decode cX0_numberOfToken 39 = .ok (.iinc 2 1, 3) := by decide +kernel
theorem dX0_numberOfToken_42 : decode cX0_numberOfToken 42 = .ok (.goto (-35), 3) := by decide +kernel
theorem dX0_numberOfToken_45 : decode cX0_numberOfToken 45 = .ok (.iload_n 1, 1) := by decide +kernel
theorem dX0_numberOfToken_46 : decode cX0_numberOfToken 46 = .ok (.ireturn, 1) := by decide +kernel
set_option maxRecDepth 20000 in
theorem ggX0_isWord_J0_length_8abf5 : GoodIn wsX0_isWord wsJ0_length_8abf5 := goodIn_r _ [9, 10, 11, 12, 13, 8, 14, 15, 16] (by decide +kernel) (by decide +kernel)
set_option maxRecDepth 20000 in
theorem gX0_isWord_J0_length_8abf5 : GoodIn wsX0_isWord (wsV RX0 84 RJ0 yJ0_length_8abf5 wsJ0_length_8abf5) := goodIn_app (goodIn_of _ (by decide +kernel)) ggX0_isWord_J0_length_8abf5
set_option maxRecDepth 20000 in
theorem ggX0_isWord_J0_charAt_5068e : GoodIn wsX0_isWord wsJ0_charAt_5068e := goodIn_r _ [20, 10, 21, 22, 23, 8, 24, 15, 16, 25, 26, 27, 28, 29, 30, 31, 32, 33, 34, 35, 36, 37, 38, 39, 40, 41, 42, 43, 44, 45, 46, 47, 48, 49, 50, 51, 52, 53] (by decide +kernel) (by decide +kernel)
set_option maxRecDepth 20000 in
theorem gX0_isWord_J0_charAt_5068e : GoodIn wsX0_isWord (wsV RX0 88 RJ0 yJ0_charAt_5068e wsJ0_charAt_5068e) := goodIn_app (goodIn_of _ (by decide +kernel)) ggX0_isWord_J0_charAt_5068e
theorem dX0_isWord_0 : decode cX0_isWord 0 = .ok (.aload_n 0, 1) := by decide +kernel
theorem dX0_isWord_1 : decode cX0_isWord 1 = .ok (.getfield 36, 3) := by decide +kernel
theorem dX0_isWord_4 : decode cX0_isWord 4 = .ok (.iconst 1, 1) := by decide +kernel
theorem dX0_isWord_5 : decode cX0_isWord 5 = .ok (.if_icmp .ne 19, 3) := by decide +kernel
theorem dX0_isWord_8 : decode cX0_isWord 8 = .ok (.aload_n 0, 1) := by decide +kernel
theorem dX0_isWord_9 : decode cX0_isWord 9 = .ok (.getfield 30, 3) := by decide +kernel
theorem dX0_isWord_12 : decode cX0_isWord 12 = .ok (.aload_n 0, 1) := by decide +kernel
theorem dX0_isWord_13 : decode cX0_isWord 13 = .ok (.getfield 47, 3) := by decide +kernel
theorem dX0_isWord_16 : decode cX0_isWord 16 = .ok (.isub, 1) := by decide +kernel
theorem dX0_isWord_17 : decode cX0_isWord 17 = .ok (.aload_n 1, 1) := by decide +kernel
theorem dX0_isWord_18 : decode cX0_isWord 18 = .ok (.invokevirtual 84, 3) := by decide +kernel
theorem dX0_isWord_21 : decode cX0_isWord 21 = .ok (.if_icmp .eq 5, 3) := by decide +kernel
theorem dX0_isWord_24 : decode cX0_isWord 24 = .ok (.iconst 0, 1) := by decide +kernel
theorem dX0_isWord_25 : decode cX0_isWord 25 = .ok (.ireturn, 1) := by decide +kernel
theorem dX0_isWord_26 : decode cX0_isWord 26 = .ok (.iconst 0, 1) := by decide +kernel
theorem dX0_isWord_27 : decode cX0_isWord 27 = .ok (.istore_n 2, 1) := by decide +kernel
theorem dX0_isWord_28 : decode cX0_isWord 28 = .ok (.iload_n 2, 1) := by decide +kernel
theorem dX0_isWord_29 : decode cX0_isWord 29 = .ok (.aload_n 1, 1) := by decide +kernel
theorem dX0_isWord_30 : decode cX0_isWord 30 = .ok (.invokevirtual 84, 3) := by decide +kernel
theorem dX0_isWord_33 : decode cX0_isWord 33 = .ok (.if_icmp .ge 30, 3) := by decide +kernel
theorem dX0_isWord_36 : decode cX0_isWord 36 = .ok (.aload_n 0, 1) := by decide +kernel
theorem dX0_isWord_37 : decode cX0_isWord 37 = .ok (.getfield 11, 3) := by decide +kernel
theorem dX0_isWord_40 : decode cX0_isWord 40 = .ok (.aload_n 0, 1) := by decide +kernel
theorem dX0_isWord_41 : decode cX0_isWord 41 = .ok (.getfield 47, 3) := by decide +kernel
theorem dX0_isWord_44 : decode cX0_isWord 44 = .ok (.iload_n 2, 1) := by decide +kernel
theorem dX0_isWord_45 : decode cX0_isWord 45 = .ok (.iadd, 1) := by decide +kernel
theorem dX0_isWord_46 : decode cX0_isWord 46 = .ok (.baload, 1) := by decide +kernel
theorem dX0_isWord_47 : decode cX0_isWord 47 = .ok (.aload_n 1, 1) := by decide +kernel
theorem dX0_isWord_48 : decode cX0_isWord 48 = .ok (.iload_n 2, 1) := by decide +kernel
theorem dX0_isWord_49 : decode cX0_isWord 49 = .ok (.invokevirtual 88, 3) := by decide +kernel
theorem dX0_isWord_52 : decode cX0_isWord 52 = .ok (.if_icmp .eq 5, 3) := by decide +kernel
theorem dX0_isWord_55 : decode cX0_isWord 55 = .ok (.iconst 0, 1) := by decide +kernel
theorem dX0_isWord_56 : decode cX0_isWord 56 = .ok (.ireturn, 1) := by decide +kernel
theorem dX0_isWord_57 : decode cX0_isWord 57 = .ok (.iinc 2 1, 3) := by decide +kernel
theorem dX0_isWord_60 : decode cX0_isWord 60 = .ok (.goto (-32), 3) := by decide +kernel
theorem dX0_isWord_63 : decode cX0_isWord 63 = .ok (.iconst 1, 1) := by decide +kernel
theorem dX0_isWord_64 : decode cX0_isWord 64 = .ok (.ireturn, 1) := by decide +kernel
theorem dX0_shownAt_0 : decode cX0_shownAt 0 = .ok (.iconst (-1), 1) := by decide +kernel
theorem dX0_shownAt_1 : decode cX0_shownAt 1 = .ok (.istore_n 2, 1) := by decide +kernel
theorem dX0_shownAt_2 : decode cX0_shownAt 2 = .ok (.iconst 0, 1) := by decide +kernel
theorem dX0_shownAt_3 : decode cX0_shownAt 3 = .ok (.istore_n 3, 1) := by decide +kernel
theorem dX0_shownAt_4 : decode cX0_shownAt 4 = .ok (.iload_n 3, 1) := by decide +kernel
theorem dX0_shownAt_5 : decode cX0_shownAt 5 = .ok (.aload_n 0, 1) := by decide +kernel
theorem dX0_shownAt_6 : decode cX0_shownAt 6 = .ok (.getfield 50, 3) := by decide +kernel
theorem dX0_shownAt_9 : decode cX0_shownAt 9 = .ok (.if_icmp .ge 59, 3) := by decide +kernel
theorem dX0_shownAt_12 : decode cX0_shownAt 12 = .ok (.aload_n 0, 1) := by decide +kernel
theorem dX0_shownAt_13 : decode cX0_shownAt 13 = .ok (.getfield 17, 3) := by decide +kernel
theorem dX0_shownAt_16 : decode cX0_shownAt 16 = .ok (.iload_n 3, 1) := by decide +kernel
theorem dX0_shownAt_17 : decode cX0_shownAt 17 = .ok (.aaload, 1) := by decide +kernel
theorem dX0_shownAt_18 : decode cX0_shownAt 18 = .ok (.iconst 0, 1) := by decide +kernel
theorem dX0_shownAt_19 : decode cX0_shownAt 19 = .ok (.iaload, 1) := by decide +kernel
theorem dX0_shownAt_20 : decode cX0_shownAt 20 = .ok (.iload_n 1, 1) := by decide +kernel
theorem dX0_shownAt_21 : decode cX0_shownAt 21 = .ok (.if_icmp .gt 47, 3) := by decide +kernel
theorem dX0_shownAt_24 : decode cX0_shownAt 24 = .ok (.aload_n 0, 1) := by decide +kernel
theorem dX0_shownAt_25 : decode cX0_shownAt 25 = .ok (.getfield 17, 3) := by decide +kernel
theorem dX0_shownAt_28 : decode cX0_shownAt 28 = .ok (.iload_n 3, 1) := by decide +kernel
theorem dX0_shownAt_29 : decode cX0_shownAt 29 = .ok (.aaload, 1) := by decide +kernel
theorem dX0_shownAt_30 : decode cX0_shownAt 30 = .ok (.iconst 1, 1) := by decide +kernel
theorem dX0_shownAt_31 : decode cX0_shownAt 31 = .ok (.iaload, 1) := by decide +kernel
theorem dX0_shownAt_32 : decode cX0_shownAt 32 = .ok (.ifCond .ne 15, 3) := by decide +kernel
theorem dX0_shownAt_35 : decode cX0_shownAt 35 = .ok (.aload_n 0, 1) := by decide +kernel
theorem dX0_shownAt_36 : decode cX0_shownAt 36 = .ok (.getfield 17, 3) := by decide +kernel
theorem dX0_shownAt_39 : decode cX0_shownAt 39 = .ok (.iload_n 3, 1) := by decide +kernel
theorem dX0_shownAt_40 : decode cX0_shownAt 40 = .ok (.aaload, 1) := by decide +kernel
theorem dX0_shownAt_41 : decode cX0_shownAt 41 = .ok (.iconst 2, 1) := by decide +kernel
theorem dX0_shownAt_42 : decode cX0_shownAt 42 = .ok (.iaload, 1) := by decide +kernel
theorem dX0_shownAt_43 : decode cX0_shownAt 43 = .ok (.istore_n 2, 1) := by decide +kernel
theorem dX0_shownAt_44 : decode cX0_shownAt 44 = .ok (.goto 18, 3) := by decide +kernel
theorem dX0_shownAt_47 : decode cX0_shownAt 47 = .ok (.aload_n 0, 1) := by decide +kernel
theorem dX0_shownAt_48 : decode cX0_shownAt 48 = .ok (.getfield 17, 3) := by decide +kernel
theorem dX0_shownAt_51 : decode cX0_shownAt 51 = .ok (.iload_n 3, 1) := by decide +kernel
theorem dX0_shownAt_52 : decode cX0_shownAt 52 = .ok (.aaload, 1) := by decide +kernel
theorem dX0_shownAt_53 : decode cX0_shownAt 53 = .ok (.iconst 1, 1) := by decide +kernel
theorem dX0_shownAt_54 : decode cX0_shownAt 54 = .ok (.iaload, 1) := by decide +kernel
theorem dX0_shownAt_55 : decode cX0_shownAt 55 = .ok (.iconst 1, 1) := by decide +kernel
theorem dX0_shownAt_56 : decode cX0_shownAt 56 = .ok (.if_icmp .ne 6, 3) := by decide +kernel
theorem dX0_shownAt_59 : decode cX0_shownAt 59 = .ok (.bipush (-2), 2) := by decide +kernel
theorem dX0_shownAt_61 : decode cX0_shownAt 61 = .ok (.istore_n 2, 1) := by decide +kernel
theorem dX0_shownAt_62 : decode cX0_shownAt 62 = .ok (.iinc 3 1, 3) := by decide +kernel
theorem dX0_shownAt_65 : decode cX0_shownAt 65 = .ok (.goto (-61), 3) := by decide +kernel
theorem dX0_shownAt_68 : decode cX0_shownAt 68 = .ok (.iload_n 2, 1) := by decide +kernel
theorem dX0_shownAt_69 : decode cX0_shownAt 69 = .ok (.ireturn, 1) := by decide +kernel
set_option maxRecDepth 20000 in
theorem ggX0_levelAt_X0_faded : GoodIn wsX0_levelAt wsX0_faded := goodIn_r _ [6] (by decide +kernel) (by decide +kernel)
set_option maxRecDepth 20000 in
theorem gX0_levelAt_X0_faded : GoodIn wsX0_levelAt (va_wsS RX0 92 yX0_faded wsX0_faded) := goodIn_app (goodIn_of _ (by decide +kernel)) ggX0_levelAt_X0_faded
theorem dX0_levelAt_0 : decode cX0_levelAt 0 = .ok (.bipush 100, 2) := by decide +kernel
theorem dX0_levelAt_2 : decode cX0_levelAt 2 = .ok (.istore_n 2, 1) := by decide +kernel
theorem dX0_levelAt_3 : decode cX0_levelAt 3 = .ok (.bipush 100, 2) := by decide +kernel
theorem dX0_levelAt_5 : decode cX0_levelAt 5 = .ok (.istore_n 3, 1) := by decide +kernel
theorem dX0_levelAt_6 : decode cX0_levelAt 6 = .ok (.iconst 0, 1) := by decide +kernel
theorem dX0_levelAt_7 : decode cX0_levelAt 7 = .ok (.istore 4, 2) := by decide +kernel
theorem dX0_levelAt_9 : decode cX0_levelAt 9 = .ok (.iconst 0, 1) := by decide +kernel
theorem dX0_levelAt_10 : decode cX0_levelAt 10 = .ok (.istore 5, 2) := by decide +kernel
theorem dX0_levelAt_12 : decode cX0_levelAt 12 = .ok (.iconst 0, 1) := by decide +kernel
theorem dX0_levelAt_13 : decode cX0_levelAt 13 = .ok (.istore 6, 2) := by decide +kernel
theorem dX0_levelAt_15 : decode cX0_levelAt 15 = .ok (.iload 6, 2) := by decide +kernel
theorem dX0_levelAt_17 : decode cX0_levelAt 17 = .ok (.aload_n 0, 1) := by decide +kernel
theorem dX0_levelAt_18 : decode cX0_levelAt 18 = .ok (.getfield 50, 3) := by decide +kernel
theorem dX0_levelAt_21 : decode cX0_levelAt 21 = .ok (.if_icmp .ge 71, 3) := by decide +kernel
theorem dX0_levelAt_24 : decode cX0_levelAt 24 = .ok (.aload_n 0, 1) := by decide +kernel
theorem dX0_levelAt_25 : decode cX0_levelAt 25 = .ok (.getfield 17, 3) := by decide +kernel
theorem dX0_levelAt_28 : decode cX0_levelAt 28 = .ok (.iload 6, 2) := by decide +kernel
theorem dX0_levelAt_30 : decode cX0_levelAt 30 = .ok (.aaload, 1) := by decide +kernel
theorem dX0_levelAt_31 : decode cX0_levelAt 31 = .ok (.iconst 0, 1) := by decide +kernel
theorem dX0_levelAt_32 : decode cX0_levelAt 32 = .ok (.iaload, 1) := by decide +kernel
theorem dX0_levelAt_33 : decode cX0_levelAt 33 = .ok (.iload_n 1, 1) := by decide +kernel
theorem dX0_levelAt_34 : decode cX0_levelAt 34 = .ok (.if_icmp .gt 58, 3) := by decide +kernel
theorem dX0_levelAt_37 : decode cX0_levelAt 37 = .ok (.aload_n 0, 1) := by decide +kernel
theorem dX0_levelAt_38 : decode cX0_levelAt 38 = .ok (.getfield 17, 3) := by decide +kernel
theorem dX0_levelAt_41 : decode cX0_levelAt 41 = .ok (.iload 6, 2) := by decide +kernel
theorem dX0_levelAt_43 : decode cX0_levelAt 43 = .ok (.aaload, 1) := by decide +kernel
theorem dX0_levelAt_44 : decode cX0_levelAt 44 = .ok (.astore 7, 2) := by decide +kernel
theorem dX0_levelAt_46 : decode cX0_levelAt 46 = .ok (.aload 7, 2) := by decide +kernel
theorem dX0_levelAt_48 : decode cX0_levelAt 48 = .ok (.iconst 1, 1) := by decide +kernel
theorem dX0_levelAt_49 : decode cX0_levelAt 49 = .ok (.iaload, 1) := by decide +kernel
theorem dX0_levelAt_50 : decode cX0_levelAt 50 = .ok (.iconst 2, 1) := by decide +kernel
theorem dX0_levelAt_51 : decode cX0_levelAt 51 = .ok (.if_icmp .ne 35, 3) := by decide +kernel
theorem dX0_levelAt_54 : decode cX0_levelAt 54 = .ok (.iload_n 2, 1) := by decide +kernel
theorem dX0_levelAt_55 : decode cX0_levelAt 55 = .ok (.iload_n 3, 1) := by decide +kernel
theorem dX0_levelAt_56 : decode cX0_levelAt 56 = .ok (.aload 7, 2) := by decide +kernel
theorem dX0_levelAt_58 : decode cX0_levelAt 58 = .ok (.iconst 0, 1) := by decide +kernel
theorem dX0_levelAt_59 : decode cX0_levelAt 59 = .ok (.iaload, 1) := by decide +kernel
theorem dX0_levelAt_60 : decode cX0_levelAt 60 = .ok (.iload 4, 2) := by decide +kernel
theorem dX0_levelAt_62 : decode cX0_levelAt 62 = .ok (.isub, 1) := by decide +kernel
theorem dX0_levelAt_63 : decode cX0_levelAt 63 = .ok (.iload 5, 2) := by decide +kernel
theorem dX0_levelAt_65 : decode cX0_levelAt 65 = .ok (.invokestatic 92, 3) := by decide +kernel
theorem dX0_levelAt_68 : decode cX0_levelAt 68 = .ok (.istore_n 2, 1) := by decide +kernel
theorem dX0_levelAt_69 : decode cX0_levelAt 69 = .ok (.aload 7, 2) := by decide +kernel
theorem dX0_levelAt_71 : decode cX0_levelAt 71 = .ok (.iconst 2, 1) := by decide +kernel
theorem dX0_levelAt_72 : decode cX0_levelAt 72 = .ok (.iaload, 1) := by decide +kernel
theorem dX0_levelAt_73 : decode cX0_levelAt 73 = .ok (.istore_n 3, 1) := by decide +kernel
theorem dX0_levelAt_74 : decode cX0_levelAt 74 = .ok (.aload 7, 2) := by decide +kernel
theorem dX0_levelAt_76 : decode cX0_levelAt 76 = .ok (.iconst 0, 1) := by decide +kernel
theorem dX0_levelAt_77 : decode cX0_levelAt 77 = .ok (.iaload, 1) := by decide +kernel
theorem dX0_levelAt_78 : decode cX0_levelAt 78 = .ok (.istore 4, 2) := by decide +kernel
theorem dX0_levelAt_80 : decode cX0_levelAt 80 = .ok (.aload 7, 2) := by decide +kernel
theorem dX0_levelAt_82 : decode cX0_levelAt 82 = .ok (.iconst 3, 1) := by decide +kernel
theorem dX0_levelAt_83 : decode cX0_levelAt 83 = .ok (.iaload, 1) := by decide +kernel
theorem dX0_levelAt_84 : decode cX0_levelAt 84 = .ok (.istore 5, 2) := by decide +kernel
theorem dX0_levelAt_86 : decode cX0_levelAt 86 = .ok (.iinc 6 1, 3) := by decide +kernel
theorem dX0_levelAt_89 : decode cX0_levelAt 89 = .ok (.goto (-74), 3) := by decide +kernel
theorem dX0_levelAt_92 : decode cX0_levelAt 92 = .ok (.iload_n 2, 1) := by decide +kernel
theorem dX0_levelAt_93 : decode cX0_levelAt 93 = .ok (.iload_n 3, 1) := by decide +kernel
theorem dX0_levelAt_94 : decode cX0_levelAt 94 = .ok (.iload_n 1, 1) := by decide +kernel
theorem dX0_levelAt_95 : decode cX0_levelAt 95 = .ok (.iload 4, 2) := by decide +kernel
theorem dX0_levelAt_97 : decode cX0_levelAt 97 = .ok (.isub, 1) := by decide +kernel
theorem dX0_levelAt_98 : decode cX0_levelAt 98 = .ok (.iload 5, 2) := by decide +kernel
theorem dX0_levelAt_100 : decode cX0_levelAt 100 = .ok (.invokestatic 92, 3) := by decide +kernel
theorem dX0_levelAt_103 : decode cX0_levelAt 103 = .ok (.ireturn, 1) := by decide +kernel
theorem dX0_faded_0 : decode cX0_faded 0 = .ok (.iload_n 3, 1) := by decide +kernel
theorem dX0_faded_1 : decode cX0_faded 1 = .ok (.ifCond .le 8, 3) := by decide +kernel
theorem dX0_faded_4 : decode cX0_faded 4 = .ok (.iload_n 2, 1) := by decide +kernel
theorem dX0_faded_5 : decode cX0_faded 5 = .ok (.iload_n 3, 1) := by decide +kernel
theorem dX0_faded_6 : decode cX0_faded 6 = .ok (.if_icmp .lt 7, 3) := by decide +kernel
theorem dX0_faded_9 : decode cX0_faded 9 = .ok (.iload_n 1, 1) := by decide +kernel
theorem dX0_faded_10 : decode cX0_faded 10 = .ok (.goto 12, 3) := by decide +kernel
theorem dX0_faded_13 : decode cX0_faded 13 = .ok (.iload_n 0, 1) := by decide +kernel
theorem dX0_faded_14 : decode cX0_faded 14 = .ok (.iload_n 1, 1) := by decide +kernel
theorem dX0_faded_15 : decode cX0_faded 15 = .ok (.iload_n 0, 1) := by decide +kernel
theorem dX0_faded_16 : decode cX0_faded 16 = .ok (.isub, 1) := by decide +kernel
theorem dX0_faded_17 : decode cX0_faded 17 = .ok (.iload_n 2, 1) := by decide +kernel
theorem dX0_faded_18 : decode cX0_faded 18 = .ok (.imul, 1) := by decide +kernel
theorem dX0_faded_19 : decode cX0_faded 19 = .ok (.iload_n 3, 1) := by decide +kernel
theorem dX0_faded_20 : decode cX0_faded 20 = .ok (.idiv, 1) := by decide +kernel
theorem dX0_faded_21 : decode cX0_faded 21 = .ok (.iadd, 1) := by decide +kernel
theorem dX0_faded_22 : decode cX0_faded 22 = .ok (.ireturn, 1) := by decide +kernel
set_option maxRecDepth 20000 in
theorem ggX1_init_X8_init : GoodIn wsX1_init wsX8_init := goodIn_r _ [4, 5, 6, 7, 8, 9, 10, 11, 12, 13, 14, 15] (by decide +kernel) (by decide +kernel)
set_option maxRecDepth 20000 in
theorem gX1_init_X8_init : GoodIn wsX1_init (wsX8_init) := ggX1_init_X8_init
theorem dX1_init_0 : decode cX1_init 0 = .ok (.aload_n 0, 1) := by decide +kernel
theorem dX1_init_1 : decode cX1_init 1 = .ok (.aload_n 1, 1) := by decide +kernel
theorem dX1_init_2 : decode cX1_init 2 = .ok (.aload_n 2, 1) := by decide +kernel
theorem dX1_init_3 : decode cX1_init 3 = .ok (.invokespecial 1, 3) := by decide +kernel
theorem dX1_init_6 : decode cX1_init 6 = .ok (.return_, 1) := by decide +kernel
set_option maxRecDepth 20000 in
theorem ggX1_sizeAsked_X10_leave : GoodIn wsX1_sizeAsked wsX10_leave := goodIn_r _ [5, 6, 7, 50, 51] (by decide +kernel) (by decide +kernel)
set_option maxRecDepth 20000 in
theorem gX1_sizeAsked_X10_leave : GoodIn wsX1_sizeAsked (wsV RX1 7 RX10 yX10_leave wsX10_leave) := goodIn_app (goodIn_of _ (by decide +kernel)) ggX1_sizeAsked_X10_leave
set_option maxRecDepth 20000 in
theorem ggX1_sizeAsked_X8_sizeAsked : GoodIn wsX1_sizeAsked wsX8_sizeAsked := goodIn_r _ [13, 14, 2, 3, 4, 5, 6, 7, 15, 16, 17, 18, 12, 19, 20, 21, 22, 50, 51, 52, 53, 54, 55, 56, 57] (by decide +kernel) (by decide +kernel)
set_option maxRecDepth 20000 in
theorem gX1_sizeAsked_X8_sizeAsked_s13 : GoodIn wsX1_sizeAsked (va_wsSU RX1 13 yX8_sizeAsked wsX8_sizeAsked) := goodIn_app (goodIn_of _ (by decide +kernel)) ggX1_sizeAsked_X8_sizeAsked
set_option maxRecDepth 20000 in
theorem ggX1_sizeAsked_X8_points : GoodIn wsX1_sizeAsked wsX8_points := goodIn_r _ [19, 20, 52, 53, 54, 55, 56, 57] (by decide +kernel) (by decide +kernel)
set_option maxRecDepth 20000 in
theorem gX1_sizeAsked_X8_points_u17X1 : GoodIn wsX1_sizeAsked (va_wsU RX1 17 RX1 "LightLines$Stroke" ⟨"LightLines$Line", "points", "()I"⟩ yX8_points wsX8_points) := goodIn_app (goodIn_of _ (by decide +kernel)) ggX1_sizeAsked_X8_points
set_option maxRecDepth 20000 in
theorem gX1_sizeAsked_X8_points_u17X2 : GoodIn wsX1_sizeAsked (va_wsU RX1 17 RX2 "LightLines$Stroke" ⟨"LightLines$Line", "points", "()I"⟩ yX8_points wsX8_points) := goodIn_app (goodIn_of _ (by decide +kernel)) ggX1_sizeAsked_X8_points
set_option maxRecDepth 20000 in
theorem ggX1_sizeAsked_X8_xAt : GoodIn wsX1_sizeAsked wsX8_xAt := goodIn_r _ [31, 20, 52, 53, 54, 55, 56, 57] (by decide +kernel) (by decide +kernel)
set_option maxRecDepth 20000 in
theorem gX1_sizeAsked_X8_xAt_u23X1 : GoodIn wsX1_sizeAsked (va_wsU RX1 23 RX1 "LightLines$Stroke" ⟨"LightLines$Line", "xAt", "(I)I"⟩ yX8_xAt wsX8_xAt) := goodIn_app (goodIn_of _ (by decide +kernel)) ggX1_sizeAsked_X8_xAt
set_option maxRecDepth 20000 in
theorem gX1_sizeAsked_X8_xAt_u23X2 : GoodIn wsX1_sizeAsked (va_wsU RX1 23 RX2 "LightLines$Stroke" ⟨"LightLines$Line", "xAt", "(I)I"⟩ yX8_xAt wsX8_xAt) := goodIn_app (goodIn_of _ (by decide +kernel)) ggX1_sizeAsked_X8_xAt
set_option maxRecDepth 20000 in
theorem ggX1_sizeAsked_X8_yAt : GoodIn wsX1_sizeAsked wsX8_yAt := goodIn_r _ [37, 38, 52, 53, 54, 55, 56, 57] (by decide +kernel) (by decide +kernel)
set_option maxRecDepth 20000 in
theorem gX1_sizeAsked_X8_yAt_u27X1 : GoodIn wsX1_sizeAsked (va_wsU RX1 27 RX1 "LightLines$Stroke" ⟨"LightLines$Line", "yAt", "(I)I"⟩ yX8_yAt wsX8_yAt) := goodIn_app (goodIn_of _ (by decide +kernel)) ggX1_sizeAsked_X8_yAt
set_option maxRecDepth 20000 in
theorem gX1_sizeAsked_X8_yAt_u27X2 : GoodIn wsX1_sizeAsked (va_wsU RX1 27 RX2 "LightLines$Stroke" ⟨"LightLines$Line", "yAt", "(I)I"⟩ yX8_yAt wsX8_yAt) := goodIn_app (goodIn_of _ (by decide +kernel)) ggX1_sizeAsked_X8_yAt
set_option maxRecDepth 20000 in
theorem ggX1_sizeAsked_X11_way : GoodIn wsX1_sizeAsked wsX11_way := goodIn_r _ [42, 43, 44, 45, 46, 47, 48, 49] (by decide +kernel) (by decide +kernel)
set_option maxRecDepth 20000 in
theorem gX1_sizeAsked_X11_way_n30 : GoodIn wsX1_sizeAsked (wsX11_way) := ggX1_sizeAsked_X11_way
theorem dX1_sizeAsked_0 : decode cX1_sizeAsked 0 = .ok (.aload_n 1, 1) := by decide +kernel
theorem dX1_sizeAsked_1 : decode cX1_sizeAsked 1 = .ok (.bipush 11, 2) := by decide +kernel
theorem dX1_sizeAsked_3 : decode cX1_sizeAsked 3 = .ok (.invokevirtual 7, 3) := by decide +kernel
theorem dX1_sizeAsked_6 : decode cX1_sizeAsked 6 = .ok (.aload_n 0, 1) := by decide +kernel
theorem dX1_sizeAsked_7 : decode cX1_sizeAsked 7 = .ok (.aload_n 1, 1) := by decide +kernel
theorem dX1_sizeAsked_8 : decode cX1_sizeAsked 8 = .ok (.invokespecial 13, 3) := by decide +kernel
theorem dX1_sizeAsked_11 : decode cX1_sizeAsked 11 = .ok (.istore_n 2, 1) := by decide +kernel
theorem dX1_sizeAsked_12 : decode cX1_sizeAsked 12 = .ok (.iconst 1, 1) := by decide +kernel
theorem dX1_sizeAsked_13 : decode cX1_sizeAsked 13 = .ok (.istore_n 3, 1) := by decide +kernel
theorem dX1_sizeAsked_14 : decode cX1_sizeAsked 14 = .ok (.iload_n 3, 1) := by decide +kernel
theorem dX1_sizeAsked_15 : decode cX1_sizeAsked 15 = .ok (.aload_n 0, 1) := by decide +kernel
theorem dX1_sizeAsked_16 : decode cX1_sizeAsked 16 = .ok (.invokevirtual 17, 3) := by decide +kernel
theorem dX1_sizeAsked_19 : decode cX1_sizeAsked 19 = .ok (.if_icmp .ge 39, 3) := by decide +kernel
theorem dX1_sizeAsked_22 : decode cX1_sizeAsked 22 = .ok (.iload_n 2, 1) := by decide +kernel
theorem dX1_sizeAsked_23 : decode cX1_sizeAsked 23 = .ok (.aload_n 0, 1) := by decide +kernel
theorem dX1_sizeAsked_24 : decode cX1_sizeAsked 24 = .ok (.iload_n 3, 1) := by decide +kernel
theorem dX1_sizeAsked_25 : decode cX1_sizeAsked 25 = .ok (.iconst 1, 1) := by decide +kernel
theorem dX1_sizeAsked_26 : decode cX1_sizeAsked 26 = .ok (.isub, 1) := by decide +kernel
theorem dX1_sizeAsked_27 : decode cX1_sizeAsked 27 = .ok (.invokevirtual 23, 3) := by decide +kernel
theorem dX1_sizeAsked_30 : decode cX1_sizeAsked 30 = .ok (.aload_n 0, 1) := by decide +kernel
theorem dX1_sizeAsked_31 : decode cX1_sizeAsked 31 = .ok (.iload_n 3, 1) := by decide +kernel
theorem dX1_sizeAsked_32 : decode cX1_sizeAsked 32 = .ok (.iconst 1, 1) := by decide +kernel
theorem dX1_sizeAsked_33 : decode cX1_sizeAsked 33 = .ok (.isub, 1) := by decide +kernel
theorem dX1_sizeAsked_34 : decode cX1_sizeAsked 34 = .ok (.invokevirtual 27, 3) := by decide +kernel
theorem dX1_sizeAsked_37 : decode cX1_sizeAsked 37 = .ok (.aload_n 0, 1) := by decide +kernel
theorem dX1_sizeAsked_38 : decode cX1_sizeAsked 38 = .ok (.iload_n 3, 1) := by decide +kernel
theorem dX1_sizeAsked_39 : decode cX1_sizeAsked 39 = .ok (.invokevirtual 23, 3) := by decide +kernel
theorem dX1_sizeAsked_42 : decode cX1_sizeAsked 42 = .ok (.aload_n 0, 1) := by decide +kernel
theorem dX1_sizeAsked_43 : decode cX1_sizeAsked 43 = .ok (.iload_n 3, 1) := by decide +kernel
theorem dX1_sizeAsked_44 : decode cX1_sizeAsked 44 = .ok (.invokevirtual 27, 3) := by decide +kernel
theorem dX1_sizeAsked_47 : decode cX1_sizeAsked 47 = .ok (.invokestatic 30, 3) := by decide +kernel
theorem dX1_sizeAsked_50 : decode cX1_sizeAsked 50 = .ok (.iadd, 1) := by decide +kernel
theorem dX1_sizeAsked_51 : decode cX1_sizeAsked 51 = .ok (.istore_n 2, 1) := by decide +kernel
theorem dX1_sizeAsked_52 : decode cX1_sizeAsked 52 = .ok (.iinc 3 1, 3) := by decide +kernel
theorem dX1_sizeAsked_55 : decode cX1_sizeAsked 55 = .ok (.goto (-41), 3) := by decide +kernel
theorem dX1_sizeAsked_58 : decode cX1_sizeAsked 58 = .ok (.iload_n 2, 1) := by decide +kernel
theorem dX1_sizeAsked_59 : decode cX1_sizeAsked 59 = .ok (.ireturn, 1) := by decide +kernel
set_option maxRecDepth 20000 in
theorem ggX1_markAsked_X10_leave : GoodIn wsX1_markAsked wsX10_leave := goodIn_r _ [5, 6, 7, 74, 75] (by decide +kernel) (by decide +kernel)
set_option maxRecDepth 20000 in
theorem gX1_markAsked_X10_leave : GoodIn wsX1_markAsked (wsV RX1 7 RX10 yX10_leave wsX10_leave) := goodIn_app (goodIn_of _ (by decide +kernel)) ggX1_markAsked_X10_leave
set_option maxRecDepth 20000 in
theorem ggX1_markAsked_X8_markAsked : GoodIn wsX1_markAsked wsX8_markAsked := goodIn_r _ [13, 14, 2, 3, 4, 5, 6, 7, 15, 16, 17, 18, 12, 19, 20, 21, 22, 74, 75, 76, 77, 78, 79, 80, 81] (by decide +kernel) (by decide +kernel)
set_option maxRecDepth 20000 in
theorem gX1_markAsked_X8_markAsked_s36 : GoodIn wsX1_markAsked (va_wsSU RX1 36 yX8_markAsked wsX8_markAsked) := goodIn_app (goodIn_of _ (by decide +kernel)) ggX1_markAsked_X8_markAsked
set_option maxRecDepth 20000 in
theorem ggX1_markAsked_X1_sizeAsked : GoodIn wsX1_markAsked wsX1_sizeAsked := goodIn_r _ [27, 1, 2, 3, 4, 5, 6, 7, 28, 29, 10, 30, 12, 31, 14, 32, 33, 34, 35, 36, 20, 37, 38, 39, 40, 41, 42, 43, 44, 45, 18, 19, 46, 47, 48, 49, 50, 51, 52, 53, 54, 55, 56, 57, 58, 59, 60, 61, 62, 63, 74, 75, 76, 77, 78, 79, 80, 81] (by decide +kernel) (by decide +kernel)
set_option maxRecDepth 20000 in
theorem gX1_markAsked_X1_sizeAsked : GoodIn wsX1_markAsked (wsV RX1 39 RX1 yX1_sizeAsked wsX1_sizeAsked) := goodIn_app (goodIn_of _ (by decide +kernel)) ggX1_markAsked_X1_sizeAsked
set_option maxRecDepth 20000 in
theorem ggX1_markAsked_X2_sizeAsked : GoodIn wsX1_markAsked wsX2_sizeAsked := goodIn_r _ [70, 71, 2, 3, 4, 5, 6, 7, 72, 65, 73, 24, 26, 27, 1, 28, 29, 10, 30, 12, 31, 14, 32, 33, 34, 35, 36, 20, 37, 38, 39, 40, 41, 42, 43, 44, 45, 18, 19, 46, 47, 48, 49, 50, 51, 52, 53, 54, 55, 56, 57, 58, 59, 60, 61, 62, 63, 74, 75, 76, 77, 78, 79, 80, 81] (by decide +kernel) (by decide +kernel)
set_option maxRecDepth 20000 in
theorem gX1_markAsked_X2_sizeAsked_u39X2 : GoodIn wsX1_markAsked (va_wsO RX1 39 RX2 "LightLines$Line" ⟨"LightLines$Line", "sizeAsked", "(LLightLines$Trace;)I"⟩ yX2_sizeAsked wsX2_sizeAsked) := goodIn_app (goodIn_of _ (by decide +kernel)) ggX1_markAsked_X2_sizeAsked
theorem dX1_markAsked_0 : decode cX1_markAsked 0 = .ok (.aload_n 1, 1) := by decide +kernel
theorem dX1_markAsked_1 : decode cX1_markAsked 1 = .ok (.bipush 21, 2) := by decide +kernel
theorem dX1_markAsked_3 : decode cX1_markAsked 3 = .ok (.invokevirtual 7, 3) := by decide +kernel
theorem dX1_markAsked_6 : decode cX1_markAsked 6 = .ok (.aload_n 0, 1) := by decide +kernel
theorem dX1_markAsked_7 : decode cX1_markAsked 7 = .ok (.aload_n 1, 1) := by decide +kernel
theorem dX1_markAsked_8 : decode cX1_markAsked 8 = .ok (.invokespecial 36, 3) := by decide +kernel
theorem dX1_markAsked_11 : decode cX1_markAsked 11 = .ok (.istore_n 2, 1) := by decide +kernel
theorem dX1_markAsked_12 : decode cX1_markAsked 12 = .ok (.iload_n 2, 1) := by decide +kernel
theorem dX1_markAsked_13 : decode cX1_markAsked 13 = .ok (.aload_n 0, 1) := by decide +kernel
theorem dX1_markAsked_14 : decode cX1_markAsked 14 = .ok (.aload_n 1, 1) := by decide +kernel
theorem dX1_markAsked_15 : decode cX1_markAsked 15 = .ok (.invokevirtual 39, 3) := by decide +kernel
theorem dX1_markAsked_18 : decode cX1_markAsked 18 = .ok (.iadd, 1) := by decide +kernel
theorem dX1_markAsked_19 : decode cX1_markAsked 19 = .ok (.ireturn, 1) := by decide +kernel
set_option maxRecDepth 20000 in
theorem ggX2_init_X1_init : GoodIn wsX2_init wsX1_init := goodIn_r _ [4, 5, 6, 7, 8, 9, 10, 11, 12, 13, 14, 15, 16, 17, 18, 19] (by decide +kernel) (by decide +kernel)
set_option maxRecDepth 20000 in
theorem gX2_init_X1_init : GoodIn wsX2_init (wsX1_init) := ggX2_init_X1_init
theorem dX2_init_0 : decode cX2_init 0 = .ok (.aload_n 0, 1) := by decide +kernel
theorem dX2_init_1 : decode cX2_init 1 = .ok (.aload_n 1, 1) := by decide +kernel
theorem dX2_init_2 : decode cX2_init 2 = .ok (.aload_n 2, 1) := by decide +kernel
theorem dX2_init_3 : decode cX2_init 3 = .ok (.invokespecial 1, 3) := by decide +kernel
theorem dX2_init_6 : decode cX2_init 6 = .ok (.return_, 1) := by decide +kernel
set_option maxRecDepth 20000 in
theorem ggX2_sizeAsked_X10_leave : GoodIn wsX2_sizeAsked wsX10_leave := goodIn_r _ [5, 6, 7, 57, 58] (by decide +kernel) (by decide +kernel)
set_option maxRecDepth 20000 in
theorem gX2_sizeAsked_X10_leave : GoodIn wsX2_sizeAsked (wsV RX2 7 RX10 yX10_leave wsX10_leave) := goodIn_app (goodIn_of _ (by decide +kernel)) ggX2_sizeAsked_X10_leave
set_option maxRecDepth 20000 in
theorem ggX2_sizeAsked_X1_sizeAsked : GoodIn wsX2_sizeAsked wsX1_sizeAsked := goodIn_r _ [13, 14, 2, 3, 4, 5, 6, 7, 15, 16, 17, 18, 19, 20, 21, 22, 23, 24, 25, 26, 27, 28, 29, 30, 31, 32, 33, 34, 35, 36, 37, 38, 39, 40, 41, 42, 43, 44, 45, 46, 47, 48, 49, 50, 51, 52, 53, 54, 55, 56, 57, 58, 59, 60, 61, 62, 63, 64] (by decide +kernel) (by decide +kernel)
set_option maxRecDepth 20000 in
theorem gX2_sizeAsked_X1_sizeAsked_s13 : GoodIn wsX2_sizeAsked (va_wsSU RX2 13 yX1_sizeAsked wsX1_sizeAsked) := goodIn_app (goodIn_of _ (by decide +kernel)) ggX2_sizeAsked_X1_sizeAsked
theorem dX2_sizeAsked_0 : decode cX2_sizeAsked 0 = .ok (.aload_n 1, 1) := by decide +kernel
theorem dX2_sizeAsked_1 : decode cX2_sizeAsked 1 = .ok (.bipush 12, 2) := by decide +kernel
theorem dX2_sizeAsked_3 : decode cX2_sizeAsked 3 = .ok (.invokevirtual 7, 3) := by decide +kernel
theorem dX2_sizeAsked_6 : decode cX2_sizeAsked 6 = .ok (.iconst 2, 1) := by decide +kernel
theorem dX2_sizeAsked_7 : decode cX2_sizeAsked 7 = .ok (.aload_n 0, 1) := by decide +kernel
theorem dX2_sizeAsked_8 : decode cX2_sizeAsked 8 = .ok (.aload_n 1, 1) := by decide +kernel
theorem dX2_sizeAsked_9 : decode cX2_sizeAsked 9 = .ok (.invokespecial 13, 3) := by decide +kernel
theorem dX2_sizeAsked_12 : decode cX2_sizeAsked 12 = .ok (.imul, 1) := by decide +kernel
theorem dX2_sizeAsked_13 : decode cX2_sizeAsked 13 = .ok (.ireturn, 1) := by decide +kernel
theorem dX3_init_0 : decode cX3_init 0 = .ok (.aload_n 0, 1) := by decide +kernel
theorem dX3_init_1 : decode cX3_init 1 = .ok (.invokespecial 1, 3) := by decide +kernel
theorem dX3_init_4 : decode cX3_init 4 = .ok (.aload_n 0, 1) := by decide +kernel
theorem dX3_init_5 : decode cX3_init 5 = .ok (.sipush 2000, 3) := by decide +kernel
theorem dX3_init_8 : decode cX3_init 8 = .ok (.newarray .int, 2) := by decide +kernel
theorem dX3_init_10 : decode cX3_init 10 = .ok (.putfield 9, 3) := by decide +kernel
theorem dX3_init_13 : decode cX3_init 13 = .ok (.aload_n 0, 1) := by decide +kernel
theorem dX3_init_14 : decode cX3_init 14 = .ok (.sipush 2000, 3) := by decide +kernel
theorem dX3_init_17 : decode cX3_init 17 = .ok (.newarray .int, 2) := by decide +kernel
theorem dX3_init_19 : decode cX3_init 19 = .ok (.putfield 13, 3) := by decide +kernel
theorem dX3_init_22 : decode cX3_init 22 = .ok (.aload_n 0, 1) := by decide +kernel
theorem dX3_init_23 : decode cX3_init 23 = .ok (.sipush 2000, 3) := by decide +kernel
theorem dX3_init_26 : decode cX3_init 26 = .ok (.newarray .boolean, 2) := by decide +kernel
theorem dX3_init_28 : decode cX3_init 28 = .ok (.putfield 16, 3) := by decide +kernel
theorem dX3_init_31 : decode cX3_init 31 = .ok (.return_, 1) := by decide +kernel
set_option maxRecDepth 20000 in
theorem ggX3_drawAll_X9_at : GoodIn wsX3_drawAll wsX9_at := goodIn_r _ [12, 13, 14, 83, 84, 85, 86] (by decide +kernel) (by decide +kernel)
set_option maxRecDepth 20000 in
theorem gX3_drawAll_X9_at : GoodIn wsX3_drawAll (wsV RX3 42 RX9 yX9_at wsX9_at) := goodIn_app (goodIn_of _ (by decide +kernel)) ggX3_drawAll_X9_at
set_option maxRecDepth 20000 in
theorem ggX3_drawAll_X3_drawOne : GoodIn wsX3_drawAll wsX3_drawOne := goodIn_r _ [19, 20, 21, 22, 23, 24, 25, 26, 27, 28, 29, 30, 31, 32, 33, 34, 35, 36, 37, 38, 39, 40, 41, 42, 43, 44, 45, 46, 47, 48, 49, 50, 51, 52, 53, 18, 54, 3, 4, 2, 55, 56, 57, 58, 59, 60, 61, 62, 63, 64, 65, 66, 67, 68, 1, 69, 70, 71, 72, 73, 74, 75, 87, 88, 89, 90, 91, 92, 76, 77, 78, 79, 80, 81, 82] (by decide +kernel) (by decide +kernel)
set_option maxRecDepth 20000 in
theorem gX3_drawAll_X3_drawOne : GoodIn wsX3_drawAll (wsV RX3 49 RX3 yX3_drawOne wsX3_drawOne) := goodIn_app (goodIn_of _ (by decide +kernel)) ggX3_drawAll_X3_drawOne
set_option maxRecDepth 20000 in
theorem ggX3_drawAll_X3_moveTo : GoodIn wsX3_drawAll wsX3_moveTo := goodIn_r _ [54, 3, 4, 2, 55, 56, 57, 58, 59, 60, 61, 62, 63, 64, 65, 66, 67, 18, 68, 1, 69, 70, 71, 76, 77, 78, 79, 80, 81, 82] (by decide +kernel) (by decide +kernel)
set_option maxRecDepth 20000 in
theorem gX3_drawAll_X3_moveTo : GoodIn wsX3_drawAll (wsV RX3 53 RX3 yX3_moveTo wsX3_moveTo) := goodIn_app (goodIn_of _ (by decide +kernel)) ggX3_drawAll_X3_moveTo
theorem dX3_drawAll_0 : decode cX3_drawAll 0 = .ok (.aload_n 0, 1) := by decide +kernel
theorem dX3_drawAll_1 : decode cX3_drawAll 1 = .ok (.iconst 0, 1) := by decide +kernel
theorem dX3_drawAll_2 : decode cX3_drawAll 2 = .ok (.putfield 20, 3) := by decide +kernel
theorem dX3_drawAll_5 : decode cX3_drawAll 5 = .ok (.aload_n 0, 1) := by decide +kernel
theorem dX3_drawAll_6 : decode cX3_drawAll 6 = .ok (.iconst 0, 1) := by decide +kernel
theorem dX3_drawAll_7 : decode cX3_drawAll 7 = .ok (.putfield 24, 3) := by decide +kernel
theorem dX3_drawAll_10 : decode cX3_drawAll 10 = .ok (.aload_n 0, 1) := by decide +kernel
theorem dX3_drawAll_11 : decode cX3_drawAll 11 = .ok (.iconst 0, 1) := by decide +kernel
theorem dX3_drawAll_12 : decode cX3_drawAll 12 = .ok (.putfield 28, 3) := by decide +kernel
theorem dX3_drawAll_15 : decode cX3_drawAll 15 = .ok (.aload_n 0, 1) := by decide +kernel
theorem dX3_drawAll_16 : decode cX3_drawAll 16 = .ok (.iconst 0, 1) := by decide +kernel
theorem dX3_drawAll_17 : decode cX3_drawAll 17 = .ok (.putfield 31, 3) := by decide +kernel
theorem dX3_drawAll_20 : decode cX3_drawAll 20 = .ok (.iconst 0, 1) := by decide +kernel
theorem dX3_drawAll_21 : decode cX3_drawAll 21 = .ok (.istore 4, 2) := by decide +kernel
theorem dX3_drawAll_23 : decode cX3_drawAll 23 = .ok (.iload 4, 2) := by decide +kernel
theorem dX3_drawAll_25 : decode cX3_drawAll 25 = .ok (.aload_n 1, 1) := by decide +kernel
theorem dX3_drawAll_26 : decode cX3_drawAll 26 = .ok (.getfield 34, 3) := by decide +kernel
theorem dX3_drawAll_29 : decode cX3_drawAll 29 = .ok (.if_icmp .ge 49, 3) := by decide +kernel
theorem dX3_drawAll_32 : decode cX3_drawAll 32 = .ok (.aload_n 0, 1) := by decide +kernel
theorem dX3_drawAll_33 : decode cX3_drawAll 33 = .ok (.getfield 24, 3) := by decide +kernel
theorem dX3_drawAll_36 : decode cX3_drawAll 36 = .ok (.ifCond .ne 42, 3) := by decide +kernel
theorem dX3_drawAll_39 : decode cX3_drawAll 39 = .ok (.aload_n 1, 1) := by decide +kernel
theorem dX3_drawAll_40 : decode cX3_drawAll 40 = .ok (.aload_n 1, 1) := by decide +kernel
theorem dX3_drawAll_41 : decode cX3_drawAll 41 = .ok (.getfield 39, 3) := by decide +kernel
theorem dX3_drawAll_44 : decode cX3_drawAll 44 = .ok (.iload 4, 2) := by decide +kernel
theorem dX3_drawAll_46 : decode cX3_drawAll 46 = .ok (.iaload, 1) := by decide +kernel
theorem dX3_drawAll_47 : decode cX3_drawAll 47 = .ok (.invokevirtual 42, 3) := by decide +kernel
theorem dX3_drawAll_50 : decode cX3_drawAll 50 = .ok (.astore 5, 2) := by decide +kernel
theorem dX3_drawAll_52 : decode cX3_drawAll 52 = .ok (.aload 5, 2) := by decide +kernel
theorem dX3_drawAll_54 : decode cX3_drawAll 54 = .ok (.ifnull 18, 3) := by decide +kernel
theorem dX3_drawAll_57 : decode cX3_drawAll 57 = .ok (.aload_n 0, 1) := by decide +kernel
theorem dX3_drawAll_58 : decode cX3_drawAll 58 = .ok (.aload 5, 2) := by decide +kernel
theorem dX3_drawAll_60 : decode cX3_drawAll 60 = .ok (.aload_n 1, 1) := by decide +kernel
theorem dX3_drawAll_61 : decode cX3_drawAll 61 = .ok (.getfield 46, 3) := by decide +kernel
theorem dX3_drawAll_64 : decode cX3_drawAll 64 = .ok (.iload 4, 2) := by decide +kernel
theorem dX3_drawAll_66 : decode cX3_drawAll 66 = .ok (.iaload, 1) := by decide +kernel
theorem dX3_drawAll_67 : decode cX3_drawAll 67 = .ok (.iload_n 2, 1) := by decide +kernel
theorem dX3_drawAll_68 : decode cX3_drawAll 68 = .ok (.iload_n 3, 1) := by decide +kernel
theorem dX3_drawAll_69 : decode cX3_drawAll 69 = .ok (.invokevirtual 49, 3) := by decide +kernel
theorem dX3_drawAll_72 : decode cX3_drawAll 72 = .ok (.iinc 4 1, 3) := by decide +kernel
theorem dX3_drawAll_75 : decode cX3_drawAll 75 = .ok (.goto (-52), 3) := by decide +kernel
theorem dX3_drawAll_78 : decode cX3_drawAll 78 = .ok (.aload_n 0, 1) := by decide +kernel
theorem dX3_drawAll_79 : decode cX3_drawAll 79 = .ok (.iconst 0, 1) := by decide +kernel
theorem dX3_drawAll_80 : decode cX3_drawAll 80 = .ok (.iconst 0, 1) := by decide +kernel
theorem dX3_drawAll_81 : decode cX3_drawAll 81 = .ok (.iload_n 2, 1) := by decide +kernel
theorem dX3_drawAll_82 : decode cX3_drawAll 82 = .ok (.iconst 0, 1) := by decide +kernel
theorem dX3_drawAll_83 : decode cX3_drawAll 83 = .ok (.invokevirtual 53, 3) := by decide +kernel
theorem dX3_drawAll_86 : decode cX3_drawAll 86 = .ok (.return_, 1) := by decide +kernel
set_option maxRecDepth 20000 in
theorem ggX3_drawOne_X8_gone : GoodIn wsX3_drawOne wsX8_gone := goodIn_r _ [6, 7, 8, 9, 10, 5, 11, 12, 13, 14, 62, 63, 64, 65, 66, 67] (by decide +kernel) (by decide +kernel)
set_option maxRecDepth 20000 in
theorem gX3_drawOne_X8_gone_u57X1 : GoodIn wsX3_drawOne (va_wsU RX3 57 RX1 "LightLines$Stroke" ⟨"LightLines$Stroke", "gone", "(II)I"⟩ yX8_gone wsX8_gone) := goodIn_app (goodIn_of _ (by decide +kernel)) ggX3_drawOne_X8_gone
set_option maxRecDepth 20000 in
theorem gX3_drawOne_X8_gone_u57X2 : GoodIn wsX3_drawOne (va_wsU RX3 57 RX2 "LightLines$Stroke" ⟨"LightLines$Stroke", "gone", "(II)I"⟩ yX8_gone wsX8_gone) := goodIn_app (goodIn_of _ (by decide +kernel)) ggX3_drawOne_X8_gone
set_option maxRecDepth 20000 in
theorem gX3_drawOne_X8_gone_u57X7 : GoodIn wsX3_drawOne (va_wsU RX3 57 RX7 "LightLines$Stroke" ⟨"LightLines$Stroke", "gone", "(II)I"⟩ yX8_gone wsX8_gone) := goodIn_app (goodIn_of _ (by decide +kernel)) ggX3_drawOne_X8_gone
set_option maxRecDepth 20000 in
theorem ggX3_drawOne_X8_xAt : GoodIn wsX3_drawOne wsX8_xAt := goodIn_r _ [21, 12, 62, 63, 64, 65, 66, 67] (by decide +kernel) (by decide +kernel)
set_option maxRecDepth 20000 in
theorem gX3_drawOne_X8_xAt_u63X1 : GoodIn wsX3_drawOne (va_wsU RX3 63 RX1 "LightLines$Stroke" ⟨"LightLines$Stroke", "xAt", "(I)I"⟩ yX8_xAt wsX8_xAt) := goodIn_app (goodIn_of _ (by decide +kernel)) ggX3_drawOne_X8_xAt
set_option maxRecDepth 20000 in
theorem gX3_drawOne_X8_xAt_u63X2 : GoodIn wsX3_drawOne (va_wsU RX3 63 RX2 "LightLines$Stroke" ⟨"LightLines$Stroke", "xAt", "(I)I"⟩ yX8_xAt wsX8_xAt) := goodIn_app (goodIn_of _ (by decide +kernel)) ggX3_drawOne_X8_xAt
set_option maxRecDepth 20000 in
theorem gX3_drawOne_X8_xAt_u63X7 : GoodIn wsX3_drawOne (va_wsU RX3 63 RX7 "LightLines$Stroke" ⟨"LightLines$Stroke", "xAt", "(I)I"⟩ yX8_xAt wsX8_xAt) := goodIn_app (goodIn_of _ (by decide +kernel)) ggX3_drawOne_X8_xAt
set_option maxRecDepth 20000 in
theorem ggX3_drawOne_X8_yAt : GoodIn wsX3_drawOne wsX8_yAt := goodIn_r _ [28, 29, 62, 63, 64, 65, 66, 67] (by decide +kernel) (by decide +kernel)
set_option maxRecDepth 20000 in
theorem gX3_drawOne_X8_yAt_u67X1 : GoodIn wsX3_drawOne (va_wsU RX3 67 RX1 "LightLines$Stroke" ⟨"LightLines$Stroke", "yAt", "(I)I"⟩ yX8_yAt wsX8_yAt) := goodIn_app (goodIn_of _ (by decide +kernel)) ggX3_drawOne_X8_yAt
set_option maxRecDepth 20000 in
theorem gX3_drawOne_X8_yAt_u67X2 : GoodIn wsX3_drawOne (va_wsU RX3 67 RX2 "LightLines$Stroke" ⟨"LightLines$Stroke", "yAt", "(I)I"⟩ yX8_yAt wsX8_yAt) := goodIn_app (goodIn_of _ (by decide +kernel)) ggX3_drawOne_X8_yAt
set_option maxRecDepth 20000 in
theorem gX3_drawOne_X8_yAt_u67X7 : GoodIn wsX3_drawOne (va_wsU RX3 67 RX7 "LightLines$Stroke" ⟨"LightLines$Stroke", "yAt", "(I)I"⟩ yX8_yAt wsX8_yAt) := goodIn_app (goodIn_of _ (by decide +kernel)) ggX3_drawOne_X8_yAt
set_option maxRecDepth 20000 in
theorem ggX3_drawOne_X3_moveTo : GoodIn wsX3_drawOne wsX3_moveTo := goodIn_r _ [36, 37, 38, 39, 40, 41, 42, 43, 44, 45, 46, 47, 48, 49, 50, 51, 52, 35, 53, 54, 55, 56, 57, 68, 69, 70, 71, 72, 73, 74] (by decide +kernel) (by decide +kernel)
set_option maxRecDepth 20000 in
theorem gX3_drawOne_X3_moveTo : GoodIn wsX3_drawOne (wsV RX3 53 RX3 yX3_moveTo wsX3_moveTo) := goodIn_app (goodIn_of _ (by decide +kernel)) ggX3_drawOne_X3_moveTo
set_option maxRecDepth 20000 in
theorem ggX3_drawOne_X3_stay : GoodIn wsX3_drawOne wsX3_stay := goodIn_r _ [53, 39, 54, 55, 37, 56, 38, 57, 68, 69, 70, 71, 72, 73, 74] (by decide +kernel) (by decide +kernel)
set_option maxRecDepth 20000 in
theorem gX3_drawOne_X3_stay : GoodIn wsX3_drawOne (wsV RX3 70 RX3 yX3_stay wsX3_stay) := goodIn_app (goodIn_of _ (by decide +kernel)) ggX3_drawOne_X3_stay
set_option maxRecDepth 20000 in
theorem ggX3_drawOne_X8_points : GoodIn wsX3_drawOne wsX8_points := goodIn_r _ [11, 12, 62, 63, 64, 65, 66, 67] (by decide +kernel) (by decide +kernel)
set_option maxRecDepth 20000 in
theorem gX3_drawOne_X8_points_u74X1 : GoodIn wsX3_drawOne (va_wsU RX3 74 RX1 "LightLines$Stroke" ⟨"LightLines$Stroke", "points", "()I"⟩ yX8_points wsX8_points) := goodIn_app (goodIn_of _ (by decide +kernel)) ggX3_drawOne_X8_points
set_option maxRecDepth 20000 in
theorem gX3_drawOne_X8_points_u74X2 : GoodIn wsX3_drawOne (va_wsU RX3 74 RX2 "LightLines$Stroke" ⟨"LightLines$Stroke", "points", "()I"⟩ yX8_points wsX8_points) := goodIn_app (goodIn_of _ (by decide +kernel)) ggX3_drawOne_X8_points
set_option maxRecDepth 20000 in
theorem gX3_drawOne_X8_points_u74X7 : GoodIn wsX3_drawOne (va_wsU RX3 74 RX7 "LightLines$Stroke" ⟨"LightLines$Stroke", "points", "()I"⟩ yX8_points wsX8_points) := goodIn_app (goodIn_of _ (by decide +kernel)) ggX3_drawOne_X8_points
set_option maxRecDepth 20000 in
theorem ggX3_drawOne_X3_holdsAt : GoodIn wsX3_drawOne wsX3_holdsAt := goodIn_r _ [61, 1, 2, 3, 4, 5, 6, 7, 8, 9, 10, 11, 12, 13, 14, 15, 16, 17, 18, 19, 20, 21, 22, 23, 24, 25, 26, 27, 28, 29, 30, 31, 62, 63, 64, 65, 66, 67] (by decide +kernel) (by decide +kernel)
set_option maxRecDepth 20000 in
theorem gX3_drawOne_X3_holdsAt : GoodIn wsX3_drawOne (va_wsS RX3 78 yX3_holdsAt wsX3_holdsAt) := goodIn_app (goodIn_of _ (by decide +kernel)) ggX3_drawOne_X3_holdsAt
theorem dX3_drawOne_0 : decode cX3_drawOne 0 = .ok (.aload_n 1, 1) := by decide +kernel
theorem dX3_drawOne_1 : decode cX3_drawOne 1 = .ok (.iconst 0, 1) := by decide +kernel
theorem dX3_drawOne_2 : decode cX3_drawOne 2 = .ok (.iload_n 2, 1) := by decide +kernel
theorem dX3_drawOne_3 : decode cX3_drawOne 3 = .ok (.invokevirtual 57, 3) := by decide +kernel
theorem dX3_drawOne_6 : decode cX3_drawOne 6 = .ok (.istore 5, 2) := by decide +kernel
theorem dX3_drawOne_8 : decode cX3_drawOne 8 = .ok (.aload_n 0, 1) := by decide +kernel
theorem dX3_drawOne_9 : decode cX3_drawOne 9 = .ok (.aload_n 1, 1) := by decide +kernel
theorem dX3_drawOne_10 : decode cX3_drawOne 10 = .ok (.iload 5, 2) := by decide +kernel
theorem dX3_drawOne_12 : decode cX3_drawOne 12 = .ok (.invokevirtual 63, 3) := by decide +kernel
theorem dX3_drawOne_15 : decode cX3_drawOne 15 = .ok (.aload_n 1, 1) := by decide +kernel
theorem dX3_drawOne_16 : decode cX3_drawOne 16 = .ok (.iload 5, 2) := by decide +kernel
theorem dX3_drawOne_18 : decode cX3_drawOne 18 = .ok (.invokevirtual 67, 3) := by decide +kernel
theorem dX3_drawOne_21 : decode cX3_drawOne 21 = .ok (.iload_n 3, 1) := by decide +kernel
theorem dX3_drawOne_22 : decode cX3_drawOne 22 = .ok (.iconst 0, 1) := by decide +kernel
theorem dX3_drawOne_23 : decode cX3_drawOne 23 = .ok (.invokevirtual 53, 3) := by decide +kernel
theorem dX3_drawOne_26 : decode cX3_drawOne 26 = .ok (.aload_n 0, 1) := by decide +kernel
theorem dX3_drawOne_27 : decode cX3_drawOne 27 = .ok (.iload 4, 2) := by decide +kernel
theorem dX3_drawOne_29 : decode cX3_drawOne 29 = .ok (.iconst 0, 1) := by decide +kernel
theorem dX3_drawOne_30 : decode cX3_drawOne 30 = .ok (.invokevirtual 70, 3) := by decide +kernel
theorem dX3_drawOne_33 : decode cX3_drawOne 33 = .ok (.aload_n 0, 1) := by decide +kernel
theorem dX3_drawOne_34 : decode cX3_drawOne 34 = .ok (.iconst 1, 1) := by decide +kernel
theorem dX3_drawOne_35 : decode cX3_drawOne 35 = .ok (.iconst 1, 1) := by decide +kernel
theorem dX3_drawOne_36 : decode cX3_drawOne 36 = .ok (.invokevirtual 70, 3) := by decide +kernel
theorem dX3_drawOne_39 : decode cX3_drawOne 39 = .ok (.iconst 1, 1) := by decide +kernel
theorem dX3_drawOne_40 : decode cX3_drawOne 40 = .ok (.istore 6, 2) := by decide +kernel
theorem dX3_drawOne_42 : decode cX3_drawOne 42 = .ok (.iload 6, 2) := by decide +kernel
theorem dX3_drawOne_44 : decode cX3_drawOne 44 = .ok (.aload_n 1, 1) := by decide +kernel
theorem dX3_drawOne_45 : decode cX3_drawOne 45 = .ok (.invokevirtual 74, 3) := by decide +kernel
theorem dX3_drawOne_48 : decode cX3_drawOne 48 = .ok (.if_icmp .ge 59, 3) := by decide +kernel
theorem dX3_drawOne_51 : decode cX3_drawOne 51 = .ok (.aload_n 1, 1) := by decide +kernel
theorem dX3_drawOne_52 : decode cX3_drawOne 52 = .ok (.iload 6, 2) := by decide +kernel
theorem dX3_drawOne_54 : decode cX3_drawOne 54 = .ok (.iload_n 2, 1) := by decide +kernel
theorem dX3_drawOne_55 : decode cX3_drawOne 55 = .ok (.invokevirtual 57, 3) := by decide +kernel
theorem dX3_drawOne_58 : decode cX3_drawOne 58 = .ok (.istore 7, 2) := by decide +kernel
theorem dX3_drawOne_60 : decode cX3_drawOne 60 = .ok (.aload_n 0, 1) := by decide +kernel
theorem dX3_drawOne_61 : decode cX3_drawOne 61 = .ok (.aload_n 1, 1) := by decide +kernel
theorem dX3_drawOne_62 : decode cX3_drawOne 62 = .ok (.iload 7, 2) := by decide +kernel
theorem dX3_drawOne_64 : decode cX3_drawOne 64 = .ok (.invokevirtual 63, 3) := by decide +kernel
theorem dX3_drawOne_67 : decode cX3_drawOne 67 = .ok (.aload_n 1, 1) := by decide +kernel
theorem dX3_drawOne_68 : decode cX3_drawOne 68 = .ok (.iload 7, 2) := by decide +kernel
theorem dX3_drawOne_70 : decode cX3_drawOne 70 = .ok (.invokevirtual 67, 3) := by decide +kernel
theorem dX3_drawOne_73 : decode cX3_drawOne 73 = .ok (.iload_n 3, 1) := by decide +kernel
theorem dX3_drawOne_74 : decode cX3_drawOne 74 = .ok (.iconst 1, 1) := by decide +kernel
theorem dX3_drawOne_75 : decode cX3_drawOne 75 = .ok (.invokevirtual 53, 3) := by decide +kernel
theorem dX3_drawOne_78 : decode cX3_drawOne 78 = .ok (.iload 6, 2) := by decide +kernel
theorem dX3_drawOne_80 : decode cX3_drawOne 80 = .ok (.aload_n 1, 1) := by decide +kernel
theorem dX3_drawOne_81 : decode cX3_drawOne 81 = .ok (.invokevirtual 74, 3) := by decide +kernel
theorem dX3_drawOne_84 : decode cX3_drawOne 84 = .ok (.iconst 1, 1) := by decide +kernel
theorem dX3_drawOne_85 : decode cX3_drawOne 85 = .ok (.isub, 1) := by decide +kernel
theorem dX3_drawOne_86 : decode cX3_drawOne 86 = .ok (.if_icmp .ge 15, 3) := by decide +kernel
theorem dX3_drawOne_89 : decode cX3_drawOne 89 = .ok (.aload_n 0, 1) := by decide +kernel
theorem dX3_drawOne_90 : decode cX3_drawOne 90 = .ok (.aload_n 1, 1) := by decide +kernel
theorem dX3_drawOne_91 : decode cX3_drawOne 91 = .ok (.iload 6, 2) := by decide +kernel
theorem dX3_drawOne_93 : decode cX3_drawOne 93 = .ok (.iload_n 2, 1) := by decide +kernel
theorem dX3_drawOne_94 : decode cX3_drawOne 94 = .ok (.invokestatic 78, 3) := by decide +kernel
theorem dX3_drawOne_97 : decode cX3_drawOne 97 = .ok (.iconst 1, 1) := by decide +kernel
theorem dX3_drawOne_98 : decode cX3_drawOne 98 = .ok (.invokevirtual 70, 3) := by decide +kernel
theorem dX3_drawOne_101 : decode cX3_drawOne 101 = .ok (.iinc 6 1, 3) := by decide +kernel
theorem dX3_drawOne_104 : decode cX3_drawOne 104 = .ok (.goto (-62), 3) := by decide +kernel
theorem dX3_drawOne_107 : decode cX3_drawOne 107 = .ok (.aload_n 0, 1) := by decide +kernel
theorem dX3_drawOne_108 : decode cX3_drawOne 108 = .ok (.iload 4, 2) := by decide +kernel
theorem dX3_drawOne_110 : decode cX3_drawOne 110 = .ok (.iconst 0, 1) := by decide +kernel
theorem dX3_drawOne_111 : decode cX3_drawOne 111 = .ok (.invokevirtual 70, 3) := by decide +kernel
theorem dX3_drawOne_114 : decode cX3_drawOne 114 = .ok (.return_, 1) := by decide +kernel
set_option maxRecDepth 20000 in
theorem ggX3_holdsAt_X8_gone : GoodIn wsX3_holdsAt wsX8_gone := goodIn_r _ [6, 7, 8, 9, 10, 5, 11, 12, 13, 14, 32, 33, 34, 35, 36, 37] (by decide +kernel) (by decide +kernel)
set_option maxRecDepth 20000 in
theorem gX3_holdsAt_X8_gone_u57X1 : GoodIn wsX3_holdsAt (va_wsU RX3 57 RX1 "LightLines$Stroke" ⟨"LightLines$Stroke", "gone", "(II)I"⟩ yX8_gone wsX8_gone) := goodIn_app (goodIn_of _ (by decide +kernel)) ggX3_holdsAt_X8_gone
set_option maxRecDepth 20000 in
theorem gX3_holdsAt_X8_gone_u57X2 : GoodIn wsX3_holdsAt (va_wsU RX3 57 RX2 "LightLines$Stroke" ⟨"LightLines$Stroke", "gone", "(II)I"⟩ yX8_gone wsX8_gone) := goodIn_app (goodIn_of _ (by decide +kernel)) ggX3_holdsAt_X8_gone
set_option maxRecDepth 20000 in
theorem gX3_holdsAt_X8_gone_u57X7 : GoodIn wsX3_holdsAt (va_wsU RX3 57 RX7 "LightLines$Stroke" ⟨"LightLines$Stroke", "gone", "(II)I"⟩ yX8_gone wsX8_gone) := goodIn_app (goodIn_of _ (by decide +kernel)) ggX3_holdsAt_X8_gone
set_option maxRecDepth 20000 in
theorem ggX3_holdsAt_X8_xAt : GoodIn wsX3_holdsAt wsX8_xAt := goodIn_r _ [21, 12, 32, 33, 34, 35, 36, 37] (by decide +kernel) (by decide +kernel)
set_option maxRecDepth 20000 in
theorem gX3_holdsAt_X8_xAt_u63X1 : GoodIn wsX3_holdsAt (va_wsU RX3 63 RX1 "LightLines$Stroke" ⟨"LightLines$Stroke", "xAt", "(I)I"⟩ yX8_xAt wsX8_xAt) := goodIn_app (goodIn_of _ (by decide +kernel)) ggX3_holdsAt_X8_xAt
set_option maxRecDepth 20000 in
theorem gX3_holdsAt_X8_xAt_u63X2 : GoodIn wsX3_holdsAt (va_wsU RX3 63 RX2 "LightLines$Stroke" ⟨"LightLines$Stroke", "xAt", "(I)I"⟩ yX8_xAt wsX8_xAt) := goodIn_app (goodIn_of _ (by decide +kernel)) ggX3_holdsAt_X8_xAt
set_option maxRecDepth 20000 in
theorem gX3_holdsAt_X8_xAt_u63X7 : GoodIn wsX3_holdsAt (va_wsU RX3 63 RX7 "LightLines$Stroke" ⟨"LightLines$Stroke", "xAt", "(I)I"⟩ yX8_xAt wsX8_xAt) := goodIn_app (goodIn_of _ (by decide +kernel)) ggX3_holdsAt_X8_xAt
set_option maxRecDepth 20000 in
theorem ggX3_holdsAt_X8_yAt : GoodIn wsX3_holdsAt wsX8_yAt := goodIn_r _ [28, 29, 32, 33, 34, 35, 36, 37] (by decide +kernel) (by decide +kernel)
set_option maxRecDepth 20000 in
theorem gX3_holdsAt_X8_yAt_u67X1 : GoodIn wsX3_holdsAt (va_wsU RX3 67 RX1 "LightLines$Stroke" ⟨"LightLines$Stroke", "yAt", "(I)I"⟩ yX8_yAt wsX8_yAt) := goodIn_app (goodIn_of _ (by decide +kernel)) ggX3_holdsAt_X8_yAt
set_option maxRecDepth 20000 in
theorem gX3_holdsAt_X8_yAt_u67X2 : GoodIn wsX3_holdsAt (va_wsU RX3 67 RX2 "LightLines$Stroke" ⟨"LightLines$Stroke", "yAt", "(I)I"⟩ yX8_yAt wsX8_yAt) := goodIn_app (goodIn_of _ (by decide +kernel)) ggX3_holdsAt_X8_yAt
set_option maxRecDepth 20000 in
theorem gX3_holdsAt_X8_yAt_u67X7 : GoodIn wsX3_holdsAt (va_wsU RX3 67 RX7 "LightLines$Stroke" ⟨"LightLines$Stroke", "yAt", "(I)I"⟩ yX8_yAt wsX8_yAt) := goodIn_app (goodIn_of _ (by decide +kernel)) ggX3_holdsAt_X8_yAt
theorem dX3_holdsAt_0 : decode cX3_holdsAt 0 = .ok (.aload_n 0, 1) := by decide +kernel
theorem dX3_holdsAt_1 : decode cX3_holdsAt 1 = .ok (.iload_n 1, 1) := by decide +kernel
theorem dX3_holdsAt_2 : decode cX3_holdsAt 2 = .ok (.iconst 1, 1) := by decide +kernel
theorem dX3_holdsAt_3 : decode cX3_holdsAt 3 = .ok (.isub, 1) := by decide +kernel
theorem dX3_holdsAt_4 : decode cX3_holdsAt 4 = .ok (.iload_n 2, 1) := by decide +kernel
theorem dX3_holdsAt_5 : decode cX3_holdsAt 5 = .ok (.invokevirtual 57, 3) := by decide +kernel
theorem dX3_holdsAt_8 : decode cX3_holdsAt 8 = .ok (.istore_n 3, 1) := by decide +kernel
theorem dX3_holdsAt_9 : decode cX3_holdsAt 9 = .ok (.aload_n 0, 1) := by decide +kernel
theorem dX3_holdsAt_10 : decode cX3_holdsAt 10 = .ok (.iload_n 1, 1) := by decide +kernel
theorem dX3_holdsAt_11 : decode cX3_holdsAt 11 = .ok (.iload_n 2, 1) := by decide +kernel
theorem dX3_holdsAt_12 : decode cX3_holdsAt 12 = .ok (.invokevirtual 57, 3) := by decide +kernel
theorem dX3_holdsAt_15 : decode cX3_holdsAt 15 = .ok (.istore 4, 2) := by decide +kernel
theorem dX3_holdsAt_17 : decode cX3_holdsAt 17 = .ok (.aload_n 0, 1) := by decide +kernel
theorem dX3_holdsAt_18 : decode cX3_holdsAt 18 = .ok (.iload_n 1, 1) := by decide +kernel
theorem dX3_holdsAt_19 : decode cX3_holdsAt 19 = .ok (.iconst 1, 1) := by decide +kernel
theorem dX3_holdsAt_20 : decode cX3_holdsAt 20 = .ok (.iadd, 1) := by decide +kernel
theorem dX3_holdsAt_21 : decode cX3_holdsAt 21 = .ok (.iload_n 2, 1) := by decide +kernel
theorem dX3_holdsAt_22 : decode cX3_holdsAt 22 = .ok (.invokevirtual 57, 3) := by decide +kernel
theorem dX3_holdsAt_25 : decode cX3_holdsAt 25 = .ok (.istore 5, 2) := by decide +kernel
theorem dX3_holdsAt_27 : decode cX3_holdsAt 27 = .ok (.aload_n 0, 1) := by decide +kernel
theorem dX3_holdsAt_28 : decode cX3_holdsAt 28 = .ok (.iload 4, 2) := by decide +kernel
theorem dX3_holdsAt_30 : decode cX3_holdsAt 30 = .ok (.invokevirtual 63, 3) := by decide +kernel
theorem dX3_holdsAt_33 : decode cX3_holdsAt 33 = .ok (.aload_n 0, 1) := by decide +kernel
theorem dX3_holdsAt_34 : decode cX3_holdsAt 34 = .ok (.iload_n 3, 1) := by decide +kernel
theorem dX3_holdsAt_35 : decode cX3_holdsAt 35 = .ok (.invokevirtual 63, 3) := by decide +kernel
theorem dX3_holdsAt_38 : decode cX3_holdsAt 38 = .ok (.isub, 1) := by decide +kernel
theorem dX3_holdsAt_39 : decode cX3_holdsAt 39 = .ok (.istore 6, 2) := by decide +kernel
theorem dX3_holdsAt_41 : decode cX3_holdsAt 41 = .ok (.aload_n 0, 1) := by decide +kernel
theorem dX3_holdsAt_42 : decode cX3_holdsAt 42 = .ok (.iload 4, 2) := by decide +kernel
theorem dX3_holdsAt_44 : decode cX3_holdsAt 44 = .ok (.invokevirtual 67, 3) := by decide +kernel
theorem dX3_holdsAt_47 : decode cX3_holdsAt 47 = .ok (.aload_n 0, 1) := by decide +kernel
theorem dX3_holdsAt_48 : decode cX3_holdsAt 48 = .ok (.iload_n 3, 1) := by decide +kernel
theorem dX3_holdsAt_49 : decode cX3_holdsAt 49 = .ok (.invokevirtual 67, 3) := by decide +kernel
theorem dX3_holdsAt_52 : decode cX3_holdsAt 52 = .ok (.isub, 1) := by decide +kernel
theorem dX3_holdsAt_53 : decode cX3_holdsAt 53 = .ok (.istore 7, 2) := by decide +kernel
theorem dX3_holdsAt_55 : decode cX3_holdsAt 55 = .ok (.aload_n 0, 1) := by decide +kernel
theorem dX3_holdsAt_56 : decode cX3_holdsAt 56 = .ok (.iload 5, 2) := by decide +kernel
theorem dX3_holdsAt_58 : decode cX3_holdsAt 58 = .ok (.invokevirtual 63, 3) := by decide +kernel
theorem dX3_holdsAt_61 : decode cX3_holdsAt 61 = .ok (.aload_n 0, 1) := by decide +kernel
theorem dX3_holdsAt_62 : decode cX3_holdsAt 62 = .ok (.iload 4, 2) := by decide +kernel
theorem dX3_holdsAt_64 : decode cX3_holdsAt 64 = .ok (.invokevirtual 63, 3) := by decide +kernel
theorem dX3_holdsAt_67 : decode cX3_holdsAt 67 = .ok (.isub, 1) := by decide +kernel
theorem dX3_holdsAt_68 : decode cX3_holdsAt 68 = .ok (.istore 8, 2) := by decide +kernel
theorem dX3_holdsAt_70 : decode cX3_holdsAt 70 = .ok (.aload_n 0, 1) := by decide +kernel
theorem dX3_holdsAt_71 : decode cX3_holdsAt 71 = .ok (.iload 5, 2) := by decide +kernel
theorem dX3_holdsAt_73 : decode cX3_holdsAt 73 = .ok (.invokevirtual 67, 3) := by decide +kernel
theorem dX3_holdsAt_76 : decode cX3_holdsAt 76 = .ok (.aload_n 0, 1) := by decide +kernel
theorem dX3_holdsAt_77 : decode cX3_holdsAt 77 = .ok (.iload 4, 2) := by decide +kernel
theorem dX3_holdsAt_79 : decode cX3_holdsAt 79 = .ok (.invokevirtual 67, 3) := by decide +kernel
theorem dX3_holdsAt_82 : decode cX3_holdsAt 82 = .ok (.isub, 1) := by decide +kernel
theorem dX3_holdsAt_83 : decode cX3_holdsAt 83 = .ok (.istore 9, 2) := by decide +kernel
theorem dX3_holdsAt_85 : decode cX3_holdsAt 85 = .ok (.iload 6, 2) := by decide +kernel
theorem dX3_holdsAt_87 : decode cX3_holdsAt 87 = .ok (.iload 8, 2) := by decide +kernel
theorem dX3_holdsAt_89 : decode cX3_holdsAt 89 = .ok (.imul, 1) := by decide +kernel
theorem dX3_holdsAt_90 : decode cX3_holdsAt 90 = .ok (.iload 7, 2) := by decide +kernel
theorem dX3_holdsAt_92 : decode cX3_holdsAt 92 = .ok (.iload 9, 2) := by decide +kernel
theorem dX3_holdsAt_94 : decode cX3_holdsAt 94 = .ok (.imul, 1) := by decide +kernel
theorem dX3_holdsAt_95 : decode cX3_holdsAt 95 = .ok (.iadd, 1) := by decide +kernel
theorem dX3_holdsAt_96 : decode cX3_holdsAt 96 = .ok (.ifCond .ge 5, 3) := by decide +kernel
theorem dX3_holdsAt_99 : decode cX3_holdsAt 99 = .ok (.iconst 2, 1) := by decide +kernel
theorem dX3_holdsAt_100 : decode cX3_holdsAt 100 = .ok (.ireturn, 1) := by decide +kernel
theorem dX3_holdsAt_101 : decode cX3_holdsAt 101 = .ok (.iload 6, 2) := by decide +kernel
theorem dX3_holdsAt_103 : decode cX3_holdsAt 103 = .ok (.iload 9, 2) := by decide +kernel
theorem dX3_holdsAt_105 : decode cX3_holdsAt 105 = .ok (.imul, 1) := by decide +kernel
theorem dX3_holdsAt_106 : decode cX3_holdsAt 106 = .ok (.iload 7, 2) := by decide +kernel
theorem dX3_holdsAt_108 : decode cX3_holdsAt 108 = .ok (.iload 8, 2) := by decide +kernel
theorem dX3_holdsAt_110 : decode cX3_holdsAt 110 = .ok (.imul, 1) := by decide +kernel
theorem dX3_holdsAt_111 : decode cX3_holdsAt 111 = .ok (.isub, 1) := by decide +kernel
theorem dX3_holdsAt_112 : decode cX3_holdsAt 112 = .ok (.ifCond .eq 7, 3) := by decide +kernel
theorem dX3_holdsAt_115 : decode cX3_holdsAt 115 = .ok (.iconst 1, 1) := by decide +kernel
theorem dX3_holdsAt_116 : decode cX3_holdsAt 116 = .ok (.goto 4, 3) := by decide +kernel
theorem dX3_holdsAt_119 : decode cX3_holdsAt 119 = .ok (.iconst 0, 1) := by decide +kernel
theorem dX3_holdsAt_120 : decode cX3_holdsAt 120 = .ok (.ireturn, 1) := by decide +kernel
set_option maxRecDepth 20000 in
theorem ggX3_moveTo_X11_way : GoodIn wsX3_moveTo wsX11_way := goodIn_r _ [6, 7, 8, 9, 10, 11, 12, 13] (by decide +kernel) (by decide +kernel)
set_option maxRecDepth 20000 in
theorem gX3_moveTo_X11_way_n82 : GoodIn wsX3_moveTo (wsX11_way) := ggX3_moveTo_X11_way
set_option maxRecDepth 20000 in
theorem ggX3_moveTo_X3_stay : GoodIn wsX3_moveTo wsX3_stay := goodIn_r _ [18, 3, 19, 20, 1, 21, 2, 22, 23, 24, 25, 26, 27, 28, 29] (by decide +kernel) (by decide +kernel)
set_option maxRecDepth 20000 in
theorem gX3_moveTo_X3_stay : GoodIn wsX3_moveTo (wsV RX3 70 RX3 yX3_stay wsX3_stay) := goodIn_app (goodIn_of _ (by decide +kernel)) ggX3_moveTo_X3_stay
theorem dX3_moveTo_0 : decode cX3_moveTo 0 = .ok (.aload_n 0, 1) := by decide +kernel
theorem dX3_moveTo_1 : decode cX3_moveTo 1 = .ok (.getfield 28, 3) := by decide +kernel
theorem dX3_moveTo_4 : decode cX3_moveTo 4 = .ok (.istore 5, 2) := by decide +kernel
theorem dX3_moveTo_6 : decode cX3_moveTo 6 = .ok (.aload_n 0, 1) := by decide +kernel
theorem dX3_moveTo_7 : decode cX3_moveTo 7 = .ok (.getfield 31, 3) := by decide +kernel
theorem dX3_moveTo_10 : decode cX3_moveTo 10 = .ok (.istore 6, 2) := by decide +kernel
theorem dX3_moveTo_12 : decode cX3_moveTo 12 = .ok (.iload 5, 2) := by decide +kernel
theorem dX3_moveTo_14 : decode cX3_moveTo 14 = .ok (.iload 6, 2) := by decide +kernel
theorem dX3_moveTo_16 : decode cX3_moveTo 16 = .ok (.iload_n 1, 1) := by decide +kernel
theorem dX3_moveTo_17 : decode cX3_moveTo 17 = .ok (.iload_n 2, 1) := by decide +kernel
theorem dX3_moveTo_18 : decode cX3_moveTo 18 = .ok (.invokestatic 82, 3) := by decide +kernel
theorem dX3_moveTo_21 : decode cX3_moveTo 21 = .ok (.istore 7, 2) := by decide +kernel
theorem dX3_moveTo_23 : decode cX3_moveTo 23 = .ok (.iload_n 3, 1) := by decide +kernel
theorem dX3_moveTo_24 : decode cX3_moveTo 24 = .ok (.iconst 1, 1) := by decide +kernel
theorem dX3_moveTo_25 : decode cX3_moveTo 25 = .ok (.if_icmp .ge 7, 3) := by decide +kernel
theorem dX3_moveTo_28 : decode cX3_moveTo 28 = .ok (.iconst 0, 1) := by decide +kernel
theorem dX3_moveTo_29 : decode cX3_moveTo 29 = .ok (.goto 11, 3) := by decide +kernel
theorem dX3_moveTo_32 : decode cX3_moveTo 32 = .ok (.iload 7, 2) := by decide +kernel
theorem dX3_moveTo_34 : decode cX3_moveTo 34 = .ok (.iload_n 3, 1) := by decide +kernel
theorem dX3_moveTo_35 : decode cX3_moveTo 35 = .ok (.iadd, 1) := by decide +kernel
theorem dX3_moveTo_36 : decode cX3_moveTo 36 = .ok (.iconst 1, 1) := by decide +kernel
theorem dX3_moveTo_37 : decode cX3_moveTo 37 = .ok (.isub, 1) := by decide +kernel
theorem dX3_moveTo_38 : decode cX3_moveTo 38 = .ok (.iload_n 3, 1) := by decide +kernel
theorem dX3_moveTo_39 : decode cX3_moveTo 39 = .ok (.idiv, 1) := by decide +kernel
theorem dX3_moveTo_40 : decode cX3_moveTo 40 = .ok (.istore 8, 2) := by decide +kernel
theorem dX3_moveTo_42 : decode cX3_moveTo 42 = .ok (.iconst 1, 1) := by decide +kernel
theorem dX3_moveTo_43 : decode cX3_moveTo 43 = .ok (.istore 9, 2) := by decide +kernel
theorem dX3_moveTo_45 : decode cX3_moveTo 45 = .ok (.iload 9, 2) := by decide +kernel
theorem dX3_moveTo_47 : decode cX3_moveTo 47 = .ok (.iload 8, 2) := by decide +kernel
theorem dX3_moveTo_49 : decode cX3_moveTo 49 = .ok (.if_icmp .gt 57, 3) := by decide +kernel
theorem dX3_moveTo_52 : decode cX3_moveTo 52 = .ok (.aload_n 0, 1) := by decide +kernel
theorem dX3_moveTo_53 : decode cX3_moveTo 53 = .ok (.getfield 24, 3) := by decide +kernel
theorem dX3_moveTo_56 : decode cX3_moveTo 56 = .ok (.ifCond .ne 50, 3) := by decide +kernel
theorem dX3_moveTo_59 : decode cX3_moveTo 59 = .ok (.aload_n 0, 1) := by decide +kernel
theorem dX3_moveTo_60 : decode cX3_moveTo 60 = .ok (.iload 5, 2) := by decide +kernel
theorem dX3_moveTo_62 : decode cX3_moveTo 62 = .ok (.iload_n 1, 1) := by decide +kernel
theorem dX3_moveTo_63 : decode cX3_moveTo 63 = .ok (.iload 5, 2) := by decide +kernel
theorem dX3_moveTo_65 : decode cX3_moveTo 65 = .ok (.isub, 1) := by decide +kernel
theorem dX3_moveTo_66 : decode cX3_moveTo 66 = .ok (.iload 9, 2) := by decide +kernel
theorem dX3_moveTo_68 : decode cX3_moveTo 68 = .ok (.imul, 1) := by decide +kernel
theorem dX3_moveTo_69 : decode cX3_moveTo 69 = .ok (.iload 8, 2) := by decide +kernel
theorem dX3_moveTo_71 : decode cX3_moveTo 71 = .ok (.idiv, 1) := by decide +kernel
theorem dX3_moveTo_72 : decode cX3_moveTo 72 = .ok (.iadd, 1) := by decide +kernel
