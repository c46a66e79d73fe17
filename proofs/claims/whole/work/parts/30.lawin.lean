theorem mem_ap {P : Cond → Prop} {a b : List Cond} (ha : ∀ w ∈ a, P w) (hb : ∀ w ∈ b, P w) : ∀ w ∈ a ++ b, P w := fun w h => (List.mem_append.mp h).elim (ha w) (hb w)
set_option maxRecDepth 20000 in
theorem li1 : ∀ w ∈ wsL_law_r1, w ∈ lw_tbl := fun w h => (goodIn_p wsL_law_r1 [73, 76] (by decide +kernel) (by decide +kernel) w h).1
set_option maxRecDepth 20000 in
theorem li2 : ∀ w ∈ wsL_law_r2, w ∈ lw_tbl := fun w h => (goodIn_p wsL_law_r2 [83, 112] (by decide +kernel) (by decide +kernel) w h).1
set_option maxRecDepth 20000 in
theorem li3 : ∀ w ∈ wsL_law_r3, w ∈ lw_tbl := fun w h => (goodIn_p wsL_law_r3 [134, 140] (by decide +kernel) (by decide +kernel) w h).1
set_option maxRecDepth 20000 in
theorem li4 : ∀ w ∈ wsL_law_r4, w ∈ lw_tbl := fun w h => (goodIn_p wsL_law_r4 [230, 272, 286, 900] (by decide +kernel) (by decide +kernel) w h).1
set_option maxRecDepth 20000 in
theorem li5 : ∀ w ∈ wsL_law_r5, w ∈ lw_tbl := fun w h => (goodIn_p wsL_law_r5 [] (by decide +kernel) (by decide +kernel) w h).1
set_option maxRecDepth 20000 in
theorem li6 : ∀ w ∈ wsL_law_r6, w ∈ lw_tbl := fun w h => (goodIn_p wsL_law_r6 [326, 329, 332, 337, 342, 345] (by decide +kernel) (by decide +kernel) w h).1
set_option maxRecDepth 20000 in
theorem li7 : ∀ w ∈ wsL_law_r7, w ∈ lw_tbl := fun w h => (goodIn_p wsL_law_r7 [349, 1032, 1035, 1039, 1045] (by decide +kernel) (by decide +kernel) w h).1
set_option maxRecDepth 20000 in
theorem li8 : ∀ w ∈ wsL_law_r8, w ∈ lw_tbl := fun w h => (goodIn_p wsL_law_r8 [353, 357, 361, 365, 370, 374] (by decide +kernel) (by decide +kernel) w h).1
set_option maxRecDepth 20000 in
theorem li9 : ∀ w ∈ wsL_law_r9, w ∈ lw_tbl := fun w h => (goodIn_p wsL_law_r9 [1050, 378, 1054, 385] (by decide +kernel) (by decide +kernel) w h).1
set_option maxRecDepth 20000 in
theorem li10 : ∀ w ∈ wsL_law_r10, w ∈ lw_tbl := fun w h => (goodIn_p wsL_law_r10 [1058, 389, 394, 399, 402] (by decide +kernel) (by decide +kernel) w h).1
set_option maxRecDepth 20000 in
theorem li11 : ∀ w ∈ wsL_law_r11, w ∈ lw_tbl := fun w h => (goodIn_p wsL_law_r11 [408, 411, 424, 427] (by decide +kernel) (by decide +kernel) w h).1
set_option maxRecDepth 20000 in
theorem li12 : ∀ w ∈ wsL_law_r12, w ∈ lw_tbl := fun w h => (goodIn_p wsL_law_r12 [441, 446, 1062, 450] (by decide +kernel) (by decide +kernel) w h).1
set_option maxRecDepth 20000 in
theorem li13 : ∀ w ∈ wsL_law_r13, w ∈ lw_tbl := fun w h => (goodIn_p wsL_law_r13 [454, 461, 468, 475] (by decide +kernel) (by decide +kernel) w h).1
set_option maxRecDepth 20000 in
theorem li14 : ∀ w ∈ wsL_law_r14, w ∈ lw_tbl := fun w h => (goodIn_p wsL_law_r14 [1069, 1073, 479, 484, 491] (by decide +kernel) (by decide +kernel) w h).1
set_option maxRecDepth 20000 in
theorem li15 : ∀ w ∈ wsL_law_r15, w ∈ lw_tbl := fun w h => (goodIn_p wsL_law_r15 [499, 506, 509, 512, 1077] (by decide +kernel) (by decide +kernel) w h).1
set_option maxRecDepth 20000 in
theorem li16 : ∀ w ∈ wsL_law_r16, w ∈ lw_tbl := fun w h => (goodIn_p wsL_law_r16 [1082, 1086, 1090, 1093, 1096, 1100] (by decide +kernel) (by decide +kernel) w h).1
set_option maxRecDepth 20000 in
theorem li17 : ∀ w ∈ wsL_law_r17, w ∈ lw_tbl := fun w h => (goodIn_p wsL_law_r17 [1104, 516, 520, 524] (by decide +kernel) (by decide +kernel) w h).1
set_option maxRecDepth 20000 in
theorem li18 : ∀ w ∈ wsL_law_r18, w ∈ lw_tbl := fun w h => (goodIn_p wsL_law_r18 [532, 536, 540, 1108, 546] (by decide +kernel) (by decide +kernel) w h).1
set_option maxRecDepth 20000 in
theorem li19 : ∀ w ∈ wsL_law_r19, w ∈ lw_tbl := fun w h => (goodIn_p wsL_law_r19 [1113, 551, 559, 564, 567, 1117] (by decide +kernel) (by decide +kernel) w h).1
set_option maxRecDepth 20000 in
theorem li20 : ∀ w ∈ wsL_law_r20, w ∈ lw_tbl := fun w h => (goodIn_p wsL_law_r20 [571, 574, 578, 1123, 582] (by decide +kernel) (by decide +kernel) w h).1
set_option maxRecDepth 20000 in
theorem li21 : ∀ w ∈ wsL_law_r21, w ∈ lw_tbl := fun w h => (goodIn_p wsL_law_r21 [586, 1128, 590, 594, 598] (by decide +kernel) (by decide +kernel) w h).1
set_option maxRecDepth 20000 in
theorem li22 : ∀ w ∈ wsL_law_r22, w ∈ lw_tbl := fun w h => (goodIn_p wsL_law_r22 [603, 610, 615] (by decide +kernel) (by decide +kernel) w h).1
set_option maxRecDepth 20000 in
theorem li23 : ∀ w ∈ wsL_law_r23, w ∈ lw_tbl := fun w h => (goodIn_p wsL_law_r23 [619, 623, 627, 632] (by decide +kernel) (by decide +kernel) w h).1
set_option maxRecDepth 20000 in
theorem li24 : ∀ w ∈ wsL_law_r24, w ∈ lw_tbl := fun w h => (goodIn_p wsL_law_r24 [638, 643, 647, 1132, 1136] (by decide +kernel) (by decide +kernel) w h).1
set_option maxRecDepth 20000 in
theorem li25 : ∀ w ∈ wsL_law_r25, w ∈ lw_tbl := fun w h => (goodIn_p wsL_law_r25 [1140, 1144, 1148, 1152, 1156, 1160] (by decide +kernel) (by decide +kernel) w h).1
set_option maxRecDepth 20000 in
theorem li26 : ∀ w ∈ wsL_law_r26, w ∈ lw_tbl := fun w h => (goodIn_p wsL_law_r26 [651, 655, 1164, 1168] (by decide +kernel) (by decide +kernel) w h).1
set_option maxRecDepth 20000 in
theorem li27 : ∀ w ∈ wsL_law_r27, w ∈ lw_tbl := fun w h => (goodIn_p wsL_law_r27 [661, 1172, 665, 1176] (by decide +kernel) (by decide +kernel) w h).1
set_option maxRecDepth 20000 in
theorem li28 : ∀ w ∈ wsL_law_r28, w ∈ lw_tbl := fun w h => (goodIn_p wsL_law_r28 [669, 673, 1181, 677, 681] (by decide +kernel) (by decide +kernel) w h).1
set_option maxRecDepth 20000 in
theorem li29 : ∀ w ∈ wsL_law_r29, w ∈ lw_tbl := fun w h => (goodIn_p wsL_law_r29 [685, 688, 692, 697] (by decide +kernel) (by decide +kernel) w h).1
set_option maxRecDepth 20000 in
theorem li30 : ∀ w ∈ wsL_law_r30, w ∈ lw_tbl := fun w h => (goodIn_p wsL_law_r30 [701, 705, 711, 715, 718, 721] (by decide +kernel) (by decide +kernel) w h).1
set_option maxRecDepth 20000 in
theorem li31 : ∀ w ∈ wsL_law_r31, w ∈ lw_tbl := fun w h => (goodIn_p wsL_law_r31 [726, 729, 732, 735, 739] (by decide +kernel) (by decide +kernel) w h).1
set_option maxRecDepth 20000 in
theorem li32 : ∀ w ∈ wsL_law_r32, w ∈ lw_tbl := fun w h => (goodIn_p wsL_law_r32 [749, 753, 758, 1186] (by decide +kernel) (by decide +kernel) w h).1
set_option maxRecDepth 20000 in
theorem li33 : ∀ w ∈ wsL_law_r33, w ∈ lw_tbl := fun w h => (goodIn_p wsL_law_r33 [1190, 1194, 1197, 1200, 1204] (by decide +kernel) (by decide +kernel) w h).1
set_option maxRecDepth 20000 in
theorem li34 : ∀ w ∈ wsL_law_r34, w ∈ lw_tbl := fun w h => (goodIn_p wsL_law_r34 [1208, 1213, 1217, 1221, 766, 1229] (by decide +kernel) (by decide +kernel) w h).1
set_option maxRecDepth 20000 in
theorem li35 : ∀ w ∈ wsL_law_r35, w ∈ lw_tbl := fun w h => (goodIn_p wsL_law_r35 [770, 774, 778, 781, 1233, 1237] (by decide +kernel) (by decide +kernel) w h).1
set_option maxRecDepth 20000 in
theorem li36 : ∀ w ∈ wsL_law_r36, w ∈ lw_tbl := fun w h => (goodIn_p wsL_law_r36 [785, 792, 1241, 1245, 798] (by decide +kernel) (by decide +kernel) w h).1
set_option maxRecDepth 20000 in
theorem li37 : ∀ w ∈ wsL_law_r37, w ∈ lw_tbl := fun w h => (goodIn_p wsL_law_r37 [805, 1249, 810, 816] (by decide +kernel) (by decide +kernel) w h).1
set_option maxRecDepth 20000 in
theorem li38 : ∀ w ∈ wsL_law_r38, w ∈ lw_tbl := fun w h => (goodIn_p wsL_law_r38 [820, 847, 840] (by decide +kernel) (by decide +kernel) w h).1
set_option maxRecDepth 20000 in
theorem li39 : ∀ w ∈ wsL_law_r39, w ∈ lw_tbl := fun w h => (goodIn_p wsL_law_r39 [845, 854, 865] (by decide +kernel) (by decide +kernel) w h).1
set_option maxRecDepth 20000 in
theorem li40 : ∀ w ∈ wsL_law_r40, w ∈ lw_tbl := fun w h => (goodIn_p wsL_law_r40 [860, 1253, 1257, 1261, 1265] (by decide +kernel) (by decide +kernel) w h).1
set_option maxRecDepth 20000 in
theorem li41 : ∀ w ∈ wsL_law_r41, w ∈ lw_tbl := fun w h => (goodIn_p wsL_law_r41 [870, 1269, 874, 878, 882] (by decide +kernel) (by decide +kernel) w h).1
set_option maxRecDepth 20000 in
theorem li42 : ∀ w ∈ wsL_law_r42, w ∈ lw_tbl := fun w h => (goodIn_p wsL_law_r42 [886, 891, 1273, 895, 1277] (by decide +kernel) (by decide +kernel) w h).1
set_option maxRecDepth 100000 in
theorem inX11 : ∀ w ∈ wsX110, w ∈ lw_tbl := by decide +kernel
set_option maxRecDepth 100000 in
theorem inX12 : ∀ w ∈ wsX120, w ∈ lw_tbl := by decide +kernel
set_option maxRecDepth 100000 in
theorem inX9 : ∀ w ∈ wsX90, w ∈ lw_tbl := by decide +kernel
set_option maxRecDepth 100000 in
theorem inX4 : ∀ w ∈ wsX40, w ∈ lw_tbl := by decide +kernel
set_option maxRecDepth 100000 in
theorem inX6 : ∀ w ∈ wsX60, w ∈ lw_tbl := by decide +kernel
set_option maxRecDepth 100000 in
theorem inX0 : ∀ w ∈ wsX00, w ∈ lw_tbl := by decide +kernel
set_option maxRecDepth 100000 in
theorem inX10 : ∀ w ∈ wsX100, w ∈ lw_tbl := by decide +kernel
set_option maxRecDepth 100000 in
theorem inX5 : ∀ w ∈ wsX50, w ∈ lw_tbl := by decide +kernel
set_option maxRecDepth 100000 in
theorem inX3 : ∀ w ∈ wsX30, w ∈ lw_tbl := by decide +kernel
set_option maxRecDepth 100000 in
theorem inX7 : ∀ w ∈ wsX70, w ∈ lw_tbl := by decide +kernel
set_option maxRecDepth 100000 in
theorem inX2 : ∀ w ∈ wsX20, w ∈ lw_tbl := by decide +kernel
set_option maxRecDepth 100000 in
theorem inX1 : ∀ w ∈ wsX10, w ∈ lw_tbl := by decide +kernel
theorem wsL_law_in : ∀ w ∈ wsL_law, w ∈ lw_tbl := (mem_ap (mem_ap (mem_ap (mem_ap (mem_ap (mem_ap (mem_ap (mem_ap (mem_ap (mem_ap (mem_ap (mem_ap (mem_ap (mem_ap li1 (mem_ap li2 (mem_ap li3 (mem_ap li4 (mem_ap li5 (mem_ap li6 (mem_ap li7 (mem_ap li8 (mem_ap li9 (mem_ap li10 (mem_ap li11 (mem_ap li12 (mem_ap li13 (mem_ap li14 (mem_ap li15 (mem_ap li16 (mem_ap li17 (mem_ap li18 (mem_ap li19 (mem_ap li20 (mem_ap li21 (mem_ap li22 (mem_ap li23 (mem_ap li24 (mem_ap li25 (mem_ap li26 (mem_ap li27 (mem_ap li28 (mem_ap li29 (mem_ap li30 (mem_ap li31 (mem_ap li32 (mem_ap li33 (mem_ap li34 (mem_ap li35 (mem_ap li36 (mem_ap li37 (mem_ap li38 (mem_ap li39 (mem_ap li40 (mem_ap li41 li42))))))))))))))))))))))))))))))))))))))))) inX11) inX12) inX9) inX4) inX6) inX0) inX10) inX5) inX3) inX7) inX2) inX1) (fun w h => absurd h List.not_mem_nil))
