set_option maxRecDepth 20000 in
theorem ggL_law_X11_init : GoodIn wsL_law wsX11_init := goodIn_r _ [9, 10, 11, 12, 13, 14, 15, 16, 17, 18, 19, 20, 21, 22, 23, 24, 25, 26, 27, 28, 29, 30, 31, 32, 33, 34, 35, 36, 37, 38, 39, 40, 41, 42, 43, 44, 45, 46, 47, 48, 49, 50, 51, 52, 53, 54, 55, 56, 57, 58, 59, 60, 61, 62, 63, 64, 65, 66, 67, 68, 69, 70, 71, 72, 73, 74, 75, 76, 77, 78, 79, 80, 81, 82, 83, 84, 85, 86, 87, 88, 89, 1003, 1004, 1005, 1006, 1007, 1008, 1009, 1052, 1053, 1054, 1055, 1056, 1057, 1058, 1059, 1060, 1061, 1062, 1063, 1064, 1065, 1066, 1067, 1068, 1069, 1070, 1071, 1072, 1073, 1074, 1075, 1076, 1077, 1078, 1079, 1080, 1081, 1082, 1083, 1084, 1085, 1086, 1087, 1088, 1089, 1090, 1091, 1092, 1093, 1094, 1095] (by decide +kernel) (by decide +kernel)
set_option maxRecDepth 20000 in
theorem gL_law_X11_init : GoodIn wsL_law (wsX11_init) := ggL_law_X11_init
set_option maxRecDepth 20000 in
theorem ggL_law_X12_init : GoodIn wsL_law wsX12_init := goodIn_r _ [92, 93, 11, 12, 42, 94, 95, 96, 97, 98, 99, 100, 101, 102, 103, 64, 104, 105, 106, 107, 108, 109, 110, 111, 112, 113, 114, 115, 116, 1010, 1011, 1012, 1013, 1014, 1015, 1016, 1017, 1018, 1019, 1020, 1021, 1022, 1023, 1024, 1025, 1026, 1027, 1028, 1029, 1030, 1031, 1032, 1033, 1034, 1035, 1036, 1037, 1038, 1039, 1040, 1041, 1042, 1043, 1044, 1045, 1046, 1047, 1048, 1049, 1050, 1051] (by decide +kernel) (by decide +kernel)
set_option maxRecDepth 20000 in
theorem gL_law_X12_init : GoodIn wsL_law (wsX12_init) := ggL_law_X12_init
set_option maxRecDepth 20000 in
theorem ggL_law_X11_sheet : GoodIn wsL_law wsX11_sheet := goodIn_r _ [120, 121, 14, 122, 123, 2, 124, 125, 126, 127, 128, 129, 130, 131, 132, 133, 134, 135, 136, 36, 137, 88, 89, 138, 139, 140, 141, 142, 143, 144, 145, 146, 1003, 1004, 1005, 1006, 1007, 1008, 1009, 1086, 1087, 1088] (by decide +kernel) (by decide +kernel)
set_option maxRecDepth 20000 in
theorem gL_law_X11_sheet : GoodIn wsL_law (wsV RL 13 RX11 yX11_sheet wsX11_sheet) := goodIn_app (goodIn_of _ (by decide +kernel)) ggL_law_X11_sheet
set_option maxRecDepth 20000 in
theorem ggL_law_X12_sheet : GoodIn wsL_law wsX12_sheet := goodIn_r _ [150, 151, 152, 153, 154, 94, 95, 96, 155, 156, 5, 157, 158, 159, 160, 161, 162, 163, 164, 165, 166, 1010, 1011, 1012, 1013, 1014, 1015, 1016, 1017, 1018, 1019, 1020, 1021, 1022, 1023, 1024, 1025, 1026, 1027, 1028, 1029, 1030, 1031, 1032, 1033, 1034, 1035, 1036, 1037, 1038, 1039, 1040, 1041, 1042, 1043, 1044, 1045, 1046, 1047, 1048, 1049, 1050, 1051] (by decide +kernel) (by decide +kernel)
set_option maxRecDepth 20000 in
theorem gL_law_X12_sheet : GoodIn wsL_law (wsV RL 17 RX12 yX12_sheet wsX12_sheet) := goodIn_app (goodIn_of _ (by decide +kernel)) ggL_law_X12_sheet
set_option maxRecDepth 20000 in
theorem ggL_law_X11_set : GoodIn wsL_law wsX11_set := goodIn_r _ [170, 121, 14, 122, 123, 2, 124, 125, 126, 127, 171, 172, 173, 36, 174, 89, 128, 129, 130, 131, 132, 133, 175, 176, 177, 178, 138, 179, 180, 181, 182, 88, 183, 184, 185, 186, 187, 188, 189, 190, 191, 143, 144, 145, 146, 1003, 1004, 1005, 1006, 1007, 1008, 1009, 1086, 1087, 1088] (by decide +kernel) (by decide +kernel)
set_option maxRecDepth 20000 in
theorem gL_law_X11_set : GoodIn wsL_law (wsV RL 18 RX11 yX11_set wsX11_set) := goodIn_app (goodIn_of _ (by decide +kernel)) ggL_law_X11_set
set_option maxRecDepth 20000 in
theorem ggL_law_X12_set : GoodIn wsL_law wsX12_set := goodIn_r _ [195, 151, 153, 154, 94, 95, 96, 155, 156, 5, 157, 158, 159, 160, 161, 162, 163, 164, 165, 166, 1010, 1011, 1012, 1013, 1014, 1015, 1016, 1017, 1018, 1019, 1020, 1021, 1022, 1023, 1024, 1025, 1026, 1027, 1028, 1029, 1030, 1031, 1032, 1033, 1034, 1035, 1036, 1037, 1038, 1039, 1040, 1041, 1042, 1043, 1044, 1045, 1046, 1047, 1048, 1049, 1050, 1051] (by decide +kernel) (by decide +kernel)
set_option maxRecDepth 20000 in
theorem gL_law_X12_set : GoodIn wsL_law (wsV RL 21 RX12 yX12_set wsX12_set) := goodIn_app (goodIn_of _ (by decide +kernel)) ggL_law_X12_set
set_option maxRecDepth 20000 in
theorem ggL_law_X11_copy : GoodIn wsL_law wsX11_copy := goodIn_r _ [199, 121, 14, 200, 201, 202, 203, 204, 205, 122, 123, 2, 124, 125, 126, 127, 171, 172, 173, 36, 174, 89, 128, 129, 130, 131, 132, 133, 175, 176, 177, 178, 138, 143, 144, 145, 146, 1003, 1004, 1005, 1006, 1007, 1008, 1009, 1086, 1087, 1088] (by decide +kernel) (by decide +kernel)
set_option maxRecDepth 20000 in
theorem gL_law_X11_copy : GoodIn wsL_law (wsV RL 22 RX11 yX11_copy wsX11_copy) := goodIn_app (goodIn_of _ (by decide +kernel)) ggL_law_X11_copy
set_option maxRecDepth 20000 in
theorem ggL_law_X12_copy : GoodIn wsL_law wsX12_copy := goodIn_r _ [209, 151, 153, 154, 94, 95, 96, 155, 156, 5, 157, 158, 159, 160, 161, 162, 163, 164, 165, 166, 1010, 1011, 1012, 1013, 1014, 1015, 1016, 1017, 1018, 1019, 1020, 1021, 1022, 1023, 1024, 1025, 1026, 1027, 1028, 1029, 1030, 1031, 1032, 1033, 1034, 1035, 1036, 1037, 1038, 1039, 1040, 1041, 1042, 1043, 1044, 1045, 1046, 1047, 1048, 1049, 1050, 1051] (by decide +kernel) (by decide +kernel)
set_option maxRecDepth 20000 in
theorem gL_law_X12_copy : GoodIn wsL_law (wsV RL 26 RX12 yX12_copy wsX12_copy) := goodIn_app (goodIn_of _ (by decide +kernel)) ggL_law_X12_copy
set_option maxRecDepth 20000 in
theorem ggL_law_X11_drop : GoodIn wsL_law wsX11_drop := goodIn_r _ [213, 121, 14, 200, 214, 122, 123, 2, 124, 125, 126, 127, 171, 172, 173, 36, 174, 89, 128, 129, 130, 131, 132, 133, 143, 144, 145, 146, 1003, 1004, 1005, 1006, 1007, 1008, 1009, 1086, 1087, 1088] (by decide +kernel) (by decide +kernel)
set_option maxRecDepth 20000 in
theorem gL_law_X11_drop : GoodIn wsL_law (wsV RL 27 RX11 yX11_drop wsX11_drop) := goodIn_app (goodIn_of _ (by decide +kernel)) ggL_law_X11_drop
set_option maxRecDepth 20000 in
theorem ggL_law_X12_drop : GoodIn wsL_law wsX12_drop := goodIn_r _ [218, 151, 153, 154, 94, 95, 155, 156, 5, 157, 158, 159, 160, 161, 162, 163, 164, 165, 166, 1010, 1011, 1012, 1013, 1014, 1015, 1016, 1017, 1018, 1019, 1020, 1021, 1022, 1023, 1024, 1025, 1026, 1027, 1028, 1029, 1030, 1031, 1032, 1033, 1034, 1035, 1036, 1037, 1038, 1039, 1040, 1041, 1042, 1043, 1044, 1045, 1046, 1047, 1048, 1049, 1050, 1051] (by decide +kernel) (by decide +kernel)
set_option maxRecDepth 20000 in
theorem gL_law_X12_drop : GoodIn wsL_law (wsV RL 31 RX12 yX12_drop wsX12_drop) := goodIn_app (goodIn_of _ (by decide +kernel)) ggL_law_X12_drop
set_option maxRecDepth 20000 in
theorem ggL_law_X11_stroke : GoodIn wsL_law wsX11_stroke := goodIn_r _ [222, 121, 18, 223, 224, 14, 26, 122, 123, 2, 124, 125, 126, 127, 171, 172, 173, 36, 174, 89, 128, 129, 130, 131, 132, 133, 175, 176, 177, 178, 138, 225, 226, 227, 228, 188, 189, 190, 191, 88, 183, 229, 230, 231, 25, 232, 66, 233, 234, 235, 42, 236, 237, 238, 239, 240, 241, 242, 243, 244, 245, 246, 247, 248, 249, 250, 251, 252, 253, 11, 12, 254, 255, 256, 257, 258, 259, 260, 261, 262, 263, 264, 265, 266, 17, 267, 268, 269, 41, 270, 271, 272, 273, 43, 44, 143, 144, 145, 146, 1003, 1004, 1005, 1006, 1007, 1008, 1009, 1052, 1053, 1054, 1055, 1086, 1087, 1088, 1061, 1062, 1063, 1064, 1065, 1066, 1067, 1068, 1069, 1070, 1071, 1072, 1073, 1096, 1097, 1098, 1099, 1100, 1101] (by decide +kernel) (by decide +kernel)
set_option maxRecDepth 20000 in
theorem gL_law_X11_stroke : GoodIn wsL_law (wsV RL 32 RX11 yX11_stroke wsX11_stroke) := goodIn_app (goodIn_of _ (by decide +kernel)) ggL_law_X11_stroke
set_option maxRecDepth 20000 in
theorem ggL_law_X12_stroke : GoodIn wsL_law wsX12_stroke := goodIn_r _ [277, 151, 278, 153, 279, 280, 94, 95, 96, 281, 154, 98, 99, 97, 100, 101, 155, 156, 5, 157, 158, 159, 160, 161, 162, 163, 164, 165, 166, 1010, 1011, 1012, 1013, 1014, 1015, 1016, 1017, 1018, 1019, 1020, 1021, 1022, 1023, 1024, 1025, 1026, 1027, 1028, 1029, 1030, 1031, 1032, 1033, 1034, 1035, 1036, 1037, 1038, 1039, 1040, 1041, 1042, 1043, 1044, 1045, 1046, 1047, 1048, 1049, 1050, 1051] (by decide +kernel) (by decide +kernel)
set_option maxRecDepth 20000 in
theorem gL_law_X12_stroke : GoodIn wsL_law (wsV RL 35 RX12 yX12_stroke wsX12_stroke) := goodIn_app (goodIn_of _ (by decide +kernel)) ggL_law_X12_stroke
set_option maxRecDepth 20000 in
theorem ggL_law_X11_point : GoodIn wsL_law wsX11_point := goodIn_r _ [285, 18, 121, 286, 287, 288, 17, 289, 268, 41, 290, 291, 292, 293, 251, 294, 254, 295, 296, 125, 126, 2, 127, 297, 298, 299, 300, 301, 302, 303, 304, 305, 306, 307, 308, 255, 309, 310, 1003, 1004, 1005, 1006, 1007, 1008, 1009, 1052, 1053, 1054, 1055, 1100, 1101, 1098, 1099, 1096, 1097] (by decide +kernel) (by decide +kernel)
set_option maxRecDepth 20000 in
theorem gL_law_X11_point : GoodIn wsL_law (wsV RL 36 RX11 yX11_point wsX11_point) := goodIn_app (goodIn_of _ (by decide +kernel)) ggL_law_X11_point
set_option maxRecDepth 20000 in
theorem ggL_law_X12_point : GoodIn wsL_law wsX12_point := goodIn_r _ [314, 151, 97, 153, 98, 99, 315, 316, 317, 5, 318, 279, 159, 160, 161, 1010, 1011, 1012, 1013, 1014, 1015, 1016, 1017, 1018, 1019, 1020, 1021, 1022, 1023, 1024, 1025, 1026, 1027, 1028, 1029, 1030, 1031, 1032, 1033, 1034, 1035, 1036, 1037, 1038, 1039, 1040, 1041, 1042, 1043, 1044, 1045, 1046, 1047, 1048, 1049, 1050, 1051] (by decide +kernel) (by decide +kernel)
set_option maxRecDepth 20000 in
theorem gL_law_X12_point : GoodIn wsL_law (wsV RL 39 RX12 yX12_point wsX12_point) := goodIn_app (goodIn_of _ (by decide +kernel)) ggL_law_X12_point
set_option maxRecDepth 20000 in
theorem ggL_law_X11_plan : GoodIn wsL_law wsX11_plan := goodIn_r _ [322, 121, 18, 223, 323, 14, 26, 122, 123, 2, 124, 125, 126, 127, 171, 172, 173, 36, 174, 89, 128, 129, 130, 131, 132, 133, 175, 176, 177, 178, 138, 324, 325, 326, 17, 327, 268, 328, 189, 190, 191, 88, 183, 245, 329, 271, 272, 273, 43, 44, 229, 230, 231, 25, 232, 66, 330, 331, 332, 333, 334, 287, 288, 289, 41, 335, 336, 337, 338, 251, 339, 340, 291, 292, 293, 294, 254, 295, 296, 341, 342, 343, 344, 298, 299, 300, 301, 302, 303, 345, 305, 306, 307, 308, 255, 309, 310, 346, 347, 348, 349, 350, 351, 352, 353, 354, 143, 144, 145, 146, 1003, 1004, 1005, 1006, 1007, 1008, 1009, 1052, 1053, 1054, 1055, 1086, 1087, 1088, 1061, 1062, 1063, 1064, 1065, 1066, 1067, 1068, 1069, 1070, 1071, 1072, 1073, 1100, 1101, 1098, 1099, 1096, 1097] (by decide +kernel) (by decide +kernel)
set_option maxRecDepth 20000 in
theorem gL_law_X11_plan : GoodIn wsL_law (wsV RL 40 RX11 yX11_plan wsX11_plan) := goodIn_app (goodIn_of _ (by decide +kernel)) ggL_law_X11_plan
set_option maxRecDepth 20000 in
theorem ggL_law_X12_plan : GoodIn wsL_law wsX12_plan := goodIn_r _ [358, 151, 153, 279, 359, 94, 95, 96, 154, 100, 101, 155, 156, 5, 157, 158, 159, 160, 161, 162, 163, 164, 165, 166, 315, 316, 317, 318, 360, 361, 362, 363, 364, 365, 366, 367, 98, 99, 368, 369, 370, 371, 97, 372, 373, 374, 375, 376, 377, 378, 379, 380, 381, 382, 383, 384, 385, 1010, 1011, 1012, 1013, 1014, 1015, 1016, 1017, 1018, 1019, 1020, 1021, 1022, 1023, 1024, 1025, 1026, 1027, 1028, 1029, 1030, 1031, 1032, 1033, 1034, 1035, 1036, 1037, 1038, 1039, 1040, 1041, 1042, 1043, 1044, 1045, 1046, 1047, 1048, 1049, 1050, 1051] (by decide +kernel) (by decide +kernel)
set_option maxRecDepth 20000 in
theorem gL_law_X12_plan : GoodIn wsL_law (wsV RL 44 RX12 yX12_plan wsX12_plan) := goodIn_app (goodIn_of _ (by decide +kernel)) ggL_law_X12_plan
set_option maxRecDepth 20000 in
theorem ggL_law_X11_best : GoodIn wsL_law wsX11_best := goodIn_r _ [389, 18, 223, 323, 22, 26, 390, 391, 392, 21, 393, 394, 395, 48, 49, 396, 397, 398, 399, 400, 401, 287, 288, 17, 289, 268, 41, 402, 336, 337, 338, 251, 339, 340, 291, 292, 293, 294, 254, 295, 296, 341, 342, 403, 298, 299, 300, 301, 302, 303, 404, 305, 306, 307, 308, 255, 309, 310, 405, 406, 407, 408, 50, 409, 410, 411, 412, 413, 414, 415, 416, 346, 2, 347, 348, 349, 350, 351, 352, 353, 354, 417, 271, 272, 273, 43, 44, 229, 230, 231, 25, 232, 66, 330, 331, 332, 333, 334, 335, 343, 344, 345, 1003, 1004, 1005, 1006, 1007, 1008, 1009, 1052, 1053, 1054, 1055, 1056, 1057, 1058, 1059, 1060, 1100, 1101, 1098, 1099, 1096, 1097, 1061, 1062, 1063, 1064, 1065, 1066, 1067, 1068, 1069, 1070, 1071, 1072, 1073] (by decide +kernel) (by decide +kernel)
set_option maxRecDepth 20000 in
theorem gL_law_X11_best : GoodIn wsL_law (wsV RL 45 RX11 yX11_best wsX11_best) := goodIn_app (goodIn_of _ (by decide +kernel)) ggL_law_X11_best
set_option maxRecDepth 20000 in
theorem ggL_law_X12_best : GoodIn wsL_law wsX12_best := goodIn_r _ [421, 151, 279, 359, 422, 102, 100, 101, 378, 379, 380, 5, 381, 97, 98, 99, 368, 369, 370, 371, 372, 373, 374, 375, 376, 377, 382, 383, 384, 385, 364, 365, 366, 367, 1010, 1011, 1012, 1013, 1014, 1015, 1016, 1017, 1018, 1019, 1020, 1021, 1022, 1023, 1024, 1025, 1026, 1027, 1028, 1029, 1030, 1031, 1032, 1033, 1034, 1035, 1036, 1037, 1038, 1039, 1040, 1041, 1042, 1043, 1044, 1045, 1046, 1047, 1048, 1049, 1050, 1051] (by decide +kernel) (by decide +kernel)
set_option maxRecDepth 20000 in
theorem gL_law_X12_best : GoodIn wsL_law (wsV RL 49 RX12 yX12_best wsX12_best) := goodIn_app (goodIn_of _ (by decide +kernel)) ggL_law_X12_best
