set_option maxRecDepth 20000 in
theorem ggL_law_X11_order : GoodIn wsL_law wsX11_order := goodIn_r _ [426, 121, 18, 223, 427, 428, 429, 125, 126, 2, 127, 1003, 1004, 1005, 1006, 1007, 1008, 1009, 1052, 1053, 1054, 1055] (by decide +kernel) (by decide +kernel)
set_option maxRecDepth 20000 in
theorem gL_law_X11_order : GoodIn wsL_law (wsV RL 50 RX11 yX11_order wsX11_order) := goodIn_app (goodIn_of _ (by decide +kernel)) ggL_law_X11_order
set_option maxRecDepth 20000 in
theorem ggL_law_X12_order : GoodIn wsL_law wsX12_order := goodIn_r _ [433, 151, 153, 279, 422, 100, 101, 159, 160, 5, 161, 1010, 1011, 1012, 1013, 1014, 1015, 1016, 1017, 1018, 1019, 1020, 1021, 1022, 1023, 1024, 1025, 1026, 1027, 1028, 1029, 1030, 1031, 1032, 1033, 1034, 1035, 1036, 1037, 1038, 1039, 1040, 1041, 1042, 1043, 1044, 1045, 1046, 1047, 1048, 1049, 1050, 1051] (by decide +kernel) (by decide +kernel)
set_option maxRecDepth 20000 in
theorem gL_law_X12_order : GoodIn wsL_law (wsV RL 53 RX12 yX12_order wsX12_order) := goodIn_app (goodIn_of _ (by decide +kernel)) ggL_law_X12_order
set_option maxRecDepth 20000 in
theorem ggL_law_X11_rule : GoodIn wsL_law wsX11_rule := goodIn_r _ [437, 438, 439, 121, 26, 125, 126, 2, 127, 440, 441, 442, 25, 443, 54, 444, 445, 446, 447, 448, 66, 449, 450, 350, 451, 1003, 1004, 1005, 1006, 1007, 1008, 1009, 1061, 1062, 1063, 1064, 1065, 1066, 1067, 1068, 1069, 1070, 1071, 1072, 1073] (by decide +kernel) (by decide +kernel)
set_option maxRecDepth 20000 in
theorem gL_law_X11_rule : GoodIn wsL_law (wsV RL 54 RX11 yX11_rule wsX11_rule) := goodIn_app (goodIn_of _ (by decide +kernel)) ggL_law_X11_rule
set_option maxRecDepth 20000 in
theorem ggL_law_X12_rule : GoodIn wsL_law wsX12_rule := goodIn_r _ [455, 151, 281, 456, 457, 153, 103, 159, 160, 5, 161, 1010, 1011, 1012, 1013, 1014, 1015, 1016, 1017, 1018, 1019, 1020, 1021, 1022, 1023, 1024, 1025, 1026, 1027, 1028, 1029, 1030, 1031, 1032, 1033, 1034, 1035, 1036, 1037, 1038, 1039, 1040, 1041, 1042, 1043, 1044, 1045, 1046, 1047, 1048, 1049, 1050, 1051] (by decide +kernel) (by decide +kernel)
set_option maxRecDepth 20000 in
theorem gL_law_X12_rule : GoodIn wsL_law (wsV RL 57 RX12 yX12_rule wsX12_rule) := goodIn_app (goodIn_of _ (by decide +kernel)) ggL_law_X12_rule
set_option maxRecDepth 20000 in
theorem ggL_law_X11_zone : GoodIn wsL_law wsX11_zone := goodIn_r _ [461, 121, 26, 462, 463, 2, 464, 125, 126, 127, 465, 466, 467, 25, 468, 63, 65, 445, 446, 447, 448, 66, 449, 450, 350, 451, 1003, 1004, 1005, 1006, 1007, 1008, 1009, 1061, 1062, 1063, 1064, 1065, 1066, 1067, 1068, 1069, 1070, 1071, 1072, 1073] (by decide +kernel) (by decide +kernel)
set_option maxRecDepth 20000 in
theorem gL_law_X11_zone : GoodIn wsL_law (wsV RL 58 RX11 yX11_zone wsX11_zone) := goodIn_app (goodIn_of _ (by decide +kernel)) ggL_law_X11_zone
set_option maxRecDepth 20000 in
theorem ggL_law_X12_zone : GoodIn wsL_law wsX12_zone := goodIn_r _ [472, 151, 473, 281, 153, 104, 105, 159, 160, 5, 161, 1010, 1011, 1012, 1013, 1014, 1015, 1016, 1017, 1018, 1019, 1020, 1021, 1022, 1023, 1024, 1025, 1026, 1027, 1028, 1029, 1030, 1031, 1032, 1033, 1034, 1035, 1036, 1037, 1038, 1039, 1040, 1041, 1042, 1043, 1044, 1045, 1046, 1047, 1048, 1049, 1050, 1051] (by decide +kernel) (by decide +kernel)
set_option maxRecDepth 20000 in
theorem gL_law_X12_zone : GoodIn wsL_law (wsV RL 61 RX12 yX12_zone wsX12_zone) := goodIn_app (goodIn_of _ (by decide +kernel)) ggL_law_X12_zone
set_option maxRecDepth 20000 in
theorem ggL_law_X11_open : GoodIn wsL_law wsX11_open := goodIn_r _ [477, 121, 26, 462, 463, 2, 464, 125, 126, 127, 478, 479, 480, 25, 481, 65, 445, 446, 447, 448, 66, 449, 450, 350, 451, 1003, 1004, 1005, 1006, 1007, 1008, 1009, 1061, 1062, 1063, 1064, 1065, 1066, 1067, 1068, 1069, 1070, 1071, 1072, 1073] (by decide +kernel) (by decide +kernel)
set_option maxRecDepth 20000 in
theorem gL_law_X11_open : GoodIn wsL_law (wsV RL 62 RX11 yX11_open wsX11_open) := goodIn_app (goodIn_of _ (by decide +kernel)) ggL_law_X11_open
set_option maxRecDepth 20000 in
theorem ggL_law_X12_open : GoodIn wsL_law wsX12_open := goodIn_r _ [485, 151, 473, 153, 104, 159, 160, 5, 161, 1010, 1011, 1012, 1013, 1014, 1015, 1016, 1017, 1018, 1019, 1020, 1021, 1022, 1023, 1024, 1025, 1026, 1027, 1028, 1029, 1030, 1031, 1032, 1033, 1034, 1035, 1036, 1037, 1038, 1039, 1040, 1041, 1042, 1043, 1044, 1045, 1046, 1047, 1048, 1049, 1050, 1051] (by decide +kernel) (by decide +kernel)
set_option maxRecDepth 20000 in
theorem gL_law_X12_open : GoodIn wsL_law (wsV RL 65 RX12 yX12_open wsX12_open) := goodIn_app (goodIn_of _ (by decide +kernel)) ggL_law_X12_open
set_option maxRecDepth 20000 in
theorem ggL_law_X11_ticks : GoodIn wsL_law wsX11_ticks := goodIn_r _ [489, 26, 18, 490, 491, 224, 492, 493, 494, 25, 495, 66, 58, 54, 496, 497, 59, 498, 60, 499, 500, 501, 57, 502, 503, 504, 505, 506, 507, 508, 509, 510, 287, 288, 17, 289, 268, 41, 511, 512, 513, 514, 515, 336, 337, 338, 251, 339, 340, 291, 292, 293, 294, 254, 295, 296, 341, 342, 516, 298, 299, 300, 301, 302, 303, 517, 305, 306, 307, 308, 255, 309, 310, 518, 519, 520, 521, 346, 2, 347, 348, 349, 350, 351, 352, 353, 354, 522, 523, 524, 525, 70, 71, 72, 526, 527, 528, 529, 530, 531, 532, 533, 534, 535, 536, 537, 538, 539, 540, 541, 542, 543, 62, 544, 545, 546, 140, 141, 142, 547, 548, 549, 550, 551, 552, 553, 554, 65, 63, 126, 127, 555, 556, 557, 558, 559, 560, 561, 562, 1003, 1004, 1005, 1006, 1007, 1008, 1009, 1061, 1062, 1063, 1064, 1065, 1066, 1067, 1068, 1069, 1070, 1071, 1072, 1073, 1089, 1090, 1091, 1092, 1093, 1094, 1095, 1052, 1053, 1054, 1055, 1100, 1101, 1098, 1099, 1096, 1097] (by decide +kernel) (by decide +kernel)
set_option maxRecDepth 20000 in
theorem gL_law_X11_ticks : GoodIn wsL_law (wsV RL 66 RX11 yX11_ticks wsX11_ticks) := goodIn_app (goodIn_of _ (by decide +kernel)) ggL_law_X11_ticks
set_option maxRecDepth 20000 in
theorem ggL_law_X12_ticks : GoodIn wsL_law wsX12_ticks := goodIn_r _ [566, 151, 567, 280, 568, 569, 570, 571, 5, 572, 573, 574, 279, 100, 101, 97, 98, 99, 103, 368, 369, 370, 371, 575, 576, 577, 578, 372, 373, 374, 375, 376, 377, 579, 580, 581, 582, 106, 107, 108, 583, 584, 585, 586, 587, 588, 589, 590, 591, 592, 593, 594, 112, 109, 110, 111, 104, 105, 281, 159, 160, 161, 595, 596, 597, 598, 1010, 1011, 1012, 1013, 1014, 1015, 1016, 1017, 1018, 1019, 1020, 1021, 1022, 1023, 1024, 1025, 1026, 1027, 1028, 1029, 1030, 1031, 1032, 1033, 1034, 1035, 1036, 1037, 1038, 1039, 1040, 1041, 1042, 1043, 1044, 1045, 1046, 1047, 1048, 1049, 1050, 1051] (by decide +kernel) (by decide +kernel)
set_option maxRecDepth 20000 in
theorem gL_law_X12_ticks : GoodIn wsL_law (wsV RL 69 RX12 yX12_ticks wsX12_ticks) := goodIn_app (goodIn_of _ (by decide +kernel)) ggL_law_X12_ticks
set_option maxRecDepth 20000 in
theorem ggL_law_X11_tick : GoodIn wsL_law wsX11_tick := goodIn_r _ [602, 121, 26, 18, 224, 490, 491, 427, 603, 604, 605, 606, 607, 125, 126, 2, 127, 492, 493, 494, 25, 495, 66, 58, 54, 496, 497, 59, 498, 60, 499, 500, 501, 57, 502, 503, 504, 505, 506, 507, 508, 509, 510, 287, 288, 17, 289, 268, 41, 511, 512, 513, 514, 515, 336, 337, 338, 251, 339, 340, 291, 292, 293, 294, 254, 295, 296, 341, 342, 516, 298, 299, 300, 301, 302, 303, 517, 305, 306, 307, 308, 255, 309, 310, 518, 519, 520, 521, 346, 347, 348, 349, 350, 351, 352, 353, 354, 522, 523, 524, 525, 70, 71, 72, 526, 527, 528, 529, 530, 531, 532, 533, 534, 535, 536, 537, 538, 539, 540, 541, 542, 543, 62, 544, 545, 546, 140, 141, 142, 547, 548, 549, 550, 551, 552, 553, 554, 65, 63, 555, 556, 557, 558, 559, 560, 561, 562, 608, 609, 610, 611, 612, 613, 1003, 1004, 1005, 1006, 1007, 1008, 1009, 1061, 1062, 1063, 1064, 1065, 1066, 1067, 1068, 1069, 1070, 1071, 1072, 1073, 1089, 1090, 1091, 1092, 1093, 1094, 1095, 1052, 1053, 1054, 1055, 1100, 1101, 1098, 1099, 1096, 1097] (by decide +kernel) (by decide +kernel)
set_option maxRecDepth 20000 in
theorem gL_law_X11_tick : GoodIn wsL_law (wsV RL 70 RX11 yX11_tick wsX11_tick) := goodIn_app (goodIn_of _ (by decide +kernel)) ggL_law_X11_tick
set_option maxRecDepth 20000 in
theorem ggL_law_X12_tick : GoodIn wsL_law wsX12_tick := goodIn_r _ [617, 151, 158, 153, 567, 280, 568, 422, 106, 107, 108, 109, 110, 111, 159, 160, 5, 161, 569, 570, 571, 572, 573, 574, 279, 100, 101, 97, 98, 99, 103, 368, 369, 370, 371, 575, 576, 577, 578, 372, 373, 374, 375, 376, 377, 579, 580, 581, 582, 583, 584, 585, 586, 587, 588, 589, 590, 591, 592, 593, 594, 112, 104, 105, 281, 595, 596, 597, 598, 618, 619, 620, 621, 1010, 1011, 1012, 1013, 1014, 1015, 1016, 1017, 1018, 1019, 1020, 1021, 1022, 1023, 1024, 1025, 1026, 1027, 1028, 1029, 1030, 1031, 1032, 1033, 1034, 1035, 1036, 1037, 1038, 1039, 1040, 1041, 1042, 1043, 1044, 1045, 1046, 1047, 1048, 1049, 1050, 1051] (by decide +kernel) (by decide +kernel)
set_option maxRecDepth 20000 in
theorem gL_law_X12_tick : GoodIn wsL_law (wsV RL 73 RX12 yX12_tick wsX12_tick) := goodIn_app (goodIn_of _ (by decide +kernel)) ggL_law_X12_tick
set_option maxRecDepth 20000 in
theorem ggL_law_X11_all : GoodIn wsL_law wsX11_all := goodIn_r _ [625, 121, 26, 18, 224, 626, 627, 628, 629, 630, 631, 125, 126, 2, 127, 492, 493, 494, 25, 495, 66, 58, 54, 496, 497, 59, 498, 60, 499, 500, 501, 57, 502, 503, 504, 505, 506, 507, 508, 509, 510, 287, 288, 17, 289, 268, 41, 511, 512, 513, 514, 515, 336, 337, 338, 251, 339, 340, 291, 292, 293, 294, 254, 295, 296, 341, 342, 516, 298, 299, 300, 301, 302, 303, 517, 305, 306, 307, 308, 255, 309, 310, 518, 519, 520, 521, 346, 347, 348, 349, 350, 351, 352, 353, 354, 522, 523, 524, 525, 70, 71, 72, 526, 527, 528, 529, 530, 531, 532, 533, 534, 535, 536, 537, 538, 539, 540, 541, 542, 543, 62, 544, 545, 546, 140, 141, 142, 547, 548, 549, 550, 551, 552, 553, 554, 65, 63, 555, 556, 557, 558, 559, 560, 561, 562, 1003, 1004, 1005, 1006, 1007, 1008, 1009, 1061, 1062, 1063, 1064, 1065, 1066, 1067, 1068, 1069, 1070, 1071, 1072, 1073, 1089, 1090, 1091, 1092, 1093, 1094, 1095, 1052, 1053, 1054, 1055, 1100, 1101, 1098, 1099, 1096, 1097] (by decide +kernel) (by decide +kernel)
set_option maxRecDepth 20000 in
theorem gL_law_X11_all : GoodIn wsL_law (wsV RL 74 RX11 yX11_all wsX11_all) := goodIn_app (goodIn_of _ (by decide +kernel)) ggL_law_X11_all
set_option maxRecDepth 20000 in
theorem ggL_law_X12_all : GoodIn wsL_law wsX12_all := goodIn_r _ [635, 151, 456, 153, 567, 280, 568, 108, 111, 112, 103, 159, 160, 5, 161, 569, 570, 571, 572, 573, 574, 279, 100, 101, 97, 98, 99, 368, 369, 370, 371, 575, 576, 577, 578, 372, 373, 374, 375, 376, 377, 579, 580, 581, 582, 106, 107, 583, 584, 585, 586, 587, 588, 589, 590, 591, 592, 593, 594, 109, 110, 104, 105, 281, 595, 596, 597, 598, 618, 619, 620, 621, 1010, 1011, 1012, 1013, 1014, 1015, 1016, 1017, 1018, 1019, 1020, 1021, 1022, 1023, 1024, 1025, 1026, 1027, 1028, 1029, 1030, 1031, 1032, 1033, 1034, 1035, 1036, 1037, 1038, 1039, 1040, 1041, 1042, 1043, 1044, 1045, 1046, 1047, 1048, 1049, 1050, 1051] (by decide +kernel) (by decide +kernel)
set_option maxRecDepth 20000 in
theorem gL_law_X12_all : GoodIn wsL_law (wsV RL 77 RX12 yX12_all wsX12_all) := goodIn_app (goodIn_of _ (by decide +kernel)) ggL_law_X12_all
set_option maxRecDepth 20000 in
theorem ggL_law_X11_burn : GoodIn wsL_law wsX11_burn := goodIn_r _ [639, 121, 26, 18, 640, 224, 125, 126, 2, 127, 492, 493, 494, 25, 495, 66, 58, 54, 496, 497, 59, 498, 60, 499, 500, 501, 57, 502, 503, 504, 505, 506, 507, 508, 509, 510, 287, 288, 17, 289, 268, 41, 511, 512, 513, 514, 515, 336, 337, 338, 251, 339, 340, 291, 292, 293, 294, 254, 295, 296, 341, 342, 516, 298, 299, 300, 301, 302, 303, 517, 305, 306, 307, 308, 255, 309, 310, 518, 519, 520, 521, 346, 347, 348, 349, 350, 351, 352, 353, 354, 522, 523, 524, 525, 70, 71, 72, 526, 527, 528, 529, 530, 531, 532, 533, 534, 535, 536, 537, 538, 539, 540, 541, 542, 543, 62, 544, 545, 546, 140, 141, 142, 547, 548, 549, 550, 551, 552, 553, 554, 65, 63, 555, 556, 557, 558, 559, 560, 561, 562, 1003, 1004, 1005, 1006, 1007, 1008, 1009, 1061, 1062, 1063, 1064, 1065, 1066, 1067, 1068, 1069, 1070, 1071, 1072, 1073, 1089, 1090, 1091, 1092, 1093, 1094, 1095, 1052, 1053, 1054, 1055, 1100, 1101, 1098, 1099, 1096, 1097] (by decide +kernel) (by decide +kernel)
set_option maxRecDepth 20000 in
theorem gL_law_X11_burn : GoodIn wsL_law (wsV RL 78 RX11 yX11_burn wsX11_burn) := goodIn_app (goodIn_of _ (by decide +kernel)) ggL_law_X11_burn
set_option maxRecDepth 20000 in
theorem ggL_law_X12_burn : GoodIn wsL_law wsX12_burn := goodIn_r _ [644, 151, 645, 153, 567, 280, 112, 159, 160, 5, 161, 569, 570, 571, 572, 568, 573, 574, 279, 100, 101, 97, 98, 99, 103, 368, 369, 370, 371, 575, 576, 577, 578, 372, 373, 374, 375, 376, 377, 579, 580, 581, 582, 106, 107, 108, 583, 584, 585, 586, 587, 588, 589, 590, 591, 592, 593, 594, 109, 110, 111, 104, 105, 281, 595, 596, 597, 598, 1010, 1011, 1012, 1013, 1014, 1015, 1016, 1017, 1018, 1019, 1020, 1021, 1022, 1023, 1024, 1025, 1026, 1027, 1028, 1029, 1030, 1031, 1032, 1033, 1034, 1035, 1036, 1037, 1038, 1039, 1040, 1041, 1042, 1043, 1044, 1045, 1046, 1047, 1048, 1049, 1050, 1051] (by decide +kernel) (by decide +kernel)
set_option maxRecDepth 20000 in
theorem gL_law_X12_burn : GoodIn wsL_law (wsV RL 81 RX12 yX12_burn wsX12_burn) := goodIn_app (goodIn_of _ (by decide +kernel)) ggL_law_X12_burn
set_option maxRecDepth 20000 in
theorem ggL_law_X11_feed : GoodIn wsL_law wsX11_feed := goodIn_r _ [649, 121, 30, 650, 224, 125, 126, 2, 127, 651, 652, 653, 29, 654, 655, 77, 1003, 1004, 1005, 1006, 1007, 1008, 1009, 1074, 1075, 1076, 1077, 1078, 1079, 1080, 1081, 1082, 1083] (by decide +kernel) (by decide +kernel)
set_option maxRecDepth 20000 in
theorem gL_law_X11_feed : GoodIn wsL_law (wsV RL 84 RX11 yX11_feed wsX11_feed) := goodIn_app (goodIn_of _ (by decide +kernel)) ggL_law_X11_feed
set_option maxRecDepth 20000 in
theorem ggL_law_X12_feed : GoodIn wsL_law wsX12_feed := goodIn_r _ [659, 151, 278, 153, 660, 280, 113, 661, 159, 160, 5, 161, 1010, 1011, 1012, 1013, 1014, 1015, 1016, 1017, 1018, 1019, 1020, 1021, 1022, 1023, 1024, 1025, 1026, 1027, 1028, 1029, 1030, 1031, 1032, 1033, 1034, 1035, 1036, 1037, 1038, 1039, 1040, 1041, 1042, 1043, 1044, 1045, 1046, 1047, 1048, 1049, 1050, 1051] (by decide +kernel) (by decide +kernel)
set_option maxRecDepth 20000 in
theorem gL_law_X12_feed : GoodIn wsL_law (wsV RL 88 RX12 yX12_feed wsX12_feed) := goodIn_app (goodIn_of _ (by decide +kernel)) ggL_law_X12_feed
