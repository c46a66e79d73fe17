set_option maxRecDepth 20000 in
theorem ggL_law_X11_cues : GoodIn wsL_law wsX11_cues := goodIn_r _ [665, 30, 666, 667, 668, 29, 669, 670, 671, 672, 655, 673, 674, 675, 79, 80, 676, 677, 678, 679, 680, 77, 681, 682, 683, 684, 685, 686, 687, 688, 689, 690, 691, 692, 693, 694, 695, 696, 697, 698, 699, 700, 701, 702, 703, 704, 705, 706, 707, 708, 709, 710, 711, 712, 713, 714, 715, 716, 717, 718, 719, 720, 721, 722, 723, 724, 725, 726, 727, 728, 729, 730, 731, 732, 733, 734, 735, 736, 737, 738, 739, 740, 741, 742, 743, 744, 745, 746, 747, 748, 126, 2, 127, 749, 750, 751, 752, 1003, 1004, 1005, 1006, 1007, 1008, 1009, 1074, 1075, 1076, 1077, 1078, 1079, 1080, 1081, 1082, 1083] (by decide +kernel) (by decide +kernel)
set_option maxRecDepth 20000 in
theorem gL_law_X11_cues : GoodIn wsL_law (wsV RL 89 RX11 yX11_cues wsX11_cues) := goodIn_app (goodIn_of _ (by decide +kernel)) ggL_law_X11_cues
set_option maxRecDepth 20000 in
theorem ggL_law_X12_cues : GoodIn wsL_law wsX12_cues := goodIn_r _ [756, 151, 660, 757, 758, 759, 760, 761, 762, 763, 764, 765, 114, 115, 766, 767, 768, 5, 769, 770, 422, 771, 772, 773, 774, 775, 113, 776, 777, 778, 779, 780, 781, 782, 783, 784, 785, 786, 787, 788, 789, 790, 791, 792, 793, 794, 795, 796, 797, 798, 799, 800, 801, 802, 803, 804, 805, 159, 160, 161, 1010, 1011, 1012, 1013, 1014, 1015, 1016, 1017, 1018, 1019, 1020, 1021, 1022, 1023, 1024, 1025, 1026, 1027, 1028, 1029, 1030, 1031, 1032, 1033, 1034, 1035, 1036, 1037, 1038, 1039, 1040, 1041, 1042, 1043, 1044, 1045, 1046, 1047, 1048, 1049, 1050, 1051] (by decide +kernel) (by decide +kernel)
set_option maxRecDepth 20000 in
theorem gL_law_X12_cues : GoodIn wsL_law (wsV RL 92 RX12 yX12_cues wsX12_cues) := goodIn_app (goodIn_of _ (by decide +kernel)) ggL_law_X12_cues
set_option maxRecDepth 20000 in
theorem ggL_law_X11_fault : GoodIn wsL_law wsX11_fault := goodIn_r _ [809, 30, 810, 1003, 1004, 1005, 1006, 1007, 1008, 1009, 1074, 1075, 1076, 1077, 1078, 1079, 1080, 1081, 1082, 1083] (by decide +kernel) (by decide +kernel)
set_option maxRecDepth 20000 in
theorem gL_law_X11_fault : GoodIn wsL_law (wsV RL 93 RX11 yX11_fault wsX11_fault) := goodIn_app (goodIn_of _ (by decide +kernel)) ggL_law_X11_fault
set_option maxRecDepth 20000 in
theorem ggL_law_X12_fault : GoodIn wsL_law wsX12_fault := goodIn_r _ [814, 151, 762, 1010, 1011, 1012, 1013, 1014, 1015, 1016, 1017, 1018, 1019, 1020, 1021, 1022, 1023, 1024, 1025, 1026, 1027, 1028, 1029, 1030, 1031, 1032, 1033, 1034, 1035, 1036, 1037, 1038, 1039, 1040, 1041, 1042, 1043, 1044, 1045, 1046, 1047, 1048, 1049, 1050, 1051] (by decide +kernel) (by decide +kernel)
set_option maxRecDepth 20000 in
theorem gL_law_X12_fault : GoodIn wsL_law (wsV RL 96 RX12 yX12_fault wsX12_fault) := goodIn_app (goodIn_of _ (by decide +kernel)) ggL_law_X12_fault
set_option maxRecDepth 20000 in
theorem ggL_law_X11_frame : GoodIn wsL_law wsX11_frame := goodIn_r _ [818, 121, 30, 125, 126, 2, 127, 819, 820, 821, 29, 822, 676, 79, 823, 824, 825, 826, 827, 828, 829, 1003, 1004, 1005, 1006, 1007, 1008, 1009, 1074, 1075, 1076, 1077, 1078, 1079, 1080, 1081, 1082, 1083] (by decide +kernel) (by decide +kernel)
set_option maxRecDepth 20000 in
theorem gL_law_X11_frame : GoodIn wsL_law (wsV RL 97 RX11 yX11_frame wsX11_frame) := goodIn_app (goodIn_of _ (by decide +kernel)) ggL_law_X11_frame
set_option maxRecDepth 20000 in
theorem ggL_law_X12_frame : GoodIn wsL_law wsX12_frame := goodIn_r _ [833, 151, 834, 153, 765, 114, 159, 160, 5, 161, 835, 836, 837, 1010, 1011, 1012, 1013, 1014, 1015, 1016, 1017, 1018, 1019, 1020, 1021, 1022, 1023, 1024, 1025, 1026, 1027, 1028, 1029, 1030, 1031, 1032, 1033, 1034, 1035, 1036, 1037, 1038, 1039, 1040, 1041, 1042, 1043, 1044, 1045, 1046, 1047, 1048, 1049, 1050, 1051] (by decide +kernel) (by decide +kernel)
set_option maxRecDepth 20000 in
theorem gL_law_X12_frame : GoodIn wsL_law (wsV RL 100 RX12 yX12_frame wsX12_frame) := goodIn_app (goodIn_of _ (by decide +kernel)) ggL_law_X12_frame
set_option maxRecDepth 20000 in
theorem ggL_law_X11_kind : GoodIn wsL_law wsX11_kind := goodIn_r _ [841, 18, 121, 286, 287, 288, 17, 289, 268, 41, 842, 843, 844, 845, 251, 846, 847, 848, 849, 850, 1003, 1004, 1005, 1006, 1007, 1008, 1009, 1052, 1053, 1054, 1055] (by decide +kernel) (by decide +kernel)
set_option maxRecDepth 20000 in
theorem gL_law_X11_kind : GoodIn wsL_law (wsV RL 101 RX11 yX11_kind wsX11_kind) := goodIn_app (goodIn_of _ (by decide +kernel)) ggL_law_X11_kind
set_option maxRecDepth 20000 in
theorem ggL_law_X12_kind : GoodIn wsL_law wsX12_kind := goodIn_r _ [854, 151, 153, 315, 316, 317, 5, 318, 279, 159, 160, 161, 855, 856, 857, 858, 97, 98, 99, 1010, 1011, 1012, 1013, 1014, 1015, 1016, 1017, 1018, 1019, 1020, 1021, 1022, 1023, 1024, 1025, 1026, 1027, 1028, 1029, 1030, 1031, 1032, 1033, 1034, 1035, 1036, 1037, 1038, 1039, 1040, 1041, 1042, 1043, 1044, 1045, 1046, 1047, 1048, 1049, 1050, 1051] (by decide +kernel) (by decide +kernel)
set_option maxRecDepth 20000 in
theorem gL_law_X12_kind : GoodIn wsL_law (wsV RL 104 RX12 yX12_kind wsX12_kind) := goodIn_app (goodIn_of _ (by decide +kernel)) ggL_law_X12_kind
set_option maxRecDepth 20000 in
theorem ggL_law_X11_as : GoodIn wsL_law wsX11_as := goodIn_r _ [862, 18, 121, 286, 287, 288, 17, 289, 268, 41, 125, 126, 2, 127, 863, 864, 865, 866, 251, 867, 847, 868, 848, 869, 870, 290, 291, 292, 293, 294, 254, 295, 296, 143, 144, 145, 146, 132, 128, 129, 130, 131, 133, 1003, 1004, 1005, 1006, 1007, 1008, 1009, 1052, 1053, 1054, 1055, 1100, 1101, 1098, 1099, 1096, 1097] (by decide +kernel) (by decide +kernel)
set_option maxRecDepth 20000 in
theorem gL_law_X11_as : GoodIn wsL_law (wsV RL 105 RX11 yX11_as wsX11_as) := goodIn_app (goodIn_of _ (by decide +kernel)) ggL_law_X11_as
set_option maxRecDepth 20000 in
theorem ggL_law_X12_as : GoodIn wsL_law wsX12_as := goodIn_r _ [874, 151, 473, 153, 154, 97, 315, 316, 317, 5, 318, 279, 159, 160, 161, 855, 856, 857, 858, 98, 99, 162, 163, 164, 165, 166, 1010, 1011, 1012, 1013, 1014, 1015, 1016, 1017, 1018, 1019, 1020, 1021, 1022, 1023, 1024, 1025, 1026, 1027, 1028, 1029, 1030, 1031, 1032, 1033, 1034, 1035, 1036, 1037, 1038, 1039, 1040, 1041, 1042, 1043, 1044, 1045, 1046, 1047, 1048, 1049, 1050, 1051] (by decide +kernel) (by decide +kernel)
set_option maxRecDepth 20000 in
theorem gL_law_X12_as : GoodIn wsL_law (wsV RL 108 RX12 yX12_as wsX12_as) := goodIn_app (goodIn_of _ (by decide +kernel)) ggL_law_X12_as
set_option maxRecDepth 20000 in
theorem ggL_law_X11_ask : GoodIn wsL_law wsX11_ask := goodIn_r _ [878, 18, 121, 34, 879, 286, 287, 288, 17, 289, 268, 41, 125, 126, 2, 127, 880, 881, 882, 883, 884, 244, 885, 886, 887, 888, 33, 889, 890, 84, 891, 892, 893, 251, 894, 895, 340, 291, 292, 293, 294, 254, 295, 296, 896, 897, 898, 899, 900, 901, 902, 300, 301, 903, 904, 905, 906, 307, 308, 255, 907, 346, 347, 348, 349, 350, 351, 352, 353, 354, 908, 909, 241, 910, 911, 912, 913, 914, 915, 916, 238, 917, 918, 919, 920, 921, 922, 923, 924, 925, 926, 927, 928, 298, 299, 302, 303, 929, 930, 931, 932, 933, 934, 935, 936, 937, 938, 939, 940, 941, 942, 1003, 1004, 1005, 1006, 1007, 1008, 1009, 1084, 1085, 1052, 1053, 1054, 1055, 1100, 1101, 1098, 1099, 1096, 1097] (by decide +kernel) (by decide +kernel)
set_option maxRecDepth 20000 in
theorem gL_law_X11_ask : GoodIn wsL_law (wsV RL 109 RX11 yX11_ask wsX11_ask) := goodIn_app (goodIn_of _ (by decide +kernel)) ggL_law_X11_ask
set_option maxRecDepth 20000 in
theorem ggL_law_X12_ask : GoodIn wsL_law wsX12_ask := goodIn_r _ [946, 151, 153, 947, 315, 316, 317, 5, 318, 279, 159, 160, 161, 948, 949, 950, 951, 97, 98, 99, 855, 856, 857, 858, 952, 953, 954, 955, 116, 372, 373, 374, 375, 376, 377, 956, 957, 958, 959, 1010, 1011, 1012, 1013, 1014, 1015, 1016, 1017, 1018, 1019, 1020, 1021, 1022, 1023, 1024, 1025, 1026, 1027, 1028, 1029, 1030, 1031, 1032, 1033, 1034, 1035, 1036, 1037, 1038, 1039, 1040, 1041, 1042, 1043, 1044, 1045, 1046, 1047, 1048, 1049, 1050, 1051] (by decide +kernel) (by decide +kernel)
set_option maxRecDepth 20000 in
theorem gL_law_X12_ask : GoodIn wsL_law (wsV RL 112 RX12 yX12_ask wsX12_ask) := goodIn_app (goodIn_of _ (by decide +kernel)) ggL_law_X12_ask
set_option maxRecDepth 20000 in
theorem ggL_law_X11_trace : GoodIn wsL_law wsX11_trace := goodIn_r _ [963, 34, 879, 964, 427, 125, 126, 2, 127, 1003, 1004, 1005, 1006, 1007, 1008, 1009, 1084, 1085] (by decide +kernel) (by decide +kernel)
set_option maxRecDepth 20000 in
theorem gL_law_X11_trace : GoodIn wsL_law (wsV RL 113 RX11 yX11_trace wsX11_trace) := goodIn_app (goodIn_of _ (by decide +kernel)) ggL_law_X11_trace
set_option maxRecDepth 20000 in
theorem ggL_law_X12_trace : GoodIn wsL_law wsX12_trace := goodIn_r _ [968, 151, 947, 116, 422, 159, 160, 5, 161, 1010, 1011, 1012, 1013, 1014, 1015, 1016, 1017, 1018, 1019, 1020, 1021, 1022, 1023, 1024, 1025, 1026, 1027, 1028, 1029, 1030, 1031, 1032, 1033, 1034, 1035, 1036, 1037, 1038, 1039, 1040, 1041, 1042, 1043, 1044, 1045, 1046, 1047, 1048, 1049, 1050, 1051] (by decide +kernel) (by decide +kernel)
set_option maxRecDepth 20000 in
theorem gL_law_X12_trace : GoodIn wsL_law (wsV RL 116 RX12 yX12_trace wsX12_trace) := goodIn_app (goodIn_of _ (by decide +kernel)) ggL_law_X12_trace
set_option maxRecDepth 20000 in
theorem ggL_law_X11_count : GoodIn wsL_law wsX11_count := goodIn_r _ [972, 18, 223, 26, 30, 973, 650, 121, 974, 975, 976, 2, 977, 14, 171, 172, 173, 36, 174, 89, 978, 979, 980, 17, 981, 268, 334, 287, 288, 289, 41, 343, 291, 292, 293, 251, 294, 254, 295, 296, 982, 983, 984, 985, 986, 987, 988, 989, 25, 990, 65, 1003, 1004, 1005, 1006, 1007, 1008, 1009, 1052, 1053, 1054, 1055, 1074, 1075, 1076, 1077, 1078, 1079, 1080, 1081, 1082, 1083, 1086, 1087, 1088, 1100, 1101, 1098, 1099, 1096, 1097, 1061, 1062, 1063, 1064, 1065, 1066, 1067, 1068, 1069, 1070, 1071, 1072, 1073] (by decide +kernel) (by decide +kernel)
set_option maxRecDepth 20000 in
theorem gL_law_X11_count : GoodIn wsL_law (wsV RL 117 RX11 yX11_count wsX11_count) := goodIn_app (goodIn_of _ (by decide +kernel)) ggL_law_X11_count
set_option maxRecDepth 20000 in
theorem ggL_law_X12_count : GoodIn wsL_law wsX12_count := goodIn_r _ [994, 151, 94, 279, 97, 104, 765, 660, 153, 855, 856, 857, 5, 858, 98, 99, 1010, 1011, 1012, 1013, 1014, 1015, 1016, 1017, 1018, 1019, 1020, 1021, 1022, 1023, 1024, 1025, 1026, 1027, 1028, 1029, 1030, 1031, 1032, 1033, 1034, 1035, 1036, 1037, 1038, 1039, 1040, 1041, 1042, 1043, 1044, 1045, 1046, 1047, 1048, 1049, 1050, 1051] (by decide +kernel) (by decide +kernel)
set_option maxRecDepth 20000 in
theorem gL_law_X12_count : GoodIn wsL_law (wsV RL 120 RX12 yX12_count wsX12_count) := goodIn_app (goodIn_of _ (by decide +kernel)) ggL_law_X12_count
set_option maxRecDepth 20000 in
theorem ggL_law_X11_status : GoodIn wsL_law wsX11_status := goodIn_r _ [998, 132, 1003, 1004, 1005, 1006, 1007, 1008, 1009] (by decide +kernel) (by decide +kernel)
set_option maxRecDepth 20000 in
theorem gL_law_X11_status : GoodIn wsL_law (wsV RL 121 RX11 yX11_status wsX11_status) := goodIn_app (goodIn_of _ (by decide +kernel)) ggL_law_X11_status
set_option maxRecDepth 20000 in
theorem ggL_law_X12_status : GoodIn wsL_law wsX12_status := goodIn_r _ [1002, 151, 154, 1010, 1011, 1012, 1013, 1014, 1015, 1016, 1017, 1018, 1019, 1020, 1021, 1022, 1023, 1024, 1025, 1026, 1027, 1028, 1029, 1030, 1031, 1032, 1033, 1034, 1035, 1036, 1037, 1038, 1039, 1040, 1041, 1042, 1043, 1044, 1045, 1046, 1047, 1048, 1049, 1050, 1051] (by decide +kernel) (by decide +kernel)
set_option maxRecDepth 20000 in
theorem gL_law_X12_status : GoodIn wsL_law (wsV RL 124 RX12 yX12_status wsX12_status) := goodIn_app (goodIn_of _ (by decide +kernel)) ggL_law_X12_status
