set_option maxRecDepth 20000 in
theorem ggL_law_X4_text : GoodIn wsL_law wsX4_text := goodIn_r _ [786, 16, 15, 22, 495, 496, 497, 14, 498, 33, 499, 500, 501, 502, 34, 35, 36, 37, 38, 39, 40, 787, 788, 789, 21, 790, 52, 50, 51, 791, 792, 793, 794, 49, 48, 53, 769, 358, 320, 359, 95, 2, 96, 795, 796, 797, 798, 799, 800, 801, 802, 803, 804, 214, 805, 806, 807, 808, 809, 810, 811, 812, 813, 814, 815, 816, 817, 818, 819, 820, 821, 822, 823, 824, 825, 826, 827, 828, 829, 830, 831, 832, 833, 834, 835, 836, 837, 838, 839, 840, 841, 842, 843, 844, 845, 846, 847, 848, 849, 850, 851, 852, 853, 854, 855, 856, 857, 858, 859, 860, 861, 862, 863, 864, 865, 866, 85, 86, 867, 868, 869, 870, 871, 142, 143, 144, 145, 146, 147, 148, 101, 102, 872, 873, 874, 875, 876, 877, 175, 176, 177, 178, 179, 180, 181, 878, 879, 880, 881, 882, 98, 99, 100, 1092, 1093, 1094, 1095, 1096, 1097, 1098, 1128, 1129, 1130, 1131, 1132, 1133, 1120, 1121, 1122, 1123, 1124, 1125, 1126, 1127] (by decide +kernel) (by decide +kernel)
set_option maxRecDepth 20000 in
theorem gL_law_X4_text : GoodIn wsL_law (wsV RL 134 RX4 yX4_text wsX4_text) := goodIn_app (goodIn_of _ (by decide +kernel)) ggL_law_X4_text
set_option maxRecDepth 20000 in
theorem ggL_law_X5_text : GoodIn wsL_law wsX5_text := goodIn_r _ [886, 887, 888, 889, 64, 890, 891, 892, 68, 893, 774, 894, 895, 896, 5, 897, 898, 402, 358, 320, 359, 899, 900, 901, 902, 111, 112, 113, 903, 904, 905, 906, 70, 907, 908, 909, 910, 911, 811, 812, 813, 814, 815, 816, 817, 818, 819, 820, 821, 912, 823, 824, 825, 826, 827, 828, 829, 830, 831, 832, 833, 834, 835, 836, 837, 838, 839, 840, 841, 842, 843, 844, 845, 846, 847, 848, 849, 850, 851, 852, 853, 854, 855, 856, 857, 858, 913, 914, 915, 916, 917, 918, 919, 920, 921, 922, 923, 924, 925, 926, 927, 928, 929, 930, 931, 932, 71, 933, 934, 935, 936, 937, 938, 939, 940, 189, 190, 191, 192, 193, 194, 195, 163, 164, 165, 166, 167, 168, 169, 1099, 1100, 1101, 1102, 1103, 1104, 1105, 1106, 1107, 1108, 1109, 1110, 1111, 1112, 1113, 1114, 1115, 1116, 1117, 1118, 1119] (by decide +kernel) (by decide +kernel)
set_option maxRecDepth 20000 in
theorem gL_law_X5_text : GoodIn wsL_law (wsV RL 137 RX5 yX5_text wsX5_text) := goodIn_app (goodIn_of _ (by decide +kernel)) ggL_law_X5_text
set_option maxRecDepth 20000 in
theorem ggL_law_X4_hold : GoodIn wsL_law wsX4_hold := goodIn_r _ [944, 15, 80, 84, 85, 2, 86, 200, 201, 202, 14, 203, 37, 87, 88, 89, 90, 28, 945, 946, 947, 948, 34, 101, 102, 1092, 1093, 1094, 1095, 1096, 1097, 1098, 1120, 1121, 1122, 1123, 1124, 1125, 1126, 1127] (by decide +kernel) (by decide +kernel)
set_option maxRecDepth 20000 in
theorem gL_law_X4_hold : GoodIn wsL_law (wsV RL 138 RX4 yX4_hold wsX4_hold) := goodIn_app (goodIn_of _ (by decide +kernel)) ggL_law_X4_hold
set_option maxRecDepth 20000 in
theorem ggL_law_X5_hold : GoodIn wsL_law wsX5_hold := goodIn_r _ [952, 107, 64, 953, 954, 5, 955, 111, 112, 113, 229, 230, 231, 232, 118, 119, 120, 121, 67, 1099, 1100, 1101, 1102, 1103, 1104, 1105, 1106, 1107, 1108, 1109, 1110, 1111, 1112, 1113, 1114, 1115, 1116, 1117, 1118, 1119] (by decide +kernel) (by decide +kernel)
set_option maxRecDepth 20000 in
theorem gL_law_X5_hold : GoodIn wsL_law (wsV RL 141 RX5 yX5_hold wsX5_hold) := goodIn_app (goodIn_of _ (by decide +kernel)) ggL_law_X5_hold
set_option maxRecDepth 20000 in
theorem ggL_law_X4_as : GoodIn wsL_law wsX4_as := goodIn_r _ [959, 80, 15, 667, 960, 84, 85, 2, 86, 135, 136, 137, 87, 88, 89, 90, 28, 961, 962, 963, 14, 964, 34, 95, 96, 263, 209, 210, 211, 35, 965, 966, 214, 967, 968, 969, 970, 1092, 1093, 1094, 1095, 1096, 1097, 1098, 1120, 1121, 1122, 1123, 1124, 1125, 1126, 1127] (by decide +kernel) (by decide +kernel)
set_option maxRecDepth 20000 in
theorem gL_law_X4_as : GoodIn wsL_law (wsV RL 142 RX4 yX4_as wsX4_as) := goodIn_app (goodIn_of _ (by decide +kernel)) ggL_law_X4_as
set_option maxRecDepth 20000 in
theorem ggL_law_X5_as : GoodIn wsL_law wsX5_as := goodIn_r _ [974, 107, 64, 700, 975, 953, 954, 5, 955, 111, 112, 113, 154, 155, 156, 118, 119, 120, 121, 67, 241, 242, 243, 244, 167, 168, 169, 976, 977, 978, 979, 980, 981, 1099, 1100, 1101, 1102, 1103, 1104, 1105, 1106, 1107, 1108, 1109, 1110, 1111, 1112, 1113, 1114, 1115, 1116, 1117, 1118, 1119] (by decide +kernel) (by decide +kernel)
set_option maxRecDepth 20000 in
theorem gL_law_X5_as : GoodIn wsL_law (wsV RL 145 RX5 yX5_as wsX5_as) := goodIn_app (goodIn_of _ (by decide +kernel)) ggL_law_X5_as
set_option maxRecDepth 20000 in
theorem ggL_law_X4_sheet : GoodIn wsL_law wsX4_sheet := goodIn_r _ [985, 80, 986, 26, 668, 669, 2, 670, 84, 85, 86, 87, 88, 89, 90, 28, 987, 988, 989, 25, 990, 57, 58, 59, 101, 102, 1092, 1093, 1094, 1095, 1096, 1097, 1098, 1134, 1135, 1136] (by decide +kernel) (by decide +kernel)
set_option maxRecDepth 20000 in
theorem gL_law_X4_sheet : GoodIn wsL_law (wsV RL 146 RX4 yX4_sheet wsX4_sheet) := goodIn_app (goodIn_of _ (by decide +kernel)) ggL_law_X4_sheet
set_option maxRecDepth 20000 in
theorem ggL_law_X5_sheet : GoodIn wsL_law wsX5_sheet := goodIn_r _ [994, 107, 995, 72, 73, 74, 701, 702, 5, 703, 111, 112, 113, 118, 119, 120, 121, 67, 1099, 1100, 1101, 1102, 1103, 1104, 1105, 1106, 1107, 1108, 1109, 1110, 1111, 1112, 1113, 1114, 1115, 1116, 1117, 1118, 1119] (by decide +kernel) (by decide +kernel)
set_option maxRecDepth 20000 in
theorem gL_law_X5_sheet : GoodIn wsL_law (wsV RL 149 RX5 yX5_sheet wsX5_sheet) := goodIn_app (goodIn_of _ (by decide +kernel)) ggL_law_X5_sheet
set_option maxRecDepth 20000 in
theorem ggL_law_X4_write : GoodIn wsL_law wsX4_write := goodIn_r _ [999, 26, 80, 663, 664, 665, 2, 666, 667, 668, 669, 670, 84, 85, 86, 671, 672, 673, 25, 674, 675, 676, 677, 678, 57, 95, 96, 87, 88, 89, 90, 28, 684, 685, 686, 687, 58, 1000, 1001, 1002, 1003, 59, 101, 102, 1092, 1093, 1094, 1095, 1096, 1097, 1098, 1134, 1135, 1136] (by decide +kernel) (by decide +kernel)
set_option maxRecDepth 20000 in
theorem gL_law_X4_write : GoodIn wsL_law (wsV RL 150 RX4 yX4_write wsX4_write) := goodIn_app (goodIn_of _ (by decide +kernel)) ggL_law_X4_write
set_option maxRecDepth 20000 in
theorem ggL_law_X5_write : GoodIn wsL_law wsX5_write := goodIn_r _ [1007, 107, 72, 700, 73, 74, 701, 702, 5, 703, 111, 112, 113, 118, 119, 120, 121, 67, 1008, 1009, 1010, 1099, 1100, 1101, 1102, 1103, 1104, 1105, 1106, 1107, 1108, 1109, 1110, 1111, 1112, 1113, 1114, 1115, 1116, 1117, 1118, 1119] (by decide +kernel) (by decide +kernel)
set_option maxRecDepth 20000 in
theorem gL_law_X5_write : GoodIn wsL_law (wsV RL 153 RX5 yX5_write wsX5_write) := goodIn_app (goodIn_of _ (by decide +kernel)) ggL_law_X5_write
set_option maxRecDepth 20000 in
theorem ggL_law_X4_copy : GoodIn wsL_law wsX4_copy := goodIn_r _ [1014, 80, 26, 667, 960, 668, 669, 2, 670, 84, 85, 86, 87, 88, 89, 90, 28, 671, 672, 673, 25, 674, 675, 676, 677, 678, 57, 95, 96, 1015, 1016, 1017, 1018, 1019, 1020, 685, 686, 687, 58, 1021, 1022, 1023, 1024, 59, 1025, 500, 501, 502, 1026, 1092, 1093, 1094, 1095, 1096, 1097, 1098, 1134, 1135, 1136] (by decide +kernel) (by decide +kernel)
set_option maxRecDepth 20000 in
theorem gL_law_X4_copy : GoodIn wsL_law (wsV RL 154 RX4 yX4_copy wsX4_copy) := goodIn_app (goodIn_of _ (by decide +kernel)) ggL_law_X4_copy
set_option maxRecDepth 20000 in
theorem ggL_law_X5_copy : GoodIn wsL_law wsX5_copy := goodIn_r _ [1030, 107, 72, 700, 975, 73, 75, 74, 701, 702, 5, 703, 111, 112, 113, 118, 119, 120, 121, 67, 1099, 1100, 1101, 1102, 1103, 1104, 1105, 1106, 1107, 1108, 1109, 1110, 1111, 1112, 1113, 1114, 1115, 1116, 1117, 1118, 1119] (by decide +kernel) (by decide +kernel)
set_option maxRecDepth 20000 in
theorem gL_law_X5_copy : GoodIn wsL_law (wsV RL 158 RX5 yX5_copy wsX5_copy) := goodIn_app (goodIn_of _ (by decide +kernel)) ggL_law_X5_copy
