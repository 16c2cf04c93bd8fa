set_option maxRecDepth 20000 in
theorem ggL_law_X4_init : GoodIn wsL_law wsX4_init := goodIn_r _ [8, 9, 10, 11, 12, 13, 14, 15, 16, 17, 18, 19, 20, 21, 22, 23, 24, 25, 26, 27, 28, 29, 30, 31, 32, 33, 34, 35, 36, 37, 38, 39, 40, 41, 42, 43, 44, 45, 46, 47, 48, 49, 50, 51, 52, 53, 54, 55, 56, 57, 58, 59, 1120, 1121, 1122, 1123, 1124, 1125, 1126, 1127, 1092, 1093, 1094, 1095, 1096, 1097, 1098, 1128, 1129, 1130, 1131, 1132, 1133, 1134, 1135, 1136] (by decide +kernel) (by decide +kernel)
set_option maxRecDepth 20000 in
theorem gL_law_X4_init : GoodIn wsL_law (wsX4_init) := ggL_law_X4_init
set_option maxRecDepth 20000 in
theorem ggL_law_X5_init : GoodIn wsL_law wsX5_init := goodIn_r _ [62, 63, 10, 11, 27, 64, 65, 66, 67, 68, 69, 70, 71, 72, 73, 74, 75, 1099, 1100, 1101, 1102, 1103, 1104, 1105, 1106, 1107, 1108, 1109, 1110, 1111, 1112, 1113, 1114, 1115, 1116, 1117, 1118, 1119] (by decide +kernel) (by decide +kernel)
set_option maxRecDepth 20000 in
theorem gL_law_X5_init : GoodIn wsL_law (wsX5_init) := ggL_law_X5_init
set_option maxRecDepth 20000 in
theorem ggL_law_X4_list : GoodIn wsL_law wsX4_list := goodIn_r _ [79, 80, 15, 81, 82, 2, 83, 84, 85, 86, 87, 88, 89, 90, 28, 91, 92, 93, 14, 94, 33, 95, 96, 97, 98, 99, 100, 101, 102, 1092, 1093, 1094, 1095, 1096, 1097, 1098, 1120, 1121, 1122, 1123, 1124, 1125, 1126, 1127] (by decide +kernel) (by decide +kernel)
set_option maxRecDepth 20000 in
theorem gL_law_X4_list : GoodIn wsL_law (wsV RL 13 RX4 yX4_list wsX4_list) := goodIn_app (goodIn_of _ (by decide +kernel)) ggL_law_X4_list
set_option maxRecDepth 20000 in
theorem ggL_law_X5_list : GoodIn wsL_law wsX5_list := goodIn_r _ [106, 107, 108, 109, 5, 110, 111, 112, 113, 114, 115, 116, 117, 64, 118, 119, 120, 121, 67, 1099, 1100, 1101, 1102, 1103, 1104, 1105, 1106, 1107, 1108, 1109, 1110, 1111, 1112, 1113, 1114, 1115, 1116, 1117, 1118, 1119] (by decide +kernel) (by decide +kernel)
set_option maxRecDepth 20000 in
theorem gL_law_X5_list : GoodIn wsL_law (wsV RL 17 RX5 yX5_list wsX5_list) := goodIn_app (goodIn_of _ (by decide +kernel)) ggL_law_X5_list
set_option maxRecDepth 20000 in
theorem ggL_law_X4_listed : GoodIn wsL_law wsX4_listed := goodIn_r _ [125, 15, 80, 81, 82, 2, 83, 84, 85, 86, 91, 92, 93, 14, 94, 33, 95, 96, 87, 88, 89, 90, 28, 1092, 1093, 1094, 1095, 1096, 1097, 1098, 1120, 1121, 1122, 1123, 1124, 1125, 1126, 1127] (by decide +kernel) (by decide +kernel)
set_option maxRecDepth 20000 in
theorem gL_law_X4_listed : GoodIn wsL_law (wsV RL 18 RX4 yX4_listed wsX4_listed) := goodIn_app (goodIn_of _ (by decide +kernel)) ggL_law_X4_listed
set_option maxRecDepth 20000 in
theorem ggL_law_X5_listed : GoodIn wsL_law wsX5_listed := goodIn_r _ [129, 64, 107, 108, 109, 5, 110, 111, 112, 113, 118, 119, 120, 121, 67, 1099, 1100, 1101, 1102, 1103, 1104, 1105, 1106, 1107, 1108, 1109, 1110, 1111, 1112, 1113, 1114, 1115, 1116, 1117, 1118, 1119] (by decide +kernel) (by decide +kernel)
set_option maxRecDepth 20000 in
theorem gL_law_X5_listed : GoodIn wsL_law (wsV RL 22 RX5 yX5_listed wsX5_listed) := goodIn_app (goodIn_of _ (by decide +kernel)) ggL_law_X5_listed
set_option maxRecDepth 20000 in
theorem ggL_law_X4_saying : GoodIn wsL_law wsX4_saying := goodIn_r _ [133, 80, 15, 134, 135, 136, 2, 137, 84, 85, 86, 138, 139, 140, 87, 88, 89, 90, 28, 141, 142, 143, 14, 144, 37, 145, 146, 147, 148, 35, 101, 102, 1092, 1093, 1094, 1095, 1096, 1097, 1098, 1120, 1121, 1122, 1123, 1124, 1125, 1126, 1127] (by decide +kernel) (by decide +kernel)
set_option maxRecDepth 20000 in
theorem gL_law_X4_saying : GoodIn wsL_law (wsV RL 23 RX4 yX4_saying wsX4_saying) := goodIn_app (goodIn_of _ (by decide +kernel)) ggL_law_X4_saying
set_option maxRecDepth 20000 in
theorem ggL_law_X5_saying : GoodIn wsL_law wsX5_saying := goodIn_r _ [152, 107, 64, 153, 154, 155, 5, 156, 111, 112, 113, 157, 158, 159, 160, 161, 162, 118, 119, 120, 121, 67, 163, 164, 165, 166, 167, 168, 169, 1099, 1100, 1101, 1102, 1103, 1104, 1105, 1106, 1107, 1108, 1109, 1110, 1111, 1112, 1113, 1114, 1115, 1116, 1117, 1118, 1119] (by decide +kernel) (by decide +kernel)
set_option maxRecDepth 20000 in
theorem gL_law_X5_saying : GoodIn wsL_law (wsV RL 27 RX5 yX5_saying wsX5_saying) := goodIn_app (goodIn_of _ (by decide +kernel)) ggL_law_X5_saying
set_option maxRecDepth 20000 in
theorem ggL_law_X4_ship : GoodIn wsL_law wsX4_ship := goodIn_r _ [173, 80, 15, 134, 138, 139, 2, 140, 84, 85, 86, 87, 88, 89, 90, 28, 174, 175, 176, 14, 177, 38, 178, 179, 180, 181, 36, 101, 102, 1092, 1093, 1094, 1095, 1096, 1097, 1098, 1120, 1121, 1122, 1123, 1124, 1125, 1126, 1127] (by decide +kernel) (by decide +kernel)
set_option maxRecDepth 20000 in
theorem gL_law_X4_ship : GoodIn wsL_law (wsV RL 28 RX4 yX4_ship wsX4_ship) := goodIn_app (goodIn_of _ (by decide +kernel)) ggL_law_X4_ship
set_option maxRecDepth 20000 in
theorem ggL_law_X5_ship : GoodIn wsL_law wsX5_ship := goodIn_r _ [185, 107, 64, 153, 160, 161, 5, 162, 111, 112, 113, 186, 187, 188, 118, 119, 120, 121, 67, 189, 190, 191, 192, 193, 194, 195, 1099, 1100, 1101, 1102, 1103, 1104, 1105, 1106, 1107, 1108, 1109, 1110, 1111, 1112, 1113, 1114, 1115, 1116, 1117, 1118, 1119] (by decide +kernel) (by decide +kernel)
set_option maxRecDepth 20000 in
theorem gL_law_X5_ship : GoodIn wsL_law (wsV RL 31 RX5 yX5_ship wsX5_ship) := goodIn_app (goodIn_of _ (by decide +kernel)) ggL_law_X5_ship
set_option maxRecDepth 20000 in
theorem ggL_law_X4_of : GoodIn wsL_law wsX4_of := goodIn_r _ [199, 15, 80, 200, 201, 202, 14, 203, 37, 85, 2, 86, 84, 87, 88, 89, 90, 28, 204, 205, 206, 207, 39, 208, 209, 210, 211, 35, 212, 213, 214, 215, 216, 217, 218, 219, 220, 221, 222, 223, 224, 1092, 1093, 1094, 1095, 1096, 1097, 1098, 1120, 1121, 1122, 1123, 1124, 1125, 1126, 1127] (by decide +kernel) (by decide +kernel)
set_option maxRecDepth 20000 in
theorem gL_law_X4_of : GoodIn wsL_law (wsV RL 32 RX4 yX4_of wsX4_of) := goodIn_app (goodIn_of _ (by decide +kernel)) ggL_law_X4_of
set_option maxRecDepth 20000 in
theorem ggL_law_X5_of : GoodIn wsL_law wsX5_of := goodIn_r _ [228, 107, 229, 230, 231, 5, 232, 64, 111, 112, 113, 233, 234, 235, 236, 237, 238, 239, 240, 241, 242, 243, 244, 167, 168, 169, 245, 246, 247, 248, 249, 250, 251, 252, 253, 254, 255, 256, 118, 119, 120, 121, 67, 1099, 1100, 1101, 1102, 1103, 1104, 1105, 1106, 1107, 1108, 1109, 1110, 1111, 1112, 1113, 1114, 1115, 1116, 1117, 1118, 1119] (by decide +kernel) (by decide +kernel)
set_option maxRecDepth 20000 in
theorem gL_law_X5_of : GoodIn wsL_law (wsV RL 35 RX5 yX5_of wsX5_of) := goodIn_app (goodIn_of _ (by decide +kernel)) ggL_law_X5_of
