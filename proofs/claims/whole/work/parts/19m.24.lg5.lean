set_option maxRecDepth 20000 in
theorem ggL_law_X4_kinds : GoodIn wsL_law wsX4_kinds := goodIn_r _ [711, 659, 660, 661, 2, 662, 15, 80, 663, 664, 665, 666, 26, 667, 668, 669, 670, 84, 85, 86, 671, 672, 673, 25, 674, 675, 676, 677, 678, 57, 95, 96, 200, 201, 202, 14, 203, 37, 87, 88, 89, 90, 28, 679, 680, 681, 682, 16, 683, 358, 320, 359, 495, 496, 497, 498, 33, 499, 500, 501, 502, 34, 35, 36, 38, 39, 40, 264, 146, 147, 148, 101, 102, 263, 209, 210, 211, 684, 685, 686, 687, 58, 688, 689, 690, 691, 59, 314, 315, 316, 317, 318, 319, 321, 322, 323, 324, 325, 208, 326, 327, 328, 329, 330, 331, 332, 216, 217, 214, 218, 212, 213, 215, 333, 334, 335, 352, 353, 354, 355, 356, 357, 360, 361, 362, 363, 364, 281, 282, 283, 365, 366, 367, 368, 369, 178, 179, 180, 181, 370, 371, 372, 373, 374, 92, 93, 94, 375, 376, 377, 378, 379, 222, 223, 224, 145, 380, 381, 382, 383, 219, 220, 221, 1092, 1093, 1094, 1095, 1096, 1097, 1098, 1134, 1135, 1136, 1120, 1121, 1122, 1123, 1124, 1125, 1126, 1127] (by decide +kernel) (by decide +kernel)
set_option maxRecDepth 20000 in
theorem gL_law_X4_kinds : GoodIn wsL_law (wsV RL 109 RX4 yX4_kinds wsX4_kinds) := goodIn_app (goodIn_of _ (by decide +kernel)) ggL_law_X4_kinds
set_option maxRecDepth 20000 in
theorem ggL_law_X5_kinds : GoodIn wsL_law wsX5_kinds := goodIn_r _ [715, 64, 229, 230, 231, 5, 232, 111, 112, 113, 696, 697, 698, 699, 107, 72, 700, 701, 702, 703, 118, 119, 120, 121, 67, 167, 168, 169, 241, 242, 243, 244, 704, 705, 706, 707, 66, 73, 74, 507, 508, 509, 340, 341, 342, 343, 344, 331, 320, 332, 345, 319, 321, 245, 246, 247, 248, 237, 238, 239, 240, 398, 399, 400, 401, 402, 358, 359, 392, 292, 293, 294, 295, 193, 194, 195, 403, 404, 405, 406, 407, 408, 409, 410, 411, 412, 413, 414, 415, 416, 417, 418, 419, 420, 421, 422, 253, 254, 255, 256, 249, 250, 251, 252, 1099, 1100, 1101, 1102, 1103, 1104, 1105, 1106, 1107, 1108, 1109, 1110, 1111, 1112, 1113, 1114, 1115, 1116, 1117, 1118, 1119] (by decide +kernel) (by decide +kernel)
set_option maxRecDepth 20000 in
theorem gL_law_X5_kinds : GoodIn wsL_law (wsV RL 112 RX5 yX5_kinds wsX5_kinds) := goodIn_app (goodIn_of _ (by decide +kernel)) ggL_law_X5_kinds
set_option maxRecDepth 20000 in
theorem ggL_law_X4_committee : GoodIn wsL_law wsX4_committee := goodIn_r _ [719, 80, 15, 350, 351, 84, 85, 2, 86, 87, 88, 89, 90, 28, 720, 371, 372, 14, 373, 39, 721, 722, 723, 724, 40, 725, 97, 98, 99, 100, 33, 101, 102, 726, 727, 728, 729, 357, 358, 320, 359, 379, 201, 202, 203, 37, 208, 209, 210, 211, 35, 145, 146, 147, 148, 352, 353, 354, 355, 38, 356, 360, 361, 362, 363, 364, 281, 282, 283, 36, 95, 96, 365, 366, 367, 368, 369, 315, 316, 317, 318, 319, 321, 322, 323, 324, 325, 326, 327, 328, 329, 330, 331, 332, 216, 217, 214, 218, 212, 213, 215, 333, 334, 335, 178, 179, 180, 181, 370, 374, 92, 93, 94, 375, 376, 377, 378, 222, 223, 224, 380, 381, 382, 383, 219, 220, 221, 384, 385, 386, 387, 1092, 1093, 1094, 1095, 1096, 1097, 1098, 1120, 1121, 1122, 1123, 1124, 1125, 1126, 1127] (by decide +kernel) (by decide +kernel)
set_option maxRecDepth 20000 in
theorem gL_law_X4_committee : GoodIn wsL_law (wsV RL 113 RX4 yX4_committee wsX4_committee) := goodIn_app (goodIn_of _ (by decide +kernel)) ggL_law_X4_committee
set_option maxRecDepth 20000 in
theorem ggL_law_X5_committee : GoodIn wsL_law wsX5_committee := goodIn_r _ [733, 107, 64, 392, 393, 111, 112, 5, 113, 118, 119, 120, 121, 67, 734, 735, 736, 737, 738, 415, 416, 417, 418, 229, 230, 231, 232, 167, 168, 169, 407, 408, 409, 410, 402, 358, 320, 359, 398, 399, 400, 401, 345, 319, 321, 292, 293, 294, 295, 193, 194, 195, 403, 404, 405, 406, 340, 341, 342, 343, 344, 331, 332, 241, 242, 243, 244, 245, 246, 247, 248, 237, 238, 239, 240, 411, 412, 413, 414, 419, 420, 421, 422, 253, 254, 255, 256, 249, 250, 251, 252, 423, 424, 425, 426, 1099, 1100, 1101, 1102, 1103, 1104, 1105, 1106, 1107, 1108, 1109, 1110, 1111, 1112, 1113, 1114, 1115, 1116, 1117, 1118, 1119] (by decide +kernel) (by decide +kernel)
set_option maxRecDepth 20000 in
theorem gL_law_X5_committee : GoodIn wsL_law (wsV RL 116 RX5 yX5_committee wsX5_committee) := goodIn_app (goodIn_of _ (by decide +kernel)) ggL_law_X5_committee
set_option maxRecDepth 20000 in
theorem ggL_law_X4_odds : GoodIn wsL_law wsX4_odds := goodIn_r _ [742, 15, 80, 743, 744, 276, 277, 278, 14, 279, 38, 85, 2, 86, 84, 87, 88, 89, 90, 28, 745, 746, 747, 748, 455, 456, 457, 458, 364, 281, 282, 283, 36, 95, 96, 369, 315, 316, 317, 37, 318, 319, 320, 321, 322, 323, 324, 325, 208, 209, 210, 211, 35, 326, 327, 328, 329, 330, 331, 332, 216, 217, 214, 218, 212, 213, 215, 333, 334, 335, 1092, 1093, 1094, 1095, 1096, 1097, 1098, 1120, 1121, 1122, 1123, 1124, 1125, 1126, 1127] (by decide +kernel) (by decide +kernel)
set_option maxRecDepth 20000 in
theorem gL_law_X4_odds : GoodIn wsL_law (wsV RL 117 RX4 yX4_odds wsX4_odds) := goodIn_app (goodIn_of _ (by decide +kernel)) ggL_law_X4_odds
set_option maxRecDepth 20000 in
theorem ggL_law_X5_odds : GoodIn wsL_law wsX5_odds := goodIn_r _ [752, 107, 288, 289, 290, 5, 291, 64, 111, 112, 113, 118, 119, 120, 121, 67, 403, 404, 405, 406, 292, 293, 294, 295, 193, 194, 195, 340, 341, 342, 343, 344, 331, 320, 332, 345, 319, 321, 241, 242, 243, 244, 167, 168, 169, 245, 246, 247, 248, 237, 238, 239, 240, 1099, 1100, 1101, 1102, 1103, 1104, 1105, 1106, 1107, 1108, 1109, 1110, 1111, 1112, 1113, 1114, 1115, 1116, 1117, 1118, 1119] (by decide +kernel) (by decide +kernel)
set_option maxRecDepth 20000 in
theorem gL_law_X5_odds : GoodIn wsL_law (wsV RL 121 RX5 yX5_odds wsX5_odds) := goodIn_app (goodIn_of _ (by decide +kernel)) ggL_law_X5_odds
set_option maxRecDepth 20000 in
theorem ggL_law_X4_seed : GoodIn wsL_law wsX4_seed := goodIn_r _ [756, 15, 1092, 1093, 1094, 1095, 1096, 1097, 1098, 1120, 1121, 1122, 1123, 1124, 1125, 1126, 1127] (by decide +kernel) (by decide +kernel)
set_option maxRecDepth 20000 in
theorem gL_law_X4_seed : GoodIn wsL_law (wsV RL 122 RX4 yX4_seed wsX4_seed) := goodIn_app (goodIn_of _ (by decide +kernel)) ggL_law_X4_seed
set_option maxRecDepth 20000 in
theorem ggL_law_X5_seed : GoodIn wsL_law wsX5_seed := goodIn_r _ [760, 114, 115, 116, 5, 117, 64, 1099, 1100, 1101, 1102, 1103, 1104, 1105, 1106, 1107, 1108, 1109, 1110, 1111, 1112, 1113, 1114, 1115, 1116, 1117, 1118, 1119] (by decide +kernel) (by decide +kernel)
set_option maxRecDepth 20000 in
theorem gL_law_X5_seed : GoodIn wsL_law (wsV RL 125 RX5 yX5_seed wsX5_seed) := goodIn_app (goodIn_of _ (by decide +kernel)) ggL_law_X5_seed
set_option maxRecDepth 20000 in
theorem ggL_law_X4_feed : GoodIn wsL_law wsX4_feed := goodIn_r _ [764, 80, 22, 134, 84, 85, 2, 86, 87, 88, 89, 90, 28, 765, 766, 767, 21, 768, 48, 49, 769, 358, 320, 359, 101, 102, 1092, 1093, 1094, 1095, 1096, 1097, 1098, 1128, 1129, 1130, 1131, 1132, 1133] (by decide +kernel) (by decide +kernel)
set_option maxRecDepth 20000 in
theorem gL_law_X4_feed : GoodIn wsL_law (wsV RL 126 RX4 yX4_feed wsX4_feed) := goodIn_app (goodIn_of _ (by decide +kernel)) ggL_law_X4_feed
set_option maxRecDepth 20000 in
theorem ggL_law_X5_feed : GoodIn wsL_law wsX5_feed := goodIn_r _ [773, 107, 774, 153, 68, 111, 112, 5, 113, 118, 119, 120, 121, 67, 1099, 1100, 1101, 1102, 1103, 1104, 1105, 1106, 1107, 1108, 1109, 1110, 1111, 1112, 1113, 1114, 1115, 1116, 1117, 1118, 1119] (by decide +kernel) (by decide +kernel)
set_option maxRecDepth 20000 in
theorem gL_law_X5_feed : GoodIn wsL_law (wsV RL 129 RX5 yX5_feed wsX5_feed) := goodIn_app (goodIn_of _ (by decide +kernel)) ggL_law_X5_feed
set_option maxRecDepth 20000 in
theorem ggL_law_X4_wipe : GoodIn wsL_law wsX4_wipe := goodIn_r _ [778, 22, 1092, 1093, 1094, 1095, 1096, 1097, 1098, 1128, 1129, 1130, 1131, 1132, 1133] (by decide +kernel) (by decide +kernel)
set_option maxRecDepth 20000 in
theorem gL_law_X4_wipe : GoodIn wsL_law (wsV RL 130 RX4 yX4_wipe wsX4_wipe) := goodIn_app (goodIn_of _ (by decide +kernel)) ggL_law_X4_wipe
set_option maxRecDepth 20000 in
theorem ggL_law_X5_wipe : GoodIn wsL_law wsX5_wipe := goodIn_r _ [782, 774, 1099, 1100, 1101, 1102, 1103, 1104, 1105, 1106, 1107, 1108, 1109, 1110, 1111, 1112, 1113, 1114, 1115, 1116, 1117, 1118, 1119] (by decide +kernel) (by decide +kernel)
set_option maxRecDepth 20000 in
theorem gL_law_X5_wipe : GoodIn wsL_law (wsV RL 133 RX5 yX5_wipe wsX5_wipe) := goodIn_app (goodIn_of _ (by decide +kernel)) ggL_law_X5_wipe
