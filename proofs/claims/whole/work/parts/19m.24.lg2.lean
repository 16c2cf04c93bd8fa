set_option maxRecDepth 20000 in
theorem ggL_law_X4_change : GoodIn wsL_law wsX4_change := goodIn_r _ [260, 15, 80, 261, 200, 201, 202, 14, 203, 37, 85, 2, 86, 84, 87, 88, 89, 90, 28, 262, 95, 96, 263, 209, 210, 211, 35, 264, 146, 147, 148, 101, 102, 1092, 1093, 1094, 1095, 1096, 1097, 1098, 1120, 1121, 1122, 1123, 1124, 1125, 1126, 1127] (by decide +kernel) (by decide +kernel)
set_option maxRecDepth 20000 in
theorem gL_law_X4_change : GoodIn wsL_law (wsV RL 36 RX4 yX4_change wsX4_change) := goodIn_app (goodIn_of _ (by decide +kernel)) ggL_law_X4_change
set_option maxRecDepth 20000 in
theorem ggL_law_X5_change : GoodIn wsL_law wsX5_change := goodIn_r _ [268, 107, 229, 230, 231, 5, 232, 64, 111, 112, 113, 269, 270, 271, 154, 155, 156, 160, 161, 162, 157, 158, 159, 167, 168, 169, 114, 115, 116, 117, 118, 119, 120, 121, 67, 1099, 1100, 1101, 1102, 1103, 1104, 1105, 1106, 1107, 1108, 1109, 1110, 1111, 1112, 1113, 1114, 1115, 1116, 1117, 1118, 1119] (by decide +kernel) (by decide +kernel)
set_option maxRecDepth 20000 in
theorem gL_law_X5_change : GoodIn wsL_law (wsV RL 39 RX5 yX5_change wsX5_change) := goodIn_app (goodIn_of _ (by decide +kernel)) ggL_law_X5_change
set_option maxRecDepth 20000 in
theorem ggL_law_X4_ofShip : GoodIn wsL_law wsX4_ofShip := goodIn_r _ [275, 15, 80, 276, 277, 278, 14, 279, 38, 85, 2, 86, 84, 87, 88, 89, 90, 28, 280, 281, 282, 283, 36, 95, 96, 1092, 1093, 1094, 1095, 1096, 1097, 1098, 1120, 1121, 1122, 1123, 1124, 1125, 1126, 1127] (by decide +kernel) (by decide +kernel)
set_option maxRecDepth 20000 in
theorem gL_law_X4_ofShip : GoodIn wsL_law (wsV RL 40 RX4 yX4_ofShip wsX4_ofShip) := goodIn_app (goodIn_of _ (by decide +kernel)) ggL_law_X4_ofShip
set_option maxRecDepth 20000 in
theorem ggL_law_X5_ofShip : GoodIn wsL_law wsX5_ofShip := goodIn_r _ [287, 107, 288, 289, 290, 5, 291, 64, 111, 112, 113, 292, 293, 294, 295, 193, 194, 195, 118, 119, 120, 121, 67, 1099, 1100, 1101, 1102, 1103, 1104, 1105, 1106, 1107, 1108, 1109, 1110, 1111, 1112, 1113, 1114, 1115, 1116, 1117, 1118, 1119] (by decide +kernel) (by decide +kernel)
set_option maxRecDepth 20000 in
theorem gL_law_X5_ofShip : GoodIn wsL_law (wsV RL 43 RX5 yX5_ofShip wsX5_ofShip) := goodIn_app (goodIn_of _ (by decide +kernel)) ggL_law_X5_ofShip
set_option maxRecDepth 20000 in
theorem ggL_law_X4_steer : GoodIn wsL_law wsX4_steer := goodIn_r _ [299, 15, 80, 300, 301, 276, 277, 278, 14, 279, 38, 85, 2, 86, 84, 87, 88, 89, 90, 28, 262, 95, 96, 280, 281, 282, 283, 36, 302, 179, 180, 181, 101, 102, 1092, 1093, 1094, 1095, 1096, 1097, 1098, 1120, 1121, 1122, 1123, 1124, 1125, 1126, 1127] (by decide +kernel) (by decide +kernel)
set_option maxRecDepth 20000 in
theorem gL_law_X4_steer : GoodIn wsL_law (wsV RL 44 RX4 yX4_steer wsX4_steer) := goodIn_app (goodIn_of _ (by decide +kernel)) ggL_law_X4_steer
set_option maxRecDepth 20000 in
theorem ggL_law_X5_steer : GoodIn wsL_law wsX5_steer := goodIn_r _ [306, 107, 288, 289, 290, 5, 291, 64, 111, 112, 113, 307, 308, 309, 160, 161, 162, 157, 158, 159, 186, 187, 188, 193, 194, 195, 114, 115, 116, 117, 118, 119, 120, 121, 67, 1099, 1100, 1101, 1102, 1103, 1104, 1105, 1106, 1107, 1108, 1109, 1110, 1111, 1112, 1113, 1114, 1115, 1116, 1117, 1118, 1119] (by decide +kernel) (by decide +kernel)
set_option maxRecDepth 20000 in
theorem gL_law_X5_steer : GoodIn wsL_law (wsV RL 47 RX5 yX5_steer wsX5_steer) := goodIn_app (goodIn_of _ (by decide +kernel)) ggL_law_X5_steer
set_option maxRecDepth 20000 in
theorem ggL_law_X4_thick : GoodIn wsL_law wsX4_thick := goodIn_r _ [313, 15, 80, 138, 139, 2, 140, 84, 85, 86, 314, 315, 316, 14, 317, 37, 318, 319, 320, 321, 322, 323, 324, 325, 208, 209, 210, 211, 35, 326, 327, 328, 329, 330, 331, 332, 216, 217, 214, 218, 212, 213, 215, 333, 334, 335, 87, 88, 89, 90, 28, 1092, 1093, 1094, 1095, 1096, 1097, 1098, 1120, 1121, 1122, 1123, 1124, 1125, 1126, 1127] (by decide +kernel) (by decide +kernel)
set_option maxRecDepth 20000 in
theorem gL_law_X4_thick : GoodIn wsL_law (wsV RL 48 RX4 yX4_thick wsX4_thick) := goodIn_app (goodIn_of _ (by decide +kernel)) ggL_law_X4_thick
set_option maxRecDepth 20000 in
theorem ggL_law_X5_thick : GoodIn wsL_law wsX5_thick := goodIn_r _ [339, 107, 160, 161, 5, 162, 111, 112, 113, 340, 341, 342, 343, 64, 344, 331, 320, 332, 345, 319, 321, 241, 242, 243, 244, 167, 168, 169, 245, 246, 247, 248, 237, 238, 239, 240, 118, 119, 120, 121, 67, 1099, 1100, 1101, 1102, 1103, 1104, 1105, 1106, 1107, 1108, 1109, 1110, 1111, 1112, 1113, 1114, 1115, 1116, 1117, 1118, 1119] (by decide +kernel) (by decide +kernel)
set_option maxRecDepth 20000 in
theorem gL_law_X5_thick : GoodIn wsL_law (wsV RL 51 RX5 yX5_thick wsX5_thick) := goodIn_app (goodIn_of _ (by decide +kernel)) ggL_law_X5_thick
set_option maxRecDepth 20000 in
theorem ggL_law_X4_go : GoodIn wsL_law wsX4_go := goodIn_r _ [349, 80, 15, 350, 351, 84, 85, 2, 86, 87, 88, 89, 90, 28, 352, 353, 354, 14, 355, 38, 37, 356, 39, 357, 358, 320, 359, 360, 361, 362, 363, 364, 281, 282, 283, 36, 95, 96, 365, 366, 367, 368, 369, 315, 316, 317, 318, 319, 321, 322, 323, 324, 325, 208, 209, 210, 211, 35, 326, 327, 328, 329, 330, 331, 332, 216, 217, 214, 218, 212, 213, 215, 333, 334, 335, 178, 179, 180, 181, 101, 102, 370, 371, 372, 373, 374, 92, 93, 94, 33, 375, 376, 377, 378, 379, 201, 202, 203, 222, 223, 224, 145, 146, 147, 148, 380, 381, 382, 383, 219, 220, 221, 384, 385, 386, 387, 1092, 1093, 1094, 1095, 1096, 1097, 1098, 1120, 1121, 1122, 1123, 1124, 1125, 1126, 1127] (by decide +kernel) (by decide +kernel)
set_option maxRecDepth 20000 in
theorem gL_law_X4_go : GoodIn wsL_law (wsV RL 52 RX4 yX4_go wsX4_go) := goodIn_app (goodIn_of _ (by decide +kernel)) ggL_law_X4_go
set_option maxRecDepth 20000 in
theorem ggL_law_X5_go : GoodIn wsL_law wsX5_go := goodIn_r _ [391, 107, 64, 392, 393, 111, 112, 5, 113, 118, 119, 120, 121, 67, 394, 395, 396, 397, 398, 399, 400, 401, 402, 358, 320, 359, 345, 319, 321, 292, 293, 294, 295, 193, 194, 195, 403, 404, 405, 406, 340, 341, 342, 343, 344, 331, 332, 241, 242, 243, 244, 167, 168, 169, 245, 246, 247, 248, 237, 238, 239, 240, 407, 408, 409, 410, 411, 412, 413, 414, 415, 416, 417, 418, 229, 230, 231, 232, 419, 420, 421, 422, 253, 254, 255, 256, 249, 250, 251, 252, 423, 424, 425, 426, 1099, 1100, 1101, 1102, 1103, 1104, 1105, 1106, 1107, 1108, 1109, 1110, 1111, 1112, 1113, 1114, 1115, 1116, 1117, 1118, 1119] (by decide +kernel) (by decide +kernel)
set_option maxRecDepth 20000 in
theorem gL_law_X5_go : GoodIn wsL_law (wsV RL 55 RX5 yX5_go wsX5_go) := goodIn_app (goodIn_of _ (by decide +kernel)) ggL_law_X5_go
set_option maxRecDepth 20000 in
theorem ggL_law_X4_now : GoodIn wsL_law wsX4_now := goodIn_r _ [430, 15, 80, 384, 385, 386, 14, 387, 38, 360, 361, 362, 363, 364, 281, 282, 283, 36, 95, 2, 96, 431, 432, 433, 434, 37, 322, 323, 324, 325, 208, 209, 210, 211, 35, 435, 436, 437, 438, 439, 440, 441, 442, 443, 444, 445, 446, 369, 315, 316, 317, 318, 319, 320, 321, 326, 327, 328, 329, 330, 331, 332, 216, 217, 214, 218, 212, 213, 215, 333, 334, 335, 447, 448, 449, 450, 451, 452, 453, 454, 455, 456, 457, 458, 87, 88, 89, 90, 28, 84, 85, 86, 1092, 1093, 1094, 1095, 1096, 1097, 1098, 1120, 1121, 1122, 1123, 1124, 1125, 1126, 1127] (by decide +kernel) (by decide +kernel)
set_option maxRecDepth 20000 in
theorem gL_law_X4_now : GoodIn wsL_law (wsV RL 56 RX4 yX4_now wsX4_now) := goodIn_app (goodIn_of _ (by decide +kernel)) ggL_law_X4_now
set_option maxRecDepth 20000 in
theorem ggL_law_X5_now : GoodIn wsL_law wsX5_now := goodIn_r _ [462, 64, 107, 423, 424, 425, 5, 426, 411, 412, 413, 414, 292, 293, 294, 295, 193, 194, 195, 463, 464, 465, 466, 241, 242, 243, 244, 167, 168, 169, 467, 468, 469, 470, 471, 472, 473, 474, 475, 476, 477, 478, 340, 341, 342, 343, 344, 331, 320, 332, 345, 319, 321, 245, 246, 247, 248, 237, 238, 239, 240, 479, 480, 481, 482, 483, 484, 485, 486, 403, 404, 405, 406, 118, 119, 120, 121, 67, 1099, 1100, 1101, 1102, 1103, 1104, 1105, 1106, 1107, 1108, 1109, 1110, 1111, 1112, 1113, 1114, 1115, 1116, 1117, 1118, 1119] (by decide +kernel) (by decide +kernel)
set_option maxRecDepth 20000 in
theorem gL_law_X5_now : GoodIn wsL_law (wsV RL 59 RX5 yX5_now wsX5_now) := goodIn_app (goodIn_of _ (by decide +kernel)) ggL_law_X5_now
