set_option maxRecDepth 20000 in
theorem wi_wsL_law_r21 : ∀ w ∈ wsL_law_r21, w ∈ lw_tbl := fun w h => (goodIn_r wsL_law_r21 [1055, 48, 1056, 1057, 1059, 49, 1060, 423, 424, 425, 426, 427, 429, 7, 430, 431, 432, 433, 434, 435, 437, 436, 82, 1061] (by decide +kernel) (by decide +kernel) w h).1
set_option maxRecDepth 20000 in
theorem wi_wsL_law_r22 : ∀ w ∈ wsL_law_r22, w ∈ lw_tbl := fun w h => (goodIn_r wsL_law_r22 [1062, 1063, 1064, 1065, 1066, 1067, 1068, 1070, 50, 1071, 438, 439, 440, 441, 1072, 1073, 1074, 1075, 1076, 1078, 51, 1079, 442, 443] (by decide +kernel) (by decide +kernel) w h).1
set_option maxRecDepth 20000 in
theorem wi_wsL_law_r23 : ∀ w ∈ wsL_law_r23, w ∈ lw_tbl := fun w h => (goodIn_r wsL_law_r23 [444, 445, 1080, 1081, 1082, 1083, 446, 447, 448, 449, 451, 450, 1084, 1085, 1086, 1087, 1088, 1090, 52, 1091, 1092, 452, 453, 454] (by decide +kernel) (by decide +kernel) w h).1
set_option maxRecDepth 20000 in
theorem wi_wsL_law_r24 : ∀ w ∈ wsL_law_r24, w ∈ lw_tbl := fun w h => (goodIn_r wsL_law_r24 [455, 1093, 1094, 1095, 1096, 456, 457, 458, 459, 460, 461, 83, 462, 463, 464, 465, 1097, 1098, 1099, 1100, 1101, 1103, 53, 1104] (by decide +kernel) (by decide +kernel) w h).1
set_option maxRecDepth 20000 in
theorem wi_wsL_law_r25 : ∀ w ∈ wsL_law_r25, w ∈ lw_tbl := fun w h => (goodIn_r wsL_law_r25 [466, 467, 468, 469, 470, 1105, 1106, 1107, 1108, 1109, 1110, 1111, 1112, 1114, 54, 1115, 1116, 1118, 55, 1119, 1120, 1122, 56, 1123] (by decide +kernel) (by decide +kernel) w h).1
set_option maxRecDepth 20000 in
theorem wi_wsL_law_r26 : ∀ w ∈ wsL_law_r26, w ∈ lw_tbl := fun w h => (goodIn_r wsL_law_r26 [471, 472, 473, 474, 1124, 1125, 1126, 1127, 475, 476, 477, 478, 479, 481, 8, 482, 1128, 1129, 1130, 1131, 1132, 1134, 57, 1135] (by decide +kernel) (by decide +kernel) w h).1
set_option maxRecDepth 20000 in
theorem wi_wsL_law_r27 : ∀ w ∈ wsL_law_r27, w ∈ lw_tbl := fun w h => (goodIn_r wsL_law_r27 [483, 484, 485, 486, 1136, 1137, 1138, 1139, 487, 488, 489, 490, 491, 493, 9, 494, 495, 496, 497, 498, 1140, 1141, 1142, 1143] (by decide +kernel) (by decide +kernel) w h).1
set_option maxRecDepth 20000 in
theorem wi_wsL_law_r28 : ∀ w ∈ wsL_law_r28, w ∈ lw_tbl := fun w h => (goodIn_r wsL_law_r28 [1144, 1145, 1146, 1147, 1149, 58, 1150, 499, 500, 501, 502, 503, 505, 10, 506, 507, 509, 11, 510, 523, 511, 512, 513, 514] (by decide +kernel) (by decide +kernel) w h).1
set_option maxRecDepth 20000 in
theorem wi_wsL_law_r29 : ∀ w ∈ wsL_law_r29, w ∈ lw_tbl := fun w h => (goodIn_r wsL_law_r29 [515, 516, 517, 518, 519, 520, 521, 524, 526, 12, 527, 532, 528, 529, 530, 531, 533, 534, 535, 536, 1151, 1152, 1153, 1154] (by decide +kernel) (by decide +kernel) w h).1
set_option maxRecDepth 20000 in
theorem wi_wsL_law_r30 : ∀ w ∈ wsL_law_r30, w ∈ lw_tbl := fun w h => (goodIn_r wsL_law_r30 [1155, 1157, 59, 1158, 1162, 1159, 1160, 1161, 1163, 1165, 60, 1166, 537, 538, 539, 540, 1167, 1168, 1169, 1170, 541, 542, 543, 544] (by decide +kernel) (by decide +kernel) w h).1
