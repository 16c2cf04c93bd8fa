set_option maxRecDepth 20000 in
theorem wi_wsL_law_r31 : ∀ w ∈ wsL_law_r31, w ∈ lw_tbl := fun w h => (goodIn_r wsL_law_r31 [545, 546, 547, 548, 549, 550, 551, 552, 553, 554, 1171, 1172, 1173, 1174, 1175, 1177, 61, 1178, 1179, 555, 556, 557, 558, 563] (by decide +kernel) (by decide +kernel) w h).1
set_option maxRecDepth 20000 in
theorem wi_wsL_law_r32 : ∀ w ∈ wsL_law_r32, w ∈ lw_tbl := fun w h => (goodIn_r wsL_law_r32 [564, 559, 560, 561, 562, 1180, 1181, 1182, 1183, 565, 566, 567, 568, 1184, 1185, 1186, 1187, 569, 570, 571, 572, 573, 574, 575] (by decide +kernel) (by decide +kernel) w h).1
set_option maxRecDepth 20000 in
theorem wi_wsL_law_r33 : ∀ w ∈ wsL_law_r33, w ∈ lw_tbl := fun w h => (goodIn_r wsL_law_r33 [576, 578, 1188, 1189, 1190, 1191, 810, 579, 580, 581, 582, 1192, 1193, 1194, 1195, 583, 584, 585, 586, 587, 588, 589, 590, 591] (by decide +kernel) (by decide +kernel) w h).1
set_option maxRecDepth 20000 in
theorem wi_wsL_law_r34 : ∀ w ∈ wsL_law_r34, w ∈ lw_tbl := fun w h => (goodIn_r wsL_law_r34 [593, 13, 594, 596, 598, 14, 599, 600, 602, 15, 603, 604, 605, 606, 614, 616, 16, 617, 618, 619, 620, 84, 621, 1315] (by decide +kernel) (by decide +kernel) w h).1
set_option maxRecDepth 20000 in
theorem wi_wsL_law_r35 : ∀ w ∈ wsL_law_r35, w ∈ lw_tbl := fun w h => (goodIn_r wsL_law_r35 [622, 623, 624, 625, 626, 1316, 628, 629, 630, 631, 632, 633, 634, 635, 636, 637, 85, 638, 639, 640, 641, 642, 644, 645] (by decide +kernel) (by decide +kernel) w h).1
set_option maxRecDepth 20000 in
theorem wi_wsL_law_r36 : ∀ w ∈ wsL_law_r36, w ∈ lw_tbl := fun w h => (goodIn_r wsL_law_r36 [86, 646, 647, 648, 87, 649, 650, 651, 652, 653, 654, 655, 656, 657, 658, 659, 660, 662, 664, 666, 668, 17, 669, 670] (by decide +kernel) (by decide +kernel) w h).1
set_option maxRecDepth 20000 in
theorem wi_wsL_law_r37 : ∀ w ∈ wsL_law_r37, w ∈ lw_tbl := fun w h => (goodIn_r wsL_law_r37 [672, 18, 673, 676, 678, 19, 679, 681, 682, 685, 687, 20, 688, 691, 693, 695, 21, 696, 697, 1196, 1197, 1198, 1199, 812] (by decide +kernel) (by decide +kernel) w h).1
set_option maxRecDepth 20000 in
theorem wi_wsL_law_r38 : ∀ w ∈ wsL_law_r38, w ∈ lw_tbl := fun w h => (goodIn_r wsL_law_r38 [815, 818, 819, 820, 813, 811, 1200, 1202, 62, 1203, 814, 1204, 1206, 63, 1207, 1208, 1210, 64, 1211, 1212, 1214, 65, 1215, 1216] (by decide +kernel) (by decide +kernel) w h).1
set_option maxRecDepth 20000 in
theorem wi_wsL_law_r39 : ∀ w ∈ wsL_law_r39, w ∈ lw_tbl := fun w h => (goodIn_r wsL_law_r39 [1217, 1218, 1220, 66, 1221, 1222, 1224, 67, 1225, 1226, 1228, 68, 1229, 1231, 1233, 69, 1234, 1237, 1239, 70, 1240, 1242, 1244, 71] (by decide +kernel) (by decide +kernel) w h).1
set_option maxRecDepth 20000 in
theorem wi_wsL_law_r40 : ∀ w ∈ wsL_law_r40, w ∈ lw_tbl := fun w h => (goodIn_r wsL_law_r40 [1245, 1249, 1251, 72, 1252, 699, 700, 701, 702, 703, 704, 705, 706, 1253, 1254, 1255, 1256, 1257, 1258, 1259, 707, 708, 709, 710] (by decide +kernel) (by decide +kernel) w h).1
