set_option maxRecDepth 20000 in
theorem wi_wsL_law_r41 : ∀ w ∈ wsL_law_r41, w ∈ lw_tbl := fun w h => (goodIn_r wsL_law_r41 [721, 711, 712, 713, 714, 715, 716, 717, 718, 719, 720, 1260, 1261, 1262, 1263, 1270, 1264, 1265, 1266, 1267, 1268, 1269, 722, 723] (by decide +kernel) (by decide +kernel) w h).1
set_option maxRecDepth 20000 in
theorem wi_wsL_law_r42 : ∀ w ∈ wsL_law_r42, w ∈ lw_tbl := fun w h => (goodIn_r wsL_law_r42 [724, 725, 726, 727, 728, 729, 730, 1271, 1272, 1273, 1274, 1275, 732, 733, 734, 735, 736, 737, 738, 739, 1276, 1277, 1278, 1279] (by decide +kernel) (by decide +kernel) w h).1
set_option maxRecDepth 20000 in
theorem wi_wsL_law_r43 : ∀ w ∈ wsL_law_r43, w ∈ lw_tbl := fun w h => (goodIn_r wsL_law_r43 [1280, 1281, 1282, 740, 741, 742, 743, 744, 745, 746, 747, 748, 749, 750, 751, 752, 753, 756, 755, 1283, 1284, 1285, 1286, 757] (by decide +kernel) (by decide +kernel) w h).1
set_option maxRecDepth 20000 in
theorem wi_wsL_law_r44 : ∀ w ∈ wsL_law_r44, w ∈ lw_tbl := fun w h => (goodIn_r wsL_law_r44 [758, 759, 760, 1287, 1288, 1289, 1290, 761, 762, 763, 764, 1291, 1292, 1293, 1294, 765, 766, 767, 768, 1295, 1296, 1297, 1298, 807] (by decide +kernel) (by decide +kernel) w h).1
set_option maxRecDepth 20000 in
theorem wi_wsL_law_r45 : ∀ w ∈ wsL_law_r45, w ∈ lw_tbl := fun w h => (goodIn_r wsL_law_r45 [769, 770, 771, 772, 1299, 1300, 1301, 1302, 773, 774, 775, 776, 1303, 1304, 1305, 1306, 777, 778, 779, 780, 781, 782, 783, 784] (by decide +kernel) (by decide +kernel) w h).1
set_option maxRecDepth 20000 in
theorem wi_wsL_law_r46 : ∀ w ∈ wsL_law_r46, w ∈ lw_tbl := fun w h => (goodIn_r wsL_law_r46 [1307, 1308, 1309, 1310, 785, 786, 787, 788, 1311, 1312, 1313, 1314] (by decide +kernel) (by decide +kernel) w h).1
set_option maxRecDepth 20000 in
theorem wi_wsX40 : ∀ w ∈ wsX40, w ∈ lw_tbl := fun w h => (goodIn_r wsX40 [186, 188, 190, 192, 194, 196, 198] (by decide +kernel) (by decide +kernel) w h).1
set_option maxRecDepth 20000 in
theorem wi_wsX50 : ∀ w ∈ wsX50, w ∈ lw_tbl := fun w h => (goodIn_r wsX50 [825, 827, 829, 831, 833, 835, 837, 839, 841, 843, 845, 847, 849, 851, 853, 855, 857, 859, 861, 863, 865] (by decide +kernel) (by decide +kernel) w h).1
set_option maxRecDepth 20000 in
theorem wi_wsX00 : ∀ w ∈ wsX00, w ∈ lw_tbl := fun w h => (goodIn_r wsX00 [119, 121, 123, 125, 127, 129, 131, 133] (by decide +kernel) (by decide +kernel) w h).1
set_option maxRecDepth 20000 in
theorem wi_wsX30 : ∀ w ∈ wsX30, w ∈ lw_tbl := fun w h => (goodIn_r wsX30 [150, 152, 154, 156, 158, 160] (by decide +kernel) (by decide +kernel) w h).1
