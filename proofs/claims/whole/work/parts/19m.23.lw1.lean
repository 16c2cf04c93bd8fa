set_option maxRecDepth 20000 in
theorem wi_wsL_law_r1 : ∀ w ∈ wsL_law_r1, w ∈ lw_tbl := fun w h => (goodIn_r wsL_law_r1 [88, 89, 74, 789, 790, 79, 90, 91, 92, 93, 94, 95, 96, 97, 75, 179, 180, 181, 182, 137, 138, 77, 183, 163] (by decide +kernel) (by decide +kernel) w h).1
set_option maxRecDepth 20000 in
theorem wi_wsL_law_r2 : ∀ w ∈ wsL_law_r2, w ∈ lw_tbl := fun w h => (goodIn_r wsL_law_r2 [164, 78, 184, 136, 185, 98, 99, 100, 101, 105, 106, 107, 108, 109, 112, 115, 117, 102, 103, 76, 104, 140, 141, 142] (by decide +kernel) (by decide +kernel) w h).1
set_option maxRecDepth 20000 in
theorem wi_wsL_law_r3 : ∀ w ∈ wsL_law_r3, w ∈ lw_tbl := fun w h => (goodIn_r wsL_law_r3 [143, 144, 146, 147, 148, 149, 166, 167, 168, 169, 170, 171, 791, 792, 793, 794, 804, 805, 806, 808, 809, 795, 816, 817] (by decide +kernel) (by decide +kernel) w h).1
set_option maxRecDepth 20000 in
theorem wi_wsL_law_r4 : ∀ w ∈ wsL_law_r4, w ∈ lw_tbl := fun w h => (goodIn_r wsL_law_r4 [821, 822, 823, 824, 201, 202, 203, 204, 211, 205, 206, 207, 208, 209, 210, 212, 214, 0, 215, 216, 217, 218, 219, 221] (by decide +kernel) (by decide +kernel) w h).1
set_option maxRecDepth 20000 in
theorem wi_wsL_law_r5 : ∀ w ∈ wsL_law_r5, w ∈ lw_tbl := fun w h => (goodIn_r wsL_law_r5 [222, 223, 224, 225, 226, 228, 229, 868, 869, 870, 871, 882, 872, 873, 874, 875, 876, 877, 878, 880, 22, 881, 883, 885] (by decide +kernel) (by decide +kernel) w h).1
set_option maxRecDepth 20000 in
theorem wi_wsL_law_r6 : ∀ w ∈ wsL_law_r6, w ∈ lw_tbl := fun w h => (goodIn_r wsL_law_r6 [23, 886, 230, 231, 232, 233, 887, 888, 889, 890, 234, 235, 236, 237, 244, 238, 239, 240, 241, 242, 243, 245, 246, 247] (by decide +kernel) (by decide +kernel) w h).1
set_option maxRecDepth 20000 in
theorem wi_wsL_law_r7 : ∀ w ∈ wsL_law_r7, w ∈ lw_tbl := fun w h => (goodIn_r wsL_law_r7 [248, 249, 250, 251, 252, 891, 892, 893, 894, 904, 895, 896, 897, 898, 899, 900, 901, 902, 903, 905, 907, 24, 908, 909] (by decide +kernel) (by decide +kernel) w h).1
set_option maxRecDepth 20000 in
theorem wi_wsL_law_r8 : ∀ w ∈ wsL_law_r8, w ∈ lw_tbl := fun w h => (goodIn_r wsL_law_r8 [910, 911, 253, 254, 255, 256, 257, 258, 259, 260, 261, 262, 263, 264, 912, 913, 914, 915, 916, 917, 918, 919, 921, 25] (by decide +kernel) (by decide +kernel) w h).1
set_option maxRecDepth 20000 in
theorem wi_wsL_law_r9 : ∀ w ∈ wsL_law_r9, w ∈ lw_tbl := fun w h => (goodIn_r wsL_law_r9 [922, 923, 924, 925, 265, 266, 267, 268, 269, 270, 271, 272, 274, 275, 276, 277, 278, 279, 280, 281, 282, 283, 80, 284] (by decide +kernel) (by decide +kernel) w h).1
set_option maxRecDepth 20000 in
theorem wi_wsL_law_r10 : ∀ w ∈ wsL_law_r10, w ∈ lw_tbl := fun w h => (goodIn_r wsL_law_r10 [285, 286, 287, 288, 289, 290, 291, 292, 293, 926, 927, 928, 929, 930, 932, 26, 933, 934, 936, 27, 937, 938, 940, 28] (by decide +kernel) (by decide +kernel) w h).1
