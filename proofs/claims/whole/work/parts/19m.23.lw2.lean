set_option maxRecDepth 20000 in
theorem wi_wsL_law_r11 : ∀ w ∈ wsL_law_r11, w ∈ lw_tbl := fun w h => (goodIn_r wsL_law_r11 [941, 942, 944, 29, 945, 946, 948, 30, 949, 950, 952, 31, 953, 954, 956, 32, 957, 294, 295, 296, 297, 298, 300, 301] (by decide +kernel) (by decide +kernel) w h).1
set_option maxRecDepth 20000 in
theorem wi_wsL_law_r12 : ∀ w ∈ wsL_law_r12, w ∈ lw_tbl := fun w h => (goodIn_r wsL_law_r12 [302, 958, 959, 960, 961, 962, 963, 964, 303, 304, 305, 306, 307, 308, 309, 310, 311, 312, 313, 314, 965, 966, 967, 968] (by decide +kernel) (by decide +kernel) w h).1
set_option maxRecDepth 20000 in
theorem wi_wsL_law_r13 : ∀ w ∈ wsL_law_r13, w ∈ lw_tbl := fun w h => (goodIn_r wsL_law_r13 [969, 971, 33, 972, 973, 975, 34, 976, 315, 316, 317, 318, 319, 321, 323, 977, 978, 979, 980, 981, 982, 983, 324, 325] (by decide +kernel) (by decide +kernel) w h).1
set_option maxRecDepth 20000 in
theorem wi_wsL_law_r14 : ∀ w ∈ wsL_law_r14, w ∈ lw_tbl := fun w h => (goodIn_r wsL_law_r14 [326, 327, 328, 329, 330, 331, 346, 347, 81, 348, 332, 334, 1, 335, 336, 338, 2, 339, 340, 341, 342, 343, 344, 345] (by decide +kernel) (by decide +kernel) w h).1
set_option maxRecDepth 20000 in
theorem wi_wsL_law_r15 : ∀ w ∈ wsL_law_r15, w ∈ lw_tbl := fun w h => (goodIn_r wsL_law_r15 [984, 985, 986, 987, 988, 990, 35, 991, 992, 993, 349, 350, 351, 352, 353, 354, 355, 356, 357, 358, 386, 369, 370, 371] (by decide +kernel) (by decide +kernel) w h).1
set_option maxRecDepth 20000 in
theorem wi_wsL_law_r16 : ∀ w ∈ wsL_law_r16, w ∈ lw_tbl := fun w h => (goodIn_r wsL_law_r16 [359, 360, 361, 362, 363, 364, 366, 3, 367, 368, 372, 373, 374, 375, 376, 377, 379, 4, 380, 381, 382, 384, 5, 385] (by decide +kernel) (by decide +kernel) w h).1
set_option maxRecDepth 20000 in
theorem wi_wsL_law_r17 : ∀ w ∈ wsL_law_r17, w ∈ lw_tbl := fun w h => (goodIn_r wsL_law_r17 [387, 388, 389, 390, 994, 995, 996, 997, 998, 999, 1000, 1002, 36, 1003, 1004, 1006, 37, 1007, 1016, 1008, 1010, 38, 1011, 1012] (by decide +kernel) (by decide +kernel) w h).1
set_option maxRecDepth 20000 in
theorem wi_wsL_law_r18 : ∀ w ∈ wsL_law_r18, w ∈ lw_tbl := fun w h => (goodIn_r wsL_law_r18 [1014, 39, 1015, 1017, 1019, 40, 1020, 1021, 1023, 41, 1024, 1025, 1027, 42, 1028, 1029, 1031, 43, 1032, 391, 392, 393, 394, 395] (by decide +kernel) (by decide +kernel) w h).1
set_option maxRecDepth 20000 in
theorem wi_wsL_law_r19 : ∀ w ∈ wsL_law_r19, w ∈ lw_tbl := fun w h => (goodIn_r wsL_law_r19 [396, 397, 398, 399, 400, 401, 402, 403, 404, 405, 406, 407, 408, 409, 410, 411, 412, 413, 414, 415, 416, 417, 418, 419] (by decide +kernel) (by decide +kernel) w h).1
set_option maxRecDepth 20000 in
theorem wi_wsL_law_r20 : ∀ w ∈ wsL_law_r20, w ∈ lw_tbl := fun w h => (goodIn_r wsL_law_r20 [421, 6, 422, 1033, 1034, 1035, 1036, 1037, 1039, 44, 1040, 1041, 1043, 45, 1044, 1045, 1047, 46, 1048, 1049, 1051, 47, 1052, 1053] (by decide +kernel) (by decide +kernel) w h).1
