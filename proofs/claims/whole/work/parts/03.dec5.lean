set_option maxRecDepth 20000 in
theorem gX5_isSo_X5_copyRow : GoodIn wsX5_isSo (va_wsS RX5 61 yX5_copyRow wsX5_copyRow) := goodIn_app (goodIn_of _ (by decide +kernel)) ggX5_isSo_X5_copyRow
set_option maxRecDepth 20000 in
theorem ggX5_isSo_X5_thickAt : GoodIn wsX5_isSo wsX5_thickAt := goodIn_r _ [12, 1, 13, 14, 15, 16, 17, 18, 19, 20, 21, 22, 7, 23, 24, 25, 26, 27, 28, 29, 30, 31, 32, 33, 34, 85, 86, 87, 88, 89, 90, 91, 92, 93, 94, 95, 96, 97, 98, 99, 100, 101, 102, 103, 104, 105] (by decide +kernel) (by decide +kernel)
set_option maxRecDepth 20000 in
theorem gX5_isSo_X5_thickAt : GoodIn wsX5_isSo (wsV RX5 150 RX5 yX5_thickAt wsX5_thickAt) := goodIn_app (goodIn_of _ (by decide +kernel)) ggX5_isSo_X5_thickAt
set_option maxRecDepth 20000 in
theorem ggX5_isSo_X5_day : GoodIn wsX5_isSo wsX5_day := goodIn_r _ [38, 1, 39, 40, 15, 41, 17, 18, 19, 42, 43, 44, 45, 7, 46, 47, 48, 49, 50, 51, 52, 53, 9, 10, 11, 12, 13, 14, 16, 20, 21, 22, 23, 24, 25, 26, 27, 28, 29, 30, 31, 32, 33, 34, 54, 55, 56, 57, 58, 59, 60, 61, 62, 63, 64, 65, 66, 67, 68, 69, 70, 71, 72, 73, 74, 75, 76, 77, 78, 79, 80, 81, 82, 83, 84, 85, 86, 87, 88, 89, 90, 91, 92, 93, 94, 95, 96, 97, 98, 99, 100, 101, 102, 103, 104, 105] (by decide +kernel) (by decide +kernel)
set_option maxRecDepth 20000 in
theorem gX5_isSo_X5_day : GoodIn wsX5_isSo (wsV RX5 175 RX5 yX5_day wsX5_day) := goodIn_app (goodIn_of _ (by decide +kernel)) ggX5_isSo_X5_day
theorem dX5_isSo_0 : decode cX5_isSo 0 = .ok (.aload_n 0, 1) := by decide +kernel
theorem dX5_isSo_1 : decode cX5_isSo 1 = .ok (.getfield 9, 3) := by decide +kernel
theorem dX5_isSo_4 : decode cX5_isSo 4 = .ok (.aload_n 0, 1) := by decide +kernel
theorem dX5_isSo_5 : decode cX5_isSo 5 = .ok (.getfield 16, 3) := by decide +kernel
theorem dX5_isSo_8 : decode cX5_isSo 8 = .ok (.invokestatic 61, 3) := by decide +kernel
theorem dX5_isSo_11 : decode cX5_isSo 11 = .ok (.iconst 1, 1) := by decide +kernel
theorem dX5_isSo_12 : decode cX5_isSo 12 = .ok (.istore_n 3, 1) := by decide +kernel
theorem dX5_isSo_13 : decode cX5_isSo 13 = .ok (.iconst 0, 1) := by decide +kernel
theorem dX5_isSo_14 : decode cX5_isSo 14 = .ok (.istore 4, 2) := by decide +kernel
theorem dX5_isSo_16 : decode cX5_isSo 16 = .ok (.iload 4, 2) := by decide +kernel
theorem dX5_isSo_18 : decode cX5_isSo 18 = .ok (.aload_n 0, 1) := by decide +kernel
theorem dX5_isSo_19 : decode cX5_isSo 19 = .ok (.getfield 51, 3) := by decide +kernel
theorem dX5_isSo_22 : decode cX5_isSo 22 = .ok (.iload_n 1, 1) := by decide +kernel
theorem dX5_isSo_23 : decode cX5_isSo 23 = .ok (.iaload, 1) := by decide +kernel
theorem dX5_isSo_24 : decode cX5_isSo 24 = .ok (.if_icmp .ge 60, 3) := by decide +kernel
theorem dX5_isSo_27 : decode cX5_isSo 27 = .ok (.iload 4, 2) := by decide +kernel
theorem dX5_isSo_29 : decode cX5_isSo 29 = .ok (.bipush 8, 2) := by decide +kernel
theorem dX5_isSo_31 : decode cX5_isSo 31 = .ok (.if_icmp .ge 53, 3) := by decide +kernel
theorem dX5_isSo_34 : decode cX5_isSo 34 = .ok (.iload_n 3, 1) := by decide +kernel
theorem dX5_isSo_35 : decode cX5_isSo 35 = .ok (.ifCond .eq 49, 3) := by decide +kernel
theorem dX5_isSo_38 : decode cX5_isSo 38 = .ok (.aload_n 0, 1) := by decide +kernel
theorem dX5_isSo_39 : decode cX5_isSo 39 = .ok (.getfield 54, 3) := by decide +kernel
theorem dX5_isSo_42 : decode cX5_isSo 42 = .ok (.bipush 40, 2) := by decide +kernel
theorem dX5_isSo_44 : decode cX5_isSo 44 = .ok (.iload_n 1, 1) := by decide +kernel
theorem dX5_isSo_45 : decode cX5_isSo 45 = .ok (.imul, 1) := by decide +kernel
theorem dX5_isSo_46 : decode cX5_isSo 46 = .ok (.iload 4, 2) := by decide +kernel
theorem dX5_isSo_48 : decode cX5_isSo 48 = .ok (.iadd, 1) := by decide +kernel
theorem dX5_isSo_49 : decode cX5_isSo 49 = .ok (.iaload, 1) := by decide +kernel
theorem dX5_isSo_50 : decode cX5_isSo 50 = .ok (.istore 5, 2) := by decide +kernel
theorem dX5_isSo_52 : decode cX5_isSo 52 = .ok (.iload 5, 2) := by decide +kernel
theorem dX5_isSo_54 : decode cX5_isSo 54 = .ok (.iconst (-1), 1) := by decide +kernel
theorem dX5_isSo_55 : decode cX5_isSo 55 = .ok (.if_icmp .eq 13, 3) := by decide +kernel
theorem dX5_isSo_58 : decode cX5_isSo 58 = .ok (.iload 5, 2) := by decide +kernel
theorem dX5_isSo_60 : decode cX5_isSo 60 = .ok (.aload_n 0, 1) := by decide +kernel
theorem dX5_isSo_61 : decode cX5_isSo 61 = .ok (.iload_n 2, 1) := by decide +kernel
theorem dX5_isSo_62 : decode cX5_isSo 62 = .ok (.invokevirtual 150, 3) := by decide +kernel
theorem dX5_isSo_65 : decode cX5_isSo 65 = .ok (.if_icmp .ne 7, 3) := by decide +kernel
theorem dX5_isSo_68 : decode cX5_isSo 68 = .ok (.iconst 1, 1) := by decide +kernel
theorem dX5_isSo_69 : decode cX5_isSo 69 = .ok (.goto 4, 3) := by decide +kernel
theorem dX5_isSo_72 : decode cX5_isSo 72 = .ok (.iconst 0, 1) := by decide +kernel
theorem dX5_isSo_73 : decode cX5_isSo 73 = .ok (.istore_n 3, 1) := by decide +kernel
theorem dX5_isSo_74 : decode cX5_isSo 74 = .ok (.aload_n 0, 1) := by decide +kernel
theorem dX5_isSo_75 : decode cX5_isSo 75 = .ok (.invokevirtual 175, 3) := by decide +kernel
theorem dX5_isSo_78 : decode cX5_isSo 78 = .ok (.iinc 4 1, 3) := by decide +kernel
theorem dX5_isSo_81 : decode cX5_isSo 81 = .ok (.goto (-65), 3) := by decide +kernel
theorem dX5_isSo_84 : decode cX5_isSo 84 = .ok (.aload_n 0, 1) := by decide +kernel
theorem dX5_isSo_85 : decode cX5_isSo 85 = .ok (.getfield 16, 3) := by decide +kernel
theorem dX5_isSo_88 : decode cX5_isSo 88 = .ok (.aload_n 0, 1) := by decide +kernel
theorem dX5_isSo_89 : decode cX5_isSo 89 = .ok (.getfield 9, 3) := by decide +kernel
theorem dX5_isSo_92 : decode cX5_isSo 92 = .ok (.invokestatic 61, 3) := by decide +kernel
theorem dX5_isSo_95 : decode cX5_isSo 95 = .ok (.iload_n 3, 1) := by decide +kernel
theorem dX5_isSo_96 : decode cX5_isSo 96 = .ok (.ireturn, 1) := by decide +kernel
set_option maxRecDepth 20000 in
theorem ggX5_fits_X5_isSaying : GoodIn wsX5_fits wsX5_isSaying := goodIn_r _ [6, 1, 7, 8, 5, 9, 104, 105, 106, 107, 108, 109, 110, 111, 112, 113, 114, 115, 116, 117, 118, 119, 120, 121, 122, 123, 124] (by decide +kernel) (by decide +kernel)
set_option maxRecDepth 20000 in
theorem gX5_fits_X5_isSaying : GoodIn wsX5_fits (wsV RX5 123 RX5 yX5_isSaying wsX5_isSaying) := goodIn_app (goodIn_of _ (by decide +kernel)) ggX5_fits_X5_isSaying
set_option maxRecDepth 20000 in
theorem ggX5_fits_X5_lacks : GoodIn wsX5_fits wsX5_lacks := goodIn_r _ [13, 14, 15, 16, 17, 18, 5, 19, 7, 8, 9, 104, 105, 106, 107, 108, 109, 110, 111, 112, 113, 114, 115, 116, 117, 118, 119, 120, 121, 122, 123, 124] (by decide +kernel) (by decide +kernel)
set_option maxRecDepth 20000 in
theorem gX5_fits_X5_lacks : GoodIn wsX5_fits (wsV RX5 242 RX5 yX5_lacks wsX5_lacks) := goodIn_app (goodIn_of _ (by decide +kernel)) ggX5_fits_X5_lacks
set_option maxRecDepth 20000 in
theorem ggX5_fits_X5_finding : GoodIn wsX5_fits wsX5_finding := goodIn_r _ [23, 24, 14, 104, 105, 106, 107, 108, 109, 110, 111, 112, 113, 114, 115, 116, 117, 118, 119, 120, 121, 122, 123, 124] (by decide +kernel) (by decide +kernel)
set_option maxRecDepth 20000 in
theorem gX5_fits_X5_finding : GoodIn wsX5_fits (wsV RX5 66 RX5 yX5_finding wsX5_finding) := goodIn_app (goodIn_of _ (by decide +kernel)) ggX5_fits_X5_finding
set_option maxRecDepth 20000 in
theorem ggX5_fits_X5_sayingAt : GoodIn wsX5_fits wsX5_sayingAt := goodIn_r _ [27] (by decide +kernel) (by decide +kernel)
set_option maxRecDepth 20000 in
theorem gX5_fits_X5_sayingAt : GoodIn wsX5_fits (va_wsS RX5 82 yX5_sayingAt wsX5_sayingAt) := goodIn_app (goodIn_of _ (by decide +kernel)) ggX5_fits_X5_sayingAt
set_option maxRecDepth 20000 in
theorem ggX5_fits_X5_sayingIs : GoodIn wsX5_fits wsX5_sayingIs := goodIn_r _ [31, 1, 25, 26, 5, 27, 104, 105, 106, 107, 108, 109, 110, 111, 112, 113, 114, 115, 116, 117, 118, 119, 120, 121, 122, 123, 124] (by decide +kernel) (by decide +kernel)
set_option maxRecDepth 20000 in
theorem gX5_fits_X5_sayingIs : GoodIn wsX5_fits (wsV RX5 108 RX5 yX5_sayingIs wsX5_sayingIs) := goodIn_app (goodIn_of _ (by decide +kernel)) ggX5_fits_X5_sayingIs
set_option maxRecDepth 20000 in
theorem ggX5_fits_X5_isSo : GoodIn wsX5_fits wsX5_isSo := goodIn_r _ [35, 1, 36, 37, 38, 39, 40, 5, 41, 42, 43, 44, 45, 46, 47, 48, 49, 50, 51, 52, 28, 29, 30, 31, 25, 26, 27, 53, 54, 55, 56, 57, 58, 59, 60, 61, 62, 63, 64, 65, 66, 67, 68, 69, 70, 71, 72, 73, 74, 75, 76, 77, 78, 79, 80, 81, 82, 83, 84, 85, 86, 87, 88, 89, 90, 91, 2, 3, 4, 6, 7, 8, 9, 92, 93, 94, 95, 96, 97, 98, 99, 100, 101, 102, 103, 104, 105, 106, 107, 108, 109, 110, 111, 112, 113, 114, 115, 116, 117, 118, 119, 120, 121, 122, 123, 124] (by decide +kernel) (by decide +kernel)
set_option maxRecDepth 20000 in
theorem gX5_fits_X5_isSo : GoodIn wsX5_fits (wsV RX5 246 RX5 yX5_isSo wsX5_isSo) := goodIn_app (goodIn_of _ (by decide +kernel)) ggX5_fits_X5_isSo
theorem dX5_fits_0 : decode cX5_fits 0 = .ok (.aload_n 0, 1) := by decide +kernel
theorem dX5_fits_1 : decode cX5_fits 1 = .ok (.iload_n 1, 1) := by decide +kernel
theorem dX5_fits_2 : decode cX5_fits 2 = .ok (.aload_n 0, 1) := by decide +kernel
theorem dX5_fits_3 : decode cX5_fits 3 = .ok (.iload_n 2, 1) := by decide +kernel
theorem dX5_fits_4 : decode cX5_fits 4 = .ok (.invokevirtual 123, 3) := by decide +kernel
theorem dX5_fits_7 : decode cX5_fits 7 = .ok (.invokevirtual 242, 3) := by decide +kernel
theorem dX5_fits_10 : decode cX5_fits 10 = .ok (.istore_n 3, 1) := by decide +kernel
theorem dX5_fits_11 : decode cX5_fits 11 = .ok (.iload_n 3, 1) := by decide +kernel
theorem dX5_fits_12 : decode cX5_fits 12 = .ok (.ifCond .eq 9, 3) := by decide +kernel
theorem dX5_fits_15 : decode cX5_fits 15 = .ok (.aload_n 0, 1) := by decide +kernel
theorem dX5_fits_16 : decode cX5_fits 16 = .ok (.iload_n 3, 1) := by decide +kernel
theorem dX5_fits_17 : decode cX5_fits 17 = .ok (.invokevirtual 66, 3) := by decide +kernel
theorem dX5_fits_20 : decode cX5_fits 20 = .ok (.ireturn, 1) := by decide +kernel
theorem dX5_fits_21 : decode cX5_fits 21 = .ok (.iload_n 2, 1) := by decide +kernel
theorem dX5_fits_22 : decode cX5_fits 22 = .ok (.iconst 2, 1) := by decide +kernel
theorem dX5_fits_23 : decode cX5_fits 23 = .ok (.invokestatic 82, 3) := by decide +kernel
theorem dX5_fits_26 : decode cX5_fits 26 = .ok (.istore 4, 2) := by decide +kernel
theorem dX5_fits_28 : decode cX5_fits 28 = .ok (.aload_n 0, 1) := by decide +kernel
theorem dX5_fits_29 : decode cX5_fits 29 = .ok (.getfield 9, 3) := by decide +kernel
theorem dX5_fits_32 : decode cX5_fits 32 = .ok (.iload 4, 2) := by decide +kernel
theorem dX5_fits_34 : decode cX5_fits 34 = .ok (.iaload, 1) := by decide +kernel
theorem dX5_fits_35 : decode cX5_fits 35 = .ok (.istore 5, 2) := by decide +kernel
theorem dX5_fits_37 : decode cX5_fits 37 = .ok (.iconst 0, 1) := by decide +kernel
theorem dX5_fits_38 : decode cX5_fits 38 = .ok (.istore 6, 2) := by decide +kernel
theorem dX5_fits_40 : decode cX5_fits 40 = .ok (.iconst 0, 1) := by decide +kernel
theorem dX5_fits_41 : decode cX5_fits 41 = .ok (.istore 7, 2) := by decide +kernel
theorem dX5_fits_43 : decode cX5_fits 43 = .ok (.iload 7, 2) := by decide +kernel
theorem dX5_fits_45 : decode cX5_fits 45 = .ok (.bipush 100, 2) := by decide +kernel
theorem dX5_fits_47 : decode cX5_fits 47 = .ok (.if_icmp .ge 42, 3) := by decide +kernel
theorem dX5_fits_50 : decode cX5_fits 50 = .ok (.aload_n 0, 1) := by decide +kernel
theorem dX5_fits_51 : decode cX5_fits 51 = .ok (.getfield 9, 3) := by decide +kernel
theorem dX5_fits_54 : decode cX5_fits 54 = .ok (.iload 4, 2) := by decide +kernel
theorem dX5_fits_56 : decode cX5_fits 56 = .ok (.iload 7, 2) := by decide +kernel
theorem dX5_fits_58 : decode cX5_fits 58 = .ok (.iastore, 1) := by decide +kernel
theorem dX5_fits_59 : decode cX5_fits 59 = .ok (.iload 6, 2) := by decide +kernel
theorem dX5_fits_61 : decode cX5_fits 61 = .ok (.aload_n 0, 1) := by decide +kernel
theorem dX5_fits_62 : decode cX5_fits 62 = .ok (.iload_n 1, 1) := by decide +kernel
theorem dX5_fits_63 : decode cX5_fits 63 = .ok (.aload_n 0, 1) := by decide +kernel
theorem dX5_fits_64 : decode cX5_fits 64 = .ok (.iload_n 2, 1) := by decide +kernel
theorem dX5_fits_65 : decode cX5_fits 65 = .ok (.iconst 1, 1) := by decide +kernel
theorem dX5_fits_66 : decode cX5_fits 66 = .ok (.invokevirtual 108, 3) := by decide +kernel
theorem dX5_fits_69 : decode cX5_fits 69 = .ok (.invokevirtual 246, 3) := by decide +kernel
theorem dX5_fits_72 : decode cX5_fits 72 = .ok (.ifCond .eq 7, 3) := by decide +kernel
theorem dX5_fits_75 : decode cX5_fits 75 = .ok (.iconst 1, 1) := by decide +kernel
theorem dX5_fits_76 : decode cX5_fits 76 = .ok (.goto 4, 3) := by decide +kernel
theorem dX5_fits_79 : decode cX5_fits 79 = .ok (.iconst 0, 1) := by decide +kernel
theorem dX5_fits_80 : decode cX5_fits 80 = .ok (.iadd, 1) := by decide +kernel
theorem dX5_fits_81 : decode cX5_fits 81 = .ok (.istore 6, 2) := by decide +kernel
theorem dX5_fits_83 : decode cX5_fits 83 = .ok (.iinc 7 1, 3) := by decide +kernel
theorem dX5_fits_86 : decode cX5_fits 86 = .ok (.goto (-43), 3) := by decide +kernel
theorem dX5_fits_89 : decode cX5_fits 89 = .ok (.aload_n 0, 1) := by decide +kernel
theorem dX5_fits_90 : decode cX5_fits 90 = .ok (.getfield 9, 3) := by decide +kernel
theorem dX5_fits_93 : decode cX5_fits 93 = .ok (.iload 4, 2) := by decide +kernel
theorem dX5_fits_95 : decode cX5_fits 95 = .ok (.iload 5, 2) := by decide +kernel
theorem dX5_fits_97 : decode cX5_fits 97 = .ok (.iastore, 1) := by decide +kernel
theorem dX5_fits_98 : decode cX5_fits 98 = .ok (.iload 6, 2) := by decide +kernel
theorem dX5_fits_100 : decode cX5_fits 100 = .ok (.ireturn, 1) := by decide +kernel
set_option maxRecDepth 20000 in
theorem ggX5_kinds_X5_isSaying : GoodIn wsX5_kinds wsX5_isSaying := goodIn_r _ [6, 1, 7, 8, 5, 9, 104, 105, 106, 107, 108, 109, 110, 111, 112, 113, 114, 115, 116, 117, 118, 119, 120, 121, 122, 123, 124] (by decide +kernel) (by decide +kernel)
set_option maxRecDepth 20000 in
theorem gX5_kinds_X5_isSaying : GoodIn wsX5_kinds (wsV RX5 123 RX5 yX5_isSaying wsX5_isSaying) := goodIn_app (goodIn_of _ (by decide +kernel)) ggX5_kinds_X5_isSaying
set_option maxRecDepth 20000 in
theorem ggX5_kinds_X5_lacks : GoodIn wsX5_kinds wsX5_lacks := goodIn_r _ [13, 14, 15, 16, 17, 18, 5, 19, 7, 8, 9, 104, 105, 106, 107, 108, 109, 110, 111, 112, 113, 114, 115, 116, 117, 118, 119, 120, 121, 122, 123, 124] (by decide +kernel) (by decide +kernel)
set_option maxRecDepth 20000 in
theorem gX5_kinds_X5_lacks : GoodIn wsX5_kinds (wsV RX5 242 RX5 yX5_lacks wsX5_lacks) := goodIn_app (goodIn_of _ (by decide +kernel)) ggX5_kinds_X5_lacks
set_option maxRecDepth 20000 in
theorem ggX5_kinds_X5_finding : GoodIn wsX5_kinds wsX5_finding := goodIn_r _ [23, 24, 14, 104, 105, 106, 107, 108, 109, 110, 111, 112, 113, 114, 115, 116, 117, 118, 119, 120, 121, 122, 123, 124] (by decide +kernel) (by decide +kernel)
set_option maxRecDepth 20000 in
theorem gX5_kinds_X5_finding : GoodIn wsX5_kinds (wsV RX5 66 RX5 yX5_finding wsX5_finding) := goodIn_app (goodIn_of _ (by decide +kernel)) ggX5_kinds_X5_finding
set_option maxRecDepth 20000 in
theorem ggX5_kinds_X5_sayingAt : GoodIn wsX5_kinds wsX5_sayingAt := goodIn_r _ [27] (by decide +kernel) (by decide +kernel)
set_option maxRecDepth 20000 in
theorem gX5_kinds_X5_sayingAt : GoodIn wsX5_kinds (va_wsS RX5 82 yX5_sayingAt wsX5_sayingAt) := goodIn_app (goodIn_of _ (by decide +kernel)) ggX5_kinds_X5_sayingAt
set_option maxRecDepth 20000 in
theorem ggX5_kinds_X5_sayingIs : GoodIn wsX5_kinds wsX5_sayingIs := goodIn_r _ [31, 1, 25, 26, 5, 27, 104, 105, 106, 107, 108, 109, 110, 111, 112, 113, 114, 115, 116, 117, 118, 119, 120, 121, 122, 123, 124] (by decide +kernel) (by decide +kernel)
set_option maxRecDepth 20000 in
theorem gX5_kinds_X5_sayingIs : GoodIn wsX5_kinds (wsV RX5 108 RX5 yX5_sayingIs wsX5_sayingIs) := goodIn_app (goodIn_of _ (by decide +kernel)) ggX5_kinds_X5_sayingIs
set_option maxRecDepth 20000 in
theorem ggX5_kinds_X5_isSo : GoodIn wsX5_kinds wsX5_isSo := goodIn_r _ [35, 1, 36, 37, 38, 39, 40, 5, 41, 42, 43, 44, 45, 46, 47, 48, 49, 50, 51, 52, 28, 29, 30, 31, 25, 26, 27, 53, 54, 55, 56, 57, 58, 59, 60, 61, 62, 63, 64, 65, 66, 67, 68, 69, 70, 71, 72, 73, 74, 75, 76, 77, 78, 79, 80, 81, 82, 83, 84, 85, 86, 87, 88, 89, 90, 91, 2, 3, 4, 6, 7, 8, 9, 92, 93, 94, 95, 96, 97, 98, 99, 100, 101, 102, 103, 104, 105, 106, 107, 108, 109, 110, 111, 112, 113, 114, 115, 116, 117, 118, 119, 120, 121, 122, 123, 124] (by decide +kernel) (by decide +kernel)
set_option maxRecDepth 20000 in
theorem gX5_kinds_X5_isSo : GoodIn wsX5_kinds (wsV RX5 246 RX5 yX5_isSo wsX5_isSo) := goodIn_app (goodIn_of _ (by decide +kernel)) ggX5_kinds_X5_isSo
theorem dX5_kinds_0 : decode cX5_kinds 0 = .ok (.aload_n 0, 1) := by decide +kernel
theorem dX5_kinds_1 : decode cX5_kinds 1 = .ok (.iload_n 1, 1) := by decide +kernel
theorem dX5_kinds_2 : decode cX5_kinds 2 = .ok (.aload_n 0, 1) := by decide +kernel
theorem dX5_kinds_3 : decode cX5_kinds 3 = .ok (.iload_n 2, 1) := by decide +kernel
theorem dX5_kinds_4 : decode cX5_kinds 4 = .ok (.invokevirtual 123, 3) := by decide +kernel
theorem dX5_kinds_7 : decode cX5_kinds 7 = .ok (.invokevirtual 242, 3) := by decide +kernel
theorem dX5_kinds_10 : decode cX5_kinds 10 = .ok (.istore_n 3, 1) := by decide +kernel
theorem dX5_kinds_11 : decode cX5_kinds 11 = .ok (.iload_n 3, 1) := by decide +kernel
theorem dX5_kinds_12 : decode cX5_kinds 12 = .ok (.ifCond .eq 9, 3) := by decide +kernel
theorem dX5_kinds_15 : decode cX5_kinds 15 = .ok (.aload_n 0, 1) := by decide +kernel
theorem dX5_kinds_16 : decode cX5_kinds 16 = .ok (.iload_n 3, 1) := by decide +kernel
theorem dX5_kinds_17 : decode cX5_kinds 17 = .ok (.invokevirtual 66, 3) := by decide +kernel
theorem dX5_kinds_20 : decode cX5_kinds 20 = .ok (.ireturn, 1) := by decide +kernel
theorem dX5_kinds_21 : decode cX5_kinds 21 = .ok (.iload_n 2, 1) := by decide +kernel
theorem dX5_kinds_22 : decode cX5_kinds 22 = .ok (.iconst 0, 1) := by decide +kernel
theorem dX5_kinds_23 : decode cX5_kinds 23 = .ok (.invokestatic 82, 3) := by decide +kernel
theorem dX5_kinds_26 : decode cX5_kinds 26 = .ok (.istore 4, 2) := by decide +kernel
theorem dX5_kinds_28 : decode cX5_kinds 28 = .ok (.aload_n 0, 1) := by decide +kernel
theorem dX5_kinds_29 : decode cX5_kinds 29 = .ok (.getfield 9, 3) := by decide +kernel
theorem dX5_kinds_32 : decode cX5_kinds 32 = .ok (.iload 4, 2) := by decide +kernel
theorem dX5_kinds_34 : decode cX5_kinds 34 = .ok (.iaload, 1) := by decide +kernel
theorem dX5_kinds_35 : decode cX5_kinds 35 = .ok (.istore 5, 2) := by decide +kernel
theorem dX5_kinds_37 : decode cX5_kinds 37 = .ok (.iconst 0, 1) := by decide +kernel
theorem dX5_kinds_38 : decode cX5_kinds 38 = .ok (.istore 6, 2) := by decide +kernel
theorem dX5_kinds_40 : decode cX5_kinds 40 = .ok (.iconst 0, 1) := by decide +kernel
theorem dX5_kinds_41 : decode cX5_kinds 41 = .ok (.istore 7, 2) := by decide +kernel
theorem dX5_kinds_43 : decode cX5_kinds 43 = .ok (.iload 7, 2) := by decide +kernel
theorem dX5_kinds_45 : decode cX5_kinds 45 = .ok (.bipush 6, 2) := by decide +kernel
theorem dX5_kinds_47 : decode cX5_kinds 47 = .ok (.if_icmp .gt 45, 3) := by decide +kernel
theorem dX5_kinds_50 : decode cX5_kinds 50 = .ok (.aload_n 0, 1) := by decide +kernel
theorem dX5_kinds_51 : decode cX5_kinds 51 = .ok (.getfield 9, 3) := by decide +kernel
theorem dX5_kinds_54 : decode cX5_kinds 54 = .ok (.iload 4, 2) := by decide +kernel
theorem dX5_kinds_56 : decode cX5_kinds 56 = .ok (.iload 7, 2) := by decide +kernel
theorem dX5_kinds_58 : decode cX5_kinds 58 = .ok (.iastore, 1) := by decide +kernel
theorem dX5_kinds_59 : decode cX5_kinds 59 = .ok (.iload 6, 2) := by decide +kernel
theorem dX5_kinds_61 : decode cX5_kinds 61 = .ok (.aload_n 0, 1) := by decide +kernel
theorem dX5_kinds_62 : decode cX5_kinds 62 = .ok (.iload_n 1, 1) := by decide +kernel
theorem dX5_kinds_63 : decode cX5_kinds 63 = .ok (.aload_n 0, 1) := by decide +kernel
theorem dX5_kinds_64 : decode cX5_kinds 64 = .ok (.iload_n 2, 1) := by decide +kernel
theorem dX5_kinds_65 : decode cX5_kinds 65 = .ok (.iconst 1, 1) := by decide +kernel
theorem dX5_kinds_66 : decode cX5_kinds 66 = .ok (.invokevirtual 108, 3) := by decide +kernel
theorem dX5_kinds_69 : decode cX5_kinds 69 = .ok (.invokevirtual 246, 3) := by decide +kernel
theorem dX5_kinds_72 : decode cX5_kinds 72 = .ok (.ifCond .eq 10, 3) := by decide +kernel
theorem dX5_kinds_75 : decode cX5_kinds 75 = .ok (.iconst 1, 1) := by decide +kernel
theorem dX5_kinds_76 : decode cX5_kinds 76 = .ok (.iload 7, 2) := by decide +kernel
theorem dX5_kinds_78 : decode cX5_kinds 78 = .ok (.ishl, 1) := by decide +kernel
theorem dX5_kinds_79 : decode cX5_kinds 79 = .ok (.goto 4, 3) := by decide +kernel
theorem dX5_kinds_82 : decode cX5_kinds 82 = .ok (.iconst 0, 1) := by decide +kernel
theorem dX5_kinds_83 : decode cX5_kinds 83 = .ok (.ior, 1) := by decide +kernel
theorem dX5_kinds_84 : decode cX5_kinds 84 = .ok (.istore 6, 2) := by decide +kernel
theorem dX5_kinds_86 : decode cX5_kinds 86 = .ok (.iinc 7 1, 3) := by decide +kernel
theorem dX5_kinds_89 : decode cX5_kinds 89 = .ok (.goto (-46), 3) := by decide +kernel
theorem dX5_kinds_92 : decode cX5_kinds 92 = .ok (.aload_n 0, 1) := by decide +kernel
theorem dX5_kinds_93 : decode cX5_kinds 93 = .ok (.getfield 9, 3) := by decide +kernel
theorem dX5_kinds_96 : decode cX5_kinds 96 = .ok (.iload 4, 2) := by decide +kernel
theorem dX5_kinds_98 : decode cX5_kinds 98 = .ok (.iload 5, 2) := by decide +kernel
theorem dX5_kinds_100 : decode cX5_kinds 100 = .ok (.iastore, 1) := by decide +kernel
theorem dX5_kinds_101 : decode cX5_kinds 101 = .ok (.iload 6, 2) := by decide +kernel
theorem dX5_kinds_103 : decode cX5_kinds 103 = .ok (.ireturn, 1) := by decide +kernel
theorem dX5_drawn_0 : decode cX5_drawn 0 = .ok (.aload_n 0, 1) := by decide +kernel
theorem dX5_drawn_1 : decode cX5_drawn 1 = .ok (.getfield 9, 3) := by decide +kernel
theorem dX5_drawn_4 : decode cX5_drawn 4 = .ok (.iconst 2, 1) := by decide +kernel
theorem dX5_drawn_5 : decode cX5_drawn 5 = .ok (.aload_n 0, 1) := by decide +kernel
theorem dX5_drawn_6 : decode cX5_drawn 6 = .ok (.getfield 9, 3) := by decide +kernel
theorem dX5_drawn_9 : decode cX5_drawn 9 = .ok (.iconst 2, 1) := by decide +kernel
theorem dX5_drawn_10 : decode cX5_drawn 10 = .ok (.iaload, 1) := by decide +kernel
theorem dX5_drawn_11 : decode cX5_drawn 11 = .ok (.ldc 249, 2) := by decide +kernel
theorem dX5_drawn_13 : decode cX5_drawn 13 = .ok (.imul, 1) := by decide +kernel
theorem dX5_drawn_14 : decode cX5_drawn 14 = .ok (.sipush 12345, 3) := by decide +kernel
theorem dX5_drawn_17 : decode cX5_drawn 17 = .ok (.iadd, 1) := by decide +kernel
theorem dX5_drawn_18 : decode cX5_drawn 18 = .ok (.iastore, 1) := by decide +kernel
theorem dX5_drawn_19 : decode cX5_drawn 19 = .ok (.aload_n 0, 1) := by decide +kernel
theorem dX5_drawn_20 : decode cX5_drawn 20 = .ok (.getfield 9, 3) := by decide +kernel
theorem dX5_drawn_23 : decode cX5_drawn 23 = .ok (.iconst 2, 1) := by decide +kernel
theorem dX5_drawn_24 : decode cX5_drawn 24 = .ok (.iaload, 1) := by decide +kernel
theorem dX5_drawn_25 : decode cX5_drawn 25 = .ok (.bipush 8, 2) := by decide +kernel
theorem dX5_drawn_27 : decode cX5_drawn 27 = .ok (.iushr, 1) := by decide +kernel
theorem dX5_drawn_28 : decode cX5_drawn 28 = .ok (.ireturn, 1) := by decide +kernel
set_option maxRecDepth 20000 in
theorem ggX5_committee_X5_within : GoodIn wsX5_committee wsX5_within := goodIn_r _ [8] (by decide +kernel) (by decide +kernel)
set_option maxRecDepth 20000 in
theorem gX5_committee_X5_within : GoodIn wsX5_committee (va_wsS RX5 70 yX5_within wsX5_within) := goodIn_app (goodIn_of _ (by decide +kernel)) ggX5_committee_X5_within
set_option maxRecDepth 20000 in
theorem ggX5_committee_X5_finding : GoodIn wsX5_committee wsX5_finding := goodIn_r _ [12, 13, 1, 95, 96, 97, 98, 99, 100, 101, 102, 103, 104, 105, 106, 107, 108, 109, 110, 111, 112, 113, 114, 115] (by decide +kernel) (by decide +kernel)
set_option maxRecDepth 20000 in
theorem gX5_committee_X5_finding : GoodIn wsX5_committee (wsV RX5 66 RX5 yX5_finding wsX5_finding) := goodIn_app (goodIn_of _ (by decide +kernel)) ggX5_committee_X5_finding
set_option maxRecDepth 20000 in
theorem ggX5_committee_X5_drawn : GoodIn wsX5_committee wsX5_drawn := goodIn_r _ [17, 2, 18, 95, 96, 97, 98, 99, 100, 101, 102, 103, 104, 105, 106, 107, 108, 109, 110, 111, 112, 113, 114, 115] (by decide +kernel) (by decide +kernel)
set_option maxRecDepth 20000 in
theorem gX5_committee_X5_drawn : GoodIn wsX5_committee (wsV RX5 250 RX5 yX5_drawn wsX5_drawn) := goodIn_app (goodIn_of _ (by decide +kernel)) ggX5_committee_X5_drawn
set_option maxRecDepth 20000 in
theorem ggX5_committee_X5_placeNow : GoodIn wsX5_committee wsX5_placeNow := goodIn_r _ [22, 2, 95, 96, 97, 98, 99, 100, 101, 102, 103, 104, 105, 106, 107, 108, 109, 110, 111, 112, 113, 114, 115] (by decide +kernel) (by decide +kernel)
set_option maxRecDepth 20000 in
theorem gX5_committee_X5_placeNow : GoodIn wsX5_committee (wsV RX5 166 RX5 yX5_placeNow wsX5_placeNow) := goodIn_app (goodIn_of _ (by decide +kernel)) ggX5_committee_X5_placeNow
set_option maxRecDepth 20000 in
theorem ggX5_committee_X5_isSaying : GoodIn wsX5_committee wsX5_isSaying := goodIn_r _ [26, 2, 5, 6, 7, 8, 95, 96, 97, 98, 99, 100, 101, 102, 103, 104, 105, 106, 107, 108, 109, 110, 111, 112, 113, 114, 115] (by decide +kernel) (by decide +kernel)
set_option maxRecDepth 20000 in
theorem gX5_committee_X5_isSaying : GoodIn wsX5_committee (wsV RX5 123 RX5 yX5_isSaying wsX5_isSaying) := goodIn_app (goodIn_of _ (by decide +kernel)) ggX5_committee_X5_isSaying
set_option maxRecDepth 20000 in
theorem ggX5_committee_X5_sayingAt : GoodIn wsX5_committee wsX5_sayingAt := goodIn_r _ [29] (by decide +kernel) (by decide +kernel)
set_option maxRecDepth 20000 in
theorem gX5_committee_X5_sayingAt : GoodIn wsX5_committee (va_wsS RX5 82 yX5_sayingAt wsX5_sayingAt) := goodIn_app (goodIn_of _ (by decide +kernel)) ggX5_committee_X5_sayingAt
set_option maxRecDepth 20000 in
theorem ggX5_committee_X5_more : GoodIn wsX5_committee wsX5_more := goodIn_r _ [33, 2, 34, 35, 36, 37, 95, 96, 97, 98, 99, 100, 101, 102, 103, 104, 105, 106, 107, 108, 109, 110, 111, 112, 113, 114, 115] (by decide +kernel) (by decide +kernel)
set_option maxRecDepth 20000 in
theorem gX5_committee_X5_more : GoodIn wsX5_committee (wsV RX5 159 RX5 yX5_more wsX5_more) := goodIn_app (goodIn_of _ (by decide +kernel)) ggX5_committee_X5_more
set_option maxRecDepth 20000 in
theorem ggX5_committee_X5_day : GoodIn wsX5_committee wsX5_day := goodIn_r _ [41, 2, 34, 35, 36, 37, 42, 43, 44, 3, 45, 46, 47, 7, 48, 49, 50, 51, 52, 53, 54, 55, 56, 57, 58, 59, 60, 61, 62, 63, 64, 65, 66, 27, 28, 29, 67, 68, 69, 70, 71, 72, 73, 74, 30, 31, 32, 33, 75, 76, 77, 78, 19, 20, 21, 22, 23, 24, 25, 26, 5, 6, 8, 79, 80, 81, 82, 83, 84, 85, 86, 87, 88, 89, 90, 95, 96, 97, 98, 99, 100, 101, 102, 103, 104, 105, 106, 107, 108, 109, 110, 111, 112, 113, 114, 115] (by decide +kernel) (by decide +kernel)
set_option maxRecDepth 20000 in
theorem gX5_committee_X5_day : GoodIn wsX5_committee (wsV RX5 175 RX5 yX5_day wsX5_day) := goodIn_app (goodIn_of _ (by decide +kernel)) ggX5_committee_X5_day
set_option maxRecDepth 20000 in
theorem ggX5_committee_X5_inPort : GoodIn wsX5_committee wsX5_inPort := goodIn_r _ [94, 2, 75, 76, 77, 7, 78, 45, 46, 47, 48, 49, 50, 51, 95, 96, 97, 98, 99, 100, 101, 102, 103, 104, 105, 106, 107, 108, 109, 110, 111, 112, 113, 114, 115] (by decide +kernel) (by decide +kernel)
set_option maxRecDepth 20000 in
theorem gX5_committee_X5_inPort : GoodIn wsX5_committee (wsV RX5 182 RX5 yX5_inPort wsX5_inPort) := goodIn_app (goodIn_of _ (by decide +kernel)) ggX5_committee_X5_inPort
theorem dX5_committee_0 : decode cX5_committee 0 = .ok (.iload_n 1, 1) := by decide +kernel
theorem dX5_committee_1 : decode cX5_committee 1 = .ok (.iconst 1, 1) := by decide +kernel
theorem dX5_committee_2 : decode cX5_committee 2 = .ok (.bipush 20, 2) := by decide +kernel
theorem dX5_committee_4 : decode cX5_committee 4 = .ok (.invokestatic 70, 3) := by decide +kernel
theorem dX5_committee_7 : decode cX5_committee 7 = .ok (.ifCond .ne 10, 3) := by decide +kernel
theorem dX5_committee_10 : decode cX5_committee 10 = .ok (.aload_n 0, 1) := by decide +kernel
theorem dX5_committee_11 : decode cX5_committee 11 = .ok (.ldc 60, 2) := by decide +kernel
theorem dX5_committee_13 : decode cX5_committee 13 = .ok (.invokevirtual 66, 3) := by decide +kernel
theorem dX5_committee_16 : decode cX5_committee 16 = .ok (.ireturn, 1) := by decide +kernel
theorem dX5_committee_17 : decode cX5_committee 17 = .ok (.aload_n 0, 1) := by decide +kernel
theorem dX5_committee_18 : decode cX5_committee 18 = .ok (.getfield 9, 3) := by decide +kernel
theorem dX5_committee_21 : decode cX5_committee 21 = .ok (.iconst 0, 1) := by decide +kernel
theorem dX5_committee_22 : decode cX5_committee 22 = .ok (.iaload, 1) := by decide +kernel
theorem dX5_committee_23 : decode cX5_committee 23 = .ok (.iload_n 1, 1) := by decide +kernel
theorem dX5_committee_24 : decode cX5_committee 24 = .ok (.iadd, 1) := by decide +kernel
theorem dX5_committee_25 : decode cX5_committee 25 = .ok (.ldc 174, 2) := by decide +kernel
theorem dX5_committee_27 : decode cX5_committee 27 = .ok (.if_icmp .le 10, 3) := by decide +kernel
theorem dX5_committee_30 : decode cX5_committee 30 = .ok (.aload_n 0, 1) := by decide +kernel
theorem dX5_committee_31 : decode cX5_committee 31 = .ok (.ldc 178, 2) := by decide +kernel
theorem dX5_committee_33 : decode cX5_committee 33 = .ok (.invokevirtual 66, 3) := by decide +kernel
theorem dX5_committee_36 : decode cX5_committee 36 = .ok (.ireturn, 1) := by decide +kernel
theorem dX5_committee_37 : decode cX5_committee 37 = .ok (.iconst 0, 1) := by decide +kernel
theorem dX5_committee_38 : decode cX5_committee 38 = .ok (.istore_n 2, 1) := by decide +kernel
theorem dX5_committee_39 : decode cX5_committee 39 = .ok (.iload_n 2, 1) := by decide +kernel
theorem dX5_committee_40 : decode cX5_committee 40 = .ok (.iload_n 1, 1) := by decide +kernel
theorem dX5_committee_41 : decode cX5_committee 41 = .ok (.if_icmp .ge 62, 3) := by decide +kernel
theorem dX5_committee_44 : decode cX5_committee 44 = .ok (.aload_n 0, 1) := by decide +kernel
theorem dX5_committee_45 : decode cX5_committee 45 = .ok (.invokevirtual 250, 3) := by decide +kernel
theorem dX5_committee_48 : decode cX5_committee 48 = .ok (.bipush 9, 2) := by decide +kernel
theorem dX5_committee_50 : decode cX5_committee 50 = .ok (.irem, 1) := by decide +kernel
theorem dX5_committee_51 : decode cX5_committee 51 = .ok (.istore_n 3, 1) := by decide +kernel
theorem dX5_committee_52 : decode cX5_committee 52 = .ok (.aload_n 0, 1) := by decide +kernel
theorem dX5_committee_53 : decode cX5_committee 53 = .ok (.getfield 9, 3) := by decide +kernel
theorem dX5_committee_56 : decode cX5_committee 56 = .ok (.aload_n 0, 1) := by decide +kernel
theorem dX5_committee_57 : decode cX5_committee 57 = .ok (.invokevirtual 166, 3) := by decide +kernel
theorem dX5_committee_60 : decode cX5_committee 60 = .ok (.iload_n 3, 1) := by decide +kernel
theorem dX5_committee_61 : decode cX5_committee 61 = .ok (.iastore, 1) := by decide +kernel
theorem dX5_committee_62 : decode cX5_committee 62 = .ok (.aload_n 0, 1) := by decide +kernel
theorem dX5_committee_63 : decode cX5_committee 63 = .ok (.invokevirtual 250, 3) := by decide +kernel
theorem dX5_committee_66 : decode cX5_committee 66 = .ok (.bipush 8, 2) := by decide +kernel
theorem dX5_committee_68 : decode cX5_committee 68 = .ok (.irem, 1) := by decide +kernel
theorem dX5_committee_69 : decode cX5_committee 69 = .ok (.istore 4, 2) := by decide +kernel
theorem dX5_committee_71 : decode cX5_committee 71 = .ok (.aload_n 0, 1) := by decide +kernel
theorem dX5_committee_72 : decode cX5_committee 72 = .ok (.iload 4, 2) := by decide +kernel
theorem dX5_committee_74 : decode cX5_committee 74 = .ok (.invokevirtual 123, 3) := by decide +kernel
theorem dX5_committee_77 : decode cX5_committee 77 = .ok (.ifCond .eq 16, 3) := by decide +kernel
theorem dX5_committee_80 : decode cX5_committee 80 = .ok (.aload_n 0, 1) := by decide +kernel
theorem dX5_committee_81 : decode cX5_committee 81 = .ok (.iload 4, 2) := by decide +kernel
theorem dX5_committee_83 : decode cX5_committee 83 = .ok (.iconst 2, 1) := by decide +kernel
theorem dX5_committee_84 : decode cX5_committee 84 = .ok (.invokestatic 82, 3) := by decide +kernel
theorem dX5_committee_87 : decode cX5_committee 87 = .ok (.iconst 5, 1) := by decide +kernel
theorem dX5_committee_88 : decode cX5_committee 88 = .ok (.bipush 99, 2) := by decide +kernel
theorem dX5_committee_90 : decode cX5_committee 90 = .ok (.invokevirtual 159, 3) := by decide +kernel
theorem dX5_committee_93 : decode cX5_committee 93 = .ok (.aload_n 0, 1) := by decide +kernel
theorem dX5_committee_94 : decode cX5_committee 94 = .ok (.invokevirtual 175, 3) := by decide +kernel
theorem dX5_committee_97 : decode cX5_committee 97 = .ok (.iinc 2 1, 3) := by decide +kernel
theorem dX5_committee_100 : decode cX5_committee 100 = .ok (.goto (-61), 3) := by decide +kernel
theorem dX5_committee_103 : decode cX5_committee 103 = .ok (.aload_n 0, 1) := by decide +kernel
theorem dX5_committee_104 : decode cX5_committee 104 = .ok (.invokevirtual 182, 3) := by decide +kernel
theorem dX5_committee_107 : decode cX5_committee 107 = .ok (.ireturn, 1) := by decide +kernel
set_option maxRecDepth 20000 in
theorem ggX5_odds_X5_isShip : GoodIn wsX5_odds wsX5_isShip := goodIn_r _ [6, 7, 8, 9, 5, 10, 53, 54, 55, 56, 57, 58, 59, 60, 61, 62, 63, 64, 65, 66, 67, 68, 69, 70, 71, 72, 73] (by decide +kernel) (by decide +kernel)
set_option maxRecDepth 20000 in
theorem gX5_odds_X5_isShip : GoodIn wsX5_odds (wsV RX5 133 RX5 yX5_isShip wsX5_isShip) := goodIn_app (goodIn_of _ (by decide +kernel)) ggX5_odds_X5_isShip
set_option maxRecDepth 20000 in
theorem ggX5_odds_X5_within : GoodIn wsX5_odds wsX5_within := goodIn_r _ [10] (by decide +kernel) (by decide +kernel)
set_option maxRecDepth 20000 in
theorem gX5_odds_X5_within : GoodIn wsX5_odds (va_wsS RX5 70 yX5_within wsX5_within) := goodIn_app (goodIn_of _ (by decide +kernel)) ggX5_odds_X5_within
set_option maxRecDepth 20000 in
theorem ggX5_odds_X5_finding : GoodIn wsX5_odds wsX5_finding := goodIn_r _ [14, 15, 1, 53, 54, 55, 56, 57, 58, 59, 60, 61, 62, 63, 64, 65, 66, 67, 68, 69, 70, 71, 72, 73] (by decide +kernel) (by decide +kernel)
set_option maxRecDepth 20000 in
theorem gX5_odds_X5_finding : GoodIn wsX5_odds (wsV RX5 66 RX5 yX5_finding wsX5_finding) := goodIn_app (goodIn_of _ (by decide +kernel)) ggX5_odds_X5_finding
set_option maxRecDepth 20000 in
theorem ggX5_odds_X5_wouldGoAt : GoodIn wsX5_odds wsX5_wouldGoAt := goodIn_r _ [19, 20, 21, 22, 5, 23, 7, 24, 25, 26, 27, 28, 29, 30, 31, 32, 33, 34, 35, 36, 37, 38, 39, 40, 41, 42, 43, 44, 45, 46, 47, 48, 49, 50, 51, 52, 53, 54, 55, 56, 57, 58, 59, 60, 61, 62, 63, 64, 65, 66, 67, 68, 69, 70, 71, 72, 73] (by decide +kernel) (by decide +kernel)
set_option maxRecDepth 20000 in
theorem gX5_odds_X5_wouldGoAt : GoodIn wsX5_odds (wsV RX5 156 RX5 yX5_wouldGoAt wsX5_wouldGoAt) := goodIn_app (goodIn_of _ (by decide +kernel)) ggX5_odds_X5_wouldGoAt
theorem dX5_odds_0 : decode cX5_odds 0 = .ok (.aload_n 0, 1) := by decide +kernel
theorem dX5_odds_1 : decode cX5_odds 1 = .ok (.iload_n 1, 1) := by decide +kernel
theorem dX5_odds_2 : decode cX5_odds 2 = .ok (.invokevirtual 133, 3) := by decide +kernel
theorem dX5_odds_5 : decode cX5_odds 5 = .ok (.ifCond .eq 22, 3) := by decide +kernel
theorem dX5_odds_8 : decode cX5_odds 8 = .ok (.iload_n 2, 1) := by decide +kernel
theorem dX5_odds_9 : decode cX5_odds 9 = .ok (.iconst 0, 1) := by decide +kernel
theorem dX5_odds_10 : decode cX5_odds 10 = .ok (.bipush 15, 2) := by decide +kernel
theorem dX5_odds_12 : decode cX5_odds 12 = .ok (.invokestatic 70, 3) := by decide +kernel
theorem dX5_odds_15 : decode cX5_odds 15 = .ok (.ifCond .eq 12, 3) := by decide +kernel
theorem dX5_odds_18 : decode cX5_odds 18 = .ok (.iload_n 3, 1) := by decide +kernel
theorem dX5_odds_19 : decode cX5_odds 19 = .ok (.iconst 0, 1) := by decide +kernel
theorem dX5_odds_20 : decode cX5_odds 20 = .ok (.iconst 1, 1) := by decide +kernel
theorem dX5_odds_21 : decode cX5_odds 21 = .ok (.invokestatic 70, 3) := by decide +kernel
theorem dX5_odds_24 : decode cX5_odds 24 = .ok (.ifCond .ne 11, 3) := by decide +kernel
theorem dX5_odds_27 : decode cX5_odds 27 = .ok (.aload_n 0, 1) := by decide +kernel
theorem dX5_odds_28 : decode cX5_odds 28 = .ok (.ldc 60, 2) := by decide +kernel
theorem dX5_odds_30 : decode cX5_odds 30 = .ok (.invokevirtual 66, 3) := by decide +kernel
theorem dX5_odds_33 : decode cX5_odds 33 = .ok (.i2l, 1) := by decide +kernel
theorem dX5_odds_34 : decode cX5_odds 34 = .ok (.lreturn, 1) := by decide +kernel
theorem dX5_odds_35 : decode cX5_odds 35 = .ok (.iconst 0, 1) := by decide +kernel
theorem dX5_odds_36 : decode cX5_odds 36 = .ok (.istore 4, 2) := by decide +kernel
theorem dX5_odds_38 : decode cX5_odds 38 = .ok (.iconst 0, 1) := by decide +kernel
theorem dX5_odds_39 : decode cX5_odds 39 = .ok (.istore 5, 2) := by decide +kernel
theorem dX5_odds_41 : decode cX5_odds 41 = .ok (.iload 5, 2) := by decide +kernel
theorem dX5_odds_43 : decode cX5_odds 43 = .ok (.bipush 16, 2) := by decide +kernel
theorem dX5_odds_45 : decode cX5_odds 45 = .ok (.if_icmp .ge 29, 3) := by decide +kernel
theorem dX5_odds_48 : decode cX5_odds 48 = .ok (.iload 4, 2) := by decide +kernel
theorem dX5_odds_50 : decode cX5_odds 50 = .ok (.aload_n 0, 1) := by decide +kernel
theorem dX5_odds_51 : decode cX5_odds 51 = .ok (.iload_n 1, 1) := by decide +kernel
theorem dX5_odds_52 : decode cX5_odds 52 = .ok (.iload 5, 2) := by decide +kernel
theorem dX5_odds_54 : decode cX5_odds 54 = .ok (.invokevirtual 156, 3) := by decide +kernel
theorem dX5_odds_57 : decode cX5_odds 57 = .ok (.ifCond .eq 7, 3) := by decide +kernel
theorem dX5_odds_60 : decode cX5_odds 60 = .ok (.iconst 1, 1) := by decide +kernel
theorem dX5_odds_61 : decode cX5_odds 61 = .ok (.goto 4, 3) := by decide +kernel
theorem dX5_odds_64 : decode cX5_odds 64 = .ok (.iconst 0, 1) := by decide +kernel
theorem dX5_odds_65 : decode cX5_odds 65 = .ok (.iadd, 1) := by decide +kernel
theorem dX5_odds_66 : decode cX5_odds 66 = .ok (.istore 4, 2) := by decide +kernel
theorem dX5_odds_68 : decode cX5_odds 68 = .ok (.iinc 5 1, 3) := by decide +kernel
theorem dX5_odds_71 : decode cX5_odds 71 = .ok (.goto (-30), 3) := by decide +kernel
theorem dX5_odds_74 : decode cX5_odds 74 = .ok (.bipush 16, 2) := by decide +kernel
theorem dX5_odds_76 : decode cX5_odds 76 = .ok (.istore 5, 2) := by decide +kernel
theorem dX5_odds_78 : decode cX5_odds 78 = .ok (.iload 4, 2) := by decide +kernel
theorem dX5_odds_80 : decode cX5_odds 80 = .ok (.istore 6, 2) := by decide +kernel
theorem dX5_odds_82 : decode cX5_odds 82 = .ok (.iload 6, 2) := by decide +kernel
theorem dX5_odds_84 : decode cX5_odds 84 = .ok (.ifCond .eq 21, 3) := by decide +kernel
theorem dX5_odds_87 : decode cX5_odds 87 = .ok (.iload 5, 2) := by decide +kernel
theorem dX5_odds_89 : decode cX5_odds 89 = .ok (.iload 6, 2) := by decide +kernel
theorem dX5_odds_91 : decode cX5_odds 91 = .ok (.irem, 1) := by decide +kernel
theorem dX5_odds_92 : decode cX5_odds 92 = .ok (.istore 7, 2) := by decide +kernel
theorem dX5_odds_94 : decode cX5_odds 94 = .ok (.iload 6, 2) := by decide +kernel
theorem dX5_odds_96 : decode cX5_odds 96 = .ok (.istore 5, 2) := by decide +kernel
theorem dX5_odds_98 : decode cX5_odds 98 = .ok (.iload 7, 2) := by decide +kernel
theorem dX5_odds_100 : decode cX5_odds 100 = .ok (.istore 6, 2) := by decide +kernel
theorem dX5_odds_102 : decode cX5_odds 102 = .ok (.goto (-20), 3) := by decide +kernel
theorem dX5_odds_105 : decode cX5_odds 105 = .ok (.lconst 1, 1) := by decide +kernel
theorem dX5_odds_106 : decode cX5_odds 106 = .ok (.lstore 7, 2) := by decide +kernel
theorem dX5_odds_108 : decode cX5_odds 108 = .ok (.iconst 0, 1) := by decide +kernel
theorem dX5_odds_109 : decode cX5_odds 109 = .ok (.istore 9, 2) := by decide +kernel
theorem dX5_odds_111 : decode cX5_odds 111 = .ok (.iload 9, 2) := by decide +kernel
theorem dX5_odds_113 : decode cX5_odds 113 = .ok (.iload_n 2, 1) := by decide +kernel
theorem dX5_odds_114 : decode cX5_odds 114 = .ok (.if_icmp .ge 29, 3) := by decide +kernel
theorem dX5_odds_117 : decode cX5_odds 117 = .ok (.lload 7, 2) := by decide +kernel
theorem dX5_odds_119 : decode cX5_odds 119 = .ok (.iload_n 3, 1) := by decide +kernel
theorem dX5_odds_120 : decode cX5_odds 120 = .ok (.ifCond .ne 8, 3) := by decide +kernel
theorem dX5_odds_123 : decode cX5_odds 123 = .ok (.iload 4, 2) := by decide +kernel
theorem dX5_odds_125 : decode cX5_odds 125 = .ok (.goto 5, 3) := by decide +kernel
theorem dX5_odds_128 : decode cX5_odds 128 = .ok (.bipush 16, 2) := by decide +kernel
theorem dX5_odds_130 : decode cX5_odds 130 = .ok (.iload 5, 2) := by decide +kernel
theorem dX5_odds_132 : decode cX5_odds 132 = .ok (.idiv, 1) := by decide +kernel
theorem dX5_odds_133 : decode cX5_odds 133 = .ok (.i2l, 1) := by decide +kernel
theorem dX5_odds_134 : decode cX5_odds 134 = .ok (.lmul, 1) := by decide +kernel
theorem dX5_odds_135 : decode cX5_odds 135 = .ok (.lstore 7, 2) := by decide +kernel
theorem dX5_odds_137 : decode cX5_odds 137 = .ok (.iinc 9 1, 3) := by decide +kernel
theorem dX5_odds_140 : decode cX5_odds 140 = .ok (.goto (-29), 3) := by decide +kernel
theorem dX5_odds_143 : decode cX5_odds 143 = .ok (.lload 7, 2) := by decide +kernel
theorem dX5_odds_145 : decode cX5_odds 145 = .ok (.lreturn, 1) := by decide +kernel
set_option maxRecDepth 20000 in
theorem ggX5_seed_X5_become : GoodIn wsX5_seed wsX5_become := goodIn_r _ [5, 6, 7, 8, 9, 10, 11, 12, 13, 14, 15, 16, 17, 18, 19, 20, 21, 22, 23, 24, 25, 26, 27] (by decide +kernel) (by decide +kernel)
set_option maxRecDepth 20000 in
theorem gX5_seed_X5_become : GoodIn wsX5_seed (wsV RX5 78 RX5 yX5_become wsX5_become) := goodIn_app (goodIn_of _ (by decide +kernel)) ggX5_seed_X5_become
theorem dX5_seed_0 : decode cX5_seed 0 = .ok (.aload_n 0, 1) := by decide +kernel
theorem dX5_seed_1 : decode cX5_seed 1 = .ok (.iconst 2, 1) := by decide +kernel
theorem dX5_seed_2 : decode cX5_seed 2 = .ok (.iload_n 1, 1) := by decide +kernel
theorem dX5_seed_3 : decode cX5_seed 3 = .ok (.invokevirtual 78, 3) := by decide +kernel
theorem dX5_seed_6 : decode cX5_seed 6 = .ok (.ireturn, 1) := by decide +kernel
set_option maxRecDepth 20000 in
theorem ggX5_feed_X5_within : GoodIn wsX5_feed wsX5_within := goodIn_r _ [8] (by decide +kernel) (by decide +kernel)
set_option maxRecDepth 20000 in
theorem gX5_feed_X5_within : GoodIn wsX5_feed (va_wsS RX5 70 yX5_within wsX5_within) := goodIn_app (goodIn_of _ (by decide +kernel)) ggX5_feed_X5_within
set_option maxRecDepth 20000 in
theorem ggX5_feed_X5_finding : GoodIn wsX5_feed wsX5_finding := goodIn_r _ [12, 13, 1, 14, 15, 16, 17, 18, 19, 20, 21, 22, 23, 24, 25, 26, 27, 28, 29, 30, 31, 32, 33, 34] (by decide +kernel) (by decide +kernel)
set_option maxRecDepth 20000 in
theorem gX5_feed_X5_finding : GoodIn wsX5_feed (wsV RX5 66 RX5 yX5_finding wsX5_finding) := goodIn_app (goodIn_of _ (by decide +kernel)) ggX5_feed_X5_finding
theorem dX5_feed_0 : decode cX5_feed 0 = .ok (.iload_n 2, 1) := by decide +kernel
theorem dX5_feed_1 : decode cX5_feed 1 = .ok (.iconst 1, 1) := by decide +kernel
theorem dX5_feed_2 : decode cX5_feed 2 = .ok (.iconst 4, 1) := by decide +kernel
theorem dX5_feed_3 : decode cX5_feed 3 = .ok (.invokestatic 70, 3) := by decide +kernel
theorem dX5_feed_6 : decode cX5_feed 6 = .ok (.ifCond .ne 10, 3) := by decide +kernel
theorem dX5_feed_9 : decode cX5_feed 9 = .ok (.aload_n 0, 1) := by decide +kernel
theorem dX5_feed_10 : decode cX5_feed 10 = .ok (.ldc 60, 2) := by decide +kernel
theorem dX5_feed_12 : decode cX5_feed 12 = .ok (.invokevirtual 66, 3) := by decide +kernel
theorem dX5_feed_15 : decode cX5_feed 15 = .ok (.ireturn, 1) := by decide +kernel
theorem dX5_feed_16 : decode cX5_feed 16 = .ok (.aload_n 0, 1) := by decide +kernel
theorem dX5_feed_17 : decode cX5_feed 17 = .ok (.getfield 253, 3) := by decide +kernel
theorem dX5_feed_20 : decode cX5_feed 20 = .ok (.iload_n 2, 1) := by decide +kernel
theorem dX5_feed_21 : decode cX5_feed 21 = .ok (.iadd, 1) := by decide +kernel
theorem dX5_feed_22 : decode cX5_feed 22 = .ok (.bipush 120, 2) := by decide +kernel
theorem dX5_feed_24 : decode cX5_feed 24 = .ok (.if_icmp .le 10, 3) := by decide +kernel
theorem dX5_feed_27 : decode cX5_feed 27 = .ok (.aload_n 0, 1) := by decide +kernel
theorem dX5_feed_28 : decode cX5_feed 28 = .ok (.ldc 97, 2) := by decide +kernel
theorem dX5_feed_30 : decode cX5_feed 30 = .ok (.invokevirtual 66, 3) := by decide +kernel
theorem dX5_feed_33 : decode cX5_feed 33 = .ok (.ireturn, 1) := by decide +kernel
theorem dX5_feed_34 : decode cX5_feed 34 = .ok (.iload_n 2, 1) := by decide +kernel
theorem dX5_feed_35 : decode cX5_feed 35 = .ok (.iconst 1, 1) := by decide +kernel
theorem dX5_feed_36 : decode cX5_feed 36 = .ok (.isub, 1) := by decide +kernel
theorem dX5_feed_37 : decode cX5_feed 37 = .ok (.istore_n 3, 1) := by decide +kernel
theorem dX5_feed_38 : decode cX5_feed 38 = .ok (.iload_n 3, 1) := by decide +kernel
theorem dX5_feed_39 : decode cX5_feed 39 = .ok (.ifCond .lt 38, 3) := by decide +kernel
theorem dX5_feed_42 : decode cX5_feed 42 = .ok (.aload_n 0, 1) := by decide +kernel
theorem dX5_feed_43 : decode cX5_feed 43 = .ok (.getfield 22, 3) := by decide +kernel
theorem dX5_feed_46 : decode cX5_feed 46 = .ok (.aload_n 0, 1) := by decide +kernel
theorem dX5_feed_47 : decode cX5_feed 47 = .ok (.getfield 253, 3) := by decide +kernel
theorem dX5_feed_50 : decode cX5_feed 50 = .ok (.iload_n 1, 1) := by decide +kernel
theorem dX5_feed_51 : decode cX5_feed 51 = .ok (.bipush 8, 2) := by decide +kernel
theorem dX5_feed_53 : decode cX5_feed 53 = .ok (.iload_n 3, 1) := by decide +kernel
theorem dX5_feed_54 : decode cX5_feed 54 = .ok (.imul, 1) := by decide +kernel
theorem dX5_feed_55 : decode cX5_feed 55 = .ok (.ishr, 1) := by decide +kernel
theorem dX5_feed_56 : decode cX5_feed 56 = .ok (.sipush 255, 3) := by decide +kernel
theorem dX5_feed_59 : decode cX5_feed 59 = .ok (.iand, 1) := by decide +kernel
theorem dX5_feed_60 : decode cX5_feed 60 = .ok (.iastore, 1) := by decide +kernel
theorem dX5_feed_61 : decode cX5_feed 61 = .ok (.aload_n 0, 1) := by decide +kernel
theorem dX5_feed_62 : decode cX5_feed 62 = .ok (.dup, 1) := by decide +kernel
theorem dX5_feed_63 : decode cX5_feed 63 = .ok (.getfield 253, 3) := by decide +kernel
theorem dX5_feed_66 : decode cX5_feed 66 = .ok (.iconst 1, 1) := by decide +kernel
theorem dX5_feed_67 : decode cX5_feed 67 = .ok (.iadd, 1) := by decide +kernel
theorem dX5_feed_68 : decode cX5_feed 68 = .ok (.putfield 253, 3) := by decide +kernel
theorem dX5_feed_71 : decode cX5_feed 71 = .ok (.iinc 3 (-1), 3) := by decide +kernel
theorem dX5_feed_74 : decode cX5_feed 74 = .ok (.goto (-36), 3) := by decide +kernel
theorem dX5_feed_77 : decode cX5_feed 77 = .ok (.aload_n 0, 1) := by decide +kernel
theorem dX5_feed_78 : decode cX5_feed 78 = .ok (.getfield 253, 3) := by decide +kernel
theorem dX5_feed_81 : decode cX5_feed 81 = .ok (.ireturn, 1) := by decide +kernel
theorem dX5_wipe_0 : decode cX5_wipe 0 = .ok (.aload_n 0, 1) := by decide +kernel
theorem dX5_wipe_1 : decode cX5_wipe 1 = .ok (.getfield 253, 3) := by decide +kernel
theorem dX5_wipe_4 : decode cX5_wipe 4 = .ok (.istore_n 1, 1) := by decide +kernel
theorem dX5_wipe_5 : decode cX5_wipe 5 = .ok (.aload_n 0, 1) := by decide +kernel
theorem dX5_wipe_6 : decode cX5_wipe 6 = .ok (.iconst 0, 1) := by decide +kernel
theorem dX5_wipe_7 : decode cX5_wipe 7 = .ok (.putfield 253, 3) := by decide +kernel
theorem dX5_wipe_10 : decode cX5_wipe 10 = .ok (.iload_n 1, 1) := by decide +kernel
theorem dX5_wipe_11 : decode cX5_wipe 11 = .ok (.ireturn, 1) := by decide +kernel
theorem dX5_byteAt_0 : decode cX5_byteAt 0 = .ok (.iload_n 1, 1) := by decide +kernel
theorem dX5_byteAt_1 : decode cX5_byteAt 1 = .ok (.aload_n 0, 1) := by decide +kernel
theorem dX5_byteAt_2 : decode cX5_byteAt 2 = .ok (.getfield 253, 3) := by decide +kernel
theorem dX5_byteAt_5 : decode cX5_byteAt 5 = .ok (.if_icmp .ge 12, 3) := by decide +kernel
theorem dX5_byteAt_8 : decode cX5_byteAt 8 = .ok (.aload_n 0, 1) := by decide +kernel
theorem dX5_byteAt_9 : decode cX5_byteAt 9 = .ok (.getfield 22, 3) := by decide +kernel
theorem dX5_byteAt_12 : decode cX5_byteAt 12 = .ok (.iload_n 1, 1) := by decide +kernel
theorem dX5_byteAt_13 : decode cX5_byteAt 13 = .ok (.iaload, 1) := by decide +kernel
theorem dX5_byteAt_14 : decode cX5_byteAt 14 = .ok (.goto 4, 3) := by decide +kernel
theorem dX5_byteAt_17 : decode cX5_byteAt 17 = .ok (.iconst (-1), 1) := by decide +kernel
theorem dX5_byteAt_18 : decode cX5_byteAt 18 = .ok (.ireturn, 1) := by decide +kernel
set_option maxRecDepth 20000 in
theorem ggX5_token_X5_byteAt : GoodIn wsX5_token wsX5_byteAt := goodIn_r _ [13, 14, 15, 19, 20, 21, 22, 23, 24, 25, 26, 27, 28, 29, 30, 31, 32, 33, 34, 35, 36, 37, 38, 39] (by decide +kernel) (by decide +kernel)
set_option maxRecDepth 20000 in
theorem gX5_token_X5_byteAt : GoodIn wsX5_token (wsV RX5 263 RX5 yX5_byteAt wsX5_byteAt) := goodIn_app (goodIn_of _ (by decide +kernel)) ggX5_token_X5_byteAt
set_option maxRecDepth 20000 in
theorem ggX5_token_X5_within : GoodIn wsX5_token wsX5_within := goodIn_r _ [18] (by decide +kernel) (by decide +kernel)
set_option maxRecDepth 20000 in
theorem gX5_token_X5_within : GoodIn wsX5_token (va_wsS RX5 70 yX5_within wsX5_within) := goodIn_app (goodIn_of _ (by decide +kernel)) ggX5_token_X5_within
theorem dX5_token_0 : decode cX5_token 0 = .ok (.aload_n 0, 1) := by decide +kernel
theorem dX5_token_1 : decode cX5_token 1 = .ok (.aload_n 0, 1) := by decide +kernel
theorem dX5_token_2 : decode cX5_token 2 = .ok (.getfield 257, 3) := by decide +kernel
theorem dX5_token_5 : decode cX5_token 5 = .ok (.putfield 260, 3) := by decide +kernel
theorem dX5_token_8 : decode cX5_token 8 = .ok (.aload_n 0, 1) := by decide +kernel
theorem dX5_token_9 : decode cX5_token 9 = .ok (.aload_n 0, 1) := by decide +kernel
theorem dX5_token_10 : decode cX5_token 10 = .ok (.getfield 260, 3) := by decide +kernel
theorem dX5_token_13 : decode cX5_token 13 = .ok (.invokevirtual 263, 3) := by decide +kernel
theorem dX5_token_16 : decode cX5_token 16 = .ok (.bipush 32, 2) := by decide +kernel
theorem dX5_token_18 : decode cX5_token 18 = .ok (.if_icmp .ne 16, 3) := by decide +kernel
theorem dX5_token_21 : decode cX5_token 21 = .ok (.aload_n 0, 1) := by decide +kernel
theorem dX5_token_22 : decode cX5_token 22 = .ok (.dup, 1) := by decide +kernel
theorem dX5_token_23 : decode cX5_token 23 = .ok (.getfield 260, 3) := by decide +kernel
theorem dX5_token_26 : decode cX5_token 26 = .ok (.iconst 1, 1) := by decide +kernel
theorem dX5_token_27 : decode cX5_token 27 = .ok (.iadd, 1) := by decide +kernel
theorem dX5_token_28 : decode cX5_token 28 = .ok (.putfield 260, 3) := by decide +kernel
theorem dX5_token_31 : decode cX5_token 31 = .ok (.goto (-23), 3) := by decide +kernel
theorem dX5_token_34 : decode cX5_token 34 = .ok (.aload_n 0, 1) := by decide +kernel
theorem dX5_token_35 : decode cX5_token 35 = .ok (.aload_n 0, 1) := by decide +kernel
theorem dX5_token_36 : decode cX5_token 36 = .ok (.getfield 260, 3) := by decide +kernel
theorem dX5_token_39 : decode cX5_token 39 = .ok (.invokevirtual 263, 3) := by decide +kernel
theorem dX5_token_42 : decode cX5_token 42 = .ok (.istore_n 1, 1) := by decide +kernel
theorem dX5_token_43 : decode cX5_token 43 = .ok (.aload_n 0, 1) := by decide +kernel
theorem dX5_token_44 : decode cX5_token 44 = .ok (.aload_n 0, 1) := by decide +kernel
theorem dX5_token_45 : decode cX5_token 45 = .ok (.getfield 260, 3) := by decide +kernel
theorem dX5_token_48 : decode cX5_token 48 = .ok (.putfield 257, 3) := by decide +kernel
theorem dX5_token_51 : decode cX5_token 51 = .ok (.aload_n 0, 1) := by decide +kernel
theorem dX5_token_52 : decode cX5_token 52 = .ok (.iconst 0, 1) := by decide +kernel
theorem dX5_token_53 : decode cX5_token 53 = .ok (.putfield 266, 3) := by decide +kernel
theorem dX5_token_56 : decode cX5_token 56 = .ok (.iload_n 1, 1) := by decide +kernel
theorem dX5_token_57 : decode cX5_token 57 = .ok (.ifCond .ge 11, 3) := by decide +kernel
theorem dX5_token_60 : decode cX5_token 60 = .ok (.aload_n 0, 1) := by decide +kernel
theorem dX5_token_61 : decode cX5_token 61 = .ok (.iconst 0, 1) := by decide +kernel
theorem dX5_token_62 : decode cX5_token 62 = .ok (.putfield 269, 3) := by decide +kernel
theorem dX5_token_65 : decode cX5_token 65 = .ok (.goto 141, 3) := by decide +kernel
theorem dX5_token_68 : decode cX5_token 68 = .ok (.iload_n 1, 1) := by decide +kernel
theorem dX5_token_69 : decode cX5_token 69 = .ok (.bipush 97, 2) := by decide +kernel
theorem dX5_token_71 : decode cX5_token 71 = .ok (.bipush 122, 2) := by decide +kernel
theorem dX5_token_73 : decode cX5_token 73 = .ok (.invokestatic 70, 3) := by decide +kernel
theorem dX5_token_76 : decode cX5_token 76 = .ok (.ifCond .eq 39, 3) := by decide +kernel
theorem dX5_token_79 : decode cX5_token 79 = .ok (.aload_n 0, 1) := by decide +kernel
theorem dX5_token_80 : decode cX5_token 80 = .ok (.iconst 1, 1) := by decide +kernel
theorem dX5_token_81 : decode cX5_token 81 = .ok (.putfield 269, 3) := by decide +kernel
theorem dX5_token_84 : decode cX5_token 84 = .ok (.aload_n 0, 1) := by decide +kernel
theorem dX5_token_85 : decode cX5_token 85 = .ok (.aload_n 0, 1) := by decide +kernel
theorem dX5_token_86 : decode cX5_token 86 = .ok (.getfield 257, 3) := by decide +kernel
theorem dX5_token_89 : decode cX5_token 89 = .ok (.invokevirtual 263, 3) := by decide +kernel
theorem dX5_token_92 : decode cX5_token 92 = .ok (.bipush 97, 2) := by decide +kernel
theorem dX5_token_94 : decode cX5_token 94 = .ok (.bipush 122, 2) := by decide +kernel
theorem dX5_token_96 : decode cX5_token 96 = .ok (.invokestatic 70, 3) := by decide +kernel
theorem dX5_token_99 : decode cX5_token 99 = .ok (.ifCond .eq 107, 3) := by decide +kernel
theorem dX5_token_102 : decode cX5_token 102 = .ok (.aload_n 0, 1) := by decide +kernel
theorem dX5_token_103 : decode cX5_token 103 = .ok (.dup, 1) := by decide +kernel
theorem dX5_token_104 : decode cX5_token 104 = .ok (.getfield 257, 3) := by decide +kernel
theorem dX5_token_107 : decode cX5_token 107 = .ok (.iconst 1, 1) := by decide +kernel
theorem dX5_token_108 : decode cX5_token 108 = .ok (.iadd, 1) := by decide +kernel
theorem dX5_token_109 : decode cX5_token 109 = .ok (.putfield 257, 3) := by decide +kernel
theorem dX5_token_112 : decode cX5_token 112 = .ok (.goto (-28), 3) := by decide +kernel
theorem dX5_token_115 : decode cX5_token 115 = .ok (.iload_n 1, 1) := by decide +kernel
theorem dX5_token_116 : decode cX5_token 116 = .ok (.bipush 48, 2) := by decide +kernel
theorem dX5_token_118 : decode cX5_token 118 = .ok (.bipush 57, 2) := by decide +kernel
theorem dX5_token_120 : decode cX5_token 120 = .ok (.invokestatic 70, 3) := by decide +kernel
theorem dX5_token_123 : decode cX5_token 123 = .ok (.ifCond .eq 68, 3) := by decide +kernel
theorem dX5_token_126 : decode cX5_token 126 = .ok (.aload_n 0, 1) := by decide +kernel
theorem dX5_token_127 : decode cX5_token 127 = .ok (.iconst 2, 1) := by decide +kernel
theorem dX5_token_128 : decode cX5_token 128 = .ok (.putfield 269, 3) := by decide +kernel
theorem dX5_token_131 : decode cX5_token 131 = .ok (.aload_n 0, 1) := by decide +kernel
theorem dX5_token_132 : decode cX5_token 132 = .ok (.aload_n 0, 1) := by decide +kernel
theorem dX5_token_133 : decode cX5_token 133 = .ok (.getfield 257, 3) := by decide +kernel
theorem dX5_token_136 : decode cX5_token 136 = .ok (.invokevirtual 263, 3) := by decide +kernel
theorem dX5_token_139 : decode cX5_token 139 = .ok (.bipush 48, 2) := by decide +kernel
theorem dX5_token_141 : decode cX5_token 141 = .ok (.bipush 57, 2) := by decide +kernel
theorem dX5_token_143 : decode cX5_token 143 = .ok (.invokestatic 70, 3) := by decide +kernel
theorem dX5_token_146 : decode cX5_token 146 = .ok (.ifCond .eq 60, 3) := by decide +kernel
theorem dX5_token_149 : decode cX5_token 149 = .ok (.aload_n 0, 1) := by decide +kernel
theorem dX5_token_150 : decode cX5_token 150 = .ok (.sipush 10000, 3) := by decide +kernel
theorem dX5_token_153 : decode cX5_token 153 = .ok (.bipush 10, 2) := by decide +kernel
theorem dX5_token_155 : decode cX5_token 155 = .ok (.aload_n 0, 1) := by decide +kernel
theorem dX5_token_156 : decode cX5_token 156 = .ok (.getfield 266, 3) := by decide +kernel
theorem dX5_token_159 : decode cX5_token 159 = .ok (.imul, 1) := by decide +kernel
theorem dX5_token_160 : decode cX5_token 160 = .ok (.aload_n 0, 1) := by decide +kernel
theorem dX5_token_161 : decode cX5_token 161 = .ok (.aload_n 0, 1) := by decide +kernel
theorem dX5_token_162 : decode cX5_token 162 = .ok (.getfield 257, 3) := by decide +kernel
theorem dX5_token_165 : decode cX5_token 165 = .ok (.invokevirtual 263, 3) := by decide +kernel
theorem dX5_token_168 : decode cX5_token 168 = .ok (.iadd, 1) := by decide +kernel
theorem dX5_token_169 : decode cX5_token 169 = .ok (.bipush 48, 2) := by decide +kernel
theorem dX5_token_171 : decode cX5_token 171 = .ok (.isub, 1) := by decide +kernel
theorem dX5_token_172 : decode cX5_token 172 = .ok (.invokestatic 153, 3) := by decide +kernel
theorem dX5_token_175 : decode cX5_token 175 = .ok (.putfield 266, 3) := by decide +kernel
theorem dX5_token_178 : decode cX5_token 178 = .ok (.aload_n 0, 1) := by decide +kernel
theorem dX5_token_179 : decode cX5_token 179 = .ok (.dup, 1) := by decide +kernel
theorem dX5_token_180 : decode cX5_token 180 = .ok (.getfield 257, 3) := by decide +kernel
theorem dX5_token_183 : decode cX5_token 183 = .ok (.iconst 1, 1) := by decide +kernel
theorem dX5_token_184 : decode cX5_token 184 = .ok (.iadd, 1) := by decide +kernel
theorem dX5_token_185 : decode cX5_token 185 = .ok (.putfield 257, 3) := by decide +kernel
theorem dX5_token_188 : decode cX5_token 188 = .ok (.goto (-57), 3) := by decide +kernel
theorem dX5_token_191 : decode cX5_token 191 = .ok (.aload_n 0, 1) := by decide +kernel
theorem dX5_token_192 : decode cX5_token 192 = .ok (.iconst 3, 1) := by decide +kernel
theorem dX5_token_193 : decode cX5_token 193 = .ok (.putfield 269, 3) := by decide +kernel
theorem dX5_token_196 : decode cX5_token 196 = .ok (.aload_n 0, 1) := by decide +kernel
theorem dX5_token_197 : decode cX5_token 197 = .ok (.dup, 1) := by decide +kernel
theorem dX5_token_198 : decode cX5_token 198 = .ok (.getfield 257, 3) := by decide +kernel
theorem dX5_token_201 : decode cX5_token 201 = .ok (.iconst 1, 1) := by decide +kernel
theorem dX5_token_202 : decode cX5_token 202 = .ok (.iadd, 1) := by decide +kernel
theorem dX5_token_203 : decode cX5_token 203 = .ok (.putfield 257, 3) := by decide +kernel
theorem dX5_token_206 : decode cX5_token 206 = .ok (.return_, 1) := by decide +kernel
set_option maxRecDepth 20000 in
theorem ggX5_isWord_J0_length_8abf5 : GoodIn wsX5_isWord wsJ0_length_8abf5 := goodIn_r _ [9, 10, 11, 12, 13, 8, 14, 15, 16] (by decide +kernel) (by decide +kernel)
set_option maxRecDepth 20000 in
theorem gX5_isWord_J0_length_8abf5 : GoodIn wsX5_isWord (wsV RX5 272 RJ0 yJ0_length_8abf5 wsJ0_length_8abf5) := goodIn_app (goodIn_of _ (by decide +kernel)) ggX5_isWord_J0_length_8abf5
set_option maxRecDepth 20000 in
theorem ggX5_isWord_J0_charAt_5068e : GoodIn wsX5_isWord wsJ0_charAt_5068e := goodIn_r _ [20, 10, 21, 22, 23, 8, 24, 15, 16, 25, 26, 27, 28, 29, 30, 31, 32, 33, 34, 35, 36, 37, 38, 39, 40, 41, 42, 43, 44, 45, 46, 47, 48, 49, 50, 51, 52, 53] (by decide +kernel) (by decide +kernel)
set_option maxRecDepth 20000 in
theorem gX5_isWord_J0_charAt_5068e : GoodIn wsX5_isWord (wsV RX5 275 RJ0 yJ0_charAt_5068e wsJ0_charAt_5068e) := goodIn_app (goodIn_of _ (by decide +kernel)) ggX5_isWord_J0_charAt_5068e
theorem dX5_isWord_0 : decode cX5_isWord 0 = .ok (.aload_n 0, 1) := by decide +kernel
theorem dX5_isWord_1 : decode cX5_isWord 1 = .ok (.getfield 269, 3) := by decide +kernel
theorem dX5_isWord_4 : decode cX5_isWord 4 = .ok (.iconst 1, 1) := by decide +kernel
theorem dX5_isWord_5 : decode cX5_isWord 5 = .ok (.if_icmp .ne 23, 3) := by decide +kernel
theorem dX5_isWord_8 : decode cX5_isWord 8 = .ok (.aload_n 0, 1) := by decide +kernel
theorem dX5_isWord_9 : decode cX5_isWord 9 = .ok (.getfield 257, 3) := by decide +kernel
theorem dX5_isWord_12 : decode cX5_isWord 12 = .ok (.aload_n 0, 1) := by decide +kernel
theorem dX5_isWord_13 : decode cX5_isWord 13 = .ok (.getfield 260, 3) := by decide +kernel
theorem dX5_isWord_16 : decode cX5_isWord 16 = .ok (.isub, 1) := by decide +kernel
theorem dX5_isWord_17 : decode cX5_isWord 17 = .ok (.aload_n 1, 1) := by decide +kernel
theorem dX5_isWord_18 : decode cX5_isWord 18 = .ok (.invokevirtual 272, 3) := by decide +kernel
theorem dX5_isWord_21 : decode cX5_isWord 21 = .ok (.if_icmp .ne 7, 3) := by decide +kernel
theorem dX5_isWord_24 : decode cX5_isWord 24 = .ok (.iconst 1, 1) := by decide +kernel
theorem dX5_isWord_25 : decode cX5_isWord 25 = .ok (.goto 4, 3) := by decide +kernel
theorem dX5_isWord_28 : decode cX5_isWord 28 = .ok (.iconst 0, 1) := by decide +kernel
theorem dX5_isWord_29 : decode cX5_isWord 29 = .ok (.istore_n 2, 1) := by decide +kernel
theorem dX5_isWord_30 : decode cX5_isWord 30 = .ok (.iconst 0, 1) := by decide +kernel
theorem dX5_isWord_31 : decode cX5_isWord 31 = .ok (.istore_n 3, 1) := by decide +kernel
theorem dX5_isWord_32 : decode cX5_isWord 32 = .ok (.iload_n 3, 1) := by decide +kernel
theorem dX5_isWord_33 : decode cX5_isWord 33 = .ok (.aload_n 1, 1) := by decide +kernel
theorem dX5_isWord_34 : decode cX5_isWord 34 = .ok (.invokevirtual 272, 3) := by decide +kernel
theorem dX5_isWord_37 : decode cX5_isWord 37 = .ok (.if_icmp .ge 38, 3) := by decide +kernel
theorem dX5_isWord_40 : decode cX5_isWord 40 = .ok (.iload_n 2, 1) := by decide +kernel
theorem dX5_isWord_41 : decode cX5_isWord 41 = .ok (.ifCond .eq 34, 3) := by decide +kernel
theorem dX5_isWord_44 : decode cX5_isWord 44 = .ok (.aload_n 0, 1) := by decide +kernel
theorem dX5_isWord_45 : decode cX5_isWord 45 = .ok (.getfield 22, 3) := by decide +kernel
theorem dX5_isWord_48 : decode cX5_isWord 48 = .ok (.aload_n 0, 1) := by decide +kernel
theorem dX5_isWord_49 : decode cX5_isWord 49 = .ok (.getfield 260, 3) := by decide +kernel
theorem dX5_isWord_52 : decode cX5_isWord 52 = .ok (.iload_n 3, 1) := by decide +kernel
theorem dX5_isWord_53 : decode cX5_isWord 53 = .ok (.iadd, 1) := by decide +kernel
theorem dX5_isWord_54 : decode cX5_isWord 54 = .ok (.iaload, 1) := by decide +kernel
theorem dX5_isWord_55 : decode cX5_isWord 55 = .ok (.aload_n 1, 1) := by decide +kernel
theorem dX5_isWord_56 : decode cX5_isWord 56 = .ok (.iload_n 3, 1) := by decide +kernel
theorem dX5_isWord_57 : decode cX5_isWord 57 = .ok (.invokevirtual 275, 3) := by decide +kernel
theorem dX5_isWord_60 : decode cX5_isWord 60 = .ok (.if_icmp .ne 7, 3) := by decide +kernel
theorem dX5_isWord_63 : decode cX5_isWord 63 = .ok (.iconst 1, 1) := by decide +kernel
theorem dX5_isWord_64 : decode cX5_isWord 64 = .ok (.goto 4, 3) := by decide +kernel
theorem dX5_isWord_67 : decode cX5_isWord 67 = .ok (.iconst 0, 1) := by decide +kernel
theorem dX5_isWord_68 : decode cX5_isWord 68 = .ok (.istore_n 2, 1) := by decide +kernel
theorem dX5_isWord_69 : decode cX5_isWord 69 = .ok (.iinc 3 1, 3) := by decide +kernel
theorem dX5_isWord_72 : decode cX5_isWord 72 = .ok (.goto (-40), 3) := by decide +kernel
theorem dX5_isWord_75 : decode cX5_isWord 75 = .ok (.iload_n 2, 1) := by decide +kernel
theorem dX5_isWord_76 : decode cX5_isWord 76 = .ok (.ireturn, 1) := by decide +kernel
set_option maxRecDepth 20000 in
theorem ggX5_must_X5_token : GoodIn wsX5_must wsX5_token := goodIn_r _ [6, 7, 8, 9, 10, 11, 12, 13, 14, 15, 16, 17, 5, 18, 19, 20, 21, 22, 23, 24, 25, 26, 27, 28, 29, 30, 31, 32, 33, 34, 35, 36, 37, 38, 39, 40, 41, 42, 43, 44] (by decide +kernel) (by decide +kernel)
set_option maxRecDepth 20000 in
theorem gX5_must_X5_token : GoodIn wsX5_must (wsV RX5 283 RX5 yX5_token wsX5_token) := goodIn_app (goodIn_of _ (by decide +kernel)) ggX5_must_X5_token
theorem dX5_must_0 : decode cX5_must 0 = .ok (.aload_n 0, 1) := by decide +kernel
theorem dX5_must_1 : decode cX5_must 1 = .ok (.aload_n 0, 1) := by decide +kernel
theorem dX5_must_2 : decode cX5_must 2 = .ok (.getfield 279, 3) := by decide +kernel
theorem dX5_must_5 : decode cX5_must 5 = .ok (.ifCond .ne 7, 3) := by decide +kernel
theorem dX5_must_8 : decode cX5_must 8 = .ok (.iload_n 1, 1) := by decide +kernel
theorem dX5_must_9 : decode cX5_must 9 = .ok (.ifCond .ne 7, 3) := by decide +kernel
theorem dX5_must_12 : decode cX5_must 12 = .ok (.iconst 1, 1) := by decide +kernel
theorem dX5_must_13 : decode cX5_must 13 = .ok (.goto 4, 3) := by decide +kernel
theorem dX5_must_16 : decode cX5_must 16 = .ok (.iconst 0, 1) := by decide +kernel
theorem dX5_must_17 : decode cX5_must 17 = .ok (.putfield 279, 3) := by decide +kernel
theorem dX5_must_20 : decode cX5_must 20 = .ok (.aload_n 0, 1) := by decide +kernel
theorem dX5_must_21 : decode cX5_must 21 = .ok (.getfield 279, 3) := by decide +kernel
theorem dX5_must_24 : decode cX5_must 24 = .ok (.ifCond .ne 7, 3) := by decide +kernel
theorem dX5_must_27 : decode cX5_must 27 = .ok (.aload_n 0, 1) := by decide +kernel
theorem dX5_must_28 : decode cX5_must 28 = .ok (.invokevirtual 283, 3) := by decide +kernel
theorem dX5_must_31 : decode cX5_must 31 = .ok (.return_, 1) := by decide +kernel
set_option maxRecDepth 20000 in
theorem ggX5_number_X5_within : GoodIn wsX5_number wsX5_within := goodIn_r _ [6] (by decide +kernel) (by decide +kernel)
set_option maxRecDepth 20000 in
theorem gX5_number_X5_within : GoodIn wsX5_number (va_wsS RX5 70 yX5_within wsX5_within) := goodIn_app (goodIn_of _ (by decide +kernel)) ggX5_number_X5_within
set_option maxRecDepth 20000 in
theorem ggX5_number_X5_must : GoodIn wsX5_number wsX5_must := goodIn_r _ [10, 11, 12, 13, 14, 5, 15, 16, 17, 1, 2, 18, 19, 20, 21, 22, 23, 24, 25, 26, 27, 3, 4, 6, 28, 29, 30, 31, 32, 33, 34, 35, 36, 37, 38, 39, 40, 41, 42, 43, 44, 45, 46, 47, 48] (by decide +kernel) (by decide +kernel)
set_option maxRecDepth 20000 in
theorem gX5_number_X5_must : GoodIn wsX5_number (wsV RX5 286 RX5 yX5_must wsX5_must) := goodIn_app (goodIn_of _ (by decide +kernel)) ggX5_number_X5_must
theorem dX5_number_0 : decode cX5_number 0 = .ok (.aload_n 0, 1) := by decide +kernel
theorem dX5_number_1 : decode cX5_number 1 = .ok (.getfield 266, 3) := by decide +kernel
theorem dX5_number_4 : decode cX5_number 4 = .ok (.istore_n 3, 1) := by decide +kernel
theorem dX5_number_5 : decode cX5_number 5 = .ok (.aload_n 0, 1) := by decide +kernel
theorem dX5_number_6 : decode cX5_number 6 = .ok (.aload_n 0, 1) := by decide +kernel
theorem dX5_number_7 : decode cX5_number 7 = .ok (.getfield 269, 3) := by decide +kernel
theorem dX5_number_10 : decode cX5_number 10 = .ok (.iconst 2, 1) := by decide +kernel
theorem dX5_number_11 : decode cX5_number 11 = .ok (.if_icmp .ne 16, 3) := by decide +kernel
theorem dX5_number_14 : decode cX5_number 14 = .ok (.iload_n 3, 1) := by decide +kernel
theorem dX5_number_15 : decode cX5_number 15 = .ok (.iload_n 1, 1) := by decide +kernel
theorem dX5_number_16 : decode cX5_number 16 = .ok (.iload_n 2, 1) := by decide +kernel
theorem dX5_number_17 : decode cX5_number 17 = .ok (.invokestatic 70, 3) := by decide +kernel
theorem dX5_number_20 : decode cX5_number 20 = .ok (.ifCond .eq 7, 3) := by decide +kernel
theorem dX5_number_23 : decode cX5_number 23 = .ok (.iconst 1, 1) := by decide +kernel
theorem dX5_number_24 : decode cX5_number 24 = .ok (.goto 4, 3) := by decide +kernel
theorem dX5_number_27 : decode cX5_number 27 = .ok (.iconst 0, 1) := by decide +kernel
theorem dX5_number_28 : decode cX5_number 28 = .ok (.invokevirtual 286, 3) := by decide +kernel
theorem dX5_number_31 : decode cX5_number 31 = .ok (.iload_n 3, 1) := by decide +kernel
theorem dX5_number_32 : decode cX5_number 32 = .ok (.ireturn, 1) := by decide +kernel
theorem dX5_addItem_0 : decode cX5_addItem 0 = .ok (.iconst 5, 1) := by decide +kernel
theorem dX5_addItem_1 : decode cX5_addItem 1 = .ok (.aload_n 0, 1) := by decide +kernel
theorem dX5_addItem_2 : decode cX5_addItem 2 = .ok (.getfield 290, 3) := by decide +kernel
theorem dX5_addItem_5 : decode cX5_addItem 5 = .ok (.imul, 1) := by decide +kernel
theorem dX5_addItem_6 : decode cX5_addItem 6 = .ok (.istore 6, 2) := by decide +kernel
theorem dX5_addItem_8 : decode cX5_addItem 8 = .ok (.aload_n 0, 1) := by decide +kernel
theorem dX5_addItem_9 : decode cX5_addItem 9 = .ok (.getfield 45, 3) := by decide +kernel
theorem dX5_addItem_12 : decode cX5_addItem 12 = .ok (.iload 6, 2) := by decide +kernel
theorem dX5_addItem_14 : decode cX5_addItem 14 = .ok (.iload_n 1, 1) := by decide +kernel
theorem dX5_addItem_15 : decode cX5_addItem 15 = .ok (.iastore, 1) := by decide +kernel
theorem dX5_addItem_16 : decode cX5_addItem 16 = .ok (.aload_n 0, 1) := by decide +kernel
theorem dX5_addItem_17 : decode cX5_addItem 17 = .ok (.getfield 45, 3) := by decide +kernel
theorem dX5_addItem_20 : decode cX5_addItem 20 = .ok (.iload 6, 2) := by decide +kernel
theorem dX5_addItem_22 : decode cX5_addItem 22 = .ok (.iconst 1, 1) := by decide +kernel
theorem dX5_addItem_23 : decode cX5_addItem 23 = .ok (.iadd, 1) := by decide +kernel
theorem dX5_addItem_24 : decode cX5_addItem 24 = .ok (.iload_n 2, 1) := by decide +kernel
theorem dX5_addItem_25 : decode cX5_addItem 25 = .ok (.iastore, 1) := by decide +kernel
theorem dX5_addItem_26 : decode cX5_addItem 26 = .ok (.aload_n 0, 1) := by decide +kernel
theorem dX5_addItem_27 : decode cX5_addItem 27 = .ok (.getfield 45, 3) := by decide +kernel
theorem dX5_addItem_30 : decode cX5_addItem 30 = .ok (.iload 6, 2) := by decide +kernel
theorem dX5_addItem_32 : decode cX5_addItem 32 = .ok (.iconst 2, 1) := by decide +kernel
theorem dX5_addItem_33 : decode cX5_addItem 33 = .ok (.iadd, 1) := by decide +kernel
theorem dX5_addItem_34 : decode cX5_addItem 34 = .ok (.iload_n 3, 1) := by decide +kernel
theorem dX5_addItem_35 : decode cX5_addItem 35 = .ok (.iastore, 1) := by decide +kernel
theorem dX5_addItem_36 : decode cX5_addItem 36 = .ok (.aload_n 0, 1) := by decide +kernel
theorem dX5_addItem_37 : decode cX5_addItem 37 = .ok (.getfield 45, 3) := by decide +kernel
theorem dX5_addItem_40 : decode cX5_addItem 40 = .ok (.iload 6, 2) := by decide +kernel
theorem dX5_addItem_42 : decode cX5_addItem 42 = .ok (.iconst 3, 1) := by decide +kernel
theorem dX5_addItem_43 : decode cX5_addItem 43 = .ok (.iadd, 1) := by decide +kernel
theorem dX5_addItem_44 : decode cX5_addItem 44 = .ok (.iload 4, 2) := by decide +kernel
theorem dX5_addItem_46 : decode cX5_addItem 46 = .ok (.iastore, 1) := by decide +kernel
theorem dX5_addItem_47 : decode cX5_addItem 47 = .ok (.aload_n 0, 1) := by decide +kernel
theorem dX5_addItem_48 : decode cX5_addItem 48 = .ok (.getfield 45, 3) := by decide +kernel
theorem dX5_addItem_51 : decode cX5_addItem 51 = .ok (.iload 6, 2) := by decide +kernel
theorem dX5_addItem_53 : decode cX5_addItem 53 = .ok (.iconst 4, 1) := by decide +kernel
theorem dX5_addItem_54 : decode cX5_addItem 54 = .ok (.iadd, 1) := by decide +kernel
theorem dX5_addItem_55 : decode cX5_addItem 55 = .ok (.iload 5, 2) := by decide +kernel
theorem dX5_addItem_57 : decode cX5_addItem 57 = .ok (.iastore, 1) := by decide +kernel
theorem dX5_addItem_58 : decode cX5_addItem 58 = .ok (.aload_n 0, 1) := by decide +kernel
theorem dX5_addItem_59 : decode cX5_addItem 59 = .ok (.dup, 1) := by decide +kernel
theorem dX5_addItem_60 : decode cX5_addItem 60 = .ok (.getfield 290, 3) := by decide +kernel
theorem dX5_addItem_63 : decode cX5_addItem 63 = .ok (.iconst 1, 1) := by decide +kernel
theorem dX5_addItem_64 : decode cX5_addItem 64 = .ok (.iadd, 1) := by decide +kernel
theorem dX5_addItem_65 : decode cX5_addItem 65 = .ok (.putfield 290, 3) := by decide +kernel
theorem dX5_addItem_68 : decode cX5_addItem 68 = .ok (.return_, 1) := by decide +kernel
set_option maxRecDepth 20000 in
theorem ggX5_takesWord_X5_isWord : GoodIn wsX5_takesWord wsX5_isWord := goodIn_r _ [6, 7, 8, 9, 10, 11, 12, 13, 14, 15, 16, 17, 18, 19, 20, 21, 22, 23, 24, 25, 26, 27, 28, 29, 30, 31, 32, 33, 34, 35, 36, 37, 38, 39, 40, 41, 42, 43, 44, 45, 46, 47, 48, 49, 50, 51, 52, 53, 54, 55, 56, 57, 58, 59, 81, 82, 83, 84, 85, 86, 87, 88, 89, 90, 91, 92, 93, 94, 95, 96, 97, 98, 99, 100, 101] (by decide +kernel) (by decide +kernel)
set_option maxRecDepth 20000 in
theorem gX5_takesWord_X5_isWord : GoodIn wsX5_takesWord (wsV RX5 293 RX5 yX5_isWord wsX5_isWord) := goodIn_app (goodIn_of _ (by decide +kernel)) ggX5_takesWord_X5_isWord
set_option maxRecDepth 20000 in
theorem ggX5_takesWord_X5_must : GoodIn wsX5_takesWord wsX5_must := goodIn_r _ [63, 1, 64, 65, 66, 5, 67, 8, 9, 68, 7, 69, 70, 71, 72, 73, 74, 75, 76, 77, 10, 78, 79, 80, 81, 82, 83, 84, 85, 86, 87, 88, 89, 90, 91, 92, 93, 94, 95, 96, 97, 98, 99, 100, 101] (by decide +kernel) (by decide +kernel)
set_option maxRecDepth 20000 in
theorem gX5_takesWord_X5_must : GoodIn wsX5_takesWord (wsV RX5 286 RX5 yX5_must wsX5_must) := goodIn_app (goodIn_of _ (by decide +kernel)) ggX5_takesWord_X5_must
theorem dX5_takesWord_0 : decode cX5_takesWord 0 = .ok (.aload_n 0, 1) := by decide +kernel
theorem dX5_takesWord_1 : decode cX5_takesWord 1 = .ok (.getfield 279, 3) := by decide +kernel
theorem dX5_takesWord_4 : decode cX5_takesWord 4 = .ok (.ifCond .ne 15, 3) := by decide +kernel
theorem dX5_takesWord_7 : decode cX5_takesWord 7 = .ok (.aload_n 0, 1) := by decide +kernel
theorem dX5_takesWord_8 : decode cX5_takesWord 8 = .ok (.aload_n 1, 1) := by decide +kernel
theorem dX5_takesWord_9 : decode cX5_takesWord 9 = .ok (.invokevirtual 293, 3) := by decide +kernel
theorem dX5_takesWord_12 : decode cX5_takesWord 12 = .ok (.ifCond .eq 7, 3) := by decide +kernel
theorem dX5_takesWord_15 : decode cX5_takesWord 15 = .ok (.iconst 1, 1) := by decide +kernel
theorem dX5_takesWord_16 : decode cX5_takesWord 16 = .ok (.goto 4, 3) := by decide +kernel
theorem dX5_takesWord_19 : decode cX5_takesWord 19 = .ok (.iconst 0, 1) := by decide +kernel
theorem dX5_takesWord_20 : decode cX5_takesWord 20 = .ok (.istore_n 2, 1) := by decide +kernel
theorem dX5_takesWord_21 : decode cX5_takesWord 21 = .ok (.iload_n 2, 1) := by decide +kernel
theorem dX5_takesWord_22 : decode cX5_takesWord 22 = .ok (.ifCond .eq 8, 3) := by decide +kernel
theorem dX5_takesWord_25 : decode cX5_takesWord 25 = .ok (.aload_n 0, 1) := by decide +kernel
theorem dX5_takesWord_26 : decode cX5_takesWord 26 = .ok (.iconst 1, 1) := by decide +kernel
theorem dX5_takesWord_27 : decode cX5_takesWord 27 = .ok (.invokevirtual 286, 3) := by decide +kernel
theorem dX5_takesWord_30 : decode cX5_takesWord 30 = .ok (.iload_n 2, 1) := by decide +kernel
theorem dX5_takesWord_31 : decode cX5_takesWord 31 = .ok (.ireturn, 1) := by decide +kernel
set_option maxRecDepth 20000 in
theorem ggX5_readSaying_X5_must : GoodIn wsX5_readSaying wsX5_must := goodIn_r _ [6, 7, 8, 9, 10, 5, 11, 12, 13, 14, 15, 16, 17, 18, 19, 20, 21, 22, 23, 24, 25, 26, 27, 28, 96, 97, 98, 99, 100, 101, 102, 103, 104, 105, 106, 107, 108, 109, 110, 111, 112, 113, 114, 115, 116] (by decide +kernel) (by decide +kernel)
set_option maxRecDepth 20000 in
theorem gX5_readSaying_X5_must : GoodIn wsX5_readSaying (wsV RX5 286 RX5 yX5_must wsX5_must) := goodIn_app (goodIn_of _ (by decide +kernel)) ggX5_readSaying_X5_must
set_option maxRecDepth 20000 in
theorem ggX5_readSaying_X5_number : GoodIn wsX5_readSaying wsX5_number := goodIn_r _ [32, 14, 15, 26, 27, 5, 28, 2, 3, 4, 6, 7, 8, 9, 10, 11, 12, 13, 16, 17, 18, 19, 20, 21, 22, 23, 24, 25, 96, 97, 98, 99, 100, 101, 102, 103, 104, 105, 106, 107, 108, 109, 110, 111, 112, 113, 114, 115, 116] (by decide +kernel) (by decide +kernel)
set_option maxRecDepth 20000 in
theorem gX5_readSaying_X5_number : GoodIn wsX5_readSaying (wsV RX5 300 RX5 yX5_number wsX5_number) := goodIn_app (goodIn_of _ (by decide +kernel)) ggX5_readSaying_X5_number
set_option maxRecDepth 20000 in
theorem ggX5_readSaying_X5_takesWord : GoodIn wsX5_readSaying wsX5_takesWord := goodIn_r _ [36, 7, 37, 38, 39, 5, 40, 15, 12, 13, 25, 41, 42, 43, 44, 45, 46, 47, 48, 49, 50, 51, 52, 53, 54, 55, 56, 57, 58, 59, 60, 61, 62, 63, 64, 65, 66, 67, 68, 69, 70, 71, 72, 73, 74, 75, 76, 77, 78, 79, 80, 81, 82, 83, 84, 85, 86, 87, 88, 89, 2, 3, 4, 6, 8, 9, 10, 11, 14, 16, 17, 18, 19, 20, 21, 22, 23, 24, 26, 27, 28, 96, 97, 98, 99, 100, 101, 102, 103, 104, 105, 106, 107, 108, 109, 110, 111, 112, 113, 114, 115, 116] (by decide +kernel) (by decide +kernel)
set_option maxRecDepth 20000 in
theorem gX5_readSaying_X5_takesWord : GoodIn wsX5_readSaying (wsV RX5 305 RX5 yX5_takesWord wsX5_takesWord) := goodIn_app (goodIn_of _ (by decide +kernel)) ggX5_readSaying_X5_takesWord
set_option maxRecDepth 20000 in
theorem ggX5_readSaying_X5_addItem : GoodIn wsX5_readSaying wsX5_addItem := goodIn_r _ [93, 94, 95, 96, 97, 98, 99, 100, 101, 102, 103, 104, 105, 106, 107, 108, 109, 110, 111, 112, 113, 114, 115, 116] (by decide +kernel) (by decide +kernel)
set_option maxRecDepth 20000 in
theorem gX5_readSaying_X5_addItem : GoodIn wsX5_readSaying (wsV RX5 312 RX5 yX5_addItem wsX5_addItem) := goodIn_app (goodIn_of _ (by decide +kernel)) ggX5_readSaying_X5_addItem
theorem dX5_readSaying_0 : decode cX5_readSaying 0 = .ok (.aload_n 0, 1) := by decide +kernel
theorem dX5_readSaying_1 : decode cX5_readSaying 1 = .ok (.aload_n 0, 1) := by decide +kernel
theorem dX5_readSaying_2 : decode cX5_readSaying 2 = .ok (.getfield 297, 3) := by decide +kernel
theorem dX5_readSaying_5 : decode cX5_readSaying 5 = .ok (.bipush 8, 2) := by decide +kernel
theorem dX5_readSaying_7 : decode cX5_readSaying 7 = .ok (.if_icmp .ge 7, 3) := by decide +kernel
theorem dX5_readSaying_10 : decode cX5_readSaying 10 = .ok (.iconst 1, 1) := by decide +kernel
theorem dX5_readSaying_11 : decode cX5_readSaying 11 = .ok (.goto 4, 3) := by decide +kernel
theorem dX5_readSaying_14 : decode cX5_readSaying 14 = .ok (.iconst 0, 1) := by decide +kernel
theorem dX5_readSaying_15 : decode cX5_readSaying 15 = .ok (.invokevirtual 286, 3) := by decide +kernel
theorem dX5_readSaying_18 : decode cX5_readSaying 18 = .ok (.aload_n 0, 1) := by decide +kernel
theorem dX5_readSaying_19 : decode cX5_readSaying 19 = .ok (.iconst 0, 1) := by decide +kernel
theorem dX5_readSaying_20 : decode cX5_readSaying 20 = .ok (.bipush 99, 2) := by decide +kernel
theorem dX5_readSaying_22 : decode cX5_readSaying 22 = .ok (.invokevirtual 300, 3) := by decide +kernel
theorem dX5_readSaying_25 : decode cX5_readSaying 25 = .ok (.istore_n 2, 1) := by decide +kernel
theorem dX5_readSaying_26 : decode cX5_readSaying 26 = .ok (.aload_n 0, 1) := by decide +kernel
theorem dX5_readSaying_27 : decode cX5_readSaying 27 = .ok (.ldc_w 303, 3) := by decide +kernel
theorem dX5_readSaying_30 : decode cX5_readSaying 30 = .ok (.invokevirtual 305, 3) := by decide +kernel
theorem dX5_readSaying_33 : decode cX5_readSaying 33 = .ok (.ifCond .eq 13, 3) := by decide +kernel
theorem dX5_readSaying_36 : decode cX5_readSaying 36 = .ok (.aload_n 0, 1) := by decide +kernel
theorem dX5_readSaying_37 : decode cX5_readSaying 37 = .ok (.iconst 0, 1) := by decide +kernel
theorem dX5_readSaying_38 : decode cX5_readSaying 38 = .ok (.bipush 15, 2) := by decide +kernel
theorem dX5_readSaying_40 : decode cX5_readSaying 40 = .ok (.invokevirtual 300, 3) := by decide +kernel
theorem dX5_readSaying_43 : decode cX5_readSaying 43 = .ok (.goto 4, 3) := by decide +kernel
theorem dX5_readSaying_46 : decode cX5_readSaying 46 = .ok (.iconst 0, 1) := by decide +kernel
theorem dX5_readSaying_47 : decode cX5_readSaying 47 = .ok (.istore_n 3, 1) := by decide +kernel
theorem dX5_readSaying_48 : decode cX5_readSaying 48 = .ok (.aload_n 0, 1) := by decide +kernel
theorem dX5_readSaying_49 : decode cX5_readSaying 49 = .ok (.ldc_w 308, 3) := by decide +kernel
theorem dX5_readSaying_52 : decode cX5_readSaying 52 = .ok (.invokevirtual 305, 3) := by decide +kernel
theorem dX5_readSaying_55 : decode cX5_readSaying 55 = .ok (.ifCond .eq 14, 3) := by decide +kernel
theorem dX5_readSaying_58 : decode cX5_readSaying 58 = .ok (.aload_n 0, 1) := by decide +kernel
theorem dX5_readSaying_59 : decode cX5_readSaying 59 = .ok (.iconst 0, 1) := by decide +kernel
theorem dX5_readSaying_60 : decode cX5_readSaying 60 = .ok (.sipush 9999, 3) := by decide +kernel
theorem dX5_readSaying_63 : decode cX5_readSaying 63 = .ok (.invokevirtual 300, 3) := by decide +kernel
theorem dX5_readSaying_66 : decode cX5_readSaying 66 = .ok (.goto 4, 3) := by decide +kernel
theorem dX5_readSaying_69 : decode cX5_readSaying 69 = .ok (.iconst 0, 1) := by decide +kernel
theorem dX5_readSaying_70 : decode cX5_readSaying 70 = .ok (.istore 4, 2) := by decide +kernel
theorem dX5_readSaying_72 : decode cX5_readSaying 72 = .ok (.aload_n 0, 1) := by decide +kernel
theorem dX5_readSaying_73 : decode cX5_readSaying 73 = .ok (.iload_n 1, 1) := by decide +kernel
theorem dX5_readSaying_74 : decode cX5_readSaying 74 = .ok (.iload_n 2, 1) := by decide +kernel
theorem dX5_readSaying_75 : decode cX5_readSaying 75 = .ok (.iload_n 3, 1) := by decide +kernel
theorem dX5_readSaying_76 : decode cX5_readSaying 76 = .ok (.iload 4, 2) := by decide +kernel
theorem dX5_readSaying_78 : decode cX5_readSaying 78 = .ok (.aload_n 0, 1) := by decide +kernel
theorem dX5_readSaying_79 : decode cX5_readSaying 79 = .ok (.ldc_w 310, 3) := by decide +kernel
theorem dX5_readSaying_82 : decode cX5_readSaying 82 = .ok (.invokevirtual 305, 3) := by decide +kernel
theorem dX5_readSaying_85 : decode cX5_readSaying 85 = .ok (.ifCond .eq 7, 3) := by decide +kernel
theorem dX5_readSaying_88 : decode cX5_readSaying 88 = .ok (.iconst 1, 1) := by decide +kernel
theorem dX5_readSaying_89 : decode cX5_readSaying 89 = .ok (.goto 4, 3) := by decide +kernel
theorem dX5_readSaying_92 : decode cX5_readSaying 92 = .ok (.iconst 0, 1) := by decide +kernel
theorem dX5_readSaying_93 : decode cX5_readSaying 93 = .ok (.invokevirtual 312, 3) := by decide +kernel
theorem dX5_readSaying_96 : decode cX5_readSaying 96 = .ok (.aload_n 0, 1) := by decide +kernel
theorem dX5_readSaying_97 : decode cX5_readSaying 97 = .ok (.dup, 1) := by decide +kernel
theorem dX5_readSaying_98 : decode cX5_readSaying 98 = .ok (.getfield 297, 3) := by decide +kernel
theorem dX5_readSaying_101 : decode cX5_readSaying 101 = .ok (.iconst 1, 1) := by decide +kernel
theorem dX5_readSaying_102 : decode cX5_readSaying 102 = .ok (.iadd, 1) := by decide +kernel
theorem dX5_readSaying_103 : decode cX5_readSaying 103 = .ok (.putfield 297, 3) := by decide +kernel
theorem dX5_readSaying_106 : decode cX5_readSaying 106 = .ok (.return_, 1) := by decide +kernel
set_option maxRecDepth 20000 in
theorem ggX5_readShip_X5_must : GoodIn wsX5_readShip wsX5_must := goodIn_r _ [6, 7, 8, 9, 10, 5, 11, 12, 13, 14, 15, 16, 17, 18, 19, 20, 21, 22, 23, 24, 25, 26, 27, 28, 96, 97, 98, 99, 100, 101, 102, 103, 104, 105, 106, 107, 108, 109, 110, 111, 112, 113, 114, 115, 116] (by decide +kernel) (by decide +kernel)
set_option maxRecDepth 20000 in
theorem gX5_readShip_X5_must : GoodIn wsX5_readShip (wsV RX5 286 RX5 yX5_must wsX5_must) := goodIn_app (goodIn_of _ (by decide +kernel)) ggX5_readShip_X5_must
set_option maxRecDepth 20000 in
theorem ggX5_readShip_X5_takesWord : GoodIn wsX5_readShip wsX5_takesWord := goodIn_r _ [32, 7, 33, 34, 35, 5, 36, 15, 12, 13, 25, 37, 38, 39, 40, 41, 42, 43, 44, 45, 46, 47, 48, 49, 50, 51, 52, 53, 54, 55, 56, 57, 58, 59, 60, 61, 62, 63, 64, 65, 66, 67, 68, 69, 70, 71, 72, 73, 74, 75, 76, 77, 78, 79, 80, 81, 82, 83, 84, 85, 2, 3, 4, 6, 8, 9, 10, 11, 14, 16, 17, 18, 19, 20, 21, 22, 23, 24, 26, 27, 28, 96, 97, 98, 99, 100, 101, 102, 103, 104, 105, 106, 107, 108, 109, 110, 111, 112, 113, 114, 115, 116] (by decide +kernel) (by decide +kernel)
set_option maxRecDepth 20000 in
theorem gX5_readShip_X5_takesWord : GoodIn wsX5_readShip (wsV RX5 305 RX5 yX5_takesWord wsX5_takesWord) := goodIn_app (goodIn_of _ (by decide +kernel)) ggX5_readShip_X5_takesWord
set_option maxRecDepth 20000 in
theorem ggX5_readShip_X5_number : GoodIn wsX5_readShip wsX5_number := goodIn_r _ [89, 14, 15, 26, 27, 5, 28, 2, 3, 4, 6, 7, 8, 9, 10, 11, 12, 13, 16, 17, 18, 19, 20, 21, 22, 23, 24, 25, 96, 97, 98, 99, 100, 101, 102, 103, 104, 105, 106, 107, 108, 109, 110, 111, 112, 113, 114, 115, 116] (by decide +kernel) (by decide +kernel)
set_option maxRecDepth 20000 in
theorem gX5_readShip_X5_number : GoodIn wsX5_readShip (wsV RX5 300 RX5 yX5_number wsX5_number) := goodIn_app (goodIn_of _ (by decide +kernel)) ggX5_readShip_X5_number
set_option maxRecDepth 20000 in
theorem ggX5_readShip_X5_addItem : GoodIn wsX5_readShip wsX5_addItem := goodIn_r _ [93, 94, 95, 96, 97, 98, 99, 100, 101, 102, 103, 104, 105, 106, 107, 108, 109, 110, 111, 112, 113, 114, 115, 116] (by decide +kernel) (by decide +kernel)
set_option maxRecDepth 20000 in
theorem gX5_readShip_X5_addItem : GoodIn wsX5_readShip (wsV RX5 312 RX5 yX5_addItem wsX5_addItem) := goodIn_app (goodIn_of _ (by decide +kernel)) ggX5_readShip_X5_addItem
theorem dX5_readShip_0 : decode cX5_readShip 0 = .ok (.aload_n 0, 1) := by decide +kernel
theorem dX5_readShip_1 : decode cX5_readShip 1 = .ok (.aload_n 0, 1) := by decide +kernel
theorem dX5_readShip_2 : decode cX5_readShip 2 = .ok (.getfield 316, 3) := by decide +kernel
theorem dX5_readShip_5 : decode cX5_readShip 5 = .ok (.bipush 6, 2) := by decide +kernel
theorem dX5_readShip_7 : decode cX5_readShip 7 = .ok (.if_icmp .ge 7, 3) := by decide +kernel
theorem dX5_readShip_10 : decode cX5_readShip 10 = .ok (.iconst 1, 1) := by decide +kernel
theorem dX5_readShip_11 : decode cX5_readShip 11 = .ok (.goto 4, 3) := by decide +kernel
theorem dX5_readShip_14 : decode cX5_readShip 14 = .ok (.iconst 0, 1) := by decide +kernel
theorem dX5_readShip_15 : decode cX5_readShip 15 = .ok (.invokevirtual 286, 3) := by decide +kernel
theorem dX5_readShip_18 : decode cX5_readShip 18 = .ok (.aload_n 0, 1) := by decide +kernel
theorem dX5_readShip_19 : decode cX5_readShip 19 = .ok (.ldc_w 303, 3) := by decide +kernel
theorem dX5_readShip_22 : decode cX5_readShip 22 = .ok (.invokevirtual 305, 3) := by decide +kernel
theorem dX5_readShip_25 : decode cX5_readShip 25 = .ok (.ifCond .eq 13, 3) := by decide +kernel
theorem dX5_readShip_28 : decode cX5_readShip 28 = .ok (.aload_n 0, 1) := by decide +kernel
theorem dX5_readShip_29 : decode cX5_readShip 29 = .ok (.iconst 0, 1) := by decide +kernel
theorem dX5_readShip_30 : decode cX5_readShip 30 = .ok (.bipush 15, 2) := by decide +kernel
theorem dX5_readShip_32 : decode cX5_readShip 32 = .ok (.invokevirtual 300, 3) := by decide +kernel
theorem dX5_readShip_35 : decode cX5_readShip 35 = .ok (.goto 4, 3) := by decide +kernel
theorem dX5_readShip_38 : decode cX5_readShip 38 = .ok (.iconst 0, 1) := by decide +kernel
theorem dX5_readShip_39 : decode cX5_readShip 39 = .ok (.istore_n 1, 1) := by decide +kernel
theorem dX5_readShip_40 : decode cX5_readShip 40 = .ok (.aload_n 0, 1) := by decide +kernel
theorem dX5_readShip_41 : decode cX5_readShip 41 = .ok (.ldc_w 319, 3) := by decide +kernel
theorem dX5_readShip_44 : decode cX5_readShip 44 = .ok (.invokevirtual 305, 3) := by decide +kernel
theorem dX5_readShip_47 : decode cX5_readShip 47 = .ok (.ifCond .eq 13, 3) := by decide +kernel
theorem dX5_readShip_50 : decode cX5_readShip 50 = .ok (.aload_n 0, 1) := by decide +kernel
theorem dX5_readShip_51 : decode cX5_readShip 51 = .ok (.iconst 0, 1) := by decide +kernel
theorem dX5_readShip_52 : decode cX5_readShip 52 = .ok (.bipush 99, 2) := by decide +kernel
theorem dX5_readShip_54 : decode cX5_readShip 54 = .ok (.invokevirtual 300, 3) := by decide +kernel
theorem dX5_readShip_57 : decode cX5_readShip 57 = .ok (.goto 5, 3) := by decide +kernel
theorem dX5_readShip_60 : decode cX5_readShip 60 = .ok (.bipush 30, 2) := by decide +kernel
theorem dX5_readShip_62 : decode cX5_readShip 62 = .ok (.istore_n 2, 1) := by decide +kernel
theorem dX5_readShip_63 : decode cX5_readShip 63 = .ok (.aload_n 0, 1) := by decide +kernel
theorem dX5_readShip_64 : decode cX5_readShip 64 = .ok (.bipush 10, 2) := by decide +kernel
theorem dX5_readShip_66 : decode cX5_readShip 66 = .ok (.iload_n 1, 1) := by decide +kernel
theorem dX5_readShip_67 : decode cX5_readShip 67 = .ok (.iload_n 2, 1) := by decide +kernel
theorem dX5_readShip_68 : decode cX5_readShip 68 = .ok (.aload_n 0, 1) := by decide +kernel
theorem dX5_readShip_69 : decode cX5_readShip 69 = .ok (.ldc_w 321, 3) := by decide +kernel
theorem dX5_readShip_72 : decode cX5_readShip 72 = .ok (.invokevirtual 305, 3) := by decide +kernel
theorem dX5_readShip_75 : decode cX5_readShip 75 = .ok (.ifCond .eq 12, 3) := by decide +kernel
theorem dX5_readShip_78 : decode cX5_readShip 78 = .ok (.aload_n 0, 1) := by decide +kernel
theorem dX5_readShip_79 : decode cX5_readShip 79 = .ok (.iconst 1, 1) := by decide +kernel
theorem dX5_readShip_80 : decode cX5_readShip 80 = .ok (.iconst 5, 1) := by decide +kernel
theorem dX5_readShip_81 : decode cX5_readShip 81 = .ok (.invokevirtual 300, 3) := by decide +kernel
theorem dX5_readShip_84 : decode cX5_readShip 84 = .ok (.goto 4, 3) := by decide +kernel
theorem dX5_readShip_87 : decode cX5_readShip 87 = .ok (.iconst 2, 1) := by decide +kernel
theorem dX5_readShip_88 : decode cX5_readShip 88 = .ok (.iconst 0, 1) := by decide +kernel
theorem dX5_readShip_89 : decode cX5_readShip 89 = .ok (.invokevirtual 312, 3) := by decide +kernel
theorem dX5_readShip_92 : decode cX5_readShip 92 = .ok (.aload_n 0, 1) := by decide +kernel
theorem dX5_readShip_93 : decode cX5_readShip 93 = .ok (.dup, 1) := by decide +kernel
theorem dX5_readShip_94 : decode cX5_readShip 94 = .ok (.getfield 316, 3) := by decide +kernel
theorem dX5_readShip_97 : decode cX5_readShip 97 = .ok (.iconst 1, 1) := by decide +kernel
theorem dX5_readShip_98 : decode cX5_readShip 98 = .ok (.iadd, 1) := by decide +kernel
theorem dX5_readShip_99 : decode cX5_readShip 99 = .ok (.putfield 316, 3) := by decide +kernel
theorem dX5_readShip_102 : decode cX5_readShip 102 = .ok (.return_, 1) := by decide +kernel
set_option maxRecDepth 20000 in
theorem ggX5_readItem_X5_isWord : GoodIn wsX5_readItem wsX5_isWord := goodIn_r _ [6, 7, 8, 9, 10, 11, 12, 13, 14, 15, 16, 17, 18, 19, 20, 21, 22, 23, 24, 25, 26, 27, 28, 29, 30, 31, 32, 33, 34, 35, 36, 37, 38, 39, 40, 41, 42, 43, 44, 45, 46, 47, 48, 49, 50, 51, 52, 53, 54, 55, 56, 57, 58, 59, 106, 107, 108, 109, 110, 111, 112, 113, 114, 115, 116, 117, 118, 119, 120, 121, 122, 123, 124, 125, 126] (by decide +kernel) (by decide +kernel)
set_option maxRecDepth 20000 in
theorem gX5_readItem_X5_isWord : GoodIn wsX5_readItem (wsV RX5 293 RX5 yX5_isWord wsX5_isWord) := goodIn_app (goodIn_of _ (by decide +kernel)) ggX5_readItem_X5_isWord
set_option maxRecDepth 20000 in
theorem ggX5_readItem_X5_readSaying : GoodIn wsX5_readItem wsX5_readSaying := goodIn_r _ [63, 64, 65, 66, 67, 5, 68, 69, 70, 71, 72, 73, 8, 9, 74, 7, 75, 76, 77, 78, 79, 80, 81, 82, 83, 10, 84, 85, 86, 87, 88, 89, 90, 91, 92, 93, 94, 2, 3, 4, 6, 11, 12, 13, 14, 15, 16, 17, 18, 19, 20, 21, 22, 23, 24, 25, 26, 27, 28, 29, 30, 31, 32, 33, 34, 35, 36, 37, 38, 39, 40, 41, 42, 43, 44, 45, 46, 47, 48, 49, 50, 51, 52, 53, 54, 55, 56, 57, 58, 59, 95, 96, 97, 98, 99, 100, 106, 107, 108, 109, 110, 111, 112, 113, 114, 115, 116, 117, 118, 119, 120, 121, 122, 123, 124, 125, 126] (by decide +kernel) (by decide +kernel)
set_option maxRecDepth 20000 in
theorem gX5_readItem_X5_readSaying : GoodIn wsX5_readItem (wsV RX5 323 RX5 yX5_readSaying wsX5_readSaying) := goodIn_app (goodIn_of _ (by decide +kernel)) ggX5_readItem_X5_readSaying
set_option maxRecDepth 20000 in
theorem ggX5_readItem_X5_readShip : GoodIn wsX5_readItem wsX5_readShip := goodIn_r _ [104, 105, 65, 66, 67, 5, 68, 69, 70, 71, 72, 73, 8, 9, 74, 7, 75, 76, 77, 78, 79, 80, 81, 82, 83, 10, 84, 85, 86, 91, 92, 93, 94, 2, 3, 4, 6, 11, 12, 13, 14, 15, 16, 17, 18, 19, 20, 21, 22, 23, 24, 25, 26, 27, 28, 29, 30, 31, 32, 33, 34, 35, 36, 37, 38, 39, 40, 41, 42, 43, 44, 45, 46, 47, 48, 49, 50, 51, 52, 53, 54, 55, 56, 57, 58, 59, 87, 88, 89, 90, 95, 96, 97, 98, 99, 100, 106, 107, 108, 109, 110, 111, 112, 113, 114, 115, 116, 117, 118, 119, 120, 121, 122, 123, 124, 125, 126] (by decide +kernel) (by decide +kernel)
set_option maxRecDepth 20000 in
theorem gX5_readItem_X5_readShip : GoodIn wsX5_readItem (wsV RX5 328 RX5 yX5_readShip wsX5_readShip) := goodIn_app (goodIn_of _ (by decide +kernel)) ggX5_readItem_X5_readShip
set_option maxRecDepth 20000 in
theorem ggX5_readItem_X5_takesWord : GoodIn wsX5_readItem wsX5_takesWord := goodIn_r _ [94, 69, 2, 3, 4, 5, 6, 7, 8, 9, 10, 11, 12, 13, 14, 15, 16, 17, 18, 19, 20, 21, 22, 23, 24, 25, 26, 27, 28, 29, 30, 31, 32, 33, 34, 35, 36, 37, 38, 39, 40, 41, 42, 43, 44, 45, 46, 47, 48, 49, 50, 51, 52, 53, 54, 55, 56, 57, 58, 59, 65, 66, 67, 68, 70, 71, 72, 73, 74, 75, 76, 77, 78, 79, 80, 81, 82, 83, 84, 85, 86, 106, 107, 108, 109, 110, 111, 112, 113, 114, 115, 116, 117, 118, 119, 120, 121, 122, 123, 124, 125, 126] (by decide +kernel) (by decide +kernel)
set_option maxRecDepth 20000 in
theorem gX5_readItem_X5_takesWord : GoodIn wsX5_readItem (wsV RX5 305 RX5 yX5_takesWord wsX5_takesWord) := goodIn_app (goodIn_of _ (by decide +kernel)) ggX5_readItem_X5_takesWord
set_option maxRecDepth 20000 in
theorem ggX5_readItem_X5_number : GoodIn wsX5_readItem wsX5_number := goodIn_r _ [90, 74, 7, 84, 85, 5, 86, 65, 66, 67, 68, 69, 70, 71, 72, 73, 8, 9, 75, 76, 77, 78, 79, 80, 81, 82, 83, 10, 106, 107, 108, 109, 110, 111, 112, 113, 114, 115, 116, 117, 118, 119, 120, 121, 122, 123, 124, 125, 126] (by decide +kernel) (by decide +kernel)
set_option maxRecDepth 20000 in
theorem gX5_readItem_X5_number : GoodIn wsX5_readItem (wsV RX5 300 RX5 yX5_number wsX5_number) := goodIn_app (goodIn_of _ (by decide +kernel)) ggX5_readItem_X5_number
set_option maxRecDepth 20000 in
theorem ggX5_readItem_X5_addItem : GoodIn wsX5_readItem wsX5_addItem := goodIn_r _ [98, 99, 100, 106, 107, 108, 109, 110, 111, 112, 113, 114, 115, 116, 117, 118, 119, 120, 121, 122, 123, 124, 125, 126] (by decide +kernel) (by decide +kernel)
set_option maxRecDepth 20000 in
theorem gX5_readItem_X5_addItem : GoodIn wsX5_readItem (wsV RX5 312 RX5 yX5_addItem wsX5_addItem) := goodIn_app (goodIn_of _ (by decide +kernel)) ggX5_readItem_X5_addItem
set_option maxRecDepth 20000 in
theorem ggX5_readItem_X5_must : GoodIn wsX5_readItem wsX5_must := goodIn_r _ [68, 69, 70, 71, 72, 5, 73, 8, 9, 74, 7, 75, 76, 77, 78, 79, 80, 81, 82, 83, 10, 84, 85, 86, 106, 107, 108, 109, 110, 111, 112, 113, 114, 115, 116, 117, 118, 119, 120, 121, 122, 123, 124, 125, 126] (by decide +kernel) (by decide +kernel)
set_option maxRecDepth 20000 in
theorem gX5_readItem_X5_must : GoodIn wsX5_readItem (wsV RX5 286 RX5 yX5_must wsX5_must) := goodIn_app (goodIn_of _ (by decide +kernel)) ggX5_readItem_X5_must
theorem dX5_readItem_0 : decode cX5_readItem 0 = .ok (.iconst (-1), 1) := by decide +kernel
theorem dX5_readItem_1 : decode cX5_readItem 1 = .ok (.istore_n 1, 1) := by decide +kernel
theorem dX5_readItem_2 : decode cX5_readItem 2 = .ok (.iconst 0, 1) := by decide +kernel
theorem dX5_readItem_3 : decode cX5_readItem 3 = .ok (.istore_n 2, 1) := by decide +kernel
theorem dX5_readItem_4 : decode cX5_readItem 4 = .ok (.iload_n 2, 1) := by decide +kernel
theorem dX5_readItem_5 : decode cX5_readItem 5 = .ok (.aload_n 0, 1) := by decide +kernel
theorem dX5_readItem_6 : decode cX5_readItem 6 = .ok (.getfield 41, 3) := by decide +kernel
theorem dX5_readItem_9 : decode cX5_readItem 9 = .ok (.arraylength, 1) := by decide +kernel
theorem dX5_readItem_10 : decode cX5_readItem 10 = .ok (.if_icmp .ge 28, 3) := by decide +kernel
theorem dX5_readItem_13 : decode cX5_readItem 13 = .ok (.aload_n 0, 1) := by decide +kernel
theorem dX5_readItem_14 : decode cX5_readItem 14 = .ok (.aload_n 0, 1) := by decide +kernel
theorem dX5_readItem_15 : decode cX5_readItem 15 = .ok (.getfield 41, 3) := by decide +kernel
theorem dX5_readItem_18 : decode cX5_readItem 18 = .ok (.iload_n 2, 1) := by decide +kernel
theorem dX5_readItem_19 : decode cX5_readItem 19 = .ok (.aaload, 1) := by decide +kernel
theorem dX5_readItem_20 : decode cX5_readItem 20 = .ok (.invokevirtual 293, 3) := by decide +kernel
theorem dX5_readItem_23 : decode cX5_readItem 23 = .ok (.ifCond .eq 7, 3) := by decide +kernel
theorem dX5_readItem_26 : decode cX5_readItem 26 = .ok (.iload_n 2, 1) := by decide +kernel
theorem dX5_readItem_27 : decode cX5_readItem 27 = .ok (.goto 4, 3) := by decide +kernel
theorem dX5_readItem_30 : decode cX5_readItem 30 = .ok (.iload_n 1, 1) := by decide +kernel
theorem dX5_readItem_31 : decode cX5_readItem 31 = .ok (.istore_n 1, 1) := by decide +kernel
theorem dX5_readItem_32 : decode cX5_readItem 32 = .ok (.iinc 2 1, 3) := by decide +kernel
theorem dX5_readItem_35 : decode cX5_readItem 35 = .ok (.goto (-31), 3) := by decide +kernel
theorem dX5_readItem_38 : decode cX5_readItem 38 = .ok (.iload_n 1, 1) := by decide +kernel
theorem dX5_readItem_39 : decode cX5_readItem 39 = .ok (.ifCond .lt 11, 3) := by decide +kernel
theorem dX5_readItem_42 : decode cX5_readItem 42 = .ok (.aload_n 0, 1) := by decide +kernel
theorem dX5_readItem_43 : decode cX5_readItem 43 = .ok (.iload_n 1, 1) := by decide +kernel
theorem dX5_readItem_44 : decode cX5_readItem 44 = .ok (.invokevirtual 323, 3) := by decide +kernel
theorem dX5_readItem_47 : decode cX5_readItem 47 = .ok (.goto 61, 3) := by decide +kernel
theorem dX5_readItem_50 : decode cX5_readItem 50 = .ok (.aload_n 0, 1) := by decide +kernel
theorem dX5_readItem_51 : decode cX5_readItem 51 = .ok (.ldc_w 326, 3) := by decide +kernel
theorem dX5_readItem_54 : decode cX5_readItem 54 = .ok (.invokevirtual 293, 3) := by decide +kernel
theorem dX5_readItem_57 : decode cX5_readItem 57 = .ok (.ifCond .eq 10, 3) := by decide +kernel
theorem dX5_readItem_60 : decode cX5_readItem 60 = .ok (.aload_n 0, 1) := by decide +kernel
theorem dX5_readItem_61 : decode cX5_readItem 61 = .ok (.invokevirtual 328, 3) := by decide +kernel
theorem dX5_readItem_64 : decode cX5_readItem 64 = .ok (.goto 44, 3) := by decide +kernel
theorem dX5_readItem_67 : decode cX5_readItem 67 = .ok (.aload_n 0, 1) := by decide +kernel
theorem dX5_readItem_68 : decode cX5_readItem 68 = .ok (.ldc_w 331, 3) := by decide +kernel
theorem dX5_readItem_71 : decode cX5_readItem 71 = .ok (.invokevirtual 305, 3) := by decide +kernel
theorem dX5_readItem_74 : decode cX5_readItem 74 = .ok (.ifCond .eq 29, 3) := by decide +kernel
theorem dX5_readItem_77 : decode cX5_readItem 77 = .ok (.aload_n 0, 1) := by decide +kernel
theorem dX5_readItem_78 : decode cX5_readItem 78 = .ok (.iconst 0, 1) := by decide +kernel
theorem dX5_readItem_79 : decode cX5_readItem 79 = .ok (.iconst 5, 1) := by decide +kernel
theorem dX5_readItem_80 : decode cX5_readItem 80 = .ok (.invokevirtual 300, 3) := by decide +kernel
theorem dX5_readItem_83 : decode cX5_readItem 83 = .ok (.istore_n 2, 1) := by decide +kernel
theorem dX5_readItem_84 : decode cX5_readItem 84 = .ok (.aload_n 0, 1) := by decide +kernel
theorem dX5_readItem_85 : decode cX5_readItem 85 = .ok (.bipush 11, 2) := by decide +kernel
theorem dX5_readItem_87 : decode cX5_readItem 87 = .ok (.iload_n 2, 1) := by decide +kernel
theorem dX5_readItem_88 : decode cX5_readItem 88 = .ok (.aload_n 0, 1) := by decide +kernel
theorem dX5_readItem_89 : decode cX5_readItem 89 = .ok (.iconst 0, 1) := by decide +kernel
theorem dX5_readItem_90 : decode cX5_readItem 90 = .ok (.bipush 8, 2) := by decide +kernel
theorem dX5_readItem_92 : decode cX5_readItem 92 = .ok (.invokevirtual 300, 3) := by decide +kernel
theorem dX5_readItem_95 : decode cX5_readItem 95 = .ok (.iconst 0, 1) := by decide +kernel
theorem dX5_readItem_96 : decode cX5_readItem 96 = .ok (.iconst 0, 1) := by decide +kernel
theorem dX5_readItem_97 : decode cX5_readItem 97 = .ok (.invokevirtual 312, 3) := by decide +kernel
theorem dX5_readItem_100 : decode cX5_readItem 100 = .ok (.goto 8, 3) := by decide +kernel
theorem dX5_readItem_103 : decode cX5_readItem 103 = .ok (.aload_n 0, 1) := by decide +kernel
theorem dX5_readItem_104 : decode cX5_readItem 104 = .ok (.iconst 0, 1) := by decide +kernel
theorem dX5_readItem_105 : decode cX5_readItem 105 = .ok (.invokevirtual 286, 3) := by decide +kernel
theorem dX5_readItem_108 : decode cX5_readItem 108 = .ok (.return_, 1) := by decide +kernel
set_option maxRecDepth 20000 in
theorem ggX5_isToldSo_X5_sails : GoodIn wsX5_isToldSo wsX5_sails := goodIn_r _ [7, 2, 8, 9, 6, 10, 18, 19, 20, 21, 22, 23, 24, 25, 26, 27, 28, 29, 30, 31, 32, 33, 34, 35, 36, 37, 38] (by decide +kernel) (by decide +kernel)
set_option maxRecDepth 20000 in
theorem gX5_isToldSo_X5_sails : GoodIn wsX5_isToldSo (wsV RX5 105 RX5 yX5_sails wsX5_sails) := goodIn_app (goodIn_of _ (by decide +kernel)) ggX5_isToldSo_X5_sails
set_option maxRecDepth 20000 in
theorem ggX5_isToldSo_X5_shipAt : GoodIn wsX5_isToldSo wsX5_shipAt := goodIn_r _ [10] (by decide +kernel) (by decide +kernel)
set_option maxRecDepth 20000 in
theorem gX5_isToldSo_X5_shipAt : GoodIn wsX5_isToldSo (va_wsS RX5 85 yX5_shipAt wsX5_shipAt) := goodIn_app (goodIn_of _ (by decide +kernel)) ggX5_isToldSo_X5_shipAt
set_option maxRecDepth 20000 in
theorem ggX5_isToldSo_X5_comes : GoodIn wsX5_isToldSo wsX5_comes := goodIn_r _ [14, 2, 15, 16, 6, 17, 18, 19, 20, 21, 22, 23, 24, 25, 26, 27, 28, 29, 30, 31, 32, 33, 34, 35, 36, 37, 38] (by decide +kernel) (by decide +kernel)
set_option maxRecDepth 20000 in
theorem gX5_isToldSo_X5_comes : GoodIn wsX5_isToldSo (wsV RX5 98 RX5 yX5_comes wsX5_comes) := goodIn_app (goodIn_of _ (by decide +kernel)) ggX5_isToldSo_X5_comes
set_option maxRecDepth 20000 in
theorem ggX5_isToldSo_X5_sayingAt : GoodIn wsX5_isToldSo wsX5_sayingAt := goodIn_r _ [17] (by decide +kernel) (by decide +kernel)
set_option maxRecDepth 20000 in
theorem gX5_isToldSo_X5_sayingAt : GoodIn wsX5_isToldSo (va_wsS RX5 82 yX5_sayingAt wsX5_sayingAt) := goodIn_app (goodIn_of _ (by decide +kernel)) ggX5_isToldSo_X5_sayingAt
theorem dX5_isToldSo_0 : decode cX5_isToldSo 0 = .ok (.aload_n 0, 1) := by decide +kernel
theorem dX5_isToldSo_1 : decode cX5_isToldSo 1 = .ok (.getfield 45, 3) := by decide +kernel
theorem dX5_isToldSo_4 : decode cX5_isToldSo 4 = .ok (.iload_n 1, 1) := by decide +kernel
theorem dX5_isToldSo_5 : decode cX5_isToldSo 5 = .ok (.iconst 1, 1) := by decide +kernel
theorem dX5_isToldSo_6 : decode cX5_isToldSo 6 = .ok (.iadd, 1) := by decide +kernel
theorem dX5_isToldSo_7 : decode cX5_isToldSo 7 = .ok (.iaload, 1) := by decide +kernel
theorem dX5_isToldSo_8 : decode cX5_isToldSo 8 = .ok (.istore_n 2, 1) := by decide +kernel
theorem dX5_isToldSo_9 : decode cX5_isToldSo 9 = .ok (.aload_n 0, 1) := by decide +kernel
theorem dX5_isToldSo_10 : decode cX5_isToldSo 10 = .ok (.getfield 45, 3) := by decide +kernel
theorem dX5_isToldSo_13 : decode cX5_isToldSo 13 = .ok (.iload_n 1, 1) := by decide +kernel
theorem dX5_isToldSo_14 : decode cX5_isToldSo 14 = .ok (.iconst 2, 1) := by decide +kernel
theorem dX5_isToldSo_15 : decode cX5_isToldSo 15 = .ok (.iadd, 1) := by decide +kernel
theorem dX5_isToldSo_16 : decode cX5_isToldSo 16 = .ok (.iaload, 1) := by decide +kernel
theorem dX5_isToldSo_17 : decode cX5_isToldSo 17 = .ok (.istore_n 3, 1) := by decide +kernel
theorem dX5_isToldSo_18 : decode cX5_isToldSo 18 = .ok (.aload_n 0, 1) := by decide +kernel
theorem dX5_isToldSo_19 : decode cX5_isToldSo 19 = .ok (.getfield 45, 3) := by decide +kernel
theorem dX5_isToldSo_22 : decode cX5_isToldSo 22 = .ok (.iload_n 1, 1) := by decide +kernel
theorem dX5_isToldSo_23 : decode cX5_isToldSo 23 = .ok (.iconst 3, 1) := by decide +kernel
theorem dX5_isToldSo_24 : decode cX5_isToldSo 24 = .ok (.iadd, 1) := by decide +kernel
theorem dX5_isToldSo_25 : decode cX5_isToldSo 25 = .ok (.iaload, 1) := by decide +kernel
theorem dX5_isToldSo_26 : decode cX5_isToldSo 26 = .ok (.istore 4, 2) := by decide +kernel
theorem dX5_isToldSo_28 : decode cX5_isToldSo 28 = .ok (.iconst 0, 1) := by decide +kernel
theorem dX5_isToldSo_29 : decode cX5_isToldSo 29 = .ok (.istore 5, 2) := by decide +kernel
theorem dX5_isToldSo_31 : decode cX5_isToldSo 31 = .ok (.aload_n 0, 1) := by decide +kernel
theorem dX5_isToldSo_32 : decode cX5_isToldSo 32 = .ok (.getfield 45, 3) := by decide +kernel
theorem dX5_isToldSo_35 : decode cX5_isToldSo 35 = .ok (.iload_n 1, 1) := by decide +kernel
theorem dX5_isToldSo_36 : decode cX5_isToldSo 36 = .ok (.iaload, 1) := by decide +kernel
theorem dX5_isToldSo_37 : decode cX5_isToldSo 37 = .ok (.lookupswitch 63 #[(10, 27), (11, 51)], 27) := by decide +kernel
theorem dX5_isToldSo_64 : decode cX5_isToldSo 64 = .ok (.aload_n 0, 1) := by decide +kernel
theorem dX5_isToldSo_65 : decode cX5_isToldSo 65 = .ok (.iload_n 2, 1) := by decide +kernel
theorem dX5_isToldSo_66 : decode cX5_isToldSo 66 = .ok (.iload 4, 2) := by decide +kernel
theorem dX5_isToldSo_68 : decode cX5_isToldSo 68 = .ok (.invokevirtual 105, 3) := by decide +kernel
theorem dX5_isToldSo_71 : decode cX5_isToldSo 71 = .ok (.istore 5, 2) := by decide +kernel
theorem dX5_isToldSo_73 : decode cX5_isToldSo 73 = .ok (.aload_n 0, 1) := by decide +kernel
theorem dX5_isToldSo_74 : decode cX5_isToldSo 74 = .ok (.getfield 9, 3) := by decide +kernel
theorem dX5_isToldSo_77 : decode cX5_isToldSo 77 = .ok (.iload 5, 2) := by decide +kernel
theorem dX5_isToldSo_79 : decode cX5_isToldSo 79 = .ok (.iconst 1, 1) := by decide +kernel
theorem dX5_isToldSo_80 : decode cX5_isToldSo 80 = .ok (.invokestatic 85, 3) := by decide +kernel
theorem dX5_isToldSo_83 : decode cX5_isToldSo 83 = .ok (.iload_n 3, 1) := by decide +kernel
theorem dX5_isToldSo_84 : decode cX5_isToldSo 84 = .ok (.iastore, 1) := by decide +kernel
theorem dX5_isToldSo_85 : decode cX5_isToldSo 85 = .ok (.goto 61, 3) := by decide +kernel
theorem dX5_isToldSo_88 : decode cX5_isToldSo 88 = .ok (.aload_n 0, 1) := by decide +kernel
theorem dX5_isToldSo_89 : decode cX5_isToldSo 89 = .ok (.getfield 9, 3) := by decide +kernel
theorem dX5_isToldSo_92 : decode cX5_isToldSo 92 = .ok (.iconst 4, 1) := by decide +kernel
theorem dX5_isToldSo_93 : decode cX5_isToldSo 93 = .ok (.iload_n 2, 1) := by decide +kernel
theorem dX5_isToldSo_94 : decode cX5_isToldSo 94 = .ok (.iadd, 1) := by decide +kernel
theorem dX5_isToldSo_95 : decode cX5_isToldSo 95 = .ok (.iload_n 3, 1) := by decide +kernel
theorem dX5_isToldSo_96 : decode cX5_isToldSo 96 = .ok (.iastore, 1) := by decide +kernel
theorem dX5_isToldSo_97 : decode cX5_isToldSo 97 = .ok (.goto 49, 3) := by decide +kernel
theorem dX5_isToldSo_100 : decode cX5_isToldSo 100 = .ok (.aload_n 0, 1) := by decide +kernel
theorem dX5_isToldSo_101 : decode cX5_isToldSo 101 = .ok (.aload_n 0, 1) := by decide +kernel
theorem dX5_isToldSo_102 : decode cX5_isToldSo 102 = .ok (.getfield 45, 3) := by decide +kernel
theorem dX5_isToldSo_105 : decode cX5_isToldSo 105 = .ok (.iload_n 1, 1) := by decide +kernel
theorem dX5_isToldSo_106 : decode cX5_isToldSo 106 = .ok (.iaload, 1) := by decide +kernel
theorem dX5_isToldSo_107 : decode cX5_isToldSo 107 = .ok (.iload_n 2, 1) := by decide +kernel
theorem dX5_isToldSo_108 : decode cX5_isToldSo 108 = .ok (.iload_n 3, 1) := by decide +kernel
theorem dX5_isToldSo_109 : decode cX5_isToldSo 109 = .ok (.invokevirtual 98, 3) := by decide +kernel
theorem dX5_isToldSo_112 : decode cX5_isToldSo 112 = .ok (.istore 5, 2) := by decide +kernel
theorem dX5_isToldSo_114 : decode cX5_isToldSo 114 = .ok (.aload_n 0, 1) := by decide +kernel
theorem dX5_isToldSo_115 : decode cX5_isToldSo 115 = .ok (.getfield 9, 3) := by decide +kernel
theorem dX5_isToldSo_118 : decode cX5_isToldSo 118 = .ok (.iload 5, 2) := by decide +kernel
theorem dX5_isToldSo_120 : decode cX5_isToldSo 120 = .ok (.iconst 4, 1) := by decide +kernel
theorem dX5_isToldSo_121 : decode cX5_isToldSo 121 = .ok (.invokestatic 82, 3) := by decide +kernel
theorem dX5_isToldSo_124 : decode cX5_isToldSo 124 = .ok (.iload 4, 2) := by decide +kernel
theorem dX5_isToldSo_126 : decode cX5_isToldSo 126 = .ok (.iastore, 1) := by decide +kernel
theorem dX5_isToldSo_127 : decode cX5_isToldSo 127 = .ok (.aload_n 0, 1) := by decide +kernel
theorem dX5_isToldSo_128 : decode cX5_isToldSo 128 = .ok (.getfield 9, 3) := by decide +kernel
theorem dX5_isToldSo_131 : decode cX5_isToldSo 131 = .ok (.iload 5, 2) := by decide +kernel
theorem dX5_isToldSo_133 : decode cX5_isToldSo 133 = .ok (.iconst 3, 1) := by decide +kernel
theorem dX5_isToldSo_134 : decode cX5_isToldSo 134 = .ok (.invokestatic 82, 3) := by decide +kernel
theorem dX5_isToldSo_137 : decode cX5_isToldSo 137 = .ok (.aload_n 0, 1) := by decide +kernel
theorem dX5_isToldSo_138 : decode cX5_isToldSo 138 = .ok (.getfield 45, 3) := by decide +kernel
theorem dX5_isToldSo_141 : decode cX5_isToldSo 141 = .ok (.iload_n 1, 1) := by decide +kernel
theorem dX5_isToldSo_142 : decode cX5_isToldSo 142 = .ok (.iconst 4, 1) := by decide +kernel
theorem dX5_isToldSo_143 : decode cX5_isToldSo 143 = .ok (.iadd, 1) := by decide +kernel
theorem dX5_isToldSo_144 : decode cX5_isToldSo 144 = .ok (.iaload, 1) := by decide +kernel
theorem dX5_isToldSo_145 : decode cX5_isToldSo 145 = .ok (.iastore, 1) := by decide +kernel
theorem dX5_isToldSo_146 : decode cX5_isToldSo 146 = .ok (.return_, 1) := by decide +kernel
set_option maxRecDepth 20000 in
theorem ggX5_text_X5_token : GoodIn wsX5_text wsX5_token := goodIn_r _ [15, 1, 9, 16, 7, 17, 18, 19, 20, 21, 22, 23, 14, 24, 10, 8, 25, 26, 27, 129, 130, 131, 132, 133, 134, 135, 136, 137, 138, 139, 140, 141, 142, 143, 144, 145, 146, 147, 148, 149] (by decide +kernel) (by decide +kernel)
set_option maxRecDepth 20000 in
theorem gX5_text_X5_token : GoodIn wsX5_text (wsV RX5 283 RX5 yX5_token wsX5_token) := goodIn_app (goodIn_of _ (by decide +kernel)) ggX5_text_X5_token
set_option maxRecDepth 20000 in
theorem ggX5_text_X5_readItem : GoodIn wsX5_text wsX5_readItem := goodIn_r _ [31, 32, 33, 34, 35, 14, 36, 7, 1, 9, 8, 37, 38, 39, 40, 41, 42, 43, 44, 45, 46, 47, 48, 49, 50, 51, 52, 53, 54, 55, 56, 57, 58, 59, 60, 61, 62, 63, 64, 65, 66, 67, 68, 69, 70, 71, 72, 73, 74, 75, 76, 77, 78, 79, 80, 81, 82, 83, 84, 85, 86, 87, 88, 89, 5, 90, 91, 92, 93, 2, 11, 12, 13, 15, 16, 17, 18, 19, 20, 21, 22, 23, 24, 10, 25, 26, 27, 94, 95, 96, 97, 98, 99, 100, 101, 102, 103, 104, 105, 3, 106, 107, 108, 109, 110, 6, 129, 130, 131, 132, 133, 134, 135, 136, 137, 138, 139, 140, 141, 142, 143, 144, 145, 146, 147, 148, 149] (by decide +kernel) (by decide +kernel)
set_option maxRecDepth 20000 in
theorem gX5_text_X5_readItem : GoodIn wsX5_text (wsV RX5 333 RX5 yX5_readItem wsX5_readItem) := goodIn_app (goodIn_of _ (by decide +kernel)) ggX5_text_X5_readItem
set_option maxRecDepth 20000 in
theorem ggX5_text_X5_must : GoodIn wsX5_text wsX5_must := goodIn_r _ [93, 2, 11, 12, 13, 14, 15, 1, 9, 16, 7, 17, 18, 19, 20, 21, 22, 23, 24, 10, 8, 25, 26, 27, 129, 130, 131, 132, 133, 134, 135, 136, 137, 138, 139, 140, 141, 142, 143, 144, 145, 146, 147, 148, 149] (by decide +kernel) (by decide +kernel)
set_option maxRecDepth 20000 in
theorem gX5_text_X5_must : GoodIn wsX5_text (wsV RX5 286 RX5 yX5_must wsX5_must) := goodIn_app (goodIn_of _ (by decide +kernel)) ggX5_text_X5_must
set_option maxRecDepth 20000 in
theorem ggX5_text_X5_isToldSo : GoodIn wsX5_text wsX5_isToldSo := goodIn_r _ [114, 106, 4, 115, 116, 117, 14, 118, 119, 120, 121, 122, 123, 124, 125, 126, 127, 128, 129, 130, 131, 132, 133, 134, 135, 136, 137, 138, 139, 140, 141, 142, 143, 144, 145, 146, 147, 148, 149] (by decide +kernel) (by decide +kernel)
set_option maxRecDepth 20000 in
theorem gX5_text_X5_isToldSo : GoodIn wsX5_text (wsV RX5 336 RX5 yX5_isToldSo wsX5_isToldSo) := goodIn_app (goodIn_of _ (by decide +kernel)) ggX5_text_X5_isToldSo
theorem dX5_text_0 : decode cX5_text 0 = .ok (.aload_n 0, 1) := by decide +kernel
theorem dX5_text_1 : decode cX5_text 1 = .ok (.iconst 0, 1) := by decide +kernel
theorem dX5_text_2 : decode cX5_text 2 = .ok (.putfield 257, 3) := by decide +kernel
theorem dX5_text_5 : decode cX5_text 5 = .ok (.aload_n 0, 1) := by decide +kernel
theorem dX5_text_6 : decode cX5_text 6 = .ok (.iconst 0, 1) := by decide +kernel
theorem dX5_text_7 : decode cX5_text 7 = .ok (.putfield 279, 3) := by decide +kernel
theorem dX5_text_10 : decode cX5_text 10 = .ok (.aload_n 0, 1) := by decide +kernel
theorem dX5_text_11 : decode cX5_text 11 = .ok (.iconst 0, 1) := by decide +kernel
theorem dX5_text_12 : decode cX5_text 12 = .ok (.putfield 290, 3) := by decide +kernel
theorem dX5_text_15 : decode cX5_text 15 = .ok (.aload_n 0, 1) := by decide +kernel
theorem dX5_text_16 : decode cX5_text 16 = .ok (.aload_n 0, 1) := by decide +kernel
theorem dX5_text_17 : decode cX5_text 17 = .ok (.getfield 9, 3) := by decide +kernel
theorem dX5_text_20 : decode cX5_text 20 = .ok (.iconst 1, 1) := by decide +kernel
theorem dX5_text_21 : decode cX5_text 21 = .ok (.iaload, 1) := by decide +kernel
theorem dX5_text_22 : decode cX5_text 22 = .ok (.putfield 297, 3) := by decide +kernel
theorem dX5_text_25 : decode cX5_text 25 = .ok (.aload_n 0, 1) := by decide +kernel
theorem dX5_text_26 : decode cX5_text 26 = .ok (.aload_n 0, 1) := by decide +kernel
theorem dX5_text_27 : decode cX5_text 27 = .ok (.getfield 9, 3) := by decide +kernel
theorem dX5_text_30 : decode cX5_text 30 = .ok (.iconst 3, 1) := by decide +kernel
theorem dX5_text_31 : decode cX5_text 31 = .ok (.iaload, 1) := by decide +kernel
theorem dX5_text_32 : decode cX5_text 32 = .ok (.putfield 316, 3) := by decide +kernel
theorem dX5_text_35 : decode cX5_text 35 = .ok (.aload_n 0, 1) := by decide +kernel
theorem dX5_text_36 : decode cX5_text 36 = .ok (.invokevirtual 283, 3) := by decide +kernel
theorem dX5_text_39 : decode cX5_text 39 = .ok (.aload_n 0, 1) := by decide +kernel
theorem dX5_text_40 : decode cX5_text 40 = .ok (.invokevirtual 333, 3) := by decide +kernel
theorem dX5_text_43 : decode cX5_text 43 = .ok (.aload_n 0, 1) := by decide +kernel
theorem dX5_text_44 : decode cX5_text 44 = .ok (.getfield 279, 3) := by decide +kernel
theorem dX5_text_47 : decode cX5_text 47 = .ok (.ifCond .ne 37, 3) := by decide +kernel
theorem dX5_text_50 : decode cX5_text 50 = .ok (.aload_n 0, 1) := by decide +kernel
theorem dX5_text_51 : decode cX5_text 51 = .ok (.getfield 269, 3) := by decide +kernel
theorem dX5_text_54 : decode cX5_text 54 = .ok (.iconst 3, 1) := by decide +kernel
theorem dX5_text_55 : decode cX5_text 55 = .ok (.if_icmp .ne 29, 3) := by decide +kernel
theorem dX5_text_58 : decode cX5_text 58 = .ok (.aload_n 0, 1) := by decide +kernel
theorem dX5_text_59 : decode cX5_text 59 = .ok (.getfield 22, 3) := by decide +kernel
theorem dX5_text_62 : decode cX5_text 62 = .ok (.aload_n 0, 1) := by decide +kernel
theorem dX5_text_63 : decode cX5_text 63 = .ok (.getfield 260, 3) := by decide +kernel
theorem dX5_text_66 : decode cX5_text 66 = .ok (.iaload, 1) := by decide +kernel
theorem dX5_text_67 : decode cX5_text 67 = .ok (.bipush 59, 2) := by decide +kernel
theorem dX5_text_69 : decode cX5_text 69 = .ok (.if_icmp .ne 15, 3) := by decide +kernel
theorem dX5_text_72 : decode cX5_text 72 = .ok (.aload_n 0, 1) := by decide +kernel
theorem dX5_text_73 : decode cX5_text 73 = .ok (.iconst 1, 1) := by decide +kernel
theorem dX5_text_74 : decode cX5_text 74 = .ok (.invokevirtual 286, 3) := by decide +kernel
theorem dX5_text_77 : decode cX5_text 77 = .ok (.aload_n 0, 1) := by decide +kernel
theorem dX5_text_78 : decode cX5_text 78 = .ok (.invokevirtual 333, 3) := by decide +kernel
theorem dX5_text_81 : decode cX5_text 81 = .ok (.goto (-38), 3) := by decide +kernel
theorem dX5_text_84 : decode cX5_text 84 = .ok (.aload_n 0, 1) := by decide +kernel
theorem dX5_text_85 : decode cX5_text 85 = .ok (.aload_n 0, 1) := by decide +kernel
theorem dX5_text_86 : decode cX5_text 86 = .ok (.getfield 269, 3) := by decide +kernel
theorem dX5_text_89 : decode cX5_text 89 = .ok (.ifCond .ne 7, 3) := by decide +kernel
theorem dX5_text_92 : decode cX5_text 92 = .ok (.iconst 1, 1) := by decide +kernel
theorem dX5_text_93 : decode cX5_text 93 = .ok (.goto 4, 3) := by decide +kernel
theorem dX5_text_96 : decode cX5_text 96 = .ok (.iconst 0, 1) := by decide +kernel
theorem dX5_text_97 : decode cX5_text 97 = .ok (.invokevirtual 286, 3) := by decide +kernel
theorem dX5_text_100 : decode cX5_text 100 = .ok (.aload_n 0, 1) := by decide +kernel
theorem dX5_text_101 : decode cX5_text 101 = .ok (.iconst 0, 1) := by decide +kernel
theorem dX5_text_102 : decode cX5_text 102 = .ok (.putfield 253, 3) := by decide +kernel
theorem dX5_text_105 : decode cX5_text 105 = .ok (.aload_n 0, 1) := by decide +kernel
theorem dX5_text_106 : decode cX5_text 106 = .ok (.getfield 279, 3) := by decide +kernel
theorem dX5_text_109 : decode cX5_text 109 = .ok (.ifCond .eq 10, 3) := by decide +kernel
theorem dX5_text_112 : decode cX5_text 112 = .ok (.iconst (-1), 1) := by decide +kernel
theorem dX5_text_113 : decode cX5_text 113 = .ok (.aload_n 0, 1) := by decide +kernel
theorem dX5_text_114 : decode cX5_text 114 = .ok (.getfield 260, 3) := by decide +kernel
theorem dX5_text_117 : decode cX5_text 117 = .ok (.isub, 1) := by decide +kernel
theorem dX5_text_118 : decode cX5_text 118 = .ok (.ireturn, 1) := by decide +kernel
theorem dX5_text_119 : decode cX5_text 119 = .ok (.iconst 0, 1) := by decide +kernel
theorem dX5_text_120 : decode cX5_text 120 = .ok (.istore_n 1, 1) := by decide +kernel
theorem dX5_text_121 : decode cX5_text 121 = .ok (.iload_n 1, 1) := by decide +kernel
theorem dX5_text_122 : decode cX5_text 122 = .ok (.aload_n 0, 1) := by decide +kernel
theorem dX5_text_123 : decode cX5_text 123 = .ok (.getfield 290, 3) := by decide +kernel
theorem dX5_text_126 : decode cX5_text 126 = .ok (.if_icmp .ge 16, 3) := by decide +kernel
theorem dX5_text_129 : decode cX5_text 129 = .ok (.aload_n 0, 1) := by decide +kernel
theorem dX5_text_130 : decode cX5_text 130 = .ok (.iconst 5, 1) := by decide +kernel
theorem dX5_text_131 : decode cX5_text 131 = .ok (.iload_n 1, 1) := by decide +kernel
theorem dX5_text_132 : decode cX5_text 132 = .ok (.imul, 1) := by decide +kernel
theorem dX5_text_133 : decode cX5_text 133 = .ok (.invokevirtual 336, 3) := by decide +kernel
theorem dX5_text_136 : decode cX5_text 136 = .ok (.iinc 1 1, 3) := by decide +kernel
theorem dX5_text_139 : decode cX5_text 139 = .ok (.goto (-18), 3) := by decide +kernel
theorem dX5_text_142 : decode cX5_text 142 = .ok (.aload_n 0, 1) := by decide +kernel
theorem dX5_text_143 : decode cX5_text 143 = .ok (.getfield 290, 3) := by decide +kernel
theorem dX5_text_146 : decode cX5_text 146 = .ok (.ireturn, 1) := by decide +kernel
set_option maxRecDepth 20000 in
theorem ggX5_isSpot_X5_within : GoodIn wsX5_isSpot wsX5_within := goodIn_r _ [4] (by decide +kernel) (by decide +kernel)
set_option maxRecDepth 20000 in
theorem gX5_isSpot_X5_within : GoodIn wsX5_isSpot (va_wsS RX5 70 yX5_within wsX5_within) := goodIn_app (goodIn_of _ (by decide +kernel)) ggX5_isSpot_X5_within
theorem dX5_isSpot_0 : decode cX5_isSpot 0 = .ok (.iload_n 0, 1) := by decide +kernel
theorem dX5_isSpot_1 : decode cX5_isSpot 1 = .ok (.iconst 0, 1) := by decide +kernel
theorem dX5_isSpot_2 : decode cX5_isSpot 2 = .ok (.bipush 9, 2) := by decide +kernel
theorem dX5_isSpot_4 : decode cX5_isSpot 4 = .ok (.invokestatic 70, 3) := by decide +kernel
theorem dX5_isSpot_7 : decode cX5_isSpot 7 = .ok (.ireturn, 1) := by decide +kernel
set_option maxRecDepth 20000 in
theorem ggX5_hold_X5_isSpot : GoodIn wsX5_hold wsX5_isSpot := goodIn_r _ [6, 7, 8, 5, 9] (by decide +kernel) (by decide +kernel)
set_option maxRecDepth 20000 in
theorem gX5_hold_X5_isSpot : GoodIn wsX5_hold (va_wsS RX5 339 yX5_isSpot wsX5_isSpot) := goodIn_app (goodIn_of _ (by decide +kernel)) ggX5_hold_X5_isSpot
set_option maxRecDepth 20000 in
theorem ggX5_hold_X5_isSaying : GoodIn wsX5_hold wsX5_isSaying := goodIn_r _ [13, 2, 7, 8, 5, 9, 19, 20, 21, 22, 23, 24, 25, 26, 27, 28, 29, 30, 31, 32, 33, 34, 35, 36, 37, 38, 39] (by decide +kernel) (by decide +kernel)
set_option maxRecDepth 20000 in
theorem gX5_hold_X5_isSaying : GoodIn wsX5_hold (wsV RX5 123 RX5 yX5_isSaying wsX5_isSaying) := goodIn_app (goodIn_of _ (by decide +kernel)) ggX5_hold_X5_isSaying
set_option maxRecDepth 20000 in
theorem ggX5_hold_X5_finding : GoodIn wsX5_hold wsX5_finding := goodIn_r _ [17, 18, 1, 19, 20, 21, 22, 23, 24, 25, 26, 27, 28, 29, 30, 31, 32, 33, 34, 35, 36, 37, 38, 39] (by decide +kernel) (by decide +kernel)
set_option maxRecDepth 20000 in
theorem gX5_hold_X5_finding : GoodIn wsX5_hold (wsV RX5 66 RX5 yX5_finding wsX5_finding) := goodIn_app (goodIn_of _ (by decide +kernel)) ggX5_hold_X5_finding
theorem dX5_hold_0 : decode cX5_hold 0 = .ok (.iload_n 1, 1) := by decide +kernel
theorem dX5_hold_1 : decode cX5_hold 1 = .ok (.invokestatic 339, 3) := by decide +kernel
theorem dX5_hold_4 : decode cX5_hold 4 = .ok (.ifCond .eq 16, 3) := by decide +kernel
theorem dX5_hold_7 : decode cX5_hold 7 = .ok (.iload_n 2, 1) := by decide +kernel
theorem dX5_hold_8 : decode cX5_hold 8 = .ok (.iconst (-1), 1) := by decide +kernel
theorem dX5_hold_9 : decode cX5_hold 9 = .ok (.if_icmp .eq 18, 3) := by decide +kernel
theorem dX5_hold_12 : decode cX5_hold 12 = .ok (.aload_n 0, 1) := by decide +kernel
theorem dX5_hold_13 : decode cX5_hold 13 = .ok (.iload_n 2, 1) := by decide +kernel
theorem dX5_hold_14 : decode cX5_hold 14 = .ok (.invokevirtual 123, 3) := by decide +kernel
theorem dX5_hold_17 : decode cX5_hold 17 = .ok (.ifCond .ne 10, 3) := by decide +kernel
theorem dX5_hold_20 : decode cX5_hold 20 = .ok (.aload_n 0, 1) := by decide +kernel
theorem dX5_hold_21 : decode cX5_hold 21 = .ok (.ldc 60, 2) := by decide +kernel
theorem dX5_hold_23 : decode cX5_hold 23 = .ok (.invokevirtual 66, 3) := by decide +kernel
theorem dX5_hold_26 : decode cX5_hold 26 = .ok (.ireturn, 1) := by decide +kernel
theorem dX5_hold_27 : decode cX5_hold 27 = .ok (.aload_n 0, 1) := by decide +kernel
theorem dX5_hold_28 : decode cX5_hold 28 = .ok (.getfield 9, 3) := by decide +kernel
theorem dX5_hold_31 : decode cX5_hold 31 = .ok (.bipush 10, 2) := by decide +kernel
theorem dX5_hold_33 : decode cX5_hold 33 = .ok (.iload_n 1, 1) := by decide +kernel
theorem dX5_hold_34 : decode cX5_hold 34 = .ok (.iadd, 1) := by decide +kernel
theorem dX5_hold_35 : decode cX5_hold 35 = .ok (.iload_n 2, 1) := by decide +kernel
theorem dX5_hold_36 : decode cX5_hold 36 = .ok (.iastore, 1) := by decide +kernel
theorem dX5_hold_37 : decode cX5_hold 37 = .ok (.iconst 1, 1) := by decide +kernel
theorem dX5_hold_38 : decode cX5_hold 38 = .ok (.ireturn, 1) := by decide +kernel
set_option maxRecDepth 20000 in
theorem ggX5_as_X5_isSpot : GoodIn wsX5_as wsX5_isSpot := goodIn_r _ [8, 9, 10, 7, 11] (by decide +kernel) (by decide +kernel)
set_option maxRecDepth 20000 in
theorem gX5_as_X5_isSpot : GoodIn wsX5_as (va_wsS RX5 339 yX5_isSpot wsX5_isSpot) := goodIn_app (goodIn_of _ (by decide +kernel)) ggX5_as_X5_isSpot
set_option maxRecDepth 20000 in
theorem ggX5_as_X5_isKind : GoodIn wsX5_as wsX5_isKind := goodIn_r _ [14, 9, 10, 7, 11] (by decide +kernel) (by decide +kernel)
set_option maxRecDepth 20000 in
theorem gX5_as_X5_isKind : GoodIn wsX5_as (va_wsS RX5 88 yX5_isKind wsX5_isKind) := goodIn_app (goodIn_of _ (by decide +kernel)) ggX5_as_X5_isKind
set_option maxRecDepth 20000 in
theorem ggX5_as_X5_finding : GoodIn wsX5_as wsX5_finding := goodIn_r _ [18, 19, 1, 33, 34, 35, 36, 37, 38, 39, 40, 41, 42, 43, 44, 45, 46, 47, 48, 49, 50, 51, 52, 53] (by decide +kernel) (by decide +kernel)
set_option maxRecDepth 20000 in
theorem gX5_as_X5_finding : GoodIn wsX5_as (wsV RX5 66 RX5 yX5_finding wsX5_finding) := goodIn_app (goodIn_of _ (by decide +kernel)) ggX5_as_X5_finding
set_option maxRecDepth 20000 in
theorem ggX5_as_X5_sayingIs : GoodIn wsX5_as wsX5_sayingIs := goodIn_r _ [23, 2, 24, 25, 7, 26, 33, 34, 35, 36, 37, 38, 39, 40, 41, 42, 43, 44, 45, 46, 47, 48, 49, 50, 51, 52, 53] (by decide +kernel) (by decide +kernel)
set_option maxRecDepth 20000 in
theorem gX5_as_X5_sayingIs : GoodIn wsX5_as (wsV RX5 108 RX5 yX5_sayingIs wsX5_sayingIs) := goodIn_app (goodIn_of _ (by decide +kernel)) ggX5_as_X5_sayingIs
set_option maxRecDepth 20000 in
theorem ggX5_as_X5_isUnder : GoodIn wsX5_as wsX5_isUnder := goodIn_r _ [29, 30, 31, 7, 32] (by decide +kernel) (by decide +kernel)
set_option maxRecDepth 20000 in
theorem gX5_as_X5_isUnder : GoodIn wsX5_as (va_wsS RX5 342 yX5_isUnder wsX5_isUnder) := goodIn_app (goodIn_of _ (by decide +kernel)) ggX5_as_X5_isUnder
theorem dX5_as_0 : decode cX5_as 0 = .ok (.iload_n 1, 1) := by decide +kernel
theorem dX5_as_1 : decode cX5_as 1 = .ok (.invokestatic 339, 3) := by decide +kernel
theorem dX5_as_4 : decode cX5_as 4 = .ok (.ifCond .eq 10, 3) := by decide +kernel
theorem dX5_as_7 : decode cX5_as 7 = .ok (.iload_n 2, 1) := by decide +kernel
theorem dX5_as_8 : decode cX5_as 8 = .ok (.invokestatic 88, 3) := by decide +kernel
theorem dX5_as_11 : decode cX5_as 11 = .ok (.ifCond .ne 10, 3) := by decide +kernel
theorem dX5_as_14 : decode cX5_as 14 = .ok (.aload_n 0, 1) := by decide +kernel
theorem dX5_as_15 : decode cX5_as 15 = .ok (.ldc 60, 2) := by decide +kernel
theorem dX5_as_17 : decode cX5_as 17 = .ok (.invokevirtual 66, 3) := by decide +kernel
theorem dX5_as_20 : decode cX5_as 20 = .ok (.ireturn, 1) := by decide +kernel
theorem dX5_as_21 : decode cX5_as 21 = .ok (.aload_n 0, 1) := by decide +kernel
theorem dX5_as_22 : decode cX5_as 22 = .ok (.getfield 9, 3) := by decide +kernel
theorem dX5_as_25 : decode cX5_as 25 = .ok (.bipush 10, 2) := by decide +kernel
theorem dX5_as_27 : decode cX5_as 27 = .ok (.iload_n 1, 1) := by decide +kernel
theorem dX5_as_28 : decode cX5_as 28 = .ok (.iadd, 1) := by decide +kernel
theorem dX5_as_29 : decode cX5_as 29 = .ok (.iaload, 1) := by decide +kernel
theorem dX5_as_30 : decode cX5_as 30 = .ok (.istore_n 3, 1) := by decide +kernel
theorem dX5_as_31 : decode cX5_as 31 = .ok (.iload_n 3, 1) := by decide +kernel
theorem dX5_as_32 : decode cX5_as 32 = .ok (.ifCond .ge 10, 3) := by decide +kernel
theorem dX5_as_35 : decode cX5_as 35 = .ok (.aload_n 0, 1) := by decide +kernel
theorem dX5_as_36 : decode cX5_as 36 = .ok (.ldc 241, 2) := by decide +kernel
theorem dX5_as_38 : decode cX5_as 38 = .ok (.invokevirtual 66, 3) := by decide +kernel
theorem dX5_as_41 : decode cX5_as 41 = .ok (.ireturn, 1) := by decide +kernel
theorem dX5_as_42 : decode cX5_as 42 = .ok (.aload_n 0, 1) := by decide +kernel
theorem dX5_as_43 : decode cX5_as 43 = .ok (.iload_n 3, 1) := by decide +kernel
theorem dX5_as_44 : decode cX5_as 44 = .ok (.iconst 0, 1) := by decide +kernel
theorem dX5_as_45 : decode cX5_as 45 = .ok (.invokevirtual 108, 3) := by decide +kernel
theorem dX5_as_48 : decode cX5_as 48 = .ok (.iload_n 2, 1) := by decide +kernel
theorem dX5_as_49 : decode cX5_as 49 = .ok (.invokestatic 342, 3) := by decide +kernel
theorem dX5_as_52 : decode cX5_as 52 = .ok (.ifCond .eq 7, 3) := by decide +kernel
theorem dX5_as_55 : decode cX5_as 55 = .ok (.iload_n 3, 1) := by decide +kernel
theorem dX5_as_56 : decode cX5_as 56 = .ok (.goto 10, 3) := by decide +kernel
theorem dX5_as_59 : decode cX5_as 59 = .ok (.aload_n 0, 1) := by decide +kernel
theorem dX5_as_60 : decode cX5_as 60 = .ok (.ldc_w 345, 3) := by decide +kernel
theorem dX5_as_63 : decode cX5_as 63 = .ok (.invokevirtual 66, 3) := by decide +kernel
theorem dX5_as_66 : decode cX5_as 66 = .ok (.ireturn, 1) := by decide +kernel
set_option maxRecDepth 20000 in
theorem ggX5_isSheet_X5_within : GoodIn wsX5_isSheet wsX5_within := goodIn_r _ [4] (by decide +kernel) (by decide +kernel)
set_option maxRecDepth 20000 in
theorem gX5_isSheet_X5_within : GoodIn wsX5_isSheet (va_wsS RX5 70 yX5_within wsX5_within) := goodIn_app (goodIn_of _ (by decide +kernel)) ggX5_isSheet_X5_within
theorem dX5_isSheet_0 : decode cX5_isSheet 0 = .ok (.iload_n 0, 1) := by decide +kernel
theorem dX5_isSheet_1 : decode cX5_isSheet 1 = .ok (.iconst 0, 1) := by decide +kernel
theorem dX5_isSheet_2 : decode cX5_isSheet 2 = .ok (.iconst 3, 1) := by decide +kernel
theorem dX5_isSheet_3 : decode cX5_isSheet 3 = .ok (.invokestatic 70, 3) := by decide +kernel
theorem dX5_isSheet_6 : decode cX5_isSheet 6 = .ok (.ireturn, 1) := by decide +kernel
theorem dX5_cutTo_0 : decode cX5_cutTo 0 = .ok (.iload_n 1, 1) := by decide +kernel
theorem dX5_cutTo_1 : decode cX5_cutTo 1 = .ok (.bipush 8, 2) := by decide +kernel
theorem dX5_cutTo_3 : decode cX5_cutTo 3 = .ok (.if_icmp .ne 8, 3) := by decide +kernel
theorem dX5_cutTo_6 : decode cX5_cutTo 6 = .ok (.iload_n 0, 1) := by decide +kernel
theorem dX5_cutTo_7 : decode cX5_cutTo 7 = .ok (.i2b, 1) := by decide +kernel
theorem dX5_cutTo_8 : decode cX5_cutTo 8 = .ok (.goto 15, 3) := by decide +kernel
theorem dX5_cutTo_11 : decode cX5_cutTo 11 = .ok (.iload_n 1, 1) := by decide +kernel
theorem dX5_cutTo_12 : decode cX5_cutTo 12 = .ok (.bipush 16, 2) := by decide +kernel
theorem dX5_cutTo_14 : decode cX5_cutTo 14 = .ok (.if_icmp .ne 8, 3) := by decide +kernel
theorem dX5_cutTo_17 : decode cX5_cutTo 17 = .ok (.iload_n 0, 1) := by decide +kernel
theorem dX5_cutTo_18 : decode cX5_cutTo 18 = .ok (.i2s, 1) := by decide +kernel
theorem dX5_cutTo_19 : decode cX5_cutTo 19 = .ok (.goto 4, 3) := by decide +kernel
theorem dX5_cutTo_22 : decode cX5_cutTo 22 = .ok (.iload_n 0, 1) := by decide +kernel
theorem dX5_cutTo_23 : decode cX5_cutTo 23 = .ok (.ireturn, 1) := by decide +kernel
set_option maxRecDepth 20000 in
theorem ggX5_sheet_X5_isSheet : GoodIn wsX5_sheet wsX5_isSheet := goodIn_r _ [9, 10, 11, 8, 12] (by decide +kernel) (by decide +kernel)
set_option maxRecDepth 20000 in
theorem gX5_sheet_X5_isSheet : GoodIn wsX5_sheet (va_wsS RX5 238 yX5_isSheet wsX5_isSheet) := goodIn_app (goodIn_of _ (by decide +kernel)) ggX5_sheet_X5_isSheet
set_option maxRecDepth 20000 in
theorem ggX5_sheet_X5_finding : GoodIn wsX5_sheet wsX5_finding := goodIn_r _ [16, 17, 1, 18, 19, 20, 21, 22, 23, 24, 25, 26, 27, 28, 29, 30, 31, 32, 33, 34, 35, 36, 37, 38] (by decide +kernel) (by decide +kernel)
set_option maxRecDepth 20000 in
theorem gX5_sheet_X5_finding : GoodIn wsX5_sheet (wsV RX5 66 RX5 yX5_finding wsX5_finding) := goodIn_app (goodIn_of _ (by decide +kernel)) ggX5_sheet_X5_finding
theorem dX5_sheet_0 : decode cX5_sheet 0 = .ok (.iload_n 1, 1) := by decide +kernel
theorem dX5_sheet_1 : decode cX5_sheet 1 = .ok (.invokestatic 238, 3) := by decide +kernel
theorem dX5_sheet_4 : decode cX5_sheet 4 = .ok (.ifCond .eq 25, 3) := by decide +kernel
theorem dX5_sheet_7 : decode cX5_sheet 7 = .ok (.iload_n 2, 1) := by decide +kernel
theorem dX5_sheet_8 : decode cX5_sheet 8 = .ok (.ifCond .eq 28, 3) := by decide +kernel
theorem dX5_sheet_11 : decode cX5_sheet 11 = .ok (.iload_n 2, 1) := by decide +kernel
theorem dX5_sheet_12 : decode cX5_sheet 12 = .ok (.bipush 8, 2) := by decide +kernel
theorem dX5_sheet_14 : decode cX5_sheet 14 = .ok (.if_icmp .eq 22, 3) := by decide +kernel
theorem dX5_sheet_17 : decode cX5_sheet 17 = .ok (.iload_n 2, 1) := by decide +kernel
theorem dX5_sheet_18 : decode cX5_sheet 18 = .ok (.bipush 16, 2) := by decide +kernel
theorem dX5_sheet_20 : decode cX5_sheet 20 = .ok (.if_icmp .eq 16, 3) := by decide +kernel
theorem dX5_sheet_23 : decode cX5_sheet 23 = .ok (.iload_n 2, 1) := by decide +kernel
theorem dX5_sheet_24 : decode cX5_sheet 24 = .ok (.bipush 32, 2) := by decide +kernel
theorem dX5_sheet_26 : decode cX5_sheet 26 = .ok (.if_icmp .eq 10, 3) := by decide +kernel
theorem dX5_sheet_29 : decode cX5_sheet 29 = .ok (.aload_n 0, 1) := by decide +kernel
theorem dX5_sheet_30 : decode cX5_sheet 30 = .ok (.ldc 60, 2) := by decide +kernel
theorem dX5_sheet_32 : decode cX5_sheet 32 = .ok (.invokevirtual 66, 3) := by decide +kernel
theorem dX5_sheet_35 : decode cX5_sheet 35 = .ok (.ireturn, 1) := by decide +kernel
theorem dX5_sheet_36 : decode cX5_sheet 36 = .ok (.iload_n 3, 1) := by decide +kernel
theorem dX5_sheet_37 : decode cX5_sheet 37 = .ok (.ifCond .ge 11, 3) := by decide +kernel
theorem dX5_sheet_40 : decode cX5_sheet 40 = .ok (.aload_n 0, 1) := by decide +kernel
theorem dX5_sheet_41 : decode cX5_sheet 41 = .ok (.ldc_w 346, 3) := by decide +kernel
theorem dX5_sheet_44 : decode cX5_sheet 44 = .ok (.invokevirtual 66, 3) := by decide +kernel
theorem dX5_sheet_47 : decode cX5_sheet 47 = .ok (.ireturn, 1) := by decide +kernel
theorem dX5_sheet_48 : decode cX5_sheet 48 = .ok (.iload_n 3, 1) := by decide +kernel
theorem dX5_sheet_49 : decode cX5_sheet 49 = .ok (.bipush 40, 2) := by decide +kernel
theorem dX5_sheet_51 : decode cX5_sheet 51 = .ok (.if_icmp .le 10, 3) := by decide +kernel
theorem dX5_sheet_54 : decode cX5_sheet 54 = .ok (.aload_n 0, 1) := by decide +kernel
theorem dX5_sheet_55 : decode cX5_sheet 55 = .ok (.ldc 60, 2) := by decide +kernel
theorem dX5_sheet_57 : decode cX5_sheet 57 = .ok (.invokevirtual 66, 3) := by decide +kernel
theorem dX5_sheet_60 : decode cX5_sheet 60 = .ok (.ireturn, 1) := by decide +kernel
theorem dX5_sheet_61 : decode cX5_sheet 61 = .ok (.aload_n 0, 1) := by decide +kernel
theorem dX5_sheet_62 : decode cX5_sheet 62 = .ok (.getfield 48, 3) := by decide +kernel
theorem dX5_sheet_65 : decode cX5_sheet 65 = .ok (.iload_n 1, 1) := by decide +kernel
theorem dX5_sheet_66 : decode cX5_sheet 66 = .ok (.iload_n 2, 1) := by decide +kernel
theorem dX5_sheet_67 : decode cX5_sheet 67 = .ok (.iastore, 1) := by decide +kernel
theorem dX5_sheet_68 : decode cX5_sheet 68 = .ok (.aload_n 0, 1) := by decide +kernel
theorem dX5_sheet_69 : decode cX5_sheet 69 = .ok (.getfield 51, 3) := by decide +kernel
theorem dX5_sheet_72 : decode cX5_sheet 72 = .ok (.iload_n 1, 1) := by decide +kernel
theorem dX5_sheet_73 : decode cX5_sheet 73 = .ok (.iload_n 2, 1) := by decide +kernel
theorem dX5_sheet_74 : decode cX5_sheet 74 = .ok (.ifCond .ne 7, 3) := by decide +kernel
theorem dX5_sheet_77 : decode cX5_sheet 77 = .ok (.iconst 0, 1) := by decide +kernel
theorem dX5_sheet_78 : decode cX5_sheet 78 = .ok (.goto 4, 3) := by decide +kernel
theorem dX5_sheet_81 : decode cX5_sheet 81 = .ok (.iload_n 3, 1) := by decide +kernel
theorem dX5_sheet_82 : decode cX5_sheet 82 = .ok (.iastore, 1) := by decide +kernel
theorem dX5_sheet_83 : decode cX5_sheet 83 = .ok (.iconst 0, 1) := by decide +kernel
theorem dX5_sheet_84 : decode cX5_sheet 84 = .ok (.istore 4, 2) := by decide +kernel
theorem dX5_sheet_86 : decode cX5_sheet 86 = .ok (.iload 4, 2) := by decide +kernel
theorem dX5_sheet_88 : decode cX5_sheet 88 = .ok (.bipush 40, 2) := by decide +kernel
theorem dX5_sheet_90 : decode cX5_sheet 90 = .ok (.if_icmp .ge 22, 3) := by decide +kernel
theorem dX5_sheet_93 : decode cX5_sheet 93 = .ok (.aload_n 0, 1) := by decide +kernel
theorem dX5_sheet_94 : decode cX5_sheet 94 = .ok (.getfield 54, 3) := by decide +kernel
theorem dX5_sheet_97 : decode cX5_sheet 97 = .ok (.bipush 40, 2) := by decide +kernel
theorem dX5_sheet_99 : decode cX5_sheet 99 = .ok (.iload_n 1, 1) := by decide +kernel
theorem dX5_sheet_100 : decode cX5_sheet 100 = .ok (.imul, 1) := by decide +kernel
theorem dX5_sheet_101 : decode cX5_sheet 101 = .ok (.iload 4, 2) := by decide +kernel
theorem dX5_sheet_103 : decode cX5_sheet 103 = .ok (.iadd, 1) := by decide +kernel
theorem dX5_sheet_104 : decode cX5_sheet 104 = .ok (.iconst 0, 1) := by decide +kernel
theorem dX5_sheet_105 : decode cX5_sheet 105 = .ok (.iastore, 1) := by decide +kernel
theorem dX5_sheet_106 : decode cX5_sheet 106 = .ok (.iinc 4 1, 3) := by decide +kernel
theorem dX5_sheet_109 : decode cX5_sheet 109 = .ok (.goto (-23), 3) := by decide +kernel
theorem dX5_sheet_112 : decode cX5_sheet 112 = .ok (.aload_n 0, 1) := by decide +kernel
theorem dX5_sheet_113 : decode cX5_sheet 113 = .ok (.getfield 51, 3) := by decide +kernel
theorem dX5_sheet_116 : decode cX5_sheet 116 = .ok (.iload_n 1, 1) := by decide +kernel
theorem dX5_sheet_117 : decode cX5_sheet 117 = .ok (.iaload, 1) := by decide +kernel
theorem dX5_sheet_118 : decode cX5_sheet 118 = .ok (.ireturn, 1) := by decide +kernel
set_option maxRecDepth 20000 in
theorem ggX5_write_X5_isSheet : GoodIn wsX5_write wsX5_isSheet := goodIn_r _ [9, 10, 11, 8, 12] (by decide +kernel) (by decide +kernel)
set_option maxRecDepth 20000 in
theorem gX5_write_X5_isSheet : GoodIn wsX5_write (va_wsS RX5 238 yX5_isSheet wsX5_isSheet) := goodIn_app (goodIn_of _ (by decide +kernel)) ggX5_write_X5_isSheet
set_option maxRecDepth 20000 in
theorem ggX5_write_X5_finding : GoodIn wsX5_write wsX5_finding := goodIn_r _ [16, 17, 1, 21, 22, 23, 24, 25, 26, 27, 28, 29, 30, 31, 32, 33, 34, 35, 36, 37, 38, 39, 40, 41] (by decide +kernel) (by decide +kernel)
set_option maxRecDepth 20000 in
theorem gX5_write_X5_finding : GoodIn wsX5_write (wsV RX5 66 RX5 yX5_finding wsX5_finding) := goodIn_app (goodIn_of _ (by decide +kernel)) ggX5_write_X5_finding
set_option maxRecDepth 20000 in
theorem ggX5_write_X5_within : GoodIn wsX5_write wsX5_within := goodIn_r _ [12] (by decide +kernel) (by decide +kernel)
set_option maxRecDepth 20000 in
theorem gX5_write_X5_within : GoodIn wsX5_write (va_wsS RX5 70 yX5_within wsX5_within) := goodIn_app (goodIn_of _ (by decide +kernel)) ggX5_write_X5_within
set_option maxRecDepth 20000 in
theorem ggX5_write_X5_cutTo : GoodIn wsX5_write wsX5_cutTo := goodIn_r _ [20] (by decide +kernel) (by decide +kernel)
set_option maxRecDepth 20000 in
theorem gX5_write_X5_cutTo : GoodIn wsX5_write (va_wsS RX5 347 yX5_cutTo wsX5_cutTo) := goodIn_app (goodIn_of _ (by decide +kernel)) ggX5_write_X5_cutTo
theorem dX5_write_0 : decode cX5_write 0 = .ok (.iload_n 1, 1) := by decide +kernel
theorem dX5_write_1 : decode cX5_write 1 = .ok (.invokestatic 238, 3) := by decide +kernel
theorem dX5_write_4 : decode cX5_write 4 = .ok (.ifCond .ne 10, 3) := by decide +kernel
theorem dX5_write_7 : decode cX5_write 7 = .ok (.aload_n 0, 1) := by decide +kernel
theorem dX5_write_8 : decode cX5_write 8 = .ok (.ldc 60, 2) := by decide +kernel
theorem dX5_write_10 : decode cX5_write 10 = .ok (.invokevirtual 66, 3) := by decide +kernel
theorem dX5_write_13 : decode cX5_write 13 = .ok (.ireturn, 1) := by decide +kernel
theorem dX5_write_14 : decode cX5_write 14 = .ok (.aload_n 0, 1) := by decide +kernel
theorem dX5_write_15 : decode cX5_write 15 = .ok (.getfield 48, 3) := by decide +kernel
theorem dX5_write_18 : decode cX5_write 18 = .ok (.iload_n 1, 1) := by decide +kernel
theorem dX5_write_19 : decode cX5_write 19 = .ok (.iaload, 1) := by decide +kernel
theorem dX5_write_20 : decode cX5_write 20 = .ok (.ifCond .ne 10, 3) := by decide +kernel
theorem dX5_write_23 : decode cX5_write 23 = .ok (.aload_n 0, 1) := by decide +kernel
theorem dX5_write_24 : decode cX5_write 24 = .ok (.ldc 241, 2) := by decide +kernel
theorem dX5_write_26 : decode cX5_write 26 = .ok (.invokevirtual 66, 3) := by decide +kernel
theorem dX5_write_29 : decode cX5_write 29 = .ok (.ireturn, 1) := by decide +kernel
theorem dX5_write_30 : decode cX5_write 30 = .ok (.iload_n 2, 1) := by decide +kernel
theorem dX5_write_31 : decode cX5_write 31 = .ok (.iconst 0, 1) := by decide +kernel
theorem dX5_write_32 : decode cX5_write 32 = .ok (.aload_n 0, 1) := by decide +kernel
theorem dX5_write_33 : decode cX5_write 33 = .ok (.getfield 51, 3) := by decide +kernel
theorem dX5_write_36 : decode cX5_write 36 = .ok (.iload_n 1, 1) := by decide +kernel
theorem dX5_write_37 : decode cX5_write 37 = .ok (.iaload, 1) := by decide +kernel
theorem dX5_write_38 : decode cX5_write 38 = .ok (.iconst 1, 1) := by decide +kernel
theorem dX5_write_39 : decode cX5_write 39 = .ok (.isub, 1) := by decide +kernel
theorem dX5_write_40 : decode cX5_write 40 = .ok (.invokestatic 70, 3) := by decide +kernel
theorem dX5_write_43 : decode cX5_write 43 = .ok (.ifCond .ne 10, 3) := by decide +kernel
theorem dX5_write_46 : decode cX5_write 46 = .ok (.aload_n 0, 1) := by decide +kernel
theorem dX5_write_47 : decode cX5_write 47 = .ok (.ldc 60, 2) := by decide +kernel
theorem dX5_write_49 : decode cX5_write 49 = .ok (.invokevirtual 66, 3) := by decide +kernel
theorem dX5_write_52 : decode cX5_write 52 = .ok (.ireturn, 1) := by decide +kernel
theorem dX5_write_53 : decode cX5_write 53 = .ok (.aload_n 0, 1) := by decide +kernel
theorem dX5_write_54 : decode cX5_write 54 = .ok (.getfield 54, 3) := by decide +kernel
theorem dX5_write_57 : decode cX5_write 57 = .ok (.bipush 40, 2) := by decide +kernel
theorem dX5_write_59 : decode cX5_write 59 = .ok (.iload_n 1, 1) := by decide +kernel
theorem dX5_write_60 : decode cX5_write 60 = .ok (.imul, 1) := by decide +kernel
theorem dX5_write_61 : decode cX5_write 61 = .ok (.iload_n 2, 1) := by decide +kernel
theorem dX5_write_62 : decode cX5_write 62 = .ok (.iadd, 1) := by decide +kernel
theorem dX5_write_63 : decode cX5_write 63 = .ok (.iload_n 3, 1) := by decide +kernel
theorem dX5_write_64 : decode cX5_write 64 = .ok (.aload_n 0, 1) := by decide +kernel
theorem dX5_write_65 : decode cX5_write 65 = .ok (.getfield 48, 3) := by decide +kernel
theorem dX5_write_68 : decode cX5_write 68 = .ok (.iload_n 1, 1) := by decide +kernel
theorem dX5_write_69 : decode cX5_write 69 = .ok (.iaload, 1) := by decide +kernel
theorem dX5_write_70 : decode cX5_write 70 = .ok (.invokestatic 347, 3) := by decide +kernel
theorem dX5_write_73 : decode cX5_write 73 = .ok (.iastore, 1) := by decide +kernel
theorem dX5_write_74 : decode cX5_write 74 = .ok (.iconst 1, 1) := by decide +kernel
theorem dX5_write_75 : decode cX5_write 75 = .ok (.ireturn, 1) := by decide +kernel
set_option maxRecDepth 20000 in
theorem ggX5_copy_X5_isSheet : GoodIn wsX5_copy wsX5_isSheet := goodIn_r _ [11, 12, 13, 10, 14] (by decide +kernel) (by decide +kernel)
set_option maxRecDepth 20000 in
theorem gX5_copy_X5_isSheet : GoodIn wsX5_copy (va_wsS RX5 238 yX5_isSheet wsX5_isSheet) := goodIn_app (goodIn_of _ (by decide +kernel)) ggX5_copy_X5_isSheet
set_option maxRecDepth 20000 in
theorem ggX5_copy_X5_finding : GoodIn wsX5_copy wsX5_finding := goodIn_r _ [18, 19, 1, 20, 21, 22, 23, 24, 25, 26, 27, 28, 29, 30, 31, 32, 33, 34, 35, 36, 37, 38, 39, 40] (by decide +kernel) (by decide +kernel)
set_option maxRecDepth 20000 in
theorem gX5_copy_X5_finding : GoodIn wsX5_copy (wsV RX5 66 RX5 yX5_finding wsX5_finding) := goodIn_app (goodIn_of _ (by decide +kernel)) ggX5_copy_X5_finding
theorem dX5_copy_0 : decode cX5_copy 0 = .ok (.iload_n 1, 1) := by decide +kernel
theorem dX5_copy_1 : decode cX5_copy 1 = .ok (.invokestatic 238, 3) := by decide +kernel
theorem dX5_copy_4 : decode cX5_copy 4 = .ok (.ifCond .eq 10, 3) := by decide +kernel
theorem dX5_copy_7 : decode cX5_copy 7 = .ok (.iload_n 3, 1) := by decide +kernel
theorem dX5_copy_8 : decode cX5_copy 8 = .ok (.invokestatic 238, 3) := by decide +kernel
theorem dX5_copy_11 : decode cX5_copy 11 = .ok (.ifCond .ne 10, 3) := by decide +kernel
theorem dX5_copy_14 : decode cX5_copy 14 = .ok (.aload_n 0, 1) := by decide +kernel
theorem dX5_copy_15 : decode cX5_copy 15 = .ok (.ldc 60, 2) := by decide +kernel
theorem dX5_copy_17 : decode cX5_copy 17 = .ok (.invokevirtual 66, 3) := by decide +kernel
theorem dX5_copy_20 : decode cX5_copy 20 = .ok (.ireturn, 1) := by decide +kernel
theorem dX5_copy_21 : decode cX5_copy 21 = .ok (.aload_n 0, 1) := by decide +kernel
theorem dX5_copy_22 : decode cX5_copy 22 = .ok (.getfield 48, 3) := by decide +kernel
theorem dX5_copy_25 : decode cX5_copy 25 = .ok (.iload_n 1, 1) := by decide +kernel
theorem dX5_copy_26 : decode cX5_copy 26 = .ok (.iaload, 1) := by decide +kernel
theorem dX5_copy_27 : decode cX5_copy 27 = .ok (.ifCond .eq 12, 3) := by decide +kernel
theorem dX5_copy_30 : decode cX5_copy 30 = .ok (.aload_n 0, 1) := by decide +kernel
theorem dX5_copy_31 : decode cX5_copy 31 = .ok (.getfield 48, 3) := by decide +kernel
theorem dX5_copy_34 : decode cX5_copy 34 = .ok (.iload_n 3, 1) := by decide +kernel
theorem dX5_copy_35 : decode cX5_copy 35 = .ok (.iaload, 1) := by decide +kernel
theorem dX5_copy_36 : decode cX5_copy 36 = .ok (.ifCond .ne 10, 3) := by decide +kernel
theorem dX5_copy_39 : decode cX5_copy 39 = .ok (.aload_n 0, 1) := by decide +kernel
theorem dX5_copy_40 : decode cX5_copy 40 = .ok (.ldc 241, 2) := by decide +kernel
theorem dX5_copy_42 : decode cX5_copy 42 = .ok (.invokevirtual 66, 3) := by decide +kernel
theorem dX5_copy_45 : decode cX5_copy 45 = .ok (.ireturn, 1) := by decide +kernel
theorem dX5_copy_46 : decode cX5_copy 46 = .ok (.aload_n 0, 1) := by decide +kernel
theorem dX5_copy_47 : decode cX5_copy 47 = .ok (.getfield 48, 3) := by decide +kernel
theorem dX5_copy_50 : decode cX5_copy 50 = .ok (.iload_n 1, 1) := by decide +kernel
theorem dX5_copy_51 : decode cX5_copy 51 = .ok (.iaload, 1) := by decide +kernel
theorem dX5_copy_52 : decode cX5_copy 52 = .ok (.aload_n 0, 1) := by decide +kernel
theorem dX5_copy_53 : decode cX5_copy 53 = .ok (.getfield 48, 3) := by decide +kernel
theorem dX5_copy_56 : decode cX5_copy 56 = .ok (.iload_n 3, 1) := by decide +kernel
theorem dX5_copy_57 : decode cX5_copy 57 = .ok (.iaload, 1) := by decide +kernel
theorem dX5_copy_58 : decode cX5_copy 58 = .ok (.if_icmp .eq 11, 3) := by decide +kernel
theorem dX5_copy_61 : decode cX5_copy 61 = .ok (.aload_n 0, 1) := by decide +kernel
theorem dX5_copy_62 : decode cX5_copy 62 = .ok (.ldc_w 345, 3) := by decide +kernel
theorem dX5_copy_65 : decode cX5_copy 65 = .ok (.invokevirtual 66, 3) := by decide +kernel
theorem dX5_copy_68 : decode cX5_copy 68 = .ok (.ireturn, 1) := by decide +kernel
theorem dX5_copy_69 : decode cX5_copy 69 = .ok (.iload_n 2, 1) := by decide +kernel
theorem dX5_copy_70 : decode cX5_copy 70 = .ok (.ifCond .lt 48, 3) := by decide +kernel
theorem dX5_copy_73 : decode cX5_copy 73 = .ok (.iload 4, 2) := by decide +kernel
theorem dX5_copy_75 : decode cX5_copy 75 = .ok (.ifCond .lt 43, 3) := by decide +kernel
theorem dX5_copy_78 : decode cX5_copy 78 = .ok (.iload 5, 2) := by decide +kernel
theorem dX5_copy_80 : decode cX5_copy 80 = .ok (.ifCond .lt 38, 3) := by decide +kernel
theorem dX5_copy_83 : decode cX5_copy 83 = .ok (.iload_n 2, 1) := by decide +kernel
theorem dX5_copy_84 : decode cX5_copy 84 = .ok (.i2l, 1) := by decide +kernel
theorem dX5_copy_85 : decode cX5_copy 85 = .ok (.iload 5, 2) := by decide +kernel
theorem dX5_copy_87 : decode cX5_copy 87 = .ok (.i2l, 1) := by decide +kernel
theorem dX5_copy_88 : decode cX5_copy 88 = .ok (.ladd, 1) := by decide +kernel
theorem dX5_copy_89 : decode cX5_copy 89 = .ok (.aload_n 0, 1) := by decide +kernel
theorem dX5_copy_90 : decode cX5_copy 90 = .ok (.getfield 51, 3) := by decide +kernel
theorem dX5_copy_93 : decode cX5_copy 93 = .ok (.iload_n 1, 1) := by decide +kernel
theorem dX5_copy_94 : decode cX5_copy 94 = .ok (.iaload, 1) := by decide +kernel
theorem dX5_copy_95 : decode cX5_copy 95 = .ok (.i2l, 1) := by decide +kernel
theorem dX5_copy_96 : decode cX5_copy 96 = .ok (.lcmp, 1) := by decide +kernel
theorem dX5_copy_97 : decode cX5_copy 97 = .ok (.ifCond .gt 21, 3) := by decide +kernel
theorem dX5_copy_100 : decode cX5_copy 100 = .ok (.iload 4, 2) := by decide +kernel
theorem dX5_copy_102 : decode cX5_copy 102 = .ok (.i2l, 1) := by decide +kernel
theorem dX5_copy_103 : decode cX5_copy 103 = .ok (.iload 5, 2) := by decide +kernel
theorem dX5_copy_105 : decode cX5_copy 105 = .ok (.i2l, 1) := by decide +kernel
theorem dX5_copy_106 : decode cX5_copy 106 = .ok (.ladd, 1) := by decide +kernel
theorem dX5_copy_107 : decode cX5_copy 107 = .ok (.aload_n 0, 1) := by decide +kernel
theorem dX5_copy_108 : decode cX5_copy 108 = .ok (.getfield 51, 3) := by decide +kernel
theorem dX5_copy_111 : decode cX5_copy 111 = .ok (.iload_n 3, 1) := by decide +kernel
theorem dX5_copy_112 : decode cX5_copy 112 = .ok (.iaload, 1) := by decide +kernel
theorem dX5_copy_113 : decode cX5_copy 113 = .ok (.i2l, 1) := by decide +kernel
theorem dX5_copy_114 : decode cX5_copy 114 = .ok (.lcmp, 1) := by decide +kernel
theorem dX5_copy_115 : decode cX5_copy 115 = .ok (.ifCond .le 10, 3) := by decide +kernel
theorem dX5_copy_118 : decode cX5_copy 118 = .ok (.aload_n 0, 1) := by decide +kernel
theorem dX5_copy_119 : decode cX5_copy 119 = .ok (.ldc 60, 2) := by decide +kernel
theorem dX5_copy_121 : decode cX5_copy 121 = .ok (.invokevirtual 66, 3) := by decide +kernel
theorem dX5_copy_124 : decode cX5_copy 124 = .ok (.ireturn, 1) := by decide +kernel
theorem dX5_copy_125 : decode cX5_copy 125 = .ok (.iconst 0, 1) := by decide +kernel
theorem dX5_copy_126 : decode cX5_copy 126 = .ok (.istore 6, 2) := by decide +kernel
theorem dX5_copy_128 : decode cX5_copy 128 = .ok (.iload 6, 2) := by decide +kernel
theorem dX5_copy_130 : decode cX5_copy 130 = .ok (.iload 5, 2) := by decide +kernel
theorem dX5_copy_132 : decode cX5_copy 132 = .ok (.if_icmp .ge 30, 3) := by decide +kernel
theorem dX5_copy_135 : decode cX5_copy 135 = .ok (.aload_n 0, 1) := by decide +kernel
theorem dX5_copy_136 : decode cX5_copy 136 = .ok (.getfield 57, 3) := by decide +kernel
theorem dX5_copy_139 : decode cX5_copy 139 = .ok (.iload 6, 2) := by decide +kernel
theorem dX5_copy_141 : decode cX5_copy 141 = .ok (.aload_n 0, 1) := by decide +kernel
theorem dX5_copy_142 : decode cX5_copy 142 = .ok (.getfield 54, 3) := by decide +kernel
theorem dX5_copy_145 : decode cX5_copy 145 = .ok (.bipush 40, 2) := by decide +kernel
theorem dX5_copy_147 : decode cX5_copy 147 = .ok (.iload_n 1, 1) := by decide +kernel
theorem dX5_copy_148 : decode cX5_copy 148 = .ok (.imul, 1) := by decide +kernel
theorem dX5_copy_149 : decode cX5_copy 149 = .ok (.iload_n 2, 1) := by decide +kernel
theorem dX5_copy_150 : decode cX5_copy 150 = .ok (.iadd, 1) := by decide +kernel
theorem dX5_copy_151 : decode cX5_copy 151 = .ok (.iload 6, 2) := by decide +kernel
theorem dX5_copy_153 : decode cX5_copy 153 = .ok (.iadd, 1) := by decide +kernel
theorem dX5_copy_154 : decode cX5_copy 154 = .ok (.iaload, 1) := by decide +kernel
theorem dX5_copy_155 : decode cX5_copy 155 = .ok (.iastore, 1) := by decide +kernel
theorem dX5_copy_156 : decode cX5_copy 156 = .ok (.iinc 6 1, 3) := by decide +kernel
theorem dX5_copy_159 : decode cX5_copy 159 = .ok (.goto (-31), 3) := by decide +kernel
theorem dX5_copy_162 : decode cX5_copy 162 = .ok (.iconst 0, 1) := by decide +kernel
theorem dX5_copy_163 : decode cX5_copy 163 = .ok (.istore 6, 2) := by decide +kernel
theorem dX5_copy_165 : decode cX5_copy 165 = .ok (.iload 6, 2) := by decide +kernel
theorem dX5_copy_167 : decode cX5_copy 167 = .ok (.iload 5, 2) := by decide +kernel
theorem dX5_copy_169 : decode cX5_copy 169 = .ok (.if_icmp .ge 31, 3) := by decide +kernel
theorem dX5_copy_172 : decode cX5_copy 172 = .ok (.aload_n 0, 1) := by decide +kernel
theorem dX5_copy_173 : decode cX5_copy 173 = .ok (.getfield 54, 3) := by decide +kernel
theorem dX5_copy_176 : decode cX5_copy 176 = .ok (.bipush 40, 2) := by decide +kernel
theorem dX5_copy_178 : decode cX5_copy 178 = .ok (.iload_n 3, 1) := by decide +kernel
theorem dX5_copy_179 : decode cX5_copy 179 = .ok (.imul, 1) := by decide +kernel
theorem dX5_copy_180 : decode cX5_copy 180 = .ok (.iload 4, 2) := by decide +kernel
theorem dX5_copy_182 : decode cX5_copy 182 = .ok (.iadd, 1) := by decide +kernel
theorem dX5_copy_183 : decode cX5_copy 183 = .ok (.iload 6, 2) := by decide +kernel
theorem dX5_copy_185 : decode cX5_copy 185 = .ok (.iadd, 1) := by decide +kernel
theorem dX5_copy_186 : decode cX5_copy 186 = .ok (.aload_n 0, 1) := by decide +kernel
theorem dX5_copy_187 : decode cX5_copy 187 = .ok (.getfield 57, 3) := by decide +kernel
theorem dX5_copy_190 : decode cX5_copy 190 = .ok (.iload 6, 2) := by decide +kernel
theorem dX5_copy_192 : decode cX5_copy 192 = .ok (.iaload, 1) := by decide +kernel
theorem dX5_copy_193 : decode cX5_copy 193 = .ok (.iastore, 1) := by decide +kernel
theorem dX5_copy_194 : decode cX5_copy 194 = .ok (.iinc 6 1, 3) := by decide +kernel
theorem dX5_copy_197 : decode cX5_copy 197 = .ok (.goto (-32), 3) := by decide +kernel
theorem dX5_copy_200 : decode cX5_copy 200 = .ok (.iload 5, 2) := by decide +kernel
theorem dX5_copy_202 : decode cX5_copy 202 = .ok (.ireturn, 1) := by decide +kernel
theorem dX5_above_0 : decode cX5_above 0 = .ok (.iload_n 0, 1) := by decide +kernel
theorem dX5_above_1 : decode cX5_above 1 = .ok (.ifCond .ne 7, 3) := by decide +kernel
theorem dX5_above_4 : decode cX5_above 4 = .ok (.iconst (-1), 1) := by decide +kernel
theorem dX5_above_5 : decode cX5_above 5 = .ok (.goto 32, 3) := by decide +kernel
theorem dX5_above_8 : decode cX5_above 8 = .ok (.iload_n 0, 1) := by decide +kernel
theorem dX5_above_9 : decode cX5_above 9 = .ok (.iconst 3, 1) := by decide +kernel
theorem dX5_above_10 : decode cX5_above 10 = .ok (.if_icmp .ne 7, 3) := by decide +kernel
theorem dX5_above_13 : decode cX5_above 13 = .ok (.iconst 1, 1) := by decide +kernel
theorem dX5_above_14 : decode cX5_above 14 = .ok (.goto 23, 3) := by decide +kernel
theorem dX5_above_17 : decode cX5_above 17 = .ok (.iload_n 0, 1) := by decide +kernel
theorem dX5_above_18 : decode cX5_above 18 = .ok (.iconst 4, 1) := by decide +kernel
theorem dX5_above_19 : decode cX5_above 19 = .ok (.if_icmp .ne 7, 3) := by decide +kernel
theorem dX5_above_22 : decode cX5_above 22 = .ok (.iconst 3, 1) := by decide +kernel
theorem dX5_above_23 : decode cX5_above 23 = .ok (.goto 14, 3) := by decide +kernel
theorem dX5_above_26 : decode cX5_above 26 = .ok (.iload_n 0, 1) := by decide +kernel
theorem dX5_above_27 : decode cX5_above 27 = .ok (.bipush 6, 2) := by decide +kernel
theorem dX5_above_29 : decode cX5_above 29 = .ok (.if_icmp .ne 7, 3) := by decide +kernel
theorem dX5_above_32 : decode cX5_above 32 = .ok (.iconst 2, 1) := by decide +kernel
theorem dX5_above_33 : decode cX5_above 33 = .ok (.goto 4, 3) := by decide +kernel
theorem dX5_above_36 : decode cX5_above 36 = .ok (.iconst 0, 1) := by decide +kernel
theorem dX5_above_37 : decode cX5_above 37 = .ok (.ireturn, 1) := by decide +kernel
set_option maxRecDepth 20000 in
theorem ggX5_isUnder_X5_above : GoodIn wsX5_isUnder wsX5_above := goodIn_r _ [4] (by decide +kernel) (by decide +kernel)
set_option maxRecDepth 20000 in
theorem gX5_isUnder_X5_above : GoodIn wsX5_isUnder (va_wsS RX5 350 yX5_above wsX5_above) := goodIn_app (goodIn_of _ (by decide +kernel)) ggX5_isUnder_X5_above
theorem dX5_isUnder_0 : decode cX5_isUnder 0 = .ok (.iload_n 0, 1) := by decide +kernel
theorem dX5_isUnder_1 : decode cX5_isUnder 1 = .ok (.istore_n 2, 1) := by decide +kernel
theorem dX5_isUnder_2 : decode cX5_isUnder 2 = .ok (.iload_n 2, 1) := by decide +kernel
theorem dX5_isUnder_3 : decode cX5_isUnder 3 = .ok (.ifCond .lt 16, 3) := by decide +kernel
theorem dX5_isUnder_6 : decode cX5_isUnder 6 = .ok (.iload_n 2, 1) := by decide +kernel
theorem dX5_isUnder_7 : decode cX5_isUnder 7 = .ok (.iload_n 1, 1) := by decide +kernel
theorem dX5_isUnder_8 : decode cX5_isUnder 8 = .ok (.if_icmp .eq 11, 3) := by decide +kernel
theorem dX5_isUnder_11 : decode cX5_isUnder 11 = .ok (.iload_n 2, 1) := by decide +kernel
theorem dX5_isUnder_12 : decode cX5_isUnder 12 = .ok (.invokestatic 350, 3) := by decide +kernel
theorem dX5_isUnder_15 : decode cX5_isUnder 15 = .ok (.istore_n 2, 1) := by decide +kernel
theorem dX5_isUnder_16 : decode cX5_isUnder 16 = .ok (.goto (-14), 3) := by decide +kernel
theorem dX5_isUnder_19 : decode cX5_isUnder 19 = .ok (.iload_n 2, 1) := by decide +kernel
theorem dX5_isUnder_20 : decode cX5_isUnder 20 = .ok (.ifCond .lt 7, 3) := by decide +kernel
theorem dX5_isUnder_23 : decode cX5_isUnder 23 = .ok (.iconst 1, 1) := by decide +kernel
theorem dX5_isUnder_24 : decode cX5_isUnder 24 = .ok (.goto 4, 3) := by decide +kernel
theorem dX5_isUnder_27 : decode cX5_isUnder 27 = .ok (.iconst 0, 1) := by decide +kernel
theorem dX5_isUnder_28 : decode cX5_isUnder 28 = .ok (.ireturn, 1) := by decide +kernel
set_option maxRecDepth 20000 in
theorem ggX5_load_X5_lacks : GoodIn wsX5_load wsX5_lacks := goodIn_r _ [8, 9, 10, 11, 12, 13, 7, 14, 15, 16, 17, 33, 34, 35, 36, 37, 38, 39, 40, 41, 42, 43, 44, 45, 46, 47, 48, 49, 50, 51, 52, 53] (by decide +kernel) (by decide +kernel)
set_option maxRecDepth 20000 in
theorem gX5_load_X5_lacks : GoodIn wsX5_load (wsV RX5 242 RX5 yX5_lacks wsX5_lacks) := goodIn_app (goodIn_of _ (by decide +kernel)) ggX5_load_X5_lacks
set_option maxRecDepth 20000 in
theorem ggX5_load_X5_finding : GoodIn wsX5_load wsX5_finding := goodIn_r _ [21, 22, 9, 33, 34, 35, 36, 37, 38, 39, 40, 41, 42, 43, 44, 45, 46, 47, 48, 49, 50, 51, 52, 53] (by decide +kernel) (by decide +kernel)
set_option maxRecDepth 20000 in
theorem gX5_load_X5_finding : GoodIn wsX5_load (wsV RX5 66 RX5 yX5_finding wsX5_finding) := goodIn_app (goodIn_of _ (by decide +kernel)) ggX5_load_X5_finding
set_option maxRecDepth 20000 in
theorem ggX5_load_X5_isSaying : GoodIn wsX5_load wsX5_isSaying := goodIn_r _ [26, 3, 15, 16, 7, 17, 33, 34, 35, 36, 37, 38, 39, 40, 41, 42, 43, 44, 45, 46, 47, 48, 49, 50, 51, 52, 53] (by decide +kernel) (by decide +kernel)
set_option maxRecDepth 20000 in
theorem gX5_load_X5_isSaying : GoodIn wsX5_load (wsV RX5 123 RX5 yX5_isSaying wsX5_isSaying) := goodIn_app (goodIn_of _ (by decide +kernel)) ggX5_load_X5_isSaying
set_option maxRecDepth 20000 in
theorem ggX5_load_X5_isMany : GoodIn wsX5_load wsX5_isMany := goodIn_r _ [29, 15, 16, 7, 17] (by decide +kernel) (by decide +kernel)
set_option maxRecDepth 20000 in
theorem gX5_load_X5_isMany : GoodIn wsX5_load (va_wsS RX5 91 yX5_isMany wsX5_isMany) := goodIn_app (goodIn_of _ (by decide +kernel)) ggX5_load_X5_isMany
set_option maxRecDepth 20000 in
theorem ggX5_load_X5_sayingAt : GoodIn wsX5_load wsX5_sayingAt := goodIn_r _ [32] (by decide +kernel) (by decide +kernel)
set_option maxRecDepth 20000 in
theorem gX5_load_X5_sayingAt : GoodIn wsX5_load (va_wsS RX5 82 yX5_sayingAt wsX5_sayingAt) := goodIn_app (goodIn_of _ (by decide +kernel)) ggX5_load_X5_sayingAt
theorem dX5_load_0 : decode cX5_load 0 = .ok (.aload_n 0, 1) := by decide +kernel
theorem dX5_load_1 : decode cX5_load 1 = .ok (.iload_n 1, 1) := by decide +kernel
theorem dX5_load_2 : decode cX5_load 2 = .ok (.iconst 1, 1) := by decide +kernel
theorem dX5_load_3 : decode cX5_load 3 = .ok (.invokevirtual 242, 3) := by decide +kernel
theorem dX5_load_6 : decode cX5_load 6 = .ok (.ifCond .eq 14, 3) := by decide +kernel
theorem dX5_load_9 : decode cX5_load 9 = .ok (.aload_n 0, 1) := by decide +kernel
theorem dX5_load_10 : decode cX5_load 10 = .ok (.aload_n 0, 1) := by decide +kernel
theorem dX5_load_11 : decode cX5_load 11 = .ok (.iload_n 1, 1) := by decide +kernel
theorem dX5_load_12 : decode cX5_load 12 = .ok (.iconst 1, 1) := by decide +kernel
theorem dX5_load_13 : decode cX5_load 13 = .ok (.invokevirtual 242, 3) := by decide +kernel
