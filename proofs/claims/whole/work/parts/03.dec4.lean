theorem dX5_blurs_67 : decode cX5_blurs 67 = .ok (.getfield 9, 3) := by decide +kernel
theorem dX5_blurs_70 : decode cX5_blurs 70 = .ok (.iconst 0, 1) := by decide +kernel
theorem dX5_blurs_71 : decode cX5_blurs 71 = .ok (.iaload, 1) := by decide +kernel
theorem dX5_blurs_72 : decode cX5_blurs 72 = .ok (.iconst 2, 1) := by decide +kernel
theorem dX5_blurs_73 : decode cX5_blurs 73 = .ok (.irem, 1) := by decide +kernel
theorem dX5_blurs_74 : decode cX5_blurs 74 = .ok (.iconst 1, 1) := by decide +kernel
theorem dX5_blurs_75 : decode cX5_blurs 75 = .ok (.if_icmp .ne 7, 3) := by decide +kernel
theorem dX5_blurs_78 : decode cX5_blurs 78 = .ok (.iconst 5, 1) := by decide +kernel
theorem dX5_blurs_79 : decode cX5_blurs 79 = .ok (.goto 4, 3) := by decide +kernel
theorem dX5_blurs_82 : decode cX5_blurs 82 = .ok (.iconst 2, 1) := by decide +kernel
theorem dX5_blurs_83 : decode cX5_blurs 83 = .ok (.ireturn, 1) := by decide +kernel
theorem dX5_blurs_84 : decode cX5_blurs 84 = .ok (.iload_n 2, 1) := by decide +kernel
theorem dX5_blurs_85 : decode cX5_blurs 85 = .ok (.ireturn, 1) := by decide +kernel
theorem dX5_blurs_86 : decode cX5_blurs 86 = .ok (.iload_n 2, 1) := by decide +kernel
theorem dX5_blurs_87 : decode cX5_blurs 87 = .ok (.iconst 2, 1) := by decide +kernel
theorem dX5_blurs_88 : decode cX5_blurs 88 = .ok (.iadd, 1) := by decide +kernel
theorem dX5_blurs_89 : decode cX5_blurs 89 = .ok (.ireturn, 1) := by decide +kernel
theorem dX5_blurs_90 : decode cX5_blurs 90 = .ok (.iconst 0, 1) := by decide +kernel
theorem dX5_blurs_91 : decode cX5_blurs 91 = .ok (.ireturn, 1) := by decide +kernel
theorem dX5_blurs_92 : decode cX5_blurs 92 = .ok (.iconst 1, 1) := by decide +kernel
theorem dX5_blurs_93 : decode cX5_blurs 93 = .ok (.ireturn, 1) := by decide +kernel
set_option maxRecDepth 20000 in
theorem ggX5_resists_X5_sayingIs : GoodIn wsX5_resists wsX5_sayingIs := goodIn_r _ [5, 6, 7, 8, 4, 9, 10, 11, 12, 13, 14, 15, 16, 17, 18, 19, 20, 21, 22, 23, 24, 25, 26, 27, 28, 29, 30] (by decide +kernel) (by decide +kernel)
set_option maxRecDepth 20000 in
theorem gX5_resists_X5_sayingIs : GoodIn wsX5_resists (wsV RX5 108 RX5 yX5_sayingIs wsX5_sayingIs) := goodIn_app (goodIn_of _ (by decide +kernel)) ggX5_resists_X5_sayingIs
theorem dX5_resists_0 : decode cX5_resists 0 = .ok (.aload_n 0, 1) := by decide +kernel
theorem dX5_resists_1 : decode cX5_resists 1 = .ok (.iload_n 1, 1) := by decide +kernel
theorem dX5_resists_2 : decode cX5_resists 2 = .ok (.iconst 0, 1) := by decide +kernel
theorem dX5_resists_3 : decode cX5_resists 3 = .ok (.invokevirtual 108, 3) := by decide +kernel
theorem dX5_resists_6 : decode cX5_resists 6 = .ok (.tableswitch 50 1 6 #[38, 50, 41, 44, 50, 47], 38) := by decide +kernel
theorem dX5_resists_44 : decode cX5_resists 44 = .ok (.bipush 80, 2) := by decide +kernel
theorem dX5_resists_46 : decode cX5_resists 46 = .ok (.ireturn, 1) := by decide +kernel
theorem dX5_resists_47 : decode cX5_resists 47 = .ok (.bipush 40, 2) := by decide +kernel
theorem dX5_resists_49 : decode cX5_resists 49 = .ok (.ireturn, 1) := by decide +kernel
theorem dX5_resists_50 : decode cX5_resists 50 = .ok (.bipush 10, 2) := by decide +kernel
theorem dX5_resists_52 : decode cX5_resists 52 = .ok (.ireturn, 1) := by decide +kernel
theorem dX5_resists_53 : decode cX5_resists 53 = .ok (.bipush 20, 2) := by decide +kernel
theorem dX5_resists_55 : decode cX5_resists 55 = .ok (.ireturn, 1) := by decide +kernel
theorem dX5_resists_56 : decode cX5_resists 56 = .ok (.bipush 99, 2) := by decide +kernel
theorem dX5_resists_58 : decode cX5_resists 58 = .ok (.ireturn, 1) := by decide +kernel
set_option maxRecDepth 20000 in
theorem ggX5_told_X5_thickens : GoodIn wsX5_told wsX5_thickens := goodIn_r _ [5, 6, 7, 8, 4, 9, 10, 11, 12, 13, 26, 27, 28, 29, 30, 31, 32, 33, 34, 35, 36, 37, 38, 39, 40, 41, 42, 43, 44, 45, 46] (by decide +kernel) (by decide +kernel)
set_option maxRecDepth 20000 in
theorem gX5_told_X5_thickens : GoodIn wsX5_told (wsV RX5 111 RX5 yX5_thickens wsX5_thickens) := goodIn_app (goodIn_of _ (by decide +kernel)) ggX5_told_X5_thickens
set_option maxRecDepth 20000 in
theorem ggX5_told_X5_reaches : GoodIn wsX5_told wsX5_reaches := goodIn_r _ [17, 6, 7, 8, 4, 9, 10, 11, 12, 13, 26, 27, 28, 29, 30, 31, 32, 33, 34, 35, 36, 37, 38, 39, 40, 41, 42, 43, 44, 45, 46] (by decide +kernel) (by decide +kernel)
set_option maxRecDepth 20000 in
theorem gX5_told_X5_reaches : GoodIn wsX5_told (wsV RX5 114 RX5 yX5_reaches wsX5_reaches) := goodIn_app (goodIn_of _ (by decide +kernel)) ggX5_told_X5_reaches
set_option maxRecDepth 20000 in
theorem ggX5_told_X5_blurs : GoodIn wsX5_told wsX5_blurs := goodIn_r _ [21, 10, 6, 7, 8, 4, 9, 11, 12, 13, 26, 27, 28, 29, 30, 31, 32, 33, 34, 35, 36, 37, 38, 39, 40, 41, 42, 43, 44, 45, 46] (by decide +kernel) (by decide +kernel)
set_option maxRecDepth 20000 in
theorem gX5_told_X5_blurs : GoodIn wsX5_told (wsV RX5 117 RX5 yX5_blurs wsX5_blurs) := goodIn_app (goodIn_of _ (by decide +kernel)) ggX5_told_X5_blurs
set_option maxRecDepth 20000 in
theorem ggX5_told_X5_resists : GoodIn wsX5_told wsX5_resists := goodIn_r _ [25, 6, 7, 8, 4, 9, 10, 11, 12, 13, 26, 27, 28, 29, 30, 31, 32, 33, 34, 35, 36, 37, 38, 39, 40, 41, 42, 43, 44, 45, 46] (by decide +kernel) (by decide +kernel)
set_option maxRecDepth 20000 in
theorem gX5_told_X5_resists : GoodIn wsX5_told (wsV RX5 120 RX5 yX5_resists wsX5_resists) := goodIn_app (goodIn_of _ (by decide +kernel)) ggX5_told_X5_resists
set_option maxRecDepth 20000 in
theorem ggX5_told_X5_sayingIs : GoodIn wsX5_told wsX5_sayingIs := goodIn_r _ [9, 10, 11, 12, 4, 13, 26, 27, 28, 29, 30, 31, 32, 33, 34, 35, 36, 37, 38, 39, 40, 41, 42, 43, 44, 45, 46] (by decide +kernel) (by decide +kernel)
set_option maxRecDepth 20000 in
theorem gX5_told_X5_sayingIs : GoodIn wsX5_told (wsV RX5 108 RX5 yX5_sayingIs wsX5_sayingIs) := goodIn_app (goodIn_of _ (by decide +kernel)) ggX5_told_X5_sayingIs
theorem dX5_told_0 : decode cX5_told 0 = .ok (.iload_n 2, 1) := by decide +kernel
theorem dX5_told_1 : decode cX5_told 1 = .ok (.tableswitch 55 5 8 #[31, 37, 43, 49], 31) := by decide +kernel
theorem dX5_told_32 : decode cX5_told 32 = .ok (.aload_n 0, 1) := by decide +kernel
theorem dX5_told_33 : decode cX5_told 33 = .ok (.iload_n 1, 1) := by decide +kernel
theorem dX5_told_34 : decode cX5_told 34 = .ok (.invokevirtual 111, 3) := by decide +kernel
theorem dX5_told_37 : decode cX5_told 37 = .ok (.ireturn, 1) := by decide +kernel
theorem dX5_told_38 : decode cX5_told 38 = .ok (.aload_n 0, 1) := by decide +kernel
theorem dX5_told_39 : decode cX5_told 39 = .ok (.iload_n 1, 1) := by decide +kernel
theorem dX5_told_40 : decode cX5_told 40 = .ok (.invokevirtual 114, 3) := by decide +kernel
theorem dX5_told_43 : decode cX5_told 43 = .ok (.ireturn, 1) := by decide +kernel
theorem dX5_told_44 : decode cX5_told 44 = .ok (.aload_n 0, 1) := by decide +kernel
theorem dX5_told_45 : decode cX5_told 45 = .ok (.iload_n 1, 1) := by decide +kernel
theorem dX5_told_46 : decode cX5_told 46 = .ok (.invokevirtual 117, 3) := by decide +kernel
theorem dX5_told_49 : decode cX5_told 49 = .ok (.ireturn, 1) := by decide +kernel
theorem dX5_told_50 : decode cX5_told 50 = .ok (.aload_n 0, 1) := by decide +kernel
theorem dX5_told_51 : decode cX5_told 51 = .ok (.iload_n 1, 1) := by decide +kernel
theorem dX5_told_52 : decode cX5_told 52 = .ok (.invokevirtual 120, 3) := by decide +kernel
theorem dX5_told_55 : decode cX5_told 55 = .ok (.ireturn, 1) := by decide +kernel
theorem dX5_told_56 : decode cX5_told 56 = .ok (.aload_n 0, 1) := by decide +kernel
theorem dX5_told_57 : decode cX5_told 57 = .ok (.iload_n 1, 1) := by decide +kernel
theorem dX5_told_58 : decode cX5_told 58 = .ok (.iload_n 2, 1) := by decide +kernel
theorem dX5_told_59 : decode cX5_told 59 = .ok (.invokevirtual 108, 3) := by decide +kernel
theorem dX5_told_62 : decode cX5_told 62 = .ok (.ireturn, 1) := by decide +kernel
set_option maxRecDepth 20000 in
theorem ggX5_of_X5_isSaying : GoodIn wsX5_of wsX5_isSaying := goodIn_r _ [6, 7, 8, 9, 5, 10, 43, 44, 45, 46, 47, 48, 49, 50, 51, 52, 53, 54, 55, 56, 57, 58, 59, 60, 61, 62, 63] (by decide +kernel) (by decide +kernel)
set_option maxRecDepth 20000 in
theorem gX5_of_X5_isSaying : GoodIn wsX5_of (wsV RX5 123 RX5 yX5_isSaying wsX5_isSaying) := goodIn_app (goodIn_of _ (by decide +kernel)) ggX5_of_X5_isSaying
set_option maxRecDepth 20000 in
theorem ggX5_of_X5_within : GoodIn wsX5_of wsX5_within := goodIn_r _ [10] (by decide +kernel) (by decide +kernel)
set_option maxRecDepth 20000 in
theorem gX5_of_X5_within : GoodIn wsX5_of (va_wsS RX5 70 yX5_within wsX5_within) := goodIn_app (goodIn_of _ (by decide +kernel)) ggX5_of_X5_within
set_option maxRecDepth 20000 in
theorem ggX5_of_X5_told : GoodIn wsX5_of wsX5_told := goodIn_r _ [14, 15, 16, 17, 5, 18, 19, 20, 21, 22, 7, 23, 24, 25, 26, 27, 28, 29, 30, 31, 32, 33, 34, 35, 36, 37, 43, 44, 45, 46, 47, 48, 49, 50, 51, 52, 53, 54, 55, 56, 57, 58, 59, 60, 61, 62, 63] (by decide +kernel) (by decide +kernel)
set_option maxRecDepth 20000 in
theorem gX5_of_X5_told : GoodIn wsX5_of (wsV RX5 126 RX5 yX5_told wsX5_told) := goodIn_app (goodIn_of _ (by decide +kernel)) ggX5_of_X5_told
set_option maxRecDepth 20000 in
theorem ggX5_of_X5_finding : GoodIn wsX5_of wsX5_finding := goodIn_r _ [41, 42, 1, 43, 44, 45, 46, 47, 48, 49, 50, 51, 52, 53, 54, 55, 56, 57, 58, 59, 60, 61, 62, 63] (by decide +kernel) (by decide +kernel)
set_option maxRecDepth 20000 in
theorem gX5_of_X5_finding : GoodIn wsX5_of (wsV RX5 66 RX5 yX5_finding wsX5_finding) := goodIn_app (goodIn_of _ (by decide +kernel)) ggX5_of_X5_finding
theorem dX5_of_0 : decode cX5_of 0 = .ok (.aload_n 0, 1) := by decide +kernel
theorem dX5_of_1 : decode cX5_of 1 = .ok (.iload_n 1, 1) := by decide +kernel
theorem dX5_of_2 : decode cX5_of 2 = .ok (.invokevirtual 123, 3) := by decide +kernel
theorem dX5_of_5 : decode cX5_of 5 = .ok (.ifCond .eq 22, 3) := by decide +kernel
theorem dX5_of_8 : decode cX5_of 8 = .ok (.iload_n 2, 1) := by decide +kernel
theorem dX5_of_9 : decode cX5_of 9 = .ok (.iconst 0, 1) := by decide +kernel
theorem dX5_of_10 : decode cX5_of 10 = .ok (.bipush 8, 2) := by decide +kernel
theorem dX5_of_12 : decode cX5_of 12 = .ok (.invokestatic 70, 3) := by decide +kernel
theorem dX5_of_15 : decode cX5_of 15 = .ok (.ifCond .eq 12, 3) := by decide +kernel
theorem dX5_of_18 : decode cX5_of 18 = .ok (.aload_n 0, 1) := by decide +kernel
theorem dX5_of_19 : decode cX5_of 19 = .ok (.iload_n 1, 1) := by decide +kernel
theorem dX5_of_20 : decode cX5_of 20 = .ok (.iload_n 2, 1) := by decide +kernel
theorem dX5_of_21 : decode cX5_of 21 = .ok (.invokevirtual 126, 3) := by decide +kernel
theorem dX5_of_24 : decode cX5_of 24 = .ok (.goto 9, 3) := by decide +kernel
theorem dX5_of_27 : decode cX5_of 27 = .ok (.aload_n 0, 1) := by decide +kernel
theorem dX5_of_28 : decode cX5_of 28 = .ok (.ldc 60, 2) := by decide +kernel
theorem dX5_of_30 : decode cX5_of 30 = .ok (.invokevirtual 66, 3) := by decide +kernel
theorem dX5_of_33 : decode cX5_of 33 = .ok (.ireturn, 1) := by decide +kernel
set_option maxRecDepth 20000 in
theorem ggX5_isField_X5_isKind : GoodIn wsX5_isField wsX5_isKind := goodIn_r _ [4, 5, 6, 3, 7] (by decide +kernel) (by decide +kernel)
set_option maxRecDepth 20000 in
theorem gX5_isField_X5_isKind : GoodIn wsX5_isField (va_wsS RX5 88 yX5_isKind wsX5_isKind) := goodIn_app (goodIn_of _ (by decide +kernel)) ggX5_isField_X5_isKind
set_option maxRecDepth 20000 in
theorem ggX5_isField_X5_isCell : GoodIn wsX5_isField wsX5_isCell := goodIn_r _ [10, 5, 6, 3, 7] (by decide +kernel) (by decide +kernel)
set_option maxRecDepth 20000 in
theorem gX5_isField_X5_isCell : GoodIn wsX5_isField (va_wsS RX5 94 yX5_isCell wsX5_isCell) := goodIn_app (goodIn_of _ (by decide +kernel)) ggX5_isField_X5_isCell
set_option maxRecDepth 20000 in
theorem ggX5_isField_X5_isMany : GoodIn wsX5_isField wsX5_isMany := goodIn_r _ [13, 5, 6, 3, 7] (by decide +kernel) (by decide +kernel)
set_option maxRecDepth 20000 in
theorem gX5_isField_X5_isMany : GoodIn wsX5_isField (va_wsS RX5 91 yX5_isMany wsX5_isMany) := goodIn_app (goodIn_of _ (by decide +kernel)) ggX5_isField_X5_isMany
set_option maxRecDepth 20000 in
theorem ggX5_isField_X5_within : GoodIn wsX5_isField wsX5_within := goodIn_r _ [7] (by decide +kernel) (by decide +kernel)
set_option maxRecDepth 20000 in
theorem gX5_isField_X5_within : GoodIn wsX5_isField (va_wsS RX5 70 yX5_within wsX5_within) := goodIn_app (goodIn_of _ (by decide +kernel)) ggX5_isField_X5_within
theorem dX5_isField_0 : decode cX5_isField 0 = .ok (.iload_n 0, 1) := by decide +kernel
theorem dX5_isField_1 : decode cX5_isField 1 = .ok (.tableswitch 66 0 4 #[35, 40, 45, 50, 57], 35) := by decide +kernel
theorem dX5_isField_36 : decode cX5_isField 36 = .ok (.iload_n 1, 1) := by decide +kernel
theorem dX5_isField_37 : decode cX5_isField 37 = .ok (.invokestatic 88, 3) := by decide +kernel
theorem dX5_isField_40 : decode cX5_isField 40 = .ok (.ireturn, 1) := by decide +kernel
theorem dX5_isField_41 : decode cX5_isField 41 = .ok (.iload_n 1, 1) := by decide +kernel
theorem dX5_isField_42 : decode cX5_isField 42 = .ok (.invokestatic 94, 3) := by decide +kernel
theorem dX5_isField_45 : decode cX5_isField 45 = .ok (.ireturn, 1) := by decide +kernel
theorem dX5_isField_46 : decode cX5_isField 46 = .ok (.iload_n 1, 1) := by decide +kernel
theorem dX5_isField_47 : decode cX5_isField 47 = .ok (.invokestatic 91, 3) := by decide +kernel
theorem dX5_isField_50 : decode cX5_isField 50 = .ok (.ireturn, 1) := by decide +kernel
theorem dX5_isField_51 : decode cX5_isField 51 = .ok (.iload_n 1, 1) := by decide +kernel
theorem dX5_isField_52 : decode cX5_isField 52 = .ok (.iconst 0, 1) := by decide +kernel
theorem dX5_isField_53 : decode cX5_isField 53 = .ok (.iconst 1, 1) := by decide +kernel
theorem dX5_isField_54 : decode cX5_isField 54 = .ok (.invokestatic 70, 3) := by decide +kernel
theorem dX5_isField_57 : decode cX5_isField 57 = .ok (.ireturn, 1) := by decide +kernel
theorem dX5_isField_58 : decode cX5_isField 58 = .ok (.iload_n 1, 1) := by decide +kernel
theorem dX5_isField_59 : decode cX5_isField 59 = .ok (.iconst 0, 1) := by decide +kernel
theorem dX5_isField_60 : decode cX5_isField 60 = .ok (.sipush 9999, 3) := by decide +kernel
theorem dX5_isField_63 : decode cX5_isField 63 = .ok (.invokestatic 70, 3) := by decide +kernel
theorem dX5_isField_66 : decode cX5_isField 66 = .ok (.ireturn, 1) := by decide +kernel
theorem dX5_isField_67 : decode cX5_isField 67 = .ok (.iconst 0, 1) := by decide +kernel
theorem dX5_isField_68 : decode cX5_isField 68 = .ok (.ireturn, 1) := by decide +kernel
set_option maxRecDepth 20000 in
theorem ggX5_change_X5_isSaying : GoodIn wsX5_change wsX5_isSaying := goodIn_r _ [6, 7, 8, 9, 5, 10, 35, 36, 37, 38, 39, 40, 41, 42, 43, 44, 45, 46, 47, 48, 49, 50, 51, 52, 53, 54, 55] (by decide +kernel) (by decide +kernel)
set_option maxRecDepth 20000 in
theorem gX5_change_X5_isSaying : GoodIn wsX5_change (wsV RX5 123 RX5 yX5_isSaying wsX5_isSaying) := goodIn_app (goodIn_of _ (by decide +kernel)) ggX5_change_X5_isSaying
set_option maxRecDepth 20000 in
theorem ggX5_change_X5_isField : GoodIn wsX5_change wsX5_isField := goodIn_r _ [13, 14, 15, 5, 16, 8, 9, 10, 17, 18, 19, 20, 21, 22] (by decide +kernel) (by decide +kernel)
set_option maxRecDepth 20000 in
theorem gX5_change_X5_isField : GoodIn wsX5_change (va_wsS RX5 129 yX5_isField wsX5_isField) := goodIn_app (goodIn_of _ (by decide +kernel)) ggX5_change_X5_isField
set_option maxRecDepth 20000 in
theorem ggX5_change_X5_sayingAt : GoodIn wsX5_change wsX5_sayingAt := goodIn_r _ [25] (by decide +kernel) (by decide +kernel)
set_option maxRecDepth 20000 in
theorem gX5_change_X5_sayingAt : GoodIn wsX5_change (va_wsS RX5 82 yX5_sayingAt wsX5_sayingAt) := goodIn_app (goodIn_of _ (by decide +kernel)) ggX5_change_X5_sayingAt
set_option maxRecDepth 20000 in
theorem ggX5_change_X5_become : GoodIn wsX5_change wsX5_become := goodIn_r _ [29, 7, 35, 36, 37, 38, 39, 40, 41, 42, 43, 44, 45, 46, 47, 48, 49, 50, 51, 52, 53, 54, 55] (by decide +kernel) (by decide +kernel)
set_option maxRecDepth 20000 in
theorem gX5_change_X5_become : GoodIn wsX5_change (wsV RX5 78 RX5 yX5_become wsX5_become) := goodIn_app (goodIn_of _ (by decide +kernel)) ggX5_change_X5_become
set_option maxRecDepth 20000 in
theorem ggX5_change_X5_finding : GoodIn wsX5_change wsX5_finding := goodIn_r _ [33, 34, 1, 35, 36, 37, 38, 39, 40, 41, 42, 43, 44, 45, 46, 47, 48, 49, 50, 51, 52, 53, 54, 55] (by decide +kernel) (by decide +kernel)
set_option maxRecDepth 20000 in
theorem gX5_change_X5_finding : GoodIn wsX5_change (wsV RX5 66 RX5 yX5_finding wsX5_finding) := goodIn_app (goodIn_of _ (by decide +kernel)) ggX5_change_X5_finding
theorem dX5_change_0 : decode cX5_change 0 = .ok (.aload_n 0, 1) := by decide +kernel
theorem dX5_change_1 : decode cX5_change 1 = .ok (.iload_n 1, 1) := by decide +kernel
theorem dX5_change_2 : decode cX5_change 2 = .ok (.invokevirtual 123, 3) := by decide +kernel
theorem dX5_change_5 : decode cX5_change 5 = .ok (.ifCond .eq 24, 3) := by decide +kernel
theorem dX5_change_8 : decode cX5_change 8 = .ok (.iload_n 2, 1) := by decide +kernel
theorem dX5_change_9 : decode cX5_change 9 = .ok (.iload_n 3, 1) := by decide +kernel
theorem dX5_change_10 : decode cX5_change 10 = .ok (.invokestatic 129, 3) := by decide +kernel
theorem dX5_change_13 : decode cX5_change 13 = .ok (.ifCond .eq 16, 3) := by decide +kernel
theorem dX5_change_16 : decode cX5_change 16 = .ok (.aload_n 0, 1) := by decide +kernel
theorem dX5_change_17 : decode cX5_change 17 = .ok (.iload_n 1, 1) := by decide +kernel
theorem dX5_change_18 : decode cX5_change 18 = .ok (.iload_n 2, 1) := by decide +kernel
theorem dX5_change_19 : decode cX5_change 19 = .ok (.invokestatic 82, 3) := by decide +kernel
theorem dX5_change_22 : decode cX5_change 22 = .ok (.iload_n 3, 1) := by decide +kernel
theorem dX5_change_23 : decode cX5_change 23 = .ok (.invokevirtual 78, 3) := by decide +kernel
theorem dX5_change_26 : decode cX5_change 26 = .ok (.goto 9, 3) := by decide +kernel
theorem dX5_change_29 : decode cX5_change 29 = .ok (.aload_n 0, 1) := by decide +kernel
theorem dX5_change_30 : decode cX5_change 30 = .ok (.ldc 60, 2) := by decide +kernel
theorem dX5_change_32 : decode cX5_change 32 = .ok (.invokevirtual 66, 3) := by decide +kernel
theorem dX5_change_35 : decode cX5_change 35 = .ok (.ireturn, 1) := by decide +kernel
set_option maxRecDepth 20000 in
theorem ggX5_ofShip_X5_isShip : GoodIn wsX5_ofShip wsX5_isShip := goodIn_r _ [6, 7, 8, 9, 5, 10, 23, 24, 25, 26, 27, 28, 29, 30, 31, 32, 33, 34, 35, 36, 37, 38, 39, 40, 41, 42, 43] (by decide +kernel) (by decide +kernel)
set_option maxRecDepth 20000 in
theorem gX5_ofShip_X5_isShip : GoodIn wsX5_ofShip (wsV RX5 133 RX5 yX5_isShip wsX5_isShip) := goodIn_app (goodIn_of _ (by decide +kernel)) ggX5_ofShip_X5_isShip
set_option maxRecDepth 20000 in
theorem ggX5_ofShip_X5_within : GoodIn wsX5_ofShip wsX5_within := goodIn_r _ [10] (by decide +kernel) (by decide +kernel)
set_option maxRecDepth 20000 in
theorem gX5_ofShip_X5_within : GoodIn wsX5_ofShip (va_wsS RX5 70 yX5_within wsX5_within) := goodIn_app (goodIn_of _ (by decide +kernel)) ggX5_ofShip_X5_within
set_option maxRecDepth 20000 in
theorem ggX5_ofShip_X5_shipIs : GoodIn wsX5_ofShip wsX5_shipIs := goodIn_r _ [14, 7, 15, 16, 5, 17, 23, 24, 25, 26, 27, 28, 29, 30, 31, 32, 33, 34, 35, 36, 37, 38, 39, 40, 41, 42, 43] (by decide +kernel) (by decide +kernel)
set_option maxRecDepth 20000 in
theorem gX5_ofShip_X5_shipIs : GoodIn wsX5_ofShip (wsV RX5 136 RX5 yX5_shipIs wsX5_shipIs) := goodIn_app (goodIn_of _ (by decide +kernel)) ggX5_ofShip_X5_shipIs
set_option maxRecDepth 20000 in
theorem ggX5_ofShip_X5_finding : GoodIn wsX5_ofShip wsX5_finding := goodIn_r _ [21, 22, 1, 23, 24, 25, 26, 27, 28, 29, 30, 31, 32, 33, 34, 35, 36, 37, 38, 39, 40, 41, 42, 43] (by decide +kernel) (by decide +kernel)
set_option maxRecDepth 20000 in
theorem gX5_ofShip_X5_finding : GoodIn wsX5_ofShip (wsV RX5 66 RX5 yX5_finding wsX5_finding) := goodIn_app (goodIn_of _ (by decide +kernel)) ggX5_ofShip_X5_finding
theorem dX5_ofShip_0 : decode cX5_ofShip 0 = .ok (.aload_n 0, 1) := by decide +kernel
theorem dX5_ofShip_1 : decode cX5_ofShip 1 = .ok (.iload_n 1, 1) := by decide +kernel
theorem dX5_ofShip_2 : decode cX5_ofShip 2 = .ok (.invokevirtual 133, 3) := by decide +kernel
theorem dX5_ofShip_5 : decode cX5_ofShip 5 = .ok (.ifCond .eq 21, 3) := by decide +kernel
theorem dX5_ofShip_8 : decode cX5_ofShip 8 = .ok (.iload_n 2, 1) := by decide +kernel
theorem dX5_ofShip_9 : decode cX5_ofShip 9 = .ok (.iconst 0, 1) := by decide +kernel
theorem dX5_ofShip_10 : decode cX5_ofShip 10 = .ok (.iconst 3, 1) := by decide +kernel
theorem dX5_ofShip_11 : decode cX5_ofShip 11 = .ok (.invokestatic 70, 3) := by decide +kernel
theorem dX5_ofShip_14 : decode cX5_ofShip 14 = .ok (.ifCond .eq 12, 3) := by decide +kernel
theorem dX5_ofShip_17 : decode cX5_ofShip 17 = .ok (.aload_n 0, 1) := by decide +kernel
theorem dX5_ofShip_18 : decode cX5_ofShip 18 = .ok (.iload_n 1, 1) := by decide +kernel
theorem dX5_ofShip_19 : decode cX5_ofShip 19 = .ok (.iload_n 2, 1) := by decide +kernel
theorem dX5_ofShip_20 : decode cX5_ofShip 20 = .ok (.invokevirtual 136, 3) := by decide +kernel
theorem dX5_ofShip_23 : decode cX5_ofShip 23 = .ok (.goto 9, 3) := by decide +kernel
theorem dX5_ofShip_26 : decode cX5_ofShip 26 = .ok (.aload_n 0, 1) := by decide +kernel
theorem dX5_ofShip_27 : decode cX5_ofShip 27 = .ok (.ldc 60, 2) := by decide +kernel
theorem dX5_ofShip_29 : decode cX5_ofShip 29 = .ok (.invokevirtual 66, 3) := by decide +kernel
theorem dX5_ofShip_32 : decode cX5_ofShip 32 = .ok (.ireturn, 1) := by decide +kernel
set_option maxRecDepth 20000 in
theorem ggX5_isShipField_X5_isCell : GoodIn wsX5_isShipField wsX5_isCell := goodIn_r _ [4, 5, 6, 3, 7] (by decide +kernel) (by decide +kernel)
set_option maxRecDepth 20000 in
theorem gX5_isShipField_X5_isCell : GoodIn wsX5_isShipField (va_wsS RX5 94 yX5_isCell wsX5_isCell) := goodIn_app (goodIn_of _ (by decide +kernel)) ggX5_isShipField_X5_isCell
set_option maxRecDepth 20000 in
theorem ggX5_isShipField_X5_isMany : GoodIn wsX5_isShipField wsX5_isMany := goodIn_r _ [10, 5, 6, 3, 7] (by decide +kernel) (by decide +kernel)
set_option maxRecDepth 20000 in
theorem gX5_isShipField_X5_isMany : GoodIn wsX5_isShipField (va_wsS RX5 91 yX5_isMany wsX5_isMany) := goodIn_app (goodIn_of _ (by decide +kernel)) ggX5_isShipField_X5_isMany
set_option maxRecDepth 20000 in
theorem ggX5_isShipField_X5_isFast : GoodIn wsX5_isShipField wsX5_isFast := goodIn_r _ [13, 5, 6, 3, 7] (by decide +kernel) (by decide +kernel)
set_option maxRecDepth 20000 in
theorem gX5_isShipField_X5_isFast : GoodIn wsX5_isShipField (va_wsS RX5 102 yX5_isFast wsX5_isFast) := goodIn_app (goodIn_of _ (by decide +kernel)) ggX5_isShipField_X5_isFast
set_option maxRecDepth 20000 in
theorem ggX5_isShipField_X5_within : GoodIn wsX5_isShipField wsX5_within := goodIn_r _ [7] (by decide +kernel) (by decide +kernel)
set_option maxRecDepth 20000 in
theorem gX5_isShipField_X5_within : GoodIn wsX5_isShipField (va_wsS RX5 70 yX5_within wsX5_within) := goodIn_app (goodIn_of _ (by decide +kernel)) ggX5_isShipField_X5_within
theorem dX5_isShipField_0 : decode cX5_isShipField 0 = .ok (.iload_n 0, 1) := by decide +kernel
theorem dX5_isShipField_1 : decode cX5_isShipField 1 = .ok (.tableswitch 55 0 3 #[31, 36, 41, 46], 31) := by decide +kernel
theorem dX5_isShipField_32 : decode cX5_isShipField 32 = .ok (.iload_n 1, 1) := by decide +kernel
theorem dX5_isShipField_33 : decode cX5_isShipField 33 = .ok (.invokestatic 94, 3) := by decide +kernel
theorem dX5_isShipField_36 : decode cX5_isShipField 36 = .ok (.ireturn, 1) := by decide +kernel
theorem dX5_isShipField_37 : decode cX5_isShipField 37 = .ok (.iload_n 1, 1) := by decide +kernel
theorem dX5_isShipField_38 : decode cX5_isShipField 38 = .ok (.invokestatic 91, 3) := by decide +kernel
theorem dX5_isShipField_41 : decode cX5_isShipField 41 = .ok (.ireturn, 1) := by decide +kernel
theorem dX5_isShipField_42 : decode cX5_isShipField 42 = .ok (.iload_n 1, 1) := by decide +kernel
theorem dX5_isShipField_43 : decode cX5_isShipField 43 = .ok (.invokestatic 102, 3) := by decide +kernel
theorem dX5_isShipField_46 : decode cX5_isShipField 46 = .ok (.ireturn, 1) := by decide +kernel
theorem dX5_isShipField_47 : decode cX5_isShipField 47 = .ok (.iload_n 1, 1) := by decide +kernel
theorem dX5_isShipField_48 : decode cX5_isShipField 48 = .ok (.iconst 0, 1) := by decide +kernel
theorem dX5_isShipField_49 : decode cX5_isShipField 49 = .ok (.sipush 9999, 3) := by decide +kernel
theorem dX5_isShipField_52 : decode cX5_isShipField 52 = .ok (.invokestatic 70, 3) := by decide +kernel
theorem dX5_isShipField_55 : decode cX5_isShipField 55 = .ok (.ireturn, 1) := by decide +kernel
theorem dX5_isShipField_56 : decode cX5_isShipField 56 = .ok (.iconst 0, 1) := by decide +kernel
theorem dX5_isShipField_57 : decode cX5_isShipField 57 = .ok (.ireturn, 1) := by decide +kernel
set_option maxRecDepth 20000 in
theorem ggX5_steer_X5_isShip : GoodIn wsX5_steer wsX5_isShip := goodIn_r _ [6, 7, 8, 9, 5, 10, 35, 36, 37, 38, 39, 40, 41, 42, 43, 44, 45, 46, 47, 48, 49, 50, 51, 52, 53, 54, 55] (by decide +kernel) (by decide +kernel)
set_option maxRecDepth 20000 in
theorem gX5_steer_X5_isShip : GoodIn wsX5_steer (wsV RX5 133 RX5 yX5_isShip wsX5_isShip) := goodIn_app (goodIn_of _ (by decide +kernel)) ggX5_steer_X5_isShip
set_option maxRecDepth 20000 in
theorem ggX5_steer_X5_isShipField : GoodIn wsX5_steer wsX5_isShipField := goodIn_r _ [13, 14, 15, 5, 16, 8, 9, 10, 17, 18, 19, 20, 21, 22] (by decide +kernel) (by decide +kernel)
set_option maxRecDepth 20000 in
theorem gX5_steer_X5_isShipField : GoodIn wsX5_steer (va_wsS RX5 139 yX5_isShipField wsX5_isShipField) := goodIn_app (goodIn_of _ (by decide +kernel)) ggX5_steer_X5_isShipField
set_option maxRecDepth 20000 in
theorem ggX5_steer_X5_shipAt : GoodIn wsX5_steer wsX5_shipAt := goodIn_r _ [25] (by decide +kernel) (by decide +kernel)
set_option maxRecDepth 20000 in
theorem gX5_steer_X5_shipAt : GoodIn wsX5_steer (va_wsS RX5 85 yX5_shipAt wsX5_shipAt) := goodIn_app (goodIn_of _ (by decide +kernel)) ggX5_steer_X5_shipAt
set_option maxRecDepth 20000 in
theorem ggX5_steer_X5_become : GoodIn wsX5_steer wsX5_become := goodIn_r _ [29, 7, 35, 36, 37, 38, 39, 40, 41, 42, 43, 44, 45, 46, 47, 48, 49, 50, 51, 52, 53, 54, 55] (by decide +kernel) (by decide +kernel)
set_option maxRecDepth 20000 in
theorem gX5_steer_X5_become : GoodIn wsX5_steer (wsV RX5 78 RX5 yX5_become wsX5_become) := goodIn_app (goodIn_of _ (by decide +kernel)) ggX5_steer_X5_become
set_option maxRecDepth 20000 in
theorem ggX5_steer_X5_finding : GoodIn wsX5_steer wsX5_finding := goodIn_r _ [33, 34, 1, 35, 36, 37, 38, 39, 40, 41, 42, 43, 44, 45, 46, 47, 48, 49, 50, 51, 52, 53, 54, 55] (by decide +kernel) (by decide +kernel)
set_option maxRecDepth 20000 in
theorem gX5_steer_X5_finding : GoodIn wsX5_steer (wsV RX5 66 RX5 yX5_finding wsX5_finding) := goodIn_app (goodIn_of _ (by decide +kernel)) ggX5_steer_X5_finding
theorem dX5_steer_0 : decode cX5_steer 0 = .ok (.aload_n 0, 1) := by decide +kernel
theorem dX5_steer_1 : decode cX5_steer 1 = .ok (.iload_n 1, 1) := by decide +kernel
theorem dX5_steer_2 : decode cX5_steer 2 = .ok (.invokevirtual 133, 3) := by decide +kernel
theorem dX5_steer_5 : decode cX5_steer 5 = .ok (.ifCond .eq 24, 3) := by decide +kernel
theorem dX5_steer_8 : decode cX5_steer 8 = .ok (.iload_n 2, 1) := by decide +kernel
theorem dX5_steer_9 : decode cX5_steer 9 = .ok (.iload_n 3, 1) := by decide +kernel
theorem dX5_steer_10 : decode cX5_steer 10 = .ok (.invokestatic 139, 3) := by decide +kernel
theorem dX5_steer_13 : decode cX5_steer 13 = .ok (.ifCond .eq 16, 3) := by decide +kernel
theorem dX5_steer_16 : decode cX5_steer 16 = .ok (.aload_n 0, 1) := by decide +kernel
theorem dX5_steer_17 : decode cX5_steer 17 = .ok (.iload_n 1, 1) := by decide +kernel
theorem dX5_steer_18 : decode cX5_steer 18 = .ok (.iload_n 2, 1) := by decide +kernel
theorem dX5_steer_19 : decode cX5_steer 19 = .ok (.invokestatic 85, 3) := by decide +kernel
theorem dX5_steer_22 : decode cX5_steer 22 = .ok (.iload_n 3, 1) := by decide +kernel
theorem dX5_steer_23 : decode cX5_steer 23 = .ok (.invokevirtual 78, 3) := by decide +kernel
theorem dX5_steer_26 : decode cX5_steer 26 = .ok (.goto 9, 3) := by decide +kernel
theorem dX5_steer_29 : decode cX5_steer 29 = .ok (.aload_n 0, 1) := by decide +kernel
theorem dX5_steer_30 : decode cX5_steer 30 = .ok (.ldc 60, 2) := by decide +kernel
theorem dX5_steer_32 : decode cX5_steer 32 = .ok (.invokevirtual 66, 3) := by decide +kernel
theorem dX5_steer_35 : decode cX5_steer 35 = .ok (.ireturn, 1) := by decide +kernel
set_option maxRecDepth 20000 in
theorem ggX5_thickAt_X5_sayingIs : GoodIn wsX5_thickAt wsX5_sayingIs := goodIn_r _ [13, 1, 14, 15, 12, 16, 25, 26, 27, 28, 29, 30, 31, 32, 33, 34, 35, 36, 37, 38, 39, 40, 41, 42, 43, 44, 45] (by decide +kernel) (by decide +kernel)
set_option maxRecDepth 20000 in
theorem gX5_thickAt_X5_sayingIs : GoodIn wsX5_thickAt (wsV RX5 108 RX5 yX5_sayingIs wsX5_sayingIs) := goodIn_app (goodIn_of _ (by decide +kernel)) ggX5_thickAt_X5_sayingIs
set_option maxRecDepth 20000 in
theorem ggX5_thickAt_X5_reaches : GoodIn wsX5_thickAt wsX5_reaches := goodIn_r _ [20, 9, 10, 11, 12, 13, 1, 14, 15, 16, 25, 26, 27, 28, 29, 30, 31, 32, 33, 34, 35, 36, 37, 38, 39, 40, 41, 42, 43, 44, 45] (by decide +kernel) (by decide +kernel)
set_option maxRecDepth 20000 in
theorem gX5_thickAt_X5_reaches : GoodIn wsX5_thickAt (wsV RX5 114 RX5 yX5_reaches wsX5_reaches) := goodIn_app (goodIn_of _ (by decide +kernel)) ggX5_thickAt_X5_reaches
set_option maxRecDepth 20000 in
theorem ggX5_thickAt_X5_thickens : GoodIn wsX5_thickAt wsX5_thickens := goodIn_r _ [24, 9, 10, 11, 12, 13, 1, 14, 15, 16, 25, 26, 27, 28, 29, 30, 31, 32, 33, 34, 35, 36, 37, 38, 39, 40, 41, 42, 43, 44, 45] (by decide +kernel) (by decide +kernel)
set_option maxRecDepth 20000 in
theorem gX5_thickAt_X5_thickens : GoodIn wsX5_thickAt (wsV RX5 111 RX5 yX5_thickens wsX5_thickens) := goodIn_app (goodIn_of _ (by decide +kernel)) ggX5_thickAt_X5_thickens
theorem dX5_thickAt_0 : decode cX5_thickAt 0 = .ok (.iconst 0, 1) := by decide +kernel
theorem dX5_thickAt_1 : decode cX5_thickAt 1 = .ok (.istore_n 2, 1) := by decide +kernel
theorem dX5_thickAt_2 : decode cX5_thickAt 2 = .ok (.iconst 0, 1) := by decide +kernel
theorem dX5_thickAt_3 : decode cX5_thickAt 3 = .ok (.istore_n 3, 1) := by decide +kernel
theorem dX5_thickAt_4 : decode cX5_thickAt 4 = .ok (.iload_n 3, 1) := by decide +kernel
theorem dX5_thickAt_5 : decode cX5_thickAt 5 = .ok (.aload_n 0, 1) := by decide +kernel
theorem dX5_thickAt_6 : decode cX5_thickAt 6 = .ok (.getfield 9, 3) := by decide +kernel
theorem dX5_thickAt_9 : decode cX5_thickAt 9 = .ok (.iconst 1, 1) := by decide +kernel
theorem dX5_thickAt_10 : decode cX5_thickAt 10 = .ok (.iaload, 1) := by decide +kernel
theorem dX5_thickAt_11 : decode cX5_thickAt 11 = .ok (.if_icmp .ge 79, 3) := by decide +kernel
theorem dX5_thickAt_14 : decode cX5_thickAt 14 = .ok (.iload_n 1, 1) := by decide +kernel
theorem dX5_thickAt_15 : decode cX5_thickAt 15 = .ok (.aload_n 0, 1) := by decide +kernel
theorem dX5_thickAt_16 : decode cX5_thickAt 16 = .ok (.iload_n 3, 1) := by decide +kernel
theorem dX5_thickAt_17 : decode cX5_thickAt 17 = .ok (.iconst 1, 1) := by decide +kernel
theorem dX5_thickAt_18 : decode cX5_thickAt 18 = .ok (.invokevirtual 108, 3) := by decide +kernel
theorem dX5_thickAt_21 : decode cX5_thickAt 21 = .ok (.isub, 1) := by decide +kernel
theorem dX5_thickAt_22 : decode cX5_thickAt 22 = .ok (.invokestatic 142, 3) := by decide +kernel
theorem dX5_thickAt_25 : decode cX5_thickAt 25 = .ok (.istore 4, 2) := by decide +kernel
theorem dX5_thickAt_27 : decode cX5_thickAt 27 = .ok (.aload_n 0, 1) := by decide +kernel
theorem dX5_thickAt_28 : decode cX5_thickAt 28 = .ok (.iload_n 3, 1) := by decide +kernel
theorem dX5_thickAt_29 : decode cX5_thickAt 29 = .ok (.iconst 3, 1) := by decide +kernel
theorem dX5_thickAt_30 : decode cX5_thickAt 30 = .ok (.invokevirtual 108, 3) := by decide +kernel
theorem dX5_thickAt_33 : decode cX5_thickAt 33 = .ok (.ifCond .ne 51, 3) := by decide +kernel
theorem dX5_thickAt_36 : decode cX5_thickAt 36 = .ok (.iload 4, 2) := by decide +kernel
theorem dX5_thickAt_38 : decode cX5_thickAt 38 = .ok (.aload_n 0, 1) := by decide +kernel
theorem dX5_thickAt_39 : decode cX5_thickAt 39 = .ok (.iload_n 3, 1) := by decide +kernel
theorem dX5_thickAt_40 : decode cX5_thickAt 40 = .ok (.invokevirtual 114, 3) := by decide +kernel
theorem dX5_thickAt_43 : decode cX5_thickAt 43 = .ok (.if_icmp .gt 41, 3) := by decide +kernel
theorem dX5_thickAt_46 : decode cX5_thickAt 46 = .ok (.aload_n 0, 1) := by decide +kernel
theorem dX5_thickAt_47 : decode cX5_thickAt 47 = .ok (.iload_n 3, 1) := by decide +kernel
theorem dX5_thickAt_48 : decode cX5_thickAt 48 = .ok (.invokevirtual 111, 3) := by decide +kernel
theorem dX5_thickAt_51 : decode cX5_thickAt 51 = .ok (.istore 5, 2) := by decide +kernel
theorem dX5_thickAt_53 : decode cX5_thickAt 53 = .ok (.iload_n 2, 1) := by decide +kernel
theorem dX5_thickAt_54 : decode cX5_thickAt 54 = .ok (.iload 5, 2) := by decide +kernel
theorem dX5_thickAt_56 : decode cX5_thickAt 56 = .ok (.iload 4, 2) := by decide +kernel
theorem dX5_thickAt_58 : decode cX5_thickAt 58 = .ok (.aload_n 0, 1) := by decide +kernel
theorem dX5_thickAt_59 : decode cX5_thickAt 59 = .ok (.iload_n 3, 1) := by decide +kernel
theorem dX5_thickAt_60 : decode cX5_thickAt 60 = .ok (.iconst 0, 1) := by decide +kernel
theorem dX5_thickAt_61 : decode cX5_thickAt 61 = .ok (.invokevirtual 108, 3) := by decide +kernel
theorem dX5_thickAt_64 : decode cX5_thickAt 64 = .ok (.iconst 5, 1) := by decide +kernel
theorem dX5_thickAt_65 : decode cX5_thickAt 65 = .ok (.if_icmp .ne 11, 3) := by decide +kernel
theorem dX5_thickAt_68 : decode cX5_thickAt 68 = .ok (.iload 5, 2) := by decide +kernel
theorem dX5_thickAt_70 : decode cX5_thickAt 70 = .ok (.bipush 10, 2) := by decide +kernel
theorem dX5_thickAt_72 : decode cX5_thickAt 72 = .ok (.idiv, 1) := by decide +kernel
theorem dX5_thickAt_73 : decode cX5_thickAt 73 = .ok (.goto 7, 3) := by decide +kernel
theorem dX5_thickAt_76 : decode cX5_thickAt 76 = .ok (.iload 5, 2) := by decide +kernel
theorem dX5_thickAt_78 : decode cX5_thickAt 78 = .ok (.iconst 5, 1) := by decide +kernel
theorem dX5_thickAt_79 : decode cX5_thickAt 79 = .ok (.idiv, 1) := by decide +kernel
theorem dX5_thickAt_80 : decode cX5_thickAt 80 = .ok (.imul, 1) := by decide +kernel
theorem dX5_thickAt_81 : decode cX5_thickAt 81 = .ok (.isub, 1) := by decide +kernel
theorem dX5_thickAt_82 : decode cX5_thickAt 82 = .ok (.iadd, 1) := by decide +kernel
theorem dX5_thickAt_83 : decode cX5_thickAt 83 = .ok (.istore_n 2, 1) := by decide +kernel
theorem dX5_thickAt_84 : decode cX5_thickAt 84 = .ok (.iinc 3 1, 3) := by decide +kernel
theorem dX5_thickAt_87 : decode cX5_thickAt 87 = .ok (.goto (-83), 3) := by decide +kernel
theorem dX5_thickAt_90 : decode cX5_thickAt 90 = .ok (.iconst 0, 1) := by decide +kernel
theorem dX5_thickAt_91 : decode cX5_thickAt 91 = .ok (.iload_n 2, 1) := by decide +kernel
theorem dX5_thickAt_92 : decode cX5_thickAt 92 = .ok (.invokestatic 147, 3) := by decide +kernel
theorem dX5_thickAt_95 : decode cX5_thickAt 95 = .ok (.ireturn, 1) := by decide +kernel
set_option maxRecDepth 20000 in
theorem ggX5_thick_X5_isCell : GoodIn wsX5_thick wsX5_isCell := goodIn_r _ [5, 6, 7, 4, 8] (by decide +kernel) (by decide +kernel)
set_option maxRecDepth 20000 in
theorem gX5_thick_X5_isCell : GoodIn wsX5_thick (va_wsS RX5 94 yX5_isCell wsX5_isCell) := goodIn_app (goodIn_of _ (by decide +kernel)) ggX5_thick_X5_isCell
set_option maxRecDepth 20000 in
theorem ggX5_thick_X5_thickAt : GoodIn wsX5_thick wsX5_thickAt := goodIn_r _ [12, 13, 14, 15, 16, 17, 18, 19, 20, 21, 22, 23, 4, 24, 25, 26, 27, 28, 29, 30, 31, 32, 33, 34, 35, 41, 42, 43, 44, 45, 46, 47, 48, 49, 50, 51, 52, 53, 54, 55, 56, 57, 58, 59, 60, 61] (by decide +kernel) (by decide +kernel)
set_option maxRecDepth 20000 in
theorem gX5_thick_X5_thickAt : GoodIn wsX5_thick (wsV RX5 150 RX5 yX5_thickAt wsX5_thickAt) := goodIn_app (goodIn_of _ (by decide +kernel)) ggX5_thick_X5_thickAt
set_option maxRecDepth 20000 in
theorem ggX5_thick_X5_finding : GoodIn wsX5_thick wsX5_finding := goodIn_r _ [39, 40, 1, 41, 42, 43, 44, 45, 46, 47, 48, 49, 50, 51, 52, 53, 54, 55, 56, 57, 58, 59, 60, 61] (by decide +kernel) (by decide +kernel)
set_option maxRecDepth 20000 in
theorem gX5_thick_X5_finding : GoodIn wsX5_thick (wsV RX5 66 RX5 yX5_finding wsX5_finding) := goodIn_app (goodIn_of _ (by decide +kernel)) ggX5_thick_X5_finding
theorem dX5_thick_0 : decode cX5_thick 0 = .ok (.iload_n 1, 1) := by decide +kernel
theorem dX5_thick_1 : decode cX5_thick 1 = .ok (.invokestatic 94, 3) := by decide +kernel
theorem dX5_thick_4 : decode cX5_thick 4 = .ok (.ifCond .eq 11, 3) := by decide +kernel
theorem dX5_thick_7 : decode cX5_thick 7 = .ok (.aload_n 0, 1) := by decide +kernel
theorem dX5_thick_8 : decode cX5_thick 8 = .ok (.iload_n 1, 1) := by decide +kernel
theorem dX5_thick_9 : decode cX5_thick 9 = .ok (.invokevirtual 150, 3) := by decide +kernel
theorem dX5_thick_12 : decode cX5_thick 12 = .ok (.goto 9, 3) := by decide +kernel
theorem dX5_thick_15 : decode cX5_thick 15 = .ok (.aload_n 0, 1) := by decide +kernel
theorem dX5_thick_16 : decode cX5_thick 16 = .ok (.ldc 60, 2) := by decide +kernel
theorem dX5_thick_18 : decode cX5_thick 18 = .ok (.invokevirtual 66, 3) := by decide +kernel
theorem dX5_thick_21 : decode cX5_thick 21 = .ok (.ireturn, 1) := by decide +kernel
theorem dX5_more_0 : decode cX5_more 0 = .ok (.aload_n 0, 1) := by decide +kernel
theorem dX5_more_1 : decode cX5_more 1 = .ok (.getfield 9, 3) := by decide +kernel
theorem dX5_more_4 : decode cX5_more 4 = .ok (.iload_n 1, 1) := by decide +kernel
theorem dX5_more_5 : decode cX5_more 5 = .ok (.iload_n 3, 1) := by decide +kernel
theorem dX5_more_6 : decode cX5_more 6 = .ok (.aload_n 0, 1) := by decide +kernel
theorem dX5_more_7 : decode cX5_more 7 = .ok (.getfield 9, 3) := by decide +kernel
theorem dX5_more_10 : decode cX5_more 10 = .ok (.iload_n 1, 1) := by decide +kernel
theorem dX5_more_11 : decode cX5_more 11 = .ok (.iaload, 1) := by decide +kernel
theorem dX5_more_12 : decode cX5_more 12 = .ok (.iload_n 2, 1) := by decide +kernel
theorem dX5_more_13 : decode cX5_more 13 = .ok (.iadd, 1) := by decide +kernel
theorem dX5_more_14 : decode cX5_more 14 = .ok (.invokestatic 153, 3) := by decide +kernel
theorem dX5_more_17 : decode cX5_more 17 = .ok (.iastore, 1) := by decide +kernel
theorem dX5_more_18 : decode cX5_more 18 = .ok (.return_, 1) := by decide +kernel
set_option maxRecDepth 20000 in
theorem ggX5_isInPort_X5_shipIs : GoodIn wsX5_isInPort wsX5_shipIs := goodIn_r _ [5, 6, 7, 8, 4, 9, 10, 11, 12, 13, 14, 15, 16, 17, 18, 19, 20, 21, 22, 23, 24, 25, 26, 27, 28, 29, 30] (by decide +kernel) (by decide +kernel)
set_option maxRecDepth 20000 in
theorem gX5_isInPort_X5_shipIs : GoodIn wsX5_isInPort (wsV RX5 136 RX5 yX5_shipIs wsX5_shipIs) := goodIn_app (goodIn_of _ (by decide +kernel)) ggX5_isInPort_X5_shipIs
theorem dX5_isInPort_0 : decode cX5_isInPort 0 = .ok (.aload_n 0, 1) := by decide +kernel
theorem dX5_isInPort_1 : decode cX5_isInPort 1 = .ok (.iload_n 1, 1) := by decide +kernel
theorem dX5_isInPort_2 : decode cX5_isInPort 2 = .ok (.iconst 0, 1) := by decide +kernel
theorem dX5_isInPort_3 : decode cX5_isInPort 3 = .ok (.invokevirtual 136, 3) := by decide +kernel
theorem dX5_isInPort_6 : decode cX5_isInPort 6 = .ok (.bipush 15, 2) := by decide +kernel
theorem dX5_isInPort_8 : decode cX5_isInPort 8 = .ok (.if_icmp .ne 7, 3) := by decide +kernel
theorem dX5_isInPort_11 : decode cX5_isInPort 11 = .ok (.iconst 1, 1) := by decide +kernel
theorem dX5_isInPort_12 : decode cX5_isInPort 12 = .ok (.goto 4, 3) := by decide +kernel
theorem dX5_isInPort_15 : decode cX5_isInPort 15 = .ok (.iconst 0, 1) := by decide +kernel
theorem dX5_isInPort_16 : decode cX5_isInPort 16 = .ok (.ireturn, 1) := by decide +kernel
set_option maxRecDepth 20000 in
theorem ggX5_wouldGoAt_X5_shipIs : GoodIn wsX5_wouldGoAt wsX5_shipIs := goodIn_r _ [5, 6, 7, 8, 4, 9, 36, 37, 38, 39, 40, 41, 42, 43, 44, 45, 46, 47, 48, 49, 50, 51, 52, 53, 54, 55, 56] (by decide +kernel) (by decide +kernel)
set_option maxRecDepth 20000 in
theorem gX5_wouldGoAt_X5_shipIs : GoodIn wsX5_wouldGoAt (wsV RX5 136 RX5 yX5_shipIs wsX5_shipIs) := goodIn_app (goodIn_of _ (by decide +kernel)) ggX5_wouldGoAt_X5_shipIs
set_option maxRecDepth 20000 in
theorem ggX5_wouldGoAt_X5_thickAt : GoodIn wsX5_wouldGoAt wsX5_thickAt := goodIn_r _ [13, 6, 14, 15, 16, 17, 18, 19, 20, 21, 22, 23, 4, 24, 25, 26, 27, 28, 29, 30, 31, 32, 33, 34, 35, 36, 37, 38, 39, 40, 41, 42, 43, 44, 45, 46, 47, 48, 49, 50, 51, 52, 53, 54, 55, 56] (by decide +kernel) (by decide +kernel)
set_option maxRecDepth 20000 in
theorem gX5_wouldGoAt_X5_thickAt : GoodIn wsX5_wouldGoAt (wsV RX5 150 RX5 yX5_thickAt wsX5_thickAt) := goodIn_app (goodIn_of _ (by decide +kernel)) ggX5_wouldGoAt_X5_thickAt
theorem dX5_wouldGoAt_0 : decode cX5_wouldGoAt 0 = .ok (.iload_n 2, 1) := by decide +kernel
theorem dX5_wouldGoAt_1 : decode cX5_wouldGoAt 1 = .ok (.bipush 15, 2) := by decide +kernel
theorem dX5_wouldGoAt_3 : decode cX5_wouldGoAt 3 = .ok (.if_icmp .eq 21, 3) := by decide +kernel
theorem dX5_wouldGoAt_6 : decode cX5_wouldGoAt 6 = .ok (.aload_n 0, 1) := by decide +kernel
theorem dX5_wouldGoAt_7 : decode cX5_wouldGoAt 7 = .ok (.iload_n 1, 1) := by decide +kernel
theorem dX5_wouldGoAt_8 : decode cX5_wouldGoAt 8 = .ok (.iconst 1, 1) := by decide +kernel
theorem dX5_wouldGoAt_9 : decode cX5_wouldGoAt 9 = .ok (.invokevirtual 136, 3) := by decide +kernel
theorem dX5_wouldGoAt_12 : decode cX5_wouldGoAt 12 = .ok (.aload_n 0, 1) := by decide +kernel
theorem dX5_wouldGoAt_13 : decode cX5_wouldGoAt 13 = .ok (.iload_n 2, 1) := by decide +kernel
theorem dX5_wouldGoAt_14 : decode cX5_wouldGoAt 14 = .ok (.invokevirtual 150, 3) := by decide +kernel
theorem dX5_wouldGoAt_17 : decode cX5_wouldGoAt 17 = .ok (.if_icmp .lt 7, 3) := by decide +kernel
theorem dX5_wouldGoAt_20 : decode cX5_wouldGoAt 20 = .ok (.iconst 1, 1) := by decide +kernel
theorem dX5_wouldGoAt_21 : decode cX5_wouldGoAt 21 = .ok (.goto 4, 3) := by decide +kernel
theorem dX5_wouldGoAt_24 : decode cX5_wouldGoAt 24 = .ok (.iconst 0, 1) := by decide +kernel
theorem dX5_wouldGoAt_25 : decode cX5_wouldGoAt 25 = .ok (.ireturn, 1) := by decide +kernel
set_option maxRecDepth 20000 in
theorem ggX5_finishes_X5_sayingIs : GoodIn wsX5_finishes wsX5_sayingIs := goodIn_r _ [6, 1, 7, 8, 5, 9, 14, 15, 16, 17, 18, 19, 20, 21, 22, 23, 24, 25, 26, 27, 28, 29, 30, 31, 32, 33, 34] (by decide +kernel) (by decide +kernel)
set_option maxRecDepth 20000 in
theorem gX5_finishes_X5_sayingIs : GoodIn wsX5_finishes (wsV RX5 108 RX5 yX5_sayingIs wsX5_sayingIs) := goodIn_app (goodIn_of _ (by decide +kernel)) ggX5_finishes_X5_sayingIs
set_option maxRecDepth 20000 in
theorem ggX5_finishes_X5_resists : GoodIn wsX5_finishes wsX5_resists := goodIn_r _ [13, 2, 3, 4, 5, 6, 1, 7, 8, 9, 14, 15, 16, 17, 18, 19, 20, 21, 22, 23, 24, 25, 26, 27, 28, 29, 30, 31, 32, 33, 34] (by decide +kernel) (by decide +kernel)
set_option maxRecDepth 20000 in
theorem gX5_finishes_X5_resists : GoodIn wsX5_finishes (wsV RX5 120 RX5 yX5_resists wsX5_resists) := goodIn_app (goodIn_of _ (by decide +kernel)) ggX5_finishes_X5_resists
set_option maxRecDepth 20000 in
theorem ggX5_finishes_X5_sayingAt : GoodIn wsX5_finishes wsX5_sayingAt := goodIn_r _ [9] (by decide +kernel) (by decide +kernel)
set_option maxRecDepth 20000 in
theorem gX5_finishes_X5_sayingAt : GoodIn wsX5_finishes (va_wsS RX5 82 yX5_sayingAt wsX5_sayingAt) := goodIn_app (goodIn_of _ (by decide +kernel)) ggX5_finishes_X5_sayingAt
theorem dX5_finishes_0 : decode cX5_finishes 0 = .ok (.aload_n 0, 1) := by decide +kernel
theorem dX5_finishes_1 : decode cX5_finishes 1 = .ok (.iload_n 1, 1) := by decide +kernel
theorem dX5_finishes_2 : decode cX5_finishes 2 = .ok (.iconst 2, 1) := by decide +kernel
theorem dX5_finishes_3 : decode cX5_finishes 3 = .ok (.invokevirtual 108, 3) := by decide +kernel
theorem dX5_finishes_6 : decode cX5_finishes 6 = .ok (.aload_n 0, 1) := by decide +kernel
theorem dX5_finishes_7 : decode cX5_finishes 7 = .ok (.iload_n 1, 1) := by decide +kernel
theorem dX5_finishes_8 : decode cX5_finishes 8 = .ok (.invokevirtual 120, 3) := by decide +kernel
theorem dX5_finishes_11 : decode cX5_finishes 11 = .ok (.if_icmp .gt 17, 3) := by decide +kernel
theorem dX5_finishes_14 : decode cX5_finishes 14 = .ok (.aload_n 0, 1) := by decide +kernel
theorem dX5_finishes_15 : decode cX5_finishes 15 = .ok (.getfield 9, 3) := by decide +kernel
theorem dX5_finishes_18 : decode cX5_finishes 18 = .ok (.iload_n 1, 1) := by decide +kernel
theorem dX5_finishes_19 : decode cX5_finishes 19 = .ok (.iconst 3, 1) := by decide +kernel
theorem dX5_finishes_20 : decode cX5_finishes 20 = .ok (.invokestatic 82, 3) := by decide +kernel
theorem dX5_finishes_23 : decode cX5_finishes 23 = .ok (.iconst 1, 1) := by decide +kernel
theorem dX5_finishes_24 : decode cX5_finishes 24 = .ok (.iastore, 1) := by decide +kernel
theorem dX5_finishes_25 : decode cX5_finishes 25 = .ok (.goto 17, 3) := by decide +kernel
theorem dX5_finishes_28 : decode cX5_finishes 28 = .ok (.aload_n 0, 1) := by decide +kernel
theorem dX5_finishes_29 : decode cX5_finishes 29 = .ok (.getfield 9, 3) := by decide +kernel
theorem dX5_finishes_32 : decode cX5_finishes 32 = .ok (.iload_n 1, 1) := by decide +kernel
theorem dX5_finishes_33 : decode cX5_finishes 33 = .ok (.iconst 2, 1) := by decide +kernel
theorem dX5_finishes_34 : decode cX5_finishes 34 = .ok (.invokestatic 82, 3) := by decide +kernel
theorem dX5_finishes_37 : decode cX5_finishes 37 = .ok (.dup2, 1) := by decide +kernel
theorem dX5_finishes_38 : decode cX5_finishes 38 = .ok (.iaload, 1) := by decide +kernel
theorem dX5_finishes_39 : decode cX5_finishes 39 = .ok (.iconst 2, 1) := by decide +kernel
theorem dX5_finishes_40 : decode cX5_finishes 40 = .ok (.idiv, 1) := by decide +kernel
theorem dX5_finishes_41 : decode cX5_finishes 41 = .ok (.iastore, 1) := by decide +kernel
theorem dX5_finishes_42 : decode cX5_finishes 42 = .ok (.return_, 1) := by decide +kernel
set_option maxRecDepth 20000 in
theorem ggX5_day_X5_shipIs : GoodIn wsX5_day wsX5_shipIs := goodIn_r _ [14, 1, 15, 16, 13, 17, 75, 76, 77, 78, 79, 80, 81, 82, 83, 84, 85, 86, 87, 88, 89, 90, 91, 92, 93, 94, 95] (by decide +kernel) (by decide +kernel)
set_option maxRecDepth 20000 in
theorem gX5_day_X5_shipIs : GoodIn wsX5_day (wsV RX5 136 RX5 yX5_shipIs wsX5_shipIs) := goodIn_app (goodIn_of _ (by decide +kernel)) ggX5_day_X5_shipIs
set_option maxRecDepth 20000 in
theorem ggX5_day_X5_wouldGoAt : GoodIn wsX5_day wsX5_wouldGoAt := goodIn_r _ [21, 10, 11, 12, 13, 14, 1, 15, 16, 17, 22, 23, 24, 25, 26, 27, 4, 28, 6, 7, 8, 29, 30, 31, 32, 33, 34, 35, 36, 37, 38, 39, 40, 41, 42, 43, 75, 76, 77, 78, 79, 80, 81, 82, 83, 84, 85, 86, 87, 88, 89, 90, 91, 92, 93, 94, 95] (by decide +kernel) (by decide +kernel)
set_option maxRecDepth 20000 in
theorem gX5_day_X5_wouldGoAt : GoodIn wsX5_day (wsV RX5 156 RX5 yX5_wouldGoAt wsX5_wouldGoAt) := goodIn_app (goodIn_of _ (by decide +kernel)) ggX5_day_X5_wouldGoAt
set_option maxRecDepth 20000 in
theorem ggX5_day_X5_shipAt : GoodIn wsX5_day wsX5_shipAt := goodIn_r _ [17] (by decide +kernel) (by decide +kernel)
set_option maxRecDepth 20000 in
theorem gX5_day_X5_shipAt : GoodIn wsX5_day (va_wsS RX5 85 yX5_shipAt wsX5_shipAt) := goodIn_app (goodIn_of _ (by decide +kernel)) ggX5_day_X5_shipAt
set_option maxRecDepth 20000 in
theorem ggX5_day_X5_more : GoodIn wsX5_day wsX5_more := goodIn_r _ [47, 1, 2, 3, 4, 5, 75, 76, 77, 78, 79, 80, 81, 82, 83, 84, 85, 86, 87, 88, 89, 90, 91, 92, 93, 94, 95] (by decide +kernel) (by decide +kernel)
set_option maxRecDepth 20000 in
theorem gX5_day_X5_more : GoodIn wsX5_day (wsV RX5 159 RX5 yX5_more wsX5_more) := goodIn_app (goodIn_of _ (by decide +kernel)) ggX5_day_X5_more
set_option maxRecDepth 20000 in
theorem ggX5_day_X5_isInPort : GoodIn wsX5_day wsX5_isInPort := goodIn_r _ [51, 10, 11, 12, 13, 14, 1, 15, 16, 17, 75, 76, 77, 78, 79, 80, 81, 82, 83, 84, 85, 86, 87, 88, 89, 90, 91, 92, 93, 94, 95] (by decide +kernel) (by decide +kernel)
set_option maxRecDepth 20000 in
theorem gX5_day_X5_isInPort : GoodIn wsX5_day (wsV RX5 163 RX5 yX5_isInPort wsX5_isInPort) := goodIn_app (goodIn_of _ (by decide +kernel)) ggX5_day_X5_isInPort
set_option maxRecDepth 20000 in
theorem ggX5_day_X5_placeNow : GoodIn wsX5_day wsX5_placeNow := goodIn_r _ [55, 1, 75, 76, 77, 78, 79, 80, 81, 82, 83, 84, 85, 86, 87, 88, 89, 90, 91, 92, 93, 94, 95] (by decide +kernel) (by decide +kernel)
set_option maxRecDepth 20000 in
theorem gX5_day_X5_placeNow : GoodIn wsX5_day (wsV RX5 166 RX5 yX5_placeNow wsX5_placeNow) := goodIn_app (goodIn_of _ (by decide +kernel)) ggX5_day_X5_placeNow
set_option maxRecDepth 20000 in
theorem ggX5_day_X5_isSaying : GoodIn wsX5_day wsX5_isSaying := goodIn_r _ [59, 1, 60, 61, 13, 62, 75, 76, 77, 78, 79, 80, 81, 82, 83, 84, 85, 86, 87, 88, 89, 90, 91, 92, 93, 94, 95] (by decide +kernel) (by decide +kernel)
set_option maxRecDepth 20000 in
theorem gX5_day_X5_isSaying : GoodIn wsX5_day (wsV RX5 123 RX5 yX5_isSaying wsX5_isSaying) := goodIn_app (goodIn_of _ (by decide +kernel)) ggX5_day_X5_isSaying
set_option maxRecDepth 20000 in
theorem ggX5_day_X5_sayingIs : GoodIn wsX5_day wsX5_sayingIs := goodIn_r _ [32, 1, 33, 34, 13, 35, 75, 76, 77, 78, 79, 80, 81, 82, 83, 84, 85, 86, 87, 88, 89, 90, 91, 92, 93, 94, 95] (by decide +kernel) (by decide +kernel)
set_option maxRecDepth 20000 in
theorem gX5_day_X5_sayingIs : GoodIn wsX5_day (wsV RX5 108 RX5 yX5_sayingIs wsX5_sayingIs) := goodIn_app (goodIn_of _ (by decide +kernel)) ggX5_day_X5_sayingIs
set_option maxRecDepth 20000 in
theorem ggX5_day_X5_finishes : GoodIn wsX5_day wsX5_finishes := goodIn_r _ [66, 1, 29, 30, 31, 13, 32, 33, 34, 35, 67, 68, 69, 70, 75, 76, 77, 78, 79, 80, 81, 82, 83, 84, 85, 86, 87, 88, 89, 90, 91, 92, 93, 94, 95] (by decide +kernel) (by decide +kernel)
set_option maxRecDepth 20000 in
theorem gX5_day_X5_finishes : GoodIn wsX5_day (wsV RX5 170 RX5 yX5_finishes wsX5_finishes) := goodIn_app (goodIn_of _ (by decide +kernel)) ggX5_day_X5_finishes
set_option maxRecDepth 20000 in
theorem ggX5_day_X5_sayingAt : GoodIn wsX5_day wsX5_sayingAt := goodIn_r _ [35] (by decide +kernel) (by decide +kernel)
set_option maxRecDepth 20000 in
theorem gX5_day_X5_sayingAt : GoodIn wsX5_day (va_wsS RX5 82 yX5_sayingAt wsX5_sayingAt) := goodIn_app (goodIn_of _ (by decide +kernel)) ggX5_day_X5_sayingAt
set_option maxRecDepth 20000 in
theorem ggX5_day_X5_blurs : GoodIn wsX5_day wsX5_blurs := goodIn_r _ [74, 1, 29, 30, 31, 13, 32, 33, 34, 35, 75, 76, 77, 78, 79, 80, 81, 82, 83, 84, 85, 86, 87, 88, 89, 90, 91, 92, 93, 94, 95] (by decide +kernel) (by decide +kernel)
set_option maxRecDepth 20000 in
theorem gX5_day_X5_blurs : GoodIn wsX5_day (wsV RX5 117 RX5 yX5_blurs wsX5_blurs) := goodIn_app (goodIn_of _ (by decide +kernel)) ggX5_day_X5_blurs
theorem dX5_day_0 : decode cX5_day 0 = .ok (.iconst 0, 1) := by decide +kernel
theorem dX5_day_1 : decode cX5_day 1 = .ok (.istore_n 1, 1) := by decide +kernel
theorem dX5_day_2 : decode cX5_day 2 = .ok (.iload_n 1, 1) := by decide +kernel
theorem dX5_day_3 : decode cX5_day 3 = .ok (.aload_n 0, 1) := by decide +kernel
theorem dX5_day_4 : decode cX5_day 4 = .ok (.getfield 9, 3) := by decide +kernel
theorem dX5_day_7 : decode cX5_day 7 = .ok (.iconst 3, 1) := by decide +kernel
theorem dX5_day_8 : decode cX5_day 8 = .ok (.iaload, 1) := by decide +kernel
theorem dX5_day_9 : decode cX5_day 9 = .ok (.if_icmp .ge 64, 3) := by decide +kernel
theorem dX5_day_12 : decode cX5_day 12 = .ok (.aload_n 0, 1) := by decide +kernel
theorem dX5_day_13 : decode cX5_day 13 = .ok (.iload_n 1, 1) := by decide +kernel
theorem dX5_day_14 : decode cX5_day 14 = .ok (.aload_n 0, 1) := by decide +kernel
theorem dX5_day_15 : decode cX5_day 15 = .ok (.iload_n 1, 1) := by decide +kernel
theorem dX5_day_16 : decode cX5_day 16 = .ok (.iconst 0, 1) := by decide +kernel
theorem dX5_day_17 : decode cX5_day 17 = .ok (.invokevirtual 136, 3) := by decide +kernel
theorem dX5_day_20 : decode cX5_day 20 = .ok (.invokevirtual 156, 3) := by decide +kernel
theorem dX5_day_23 : decode cX5_day 23 = .ok (.ifCond .eq 23, 3) := by decide +kernel
theorem dX5_day_26 : decode cX5_day 26 = .ok (.aload_n 0, 1) := by decide +kernel
theorem dX5_day_27 : decode cX5_day 27 = .ok (.iload_n 1, 1) := by decide +kernel
theorem dX5_day_28 : decode cX5_day 28 = .ok (.iconst 0, 1) := by decide +kernel
theorem dX5_day_29 : decode cX5_day 29 = .ok (.invokestatic 85, 3) := by decide +kernel
theorem dX5_day_32 : decode cX5_day 32 = .ok (.aload_n 0, 1) := by decide +kernel
theorem dX5_day_33 : decode cX5_day 33 = .ok (.iload_n 1, 1) := by decide +kernel
theorem dX5_day_34 : decode cX5_day 34 = .ok (.iconst 2, 1) := by decide +kernel
theorem dX5_day_35 : decode cX5_day 35 = .ok (.invokevirtual 136, 3) := by decide +kernel
theorem dX5_day_38 : decode cX5_day 38 = .ok (.bipush 15, 2) := by decide +kernel
theorem dX5_day_40 : decode cX5_day 40 = .ok (.invokevirtual 159, 3) := by decide +kernel
theorem dX5_day_43 : decode cX5_day 43 = .ok (.goto 24, 3) := by decide +kernel
theorem dX5_day_46 : decode cX5_day 46 = .ok (.aload_n 0, 1) := by decide +kernel
theorem dX5_day_47 : decode cX5_day 47 = .ok (.iload_n 1, 1) := by decide +kernel
theorem dX5_day_48 : decode cX5_day 48 = .ok (.invokevirtual 163, 3) := by decide +kernel
theorem dX5_day_51 : decode cX5_day 51 = .ok (.ifCond .ne 16, 3) := by decide +kernel
theorem dX5_day_54 : decode cX5_day 54 = .ok (.aload_n 0, 1) := by decide +kernel
theorem dX5_day_55 : decode cX5_day 55 = .ok (.iload_n 1, 1) := by decide +kernel
theorem dX5_day_56 : decode cX5_day 56 = .ok (.iconst 3, 1) := by decide +kernel
theorem dX5_day_57 : decode cX5_day 57 = .ok (.invokestatic 85, 3) := by decide +kernel
theorem dX5_day_60 : decode cX5_day 60 = .ok (.iconst 1, 1) := by decide +kernel
theorem dX5_day_61 : decode cX5_day 61 = .ok (.sipush 9999, 3) := by decide +kernel
theorem dX5_day_64 : decode cX5_day 64 = .ok (.invokevirtual 159, 3) := by decide +kernel
theorem dX5_day_67 : decode cX5_day 67 = .ok (.iinc 1 1, 3) := by decide +kernel
theorem dX5_day_70 : decode cX5_day 70 = .ok (.goto (-68), 3) := by decide +kernel
theorem dX5_day_73 : decode cX5_day 73 = .ok (.aload_n 0, 1) := by decide +kernel
theorem dX5_day_74 : decode cX5_day 74 = .ok (.getfield 9, 3) := by decide +kernel
theorem dX5_day_77 : decode cX5_day 77 = .ok (.aload_n 0, 1) := by decide +kernel
theorem dX5_day_78 : decode cX5_day 78 = .ok (.invokevirtual 166, 3) := by decide +kernel
theorem dX5_day_81 : decode cX5_day 81 = .ok (.iaload, 1) := by decide +kernel
theorem dX5_day_82 : decode cX5_day 82 = .ok (.istore_n 1, 1) := by decide +kernel
theorem dX5_day_83 : decode cX5_day 83 = .ok (.aload_n 0, 1) := by decide +kernel
theorem dX5_day_84 : decode cX5_day 84 = .ok (.iload_n 1, 1) := by decide +kernel
theorem dX5_day_85 : decode cX5_day 85 = .ok (.invokevirtual 123, 3) := by decide +kernel
theorem dX5_day_88 : decode cX5_day 88 = .ok (.ifCond .eq 17, 3) := by decide +kernel
theorem dX5_day_91 : decode cX5_day 91 = .ok (.aload_n 0, 1) := by decide +kernel
theorem dX5_day_92 : decode cX5_day 92 = .ok (.iload_n 1, 1) := by decide +kernel
theorem dX5_day_93 : decode cX5_day 93 = .ok (.iconst 3, 1) := by decide +kernel
theorem dX5_day_94 : decode cX5_day 94 = .ok (.invokevirtual 108, 3) := by decide +kernel
theorem dX5_day_97 : decode cX5_day 97 = .ok (.ifCond .ne 8, 3) := by decide +kernel
theorem dX5_day_100 : decode cX5_day 100 = .ok (.aload_n 0, 1) := by decide +kernel
theorem dX5_day_101 : decode cX5_day 101 = .ok (.iload_n 1, 1) := by decide +kernel
theorem dX5_day_102 : decode cX5_day 102 = .ok (.invokevirtual 170, 3) := by decide +kernel
theorem dX5_day_105 : decode cX5_day 105 = .ok (.iconst 0, 1) := by decide +kernel
theorem dX5_day_106 : decode cX5_day 106 = .ok (.istore_n 2, 1) := by decide +kernel
theorem dX5_day_107 : decode cX5_day 107 = .ok (.iload_n 2, 1) := by decide +kernel
theorem dX5_day_108 : decode cX5_day 108 = .ok (.aload_n 0, 1) := by decide +kernel
theorem dX5_day_109 : decode cX5_day 109 = .ok (.getfield 9, 3) := by decide +kernel
theorem dX5_day_112 : decode cX5_day 112 = .ok (.iconst 1, 1) := by decide +kernel
theorem dX5_day_113 : decode cX5_day 113 = .ok (.iaload, 1) := by decide +kernel
theorem dX5_day_114 : decode cX5_day 114 = .ok (.if_icmp .ge 62, 3) := by decide +kernel
theorem dX5_day_117 : decode cX5_day 117 = .ok (.aload_n 0, 1) := by decide +kernel
theorem dX5_day_118 : decode cX5_day 118 = .ok (.iload_n 2, 1) := by decide +kernel
theorem dX5_day_119 : decode cX5_day 119 = .ok (.iconst 3, 1) := by decide +kernel
theorem dX5_day_120 : decode cX5_day 120 = .ok (.invokevirtual 108, 3) := by decide +kernel
theorem dX5_day_123 : decode cX5_day 123 = .ok (.ifCond .ne 47, 3) := by decide +kernel
theorem dX5_day_126 : decode cX5_day 126 = .ok (.aload_n 0, 1) := by decide +kernel
theorem dX5_day_127 : decode cX5_day 127 = .ok (.getfield 9, 3) := by decide +kernel
theorem dX5_day_130 : decode cX5_day 130 = .ok (.iload_n 2, 1) := by decide +kernel
theorem dX5_day_131 : decode cX5_day 131 = .ok (.iconst 2, 1) := by decide +kernel
theorem dX5_day_132 : decode cX5_day 132 = .ok (.invokestatic 82, 3) := by decide +kernel
theorem dX5_day_135 : decode cX5_day 135 = .ok (.iconst 0, 1) := by decide +kernel
theorem dX5_day_136 : decode cX5_day 136 = .ok (.bipush 99, 2) := by decide +kernel
theorem dX5_day_138 : decode cX5_day 138 = .ok (.aload_n 0, 1) := by decide +kernel
theorem dX5_day_139 : decode cX5_day 139 = .ok (.iload_n 2, 1) := by decide +kernel
theorem dX5_day_140 : decode cX5_day 140 = .ok (.iconst 2, 1) := by decide +kernel
theorem dX5_day_141 : decode cX5_day 141 = .ok (.invokevirtual 108, 3) := by decide +kernel
theorem dX5_day_144 : decode cX5_day 144 = .ok (.aload_n 0, 1) := by decide +kernel
theorem dX5_day_145 : decode cX5_day 145 = .ok (.iload_n 2, 1) := by decide +kernel
theorem dX5_day_146 : decode cX5_day 146 = .ok (.invokevirtual 117, 3) := by decide +kernel
theorem dX5_day_149 : decode cX5_day 149 = .ok (.iadd, 1) := by decide +kernel
theorem dX5_day_150 : decode cX5_day 150 = .ok (.invokestatic 153, 3) := by decide +kernel
theorem dX5_day_153 : decode cX5_day 153 = .ok (.invokestatic 147, 3) := by decide +kernel
theorem dX5_day_156 : decode cX5_day 156 = .ok (.iastore, 1) := by decide +kernel
theorem dX5_day_157 : decode cX5_day 157 = .ok (.aload_n 0, 1) := by decide +kernel
theorem dX5_day_158 : decode cX5_day 158 = .ok (.iload_n 2, 1) := by decide +kernel
theorem dX5_day_159 : decode cX5_day 159 = .ok (.iconst 4, 1) := by decide +kernel
theorem dX5_day_160 : decode cX5_day 160 = .ok (.invokestatic 82, 3) := by decide +kernel
theorem dX5_day_163 : decode cX5_day 163 = .ok (.iconst 1, 1) := by decide +kernel
theorem dX5_day_164 : decode cX5_day 164 = .ok (.sipush 9999, 3) := by decide +kernel
theorem dX5_day_167 : decode cX5_day 167 = .ok (.invokevirtual 159, 3) := by decide +kernel
theorem dX5_day_170 : decode cX5_day 170 = .ok (.iinc 2 1, 3) := by decide +kernel
theorem dX5_day_173 : decode cX5_day 173 = .ok (.goto (-66), 3) := by decide +kernel
theorem dX5_day_176 : decode cX5_day 176 = .ok (.aload_n 0, 1) := by decide +kernel
theorem dX5_day_177 : decode cX5_day 177 = .ok (.iconst 0, 1) := by decide +kernel
theorem dX5_day_178 : decode cX5_day 178 = .ok (.iconst 1, 1) := by decide +kernel
theorem dX5_day_179 : decode cX5_day 179 = .ok (.ldc 174, 2) := by decide +kernel
theorem dX5_day_181 : decode cX5_day 181 = .ok (.invokevirtual 159, 3) := by decide +kernel
theorem dX5_day_184 : decode cX5_day 184 = .ok (.return_, 1) := by decide +kernel
set_option maxRecDepth 20000 in
theorem ggX5_daysGo_X5_day : GoodIn wsX5_daysGo wsX5_day := goodIn_r _ [5, 6, 7, 8, 9, 10, 11, 12, 13, 14, 15, 16, 17, 4, 18, 19, 20, 21, 22, 23, 24, 25, 26, 27, 28, 29, 30, 31, 32, 33, 34, 35, 36, 37, 38, 39, 40, 41, 42, 43, 44, 45, 46, 47, 48, 49, 50, 51, 52, 53, 54, 55, 56, 57, 58, 59, 60, 61, 62, 63, 64, 65, 66, 67, 68, 69, 70, 71, 72, 73, 74, 75, 76, 77, 78, 79, 80, 81, 82, 83, 84, 85, 86, 87, 88, 89, 90, 91, 92, 93, 94, 95, 96, 97, 98, 99] (by decide +kernel) (by decide +kernel)
set_option maxRecDepth 20000 in
theorem gX5_daysGo_X5_day : GoodIn wsX5_daysGo (wsV RX5 175 RX5 yX5_day wsX5_day) := goodIn_app (goodIn_of _ (by decide +kernel)) ggX5_daysGo_X5_day
theorem dX5_daysGo_0 : decode cX5_daysGo 0 = .ok (.iconst 0, 1) := by decide +kernel
theorem dX5_daysGo_1 : decode cX5_daysGo 1 = .ok (.istore_n 2, 1) := by decide +kernel
theorem dX5_daysGo_2 : decode cX5_daysGo 2 = .ok (.iload_n 2, 1) := by decide +kernel
theorem dX5_daysGo_3 : decode cX5_daysGo 3 = .ok (.iload_n 1, 1) := by decide +kernel
theorem dX5_daysGo_4 : decode cX5_daysGo 4 = .ok (.if_icmp .ge 13, 3) := by decide +kernel
theorem dX5_daysGo_7 : decode cX5_daysGo 7 = .ok (.aload_n 0, 1) := by decide +kernel
theorem dX5_daysGo_8 : decode cX5_daysGo 8 = .ok (.invokevirtual 175, 3) := by decide +kernel
theorem dX5_daysGo_11 : decode cX5_daysGo 11 = .ok (.iinc 2 1, 3) := by decide +kernel
theorem dX5_daysGo_14 : decode cX5_daysGo 14 = .ok (.goto (-12), 3) := by decide +kernel
theorem dX5_daysGo_17 : decode cX5_daysGo 17 = .ok (.return_, 1) := by decide +kernel
set_option maxRecDepth 20000 in
theorem ggX5_inPort_X5_isInPort : GoodIn wsX5_inPort wsX5_isInPort := goodIn_r _ [6, 7, 8, 9, 5, 10, 1, 11, 12, 13, 14, 15, 16, 17, 18, 19, 20, 21, 22, 23, 24, 25, 26, 27, 28, 29, 30, 31, 32, 33, 34] (by decide +kernel) (by decide +kernel)
set_option maxRecDepth 20000 in
theorem gX5_inPort_X5_isInPort : GoodIn wsX5_inPort (wsV RX5 163 RX5 yX5_isInPort wsX5_isInPort) := goodIn_app (goodIn_of _ (by decide +kernel)) ggX5_inPort_X5_isInPort
theorem dX5_inPort_0 : decode cX5_inPort 0 = .ok (.iconst 0, 1) := by decide +kernel
theorem dX5_inPort_1 : decode cX5_inPort 1 = .ok (.istore_n 1, 1) := by decide +kernel
theorem dX5_inPort_2 : decode cX5_inPort 2 = .ok (.iconst 0, 1) := by decide +kernel
theorem dX5_inPort_3 : decode cX5_inPort 3 = .ok (.istore_n 2, 1) := by decide +kernel
theorem dX5_inPort_4 : decode cX5_inPort 4 = .ok (.iload_n 2, 1) := by decide +kernel
theorem dX5_inPort_5 : decode cX5_inPort 5 = .ok (.aload_n 0, 1) := by decide +kernel
theorem dX5_inPort_6 : decode cX5_inPort 6 = .ok (.getfield 9, 3) := by decide +kernel
theorem dX5_inPort_9 : decode cX5_inPort 9 = .ok (.iconst 3, 1) := by decide +kernel
theorem dX5_inPort_10 : decode cX5_inPort 10 = .ok (.iaload, 1) := by decide +kernel
theorem dX5_inPort_11 : decode cX5_inPort 11 = .ok (.if_icmp .ge 27, 3) := by decide +kernel
theorem dX5_inPort_14 : decode cX5_inPort 14 = .ok (.iload_n 1, 1) := by decide +kernel
theorem dX5_inPort_15 : decode cX5_inPort 15 = .ok (.aload_n 0, 1) := by decide +kernel
theorem dX5_inPort_16 : decode cX5_inPort 16 = .ok (.iload_n 2, 1) := by decide +kernel
theorem dX5_inPort_17 : decode cX5_inPort 17 = .ok (.invokevirtual 163, 3) := by decide +kernel
theorem dX5_inPort_20 : decode cX5_inPort 20 = .ok (.ifCond .eq 9, 3) := by decide +kernel
theorem dX5_inPort_23 : decode cX5_inPort 23 = .ok (.iconst 1, 1) := by decide +kernel
theorem dX5_inPort_24 : decode cX5_inPort 24 = .ok (.iload_n 2, 1) := by decide +kernel
theorem dX5_inPort_25 : decode cX5_inPort 25 = .ok (.ishl, 1) := by decide +kernel
theorem dX5_inPort_26 : decode cX5_inPort 26 = .ok (.goto 4, 3) := by decide +kernel
theorem dX5_inPort_29 : decode cX5_inPort 29 = .ok (.iconst 0, 1) := by decide +kernel
theorem dX5_inPort_30 : decode cX5_inPort 30 = .ok (.ior, 1) := by decide +kernel
theorem dX5_inPort_31 : decode cX5_inPort 31 = .ok (.istore_n 1, 1) := by decide +kernel
theorem dX5_inPort_32 : decode cX5_inPort 32 = .ok (.iinc 2 1, 3) := by decide +kernel
theorem dX5_inPort_35 : decode cX5_inPort 35 = .ok (.goto (-31), 3) := by decide +kernel
theorem dX5_inPort_38 : decode cX5_inPort 38 = .ok (.iload_n 1, 1) := by decide +kernel
theorem dX5_inPort_39 : decode cX5_inPort 39 = .ok (.ireturn, 1) := by decide +kernel
set_option maxRecDepth 20000 in
theorem ggX5_go_X5_within : GoodIn wsX5_go wsX5_within := goodIn_r _ [8] (by decide +kernel) (by decide +kernel)
set_option maxRecDepth 20000 in
theorem gX5_go_X5_within : GoodIn wsX5_go (va_wsS RX5 70 yX5_within wsX5_within) := goodIn_app (goodIn_of _ (by decide +kernel)) ggX5_go_X5_within
set_option maxRecDepth 20000 in
theorem ggX5_go_X5_finding : GoodIn wsX5_go wsX5_finding := goodIn_r _ [12, 13, 1, 94, 95, 96, 97, 98, 99, 100, 101, 102, 103, 104, 105, 106, 107, 108, 109, 110, 111, 112, 113, 114] (by decide +kernel) (by decide +kernel)
set_option maxRecDepth 20000 in
theorem gX5_go_X5_finding : GoodIn wsX5_go (wsV RX5 66 RX5 yX5_finding wsX5_finding) := goodIn_app (goodIn_of _ (by decide +kernel)) ggX5_go_X5_finding
set_option maxRecDepth 20000 in
theorem ggX5_go_X5_daysGo : GoodIn wsX5_go wsX5_daysGo := goodIn_r _ [17, 18, 19, 20, 7, 21, 2, 22, 23, 24, 25, 26, 27, 28, 3, 29, 30, 31, 32, 33, 34, 35, 36, 37, 38, 39, 40, 41, 42, 43, 44, 45, 46, 47, 48, 49, 50, 51, 52, 53, 54, 55, 56, 57, 58, 59, 60, 61, 62, 63, 64, 65, 66, 67, 68, 69, 70, 71, 72, 73, 74, 75, 76, 77, 5, 6, 8, 78, 79, 80, 81, 82, 83, 84, 85, 86, 87, 88, 89, 94, 95, 96, 97, 98, 99, 100, 101, 102, 103, 104, 105, 106, 107, 108, 109, 110, 111, 112, 113, 114] (by decide +kernel) (by decide +kernel)
set_option maxRecDepth 20000 in
theorem gX5_go_X5_daysGo : GoodIn wsX5_go (wsV RX5 179 RX5 yX5_daysGo wsX5_daysGo) := goodIn_app (goodIn_of _ (by decide +kernel)) ggX5_go_X5_daysGo
set_option maxRecDepth 20000 in
theorem ggX5_go_X5_inPort : GoodIn wsX5_go wsX5_inPort := goodIn_r _ [93, 2, 66, 67, 68, 7, 69, 29, 30, 31, 32, 33, 34, 35, 94, 95, 96, 97, 98, 99, 100, 101, 102, 103, 104, 105, 106, 107, 108, 109, 110, 111, 112, 113, 114] (by decide +kernel) (by decide +kernel)
set_option maxRecDepth 20000 in
theorem gX5_go_X5_inPort : GoodIn wsX5_go (wsV RX5 182 RX5 yX5_inPort wsX5_inPort) := goodIn_app (goodIn_of _ (by decide +kernel)) ggX5_go_X5_inPort
theorem dX5_go_0 : decode cX5_go 0 = .ok (.iload_n 1, 1) := by decide +kernel
theorem dX5_go_1 : decode cX5_go 1 = .ok (.iconst 1, 1) := by decide +kernel
theorem dX5_go_2 : decode cX5_go 2 = .ok (.bipush 60, 2) := by decide +kernel
theorem dX5_go_4 : decode cX5_go 4 = .ok (.invokestatic 70, 3) := by decide +kernel
theorem dX5_go_7 : decode cX5_go 7 = .ok (.ifCond .ne 10, 3) := by decide +kernel
theorem dX5_go_10 : decode cX5_go 10 = .ok (.aload_n 0, 1) := by decide +kernel
theorem dX5_go_11 : decode cX5_go 11 = .ok (.ldc 60, 2) := by decide +kernel
theorem dX5_go_13 : decode cX5_go 13 = .ok (.invokevirtual 66, 3) := by decide +kernel
theorem dX5_go_16 : decode cX5_go 16 = .ok (.ireturn, 1) := by decide +kernel
theorem dX5_go_17 : decode cX5_go 17 = .ok (.aload_n 0, 1) := by decide +kernel
theorem dX5_go_18 : decode cX5_go 18 = .ok (.getfield 9, 3) := by decide +kernel
theorem dX5_go_21 : decode cX5_go 21 = .ok (.iconst 0, 1) := by decide +kernel
theorem dX5_go_22 : decode cX5_go 22 = .ok (.iaload, 1) := by decide +kernel
theorem dX5_go_23 : decode cX5_go 23 = .ok (.iload_n 1, 1) := by decide +kernel
theorem dX5_go_24 : decode cX5_go 24 = .ok (.iadd, 1) := by decide +kernel
theorem dX5_go_25 : decode cX5_go 25 = .ok (.ldc 174, 2) := by decide +kernel
theorem dX5_go_27 : decode cX5_go 27 = .ok (.if_icmp .le 10, 3) := by decide +kernel
theorem dX5_go_30 : decode cX5_go 30 = .ok (.aload_n 0, 1) := by decide +kernel
theorem dX5_go_31 : decode cX5_go 31 = .ok (.ldc 178, 2) := by decide +kernel
theorem dX5_go_33 : decode cX5_go 33 = .ok (.invokevirtual 66, 3) := by decide +kernel
theorem dX5_go_36 : decode cX5_go 36 = .ok (.ireturn, 1) := by decide +kernel
theorem dX5_go_37 : decode cX5_go 37 = .ok (.aload_n 0, 1) := by decide +kernel
theorem dX5_go_38 : decode cX5_go 38 = .ok (.iload_n 1, 1) := by decide +kernel
theorem dX5_go_39 : decode cX5_go 39 = .ok (.invokevirtual 179, 3) := by decide +kernel
theorem dX5_go_42 : decode cX5_go 42 = .ok (.aload_n 0, 1) := by decide +kernel
theorem dX5_go_43 : decode cX5_go 43 = .ok (.invokevirtual 182, 3) := by decide +kernel
theorem dX5_go_46 : decode cX5_go 46 = .ok (.ireturn, 1) := by decide +kernel
set_option maxRecDepth 20000 in
theorem ggX5_finishedOnes_X5_sayingIs : GoodIn wsX5_finishedOnes wsX5_sayingIs := goodIn_r _ [6, 1, 7, 8, 5, 9, 10, 11, 12, 13, 14, 15, 16, 17, 18, 19, 20, 21, 22, 23, 24, 25, 26, 27, 28, 29, 30] (by decide +kernel) (by decide +kernel)
set_option maxRecDepth 20000 in
theorem gX5_finishedOnes_X5_sayingIs : GoodIn wsX5_finishedOnes (wsV RX5 108 RX5 yX5_sayingIs wsX5_sayingIs) := goodIn_app (goodIn_of _ (by decide +kernel)) ggX5_finishedOnes_X5_sayingIs
theorem dX5_finishedOnes_0 : decode cX5_finishedOnes 0 = .ok (.iconst 0, 1) := by decide +kernel
theorem dX5_finishedOnes_1 : decode cX5_finishedOnes 1 = .ok (.istore_n 1, 1) := by decide +kernel
theorem dX5_finishedOnes_2 : decode cX5_finishedOnes 2 = .ok (.iconst 0, 1) := by decide +kernel
theorem dX5_finishedOnes_3 : decode cX5_finishedOnes 3 = .ok (.istore_n 2, 1) := by decide +kernel
theorem dX5_finishedOnes_4 : decode cX5_finishedOnes 4 = .ok (.iload_n 2, 1) := by decide +kernel
theorem dX5_finishedOnes_5 : decode cX5_finishedOnes 5 = .ok (.aload_n 0, 1) := by decide +kernel
theorem dX5_finishedOnes_6 : decode cX5_finishedOnes 6 = .ok (.getfield 9, 3) := by decide +kernel
theorem dX5_finishedOnes_9 : decode cX5_finishedOnes 9 = .ok (.iconst 1, 1) := by decide +kernel
theorem dX5_finishedOnes_10 : decode cX5_finishedOnes 10 = .ok (.iaload, 1) := by decide +kernel
theorem dX5_finishedOnes_11 : decode cX5_finishedOnes 11 = .ok (.if_icmp .ge 20, 3) := by decide +kernel
theorem dX5_finishedOnes_14 : decode cX5_finishedOnes 14 = .ok (.iload_n 1, 1) := by decide +kernel
theorem dX5_finishedOnes_15 : decode cX5_finishedOnes 15 = .ok (.aload_n 0, 1) := by decide +kernel
theorem dX5_finishedOnes_16 : decode cX5_finishedOnes 16 = .ok (.iload_n 2, 1) := by decide +kernel
theorem dX5_finishedOnes_17 : decode cX5_finishedOnes 17 = .ok (.iconst 3, 1) := by decide +kernel
theorem dX5_finishedOnes_18 : decode cX5_finishedOnes 18 = .ok (.invokevirtual 108, 3) := by decide +kernel
theorem dX5_finishedOnes_21 : decode cX5_finishedOnes 21 = .ok (.iload_n 2, 1) := by decide +kernel
theorem dX5_finishedOnes_22 : decode cX5_finishedOnes 22 = .ok (.ishl, 1) := by decide +kernel
theorem dX5_finishedOnes_23 : decode cX5_finishedOnes 23 = .ok (.ior, 1) := by decide +kernel
theorem dX5_finishedOnes_24 : decode cX5_finishedOnes 24 = .ok (.istore_n 1, 1) := by decide +kernel
theorem dX5_finishedOnes_25 : decode cX5_finishedOnes 25 = .ok (.iinc 2 1, 3) := by decide +kernel
theorem dX5_finishedOnes_28 : decode cX5_finishedOnes 28 = .ok (.goto (-24), 3) := by decide +kernel
theorem dX5_finishedOnes_31 : decode cX5_finishedOnes 31 = .ok (.iload_n 1, 1) := by decide +kernel
theorem dX5_finishedOnes_32 : decode cX5_finishedOnes 32 = .ok (.ireturn, 1) := by decide +kernel
set_option maxRecDepth 20000 in
theorem ggX5_vagueInAll_X5_sayingIs : GoodIn wsX5_vagueInAll wsX5_sayingIs := goodIn_r _ [6, 1, 7, 8, 5, 9, 10, 11, 12, 13, 14, 15, 16, 17, 18, 19, 20, 21, 22, 23, 24, 25, 26, 27, 28, 29, 30] (by decide +kernel) (by decide +kernel)
set_option maxRecDepth 20000 in
theorem gX5_vagueInAll_X5_sayingIs : GoodIn wsX5_vagueInAll (wsV RX5 108 RX5 yX5_sayingIs wsX5_sayingIs) := goodIn_app (goodIn_of _ (by decide +kernel)) ggX5_vagueInAll_X5_sayingIs
theorem dX5_vagueInAll_0 : decode cX5_vagueInAll 0 = .ok (.iconst 0, 1) := by decide +kernel
theorem dX5_vagueInAll_1 : decode cX5_vagueInAll 1 = .ok (.istore_n 1, 1) := by decide +kernel
theorem dX5_vagueInAll_2 : decode cX5_vagueInAll 2 = .ok (.iconst 0, 1) := by decide +kernel
theorem dX5_vagueInAll_3 : decode cX5_vagueInAll 3 = .ok (.istore_n 2, 1) := by decide +kernel
theorem dX5_vagueInAll_4 : decode cX5_vagueInAll 4 = .ok (.iload_n 2, 1) := by decide +kernel
theorem dX5_vagueInAll_5 : decode cX5_vagueInAll 5 = .ok (.aload_n 0, 1) := by decide +kernel
theorem dX5_vagueInAll_6 : decode cX5_vagueInAll 6 = .ok (.getfield 9, 3) := by decide +kernel
theorem dX5_vagueInAll_9 : decode cX5_vagueInAll 9 = .ok (.iconst 1, 1) := by decide +kernel
theorem dX5_vagueInAll_10 : decode cX5_vagueInAll 10 = .ok (.iaload, 1) := by decide +kernel
theorem dX5_vagueInAll_11 : decode cX5_vagueInAll 11 = .ok (.if_icmp .ge 32, 3) := by decide +kernel
theorem dX5_vagueInAll_14 : decode cX5_vagueInAll 14 = .ok (.iload_n 1, 1) := by decide +kernel
theorem dX5_vagueInAll_15 : decode cX5_vagueInAll 15 = .ok (.aload_n 0, 1) := by decide +kernel
theorem dX5_vagueInAll_16 : decode cX5_vagueInAll 16 = .ok (.iload_n 2, 1) := by decide +kernel
theorem dX5_vagueInAll_17 : decode cX5_vagueInAll 17 = .ok (.iconst 3, 1) := by decide +kernel
theorem dX5_vagueInAll_18 : decode cX5_vagueInAll 18 = .ok (.invokevirtual 108, 3) := by decide +kernel
theorem dX5_vagueInAll_21 : decode cX5_vagueInAll 21 = .ok (.iconst 1, 1) := by decide +kernel
theorem dX5_vagueInAll_22 : decode cX5_vagueInAll 22 = .ok (.if_icmp .ne 7, 3) := by decide +kernel
theorem dX5_vagueInAll_25 : decode cX5_vagueInAll 25 = .ok (.iconst 0, 1) := by decide +kernel
theorem dX5_vagueInAll_26 : decode cX5_vagueInAll 26 = .ok (.goto 9, 3) := by decide +kernel
theorem dX5_vagueInAll_29 : decode cX5_vagueInAll 29 = .ok (.aload_n 0, 1) := by decide +kernel
theorem dX5_vagueInAll_30 : decode cX5_vagueInAll 30 = .ok (.iload_n 2, 1) := by decide +kernel
theorem dX5_vagueInAll_31 : decode cX5_vagueInAll 31 = .ok (.iconst 2, 1) := by decide +kernel
theorem dX5_vagueInAll_32 : decode cX5_vagueInAll 32 = .ok (.invokevirtual 108, 3) := by decide +kernel
theorem dX5_vagueInAll_35 : decode cX5_vagueInAll 35 = .ok (.iadd, 1) := by decide +kernel
theorem dX5_vagueInAll_36 : decode cX5_vagueInAll 36 = .ok (.istore_n 1, 1) := by decide +kernel
theorem dX5_vagueInAll_37 : decode cX5_vagueInAll 37 = .ok (.iinc 2 1, 3) := by decide +kernel
theorem dX5_vagueInAll_40 : decode cX5_vagueInAll 40 = .ok (.goto (-36), 3) := by decide +kernel
theorem dX5_vagueInAll_43 : decode cX5_vagueInAll 43 = .ok (.iload_n 1, 1) := by decide +kernel
theorem dX5_vagueInAll_44 : decode cX5_vagueInAll 44 = .ok (.ireturn, 1) := by decide +kernel
set_option maxRecDepth 20000 in
theorem ggX5_waitedInAll_X5_shipIs : GoodIn wsX5_waitedInAll wsX5_shipIs := goodIn_r _ [6, 1, 7, 8, 5, 9, 10, 11, 12, 13, 14, 15, 16, 17, 18, 19, 20, 21, 22, 23, 24, 25, 26, 27, 28, 29, 30] (by decide +kernel) (by decide +kernel)
set_option maxRecDepth 20000 in
theorem gX5_waitedInAll_X5_shipIs : GoodIn wsX5_waitedInAll (wsV RX5 136 RX5 yX5_shipIs wsX5_shipIs) := goodIn_app (goodIn_of _ (by decide +kernel)) ggX5_waitedInAll_X5_shipIs
theorem dX5_waitedInAll_0 : decode cX5_waitedInAll 0 = .ok (.iconst 0, 1) := by decide +kernel
theorem dX5_waitedInAll_1 : decode cX5_waitedInAll 1 = .ok (.istore_n 1, 1) := by decide +kernel
theorem dX5_waitedInAll_2 : decode cX5_waitedInAll 2 = .ok (.iconst 0, 1) := by decide +kernel
theorem dX5_waitedInAll_3 : decode cX5_waitedInAll 3 = .ok (.istore_n 2, 1) := by decide +kernel
theorem dX5_waitedInAll_4 : decode cX5_waitedInAll 4 = .ok (.iload_n 2, 1) := by decide +kernel
theorem dX5_waitedInAll_5 : decode cX5_waitedInAll 5 = .ok (.aload_n 0, 1) := by decide +kernel
theorem dX5_waitedInAll_6 : decode cX5_waitedInAll 6 = .ok (.getfield 9, 3) := by decide +kernel
theorem dX5_waitedInAll_9 : decode cX5_waitedInAll 9 = .ok (.iconst 3, 1) := by decide +kernel
theorem dX5_waitedInAll_10 : decode cX5_waitedInAll 10 = .ok (.iaload, 1) := by decide +kernel
theorem dX5_waitedInAll_11 : decode cX5_waitedInAll 11 = .ok (.if_icmp .ge 18, 3) := by decide +kernel
theorem dX5_waitedInAll_14 : decode cX5_waitedInAll 14 = .ok (.iload_n 1, 1) := by decide +kernel
theorem dX5_waitedInAll_15 : decode cX5_waitedInAll 15 = .ok (.aload_n 0, 1) := by decide +kernel
theorem dX5_waitedInAll_16 : decode cX5_waitedInAll 16 = .ok (.iload_n 2, 1) := by decide +kernel
theorem dX5_waitedInAll_17 : decode cX5_waitedInAll 17 = .ok (.iconst 3, 1) := by decide +kernel
theorem dX5_waitedInAll_18 : decode cX5_waitedInAll 18 = .ok (.invokevirtual 136, 3) := by decide +kernel
theorem dX5_waitedInAll_21 : decode cX5_waitedInAll 21 = .ok (.iadd, 1) := by decide +kernel
theorem dX5_waitedInAll_22 : decode cX5_waitedInAll 22 = .ok (.istore_n 1, 1) := by decide +kernel
theorem dX5_waitedInAll_23 : decode cX5_waitedInAll 23 = .ok (.iinc 2 1, 3) := by decide +kernel
theorem dX5_waitedInAll_26 : decode cX5_waitedInAll 26 = .ok (.goto (-22), 3) := by decide +kernel
theorem dX5_waitedInAll_29 : decode cX5_waitedInAll 29 = .ok (.iload_n 1, 1) := by decide +kernel
theorem dX5_waitedInAll_30 : decode cX5_waitedInAll 30 = .ok (.ireturn, 1) := by decide +kernel
set_option maxRecDepth 20000 in
theorem ggX5_thickestCell_X5_thickAt : GoodIn wsX5_thickestCell wsX5_thickAt := goodIn_r _ [5, 6, 7, 8, 9, 10, 11, 12, 13, 14, 15, 16, 4, 17, 18, 19, 20, 21, 22, 23, 24, 25, 26, 27, 28, 29, 30, 31, 32, 33, 34, 35, 36, 37, 38, 39, 40, 41, 42, 43, 44, 45, 46, 47, 48, 49] (by decide +kernel) (by decide +kernel)
set_option maxRecDepth 20000 in
theorem gX5_thickestCell_X5_thickAt : GoodIn wsX5_thickestCell (wsV RX5 150 RX5 yX5_thickAt wsX5_thickAt) := goodIn_app (goodIn_of _ (by decide +kernel)) ggX5_thickestCell_X5_thickAt
theorem dX5_thickestCell_0 : decode cX5_thickestCell 0 = .ok (.iconst 0, 1) := by decide +kernel
theorem dX5_thickestCell_1 : decode cX5_thickestCell 1 = .ok (.istore_n 1, 1) := by decide +kernel
theorem dX5_thickestCell_2 : decode cX5_thickestCell 2 = .ok (.iconst 1, 1) := by decide +kernel
theorem dX5_thickestCell_3 : decode cX5_thickestCell 3 = .ok (.istore_n 2, 1) := by decide +kernel
theorem dX5_thickestCell_4 : decode cX5_thickestCell 4 = .ok (.iload_n 2, 1) := by decide +kernel
theorem dX5_thickestCell_5 : decode cX5_thickestCell 5 = .ok (.bipush 16, 2) := by decide +kernel
theorem dX5_thickestCell_7 : decode cX5_thickestCell 7 = .ok (.if_icmp .ge 28, 3) := by decide +kernel
theorem dX5_thickestCell_10 : decode cX5_thickestCell 10 = .ok (.aload_n 0, 1) := by decide +kernel
theorem dX5_thickestCell_11 : decode cX5_thickestCell 11 = .ok (.iload_n 2, 1) := by decide +kernel
theorem dX5_thickestCell_12 : decode cX5_thickestCell 12 = .ok (.invokevirtual 150, 3) := by decide +kernel
theorem dX5_thickestCell_15 : decode cX5_thickestCell 15 = .ok (.aload_n 0, 1) := by decide +kernel
theorem dX5_thickestCell_16 : decode cX5_thickestCell 16 = .ok (.iload_n 1, 1) := by decide +kernel
theorem dX5_thickestCell_17 : decode cX5_thickestCell 17 = .ok (.invokevirtual 150, 3) := by decide +kernel
theorem dX5_thickestCell_20 : decode cX5_thickestCell 20 = .ok (.if_icmp .le 7, 3) := by decide +kernel
theorem dX5_thickestCell_23 : decode cX5_thickestCell 23 = .ok (.iload_n 2, 1) := by decide +kernel
theorem dX5_thickestCell_24 : decode cX5_thickestCell 24 = .ok (.goto 4, 3) := by decide +kernel
theorem dX5_thickestCell_27 : decode cX5_thickestCell 27 = .ok (.iload_n 1, 1) := by decide +kernel
theorem dX5_thickestCell_28 : decode cX5_thickestCell 28 = .ok (.istore_n 1, 1) := by decide +kernel
theorem dX5_thickestCell_29 : decode cX5_thickestCell 29 = .ok (.iinc 2 1, 3) := by decide +kernel
theorem dX5_thickestCell_32 : decode cX5_thickestCell 32 = .ok (.goto (-28), 3) := by decide +kernel
theorem dX5_thickestCell_35 : decode cX5_thickestCell 35 = .ok (.iload_n 1, 1) := by decide +kernel
theorem dX5_thickestCell_36 : decode cX5_thickestCell 36 = .ok (.ireturn, 1) := by decide +kernel
set_option maxRecDepth 20000 in
theorem ggX5_clearCells_X5_thickAt : GoodIn wsX5_clearCells wsX5_thickAt := goodIn_r _ [5, 6, 7, 8, 9, 10, 11, 12, 13, 14, 15, 16, 4, 17, 18, 19, 20, 21, 22, 23, 24, 25, 26, 27, 28, 29, 30, 31, 32, 33, 34, 35, 36, 37, 38, 39, 40, 41, 42, 43, 44, 45, 46, 47, 48, 49] (by decide +kernel) (by decide +kernel)
set_option maxRecDepth 20000 in
theorem gX5_clearCells_X5_thickAt : GoodIn wsX5_clearCells (wsV RX5 150 RX5 yX5_thickAt wsX5_thickAt) := goodIn_app (goodIn_of _ (by decide +kernel)) ggX5_clearCells_X5_thickAt
theorem dX5_clearCells_0 : decode cX5_clearCells 0 = .ok (.iconst 0, 1) := by decide +kernel
theorem dX5_clearCells_1 : decode cX5_clearCells 1 = .ok (.istore_n 1, 1) := by decide +kernel
theorem dX5_clearCells_2 : decode cX5_clearCells 2 = .ok (.iconst 0, 1) := by decide +kernel
theorem dX5_clearCells_3 : decode cX5_clearCells 3 = .ok (.istore_n 2, 1) := by decide +kernel
theorem dX5_clearCells_4 : decode cX5_clearCells 4 = .ok (.iload_n 2, 1) := by decide +kernel
theorem dX5_clearCells_5 : decode cX5_clearCells 5 = .ok (.bipush 16, 2) := by decide +kernel
theorem dX5_clearCells_7 : decode cX5_clearCells 7 = .ok (.if_icmp .ge 27, 3) := by decide +kernel
theorem dX5_clearCells_10 : decode cX5_clearCells 10 = .ok (.iload_n 1, 1) := by decide +kernel
theorem dX5_clearCells_11 : decode cX5_clearCells 11 = .ok (.aload_n 0, 1) := by decide +kernel
theorem dX5_clearCells_12 : decode cX5_clearCells 12 = .ok (.iload_n 2, 1) := by decide +kernel
theorem dX5_clearCells_13 : decode cX5_clearCells 13 = .ok (.invokevirtual 150, 3) := by decide +kernel
theorem dX5_clearCells_16 : decode cX5_clearCells 16 = .ok (.ifCond .ne 9, 3) := by decide +kernel
theorem dX5_clearCells_19 : decode cX5_clearCells 19 = .ok (.iconst 1, 1) := by decide +kernel
theorem dX5_clearCells_20 : decode cX5_clearCells 20 = .ok (.iload_n 2, 1) := by decide +kernel
theorem dX5_clearCells_21 : decode cX5_clearCells 21 = .ok (.ishl, 1) := by decide +kernel
theorem dX5_clearCells_22 : decode cX5_clearCells 22 = .ok (.goto 4, 3) := by decide +kernel
theorem dX5_clearCells_25 : decode cX5_clearCells 25 = .ok (.iconst 0, 1) := by decide +kernel
theorem dX5_clearCells_26 : decode cX5_clearCells 26 = .ok (.ior, 1) := by decide +kernel
theorem dX5_clearCells_27 : decode cX5_clearCells 27 = .ok (.istore_n 1, 1) := by decide +kernel
theorem dX5_clearCells_28 : decode cX5_clearCells 28 = .ok (.iinc 2 1, 3) := by decide +kernel
theorem dX5_clearCells_31 : decode cX5_clearCells 31 = .ok (.goto (-27), 3) := by decide +kernel
theorem dX5_clearCells_34 : decode cX5_clearCells 34 = .ok (.iload_n 1, 1) := by decide +kernel
theorem dX5_clearCells_35 : decode cX5_clearCells 35 = .ok (.ireturn, 1) := by decide +kernel
set_option maxRecDepth 20000 in
theorem ggX5_goingOnes_X5_shipIs : GoodIn wsX5_goingOnes wsX5_shipIs := goodIn_r _ [6, 1, 7, 8, 5, 9, 40, 41, 42, 43, 44, 45, 46, 47, 48, 49, 50, 51, 52, 53, 54, 55, 56, 57, 58, 59, 60] (by decide +kernel) (by decide +kernel)
set_option maxRecDepth 20000 in
theorem gX5_goingOnes_X5_shipIs : GoodIn wsX5_goingOnes (wsV RX5 136 RX5 yX5_shipIs wsX5_shipIs) := goodIn_app (goodIn_of _ (by decide +kernel)) ggX5_goingOnes_X5_shipIs
set_option maxRecDepth 20000 in
theorem ggX5_goingOnes_X5_wouldGoAt : GoodIn wsX5_goingOnes wsX5_wouldGoAt := goodIn_r _ [13, 2, 3, 4, 5, 6, 1, 7, 8, 9, 14, 15, 16, 17, 18, 19, 20, 21, 22, 23, 24, 25, 26, 27, 28, 29, 30, 31, 32, 33, 34, 35, 36, 37, 38, 39, 40, 41, 42, 43, 44, 45, 46, 47, 48, 49, 50, 51, 52, 53, 54, 55, 56, 57, 58, 59, 60] (by decide +kernel) (by decide +kernel)
set_option maxRecDepth 20000 in
theorem gX5_goingOnes_X5_wouldGoAt : GoodIn wsX5_goingOnes (wsV RX5 156 RX5 yX5_wouldGoAt wsX5_wouldGoAt) := goodIn_app (goodIn_of _ (by decide +kernel)) ggX5_goingOnes_X5_wouldGoAt
theorem dX5_goingOnes_0 : decode cX5_goingOnes 0 = .ok (.iconst 0, 1) := by decide +kernel
theorem dX5_goingOnes_1 : decode cX5_goingOnes 1 = .ok (.istore_n 1, 1) := by decide +kernel
theorem dX5_goingOnes_2 : decode cX5_goingOnes 2 = .ok (.iconst 0, 1) := by decide +kernel
theorem dX5_goingOnes_3 : decode cX5_goingOnes 3 = .ok (.istore_n 2, 1) := by decide +kernel
theorem dX5_goingOnes_4 : decode cX5_goingOnes 4 = .ok (.iload_n 2, 1) := by decide +kernel
theorem dX5_goingOnes_5 : decode cX5_goingOnes 5 = .ok (.aload_n 0, 1) := by decide +kernel
theorem dX5_goingOnes_6 : decode cX5_goingOnes 6 = .ok (.getfield 9, 3) := by decide +kernel
theorem dX5_goingOnes_9 : decode cX5_goingOnes 9 = .ok (.iconst 3, 1) := by decide +kernel
theorem dX5_goingOnes_10 : decode cX5_goingOnes 10 = .ok (.iaload, 1) := by decide +kernel
theorem dX5_goingOnes_11 : decode cX5_goingOnes 11 = .ok (.if_icmp .ge 33, 3) := by decide +kernel
theorem dX5_goingOnes_14 : decode cX5_goingOnes 14 = .ok (.iload_n 1, 1) := by decide +kernel
theorem dX5_goingOnes_15 : decode cX5_goingOnes 15 = .ok (.aload_n 0, 1) := by decide +kernel
theorem dX5_goingOnes_16 : decode cX5_goingOnes 16 = .ok (.iload_n 2, 1) := by decide +kernel
theorem dX5_goingOnes_17 : decode cX5_goingOnes 17 = .ok (.aload_n 0, 1) := by decide +kernel
theorem dX5_goingOnes_18 : decode cX5_goingOnes 18 = .ok (.iload_n 2, 1) := by decide +kernel
theorem dX5_goingOnes_19 : decode cX5_goingOnes 19 = .ok (.iconst 0, 1) := by decide +kernel
theorem dX5_goingOnes_20 : decode cX5_goingOnes 20 = .ok (.invokevirtual 136, 3) := by decide +kernel
theorem dX5_goingOnes_23 : decode cX5_goingOnes 23 = .ok (.invokevirtual 156, 3) := by decide +kernel
theorem dX5_goingOnes_26 : decode cX5_goingOnes 26 = .ok (.ifCond .eq 9, 3) := by decide +kernel
theorem dX5_goingOnes_29 : decode cX5_goingOnes 29 = .ok (.iconst 1, 1) := by decide +kernel
theorem dX5_goingOnes_30 : decode cX5_goingOnes 30 = .ok (.iload_n 2, 1) := by decide +kernel
theorem dX5_goingOnes_31 : decode cX5_goingOnes 31 = .ok (.ishl, 1) := by decide +kernel
theorem dX5_goingOnes_32 : decode cX5_goingOnes 32 = .ok (.goto 4, 3) := by decide +kernel
theorem dX5_goingOnes_35 : decode cX5_goingOnes 35 = .ok (.iconst 0, 1) := by decide +kernel
theorem dX5_goingOnes_36 : decode cX5_goingOnes 36 = .ok (.ior, 1) := by decide +kernel
theorem dX5_goingOnes_37 : decode cX5_goingOnes 37 = .ok (.istore_n 1, 1) := by decide +kernel
theorem dX5_goingOnes_38 : decode cX5_goingOnes 38 = .ok (.iinc 2 1, 3) := by decide +kernel
theorem dX5_goingOnes_41 : decode cX5_goingOnes 41 = .ok (.goto (-37), 3) := by decide +kernel
theorem dX5_goingOnes_44 : decode cX5_goingOnes 44 = .ok (.iload_n 1, 1) := by decide +kernel
theorem dX5_goingOnes_45 : decode cX5_goingOnes 45 = .ok (.ireturn, 1) := by decide +kernel
set_option maxRecDepth 20000 in
theorem ggX5_now_X5_inPort : GoodIn wsX5_now wsX5_inPort := goodIn_r _ [7, 1, 8, 9, 10, 6, 11, 12, 13, 14, 15, 16, 17, 18, 78, 79, 80, 81, 82, 83, 84, 85, 86, 87, 88, 89, 90, 91, 92, 93, 94, 95, 96, 97, 98] (by decide +kernel) (by decide +kernel)
set_option maxRecDepth 20000 in
theorem gX5_now_X5_inPort : GoodIn wsX5_now (wsV RX5 182 RX5 yX5_inPort wsX5_inPort) := goodIn_app (goodIn_of _ (by decide +kernel)) ggX5_now_X5_inPort
set_option maxRecDepth 20000 in
theorem ggX5_now_X5_finishedOnes : GoodIn wsX5_now wsX5_finishedOnes := goodIn_r _ [22, 1, 23, 24, 25, 6, 26, 27, 28, 29, 78, 79, 80, 81, 82, 83, 84, 85, 86, 87, 88, 89, 90, 91, 92, 93, 94, 95, 96, 97, 98] (by decide +kernel) (by decide +kernel)
set_option maxRecDepth 20000 in
theorem gX5_now_X5_finishedOnes : GoodIn wsX5_now (wsV RX5 185 RX5 yX5_finishedOnes wsX5_finishedOnes) := goodIn_app (goodIn_of _ (by decide +kernel)) ggX5_now_X5_finishedOnes
set_option maxRecDepth 20000 in
theorem ggX5_now_X5_vagueInAll : GoodIn wsX5_now wsX5_vagueInAll := goodIn_r _ [33, 1, 23, 24, 25, 6, 26, 27, 28, 29, 78, 79, 80, 81, 82, 83, 84, 85, 86, 87, 88, 89, 90, 91, 92, 93, 94, 95, 96, 97, 98] (by decide +kernel) (by decide +kernel)
set_option maxRecDepth 20000 in
theorem gX5_now_X5_vagueInAll : GoodIn wsX5_now (wsV RX5 188 RX5 yX5_vagueInAll wsX5_vagueInAll) := goodIn_app (goodIn_of _ (by decide +kernel)) ggX5_now_X5_vagueInAll
set_option maxRecDepth 20000 in
theorem ggX5_now_X5_waitedInAll : GoodIn wsX5_now wsX5_waitedInAll := goodIn_r _ [37, 1, 12, 13, 14, 6, 15, 16, 17, 18, 78, 79, 80, 81, 82, 83, 84, 85, 86, 87, 88, 89, 90, 91, 92, 93, 94, 95, 96, 97, 98] (by decide +kernel) (by decide +kernel)
set_option maxRecDepth 20000 in
theorem gX5_now_X5_waitedInAll : GoodIn wsX5_now (wsV RX5 191 RX5 yX5_waitedInAll wsX5_waitedInAll) := goodIn_app (goodIn_of _ (by decide +kernel)) ggX5_now_X5_waitedInAll
set_option maxRecDepth 20000 in
theorem ggX5_now_X5_thickestCell : GoodIn wsX5_now wsX5_thickestCell := goodIn_r _ [41, 42, 43, 44, 6, 45, 1, 46, 47, 48, 49, 50, 51, 52, 23, 24, 25, 26, 27, 28, 29, 53, 54, 55, 56, 57, 58, 59, 60, 78, 79, 80, 81, 82, 83, 84, 85, 86, 87, 88, 89, 90, 91, 92, 93, 94, 95, 96, 97, 98] (by decide +kernel) (by decide +kernel)
set_option maxRecDepth 20000 in
theorem gX5_now_X5_thickestCell : GoodIn wsX5_now (wsV RX5 194 RX5 yX5_thickestCell wsX5_thickestCell) := goodIn_app (goodIn_of _ (by decide +kernel)) ggX5_now_X5_thickestCell
set_option maxRecDepth 20000 in
theorem ggX5_now_X5_clearCells : GoodIn wsX5_now wsX5_clearCells := goodIn_r _ [64, 42, 43, 44, 6, 45, 1, 46, 47, 48, 49, 50, 51, 52, 23, 24, 25, 26, 27, 28, 29, 53, 54, 55, 56, 57, 58, 59, 60, 78, 79, 80, 81, 82, 83, 84, 85, 86, 87, 88, 89, 90, 91, 92, 93, 94, 95, 96, 97, 98] (by decide +kernel) (by decide +kernel)
set_option maxRecDepth 20000 in
theorem gX5_now_X5_clearCells : GoodIn wsX5_now (wsV RX5 197 RX5 yX5_clearCells wsX5_clearCells) := goodIn_app (goodIn_of _ (by decide +kernel)) ggX5_now_X5_clearCells
set_option maxRecDepth 20000 in
theorem ggX5_now_X5_goingOnes : GoodIn wsX5_now wsX5_goingOnes := goodIn_r _ [68, 1, 12, 13, 14, 6, 15, 16, 17, 18, 69, 70, 71, 72, 42, 43, 44, 45, 46, 47, 48, 49, 50, 51, 52, 23, 24, 25, 26, 27, 28, 29, 53, 54, 55, 56, 57, 58, 59, 60, 78, 79, 80, 81, 82, 83, 84, 85, 86, 87, 88, 89, 90, 91, 92, 93, 94, 95, 96, 97, 98] (by decide +kernel) (by decide +kernel)
set_option maxRecDepth 20000 in
theorem gX5_now_X5_goingOnes : GoodIn wsX5_now (wsV RX5 200 RX5 yX5_goingOnes wsX5_goingOnes) := goodIn_app (goodIn_of _ (by decide +kernel)) ggX5_now_X5_goingOnes
set_option maxRecDepth 20000 in
theorem ggX5_now_X5_finding : GoodIn wsX5_now wsX5_finding := goodIn_r _ [76, 77, 2, 78, 79, 80, 81, 82, 83, 84, 85, 86, 87, 88, 89, 90, 91, 92, 93, 94, 95, 96, 97, 98] (by decide +kernel) (by decide +kernel)
set_option maxRecDepth 20000 in
theorem gX5_now_X5_finding : GoodIn wsX5_now (wsV RX5 66 RX5 yX5_finding wsX5_finding) := goodIn_app (goodIn_of _ (by decide +kernel)) ggX5_now_X5_finding
theorem dX5_now_0 : decode cX5_now 0 = .ok (.iload_n 1, 1) := by decide +kernel
theorem dX5_now_1 : decode cX5_now 1 = .ok (.tableswitch 89 0 7 #[47, 54, 59, 64, 69, 74, 79, 84], 47) := by decide +kernel
theorem dX5_now_48 : decode cX5_now 48 = .ok (.aload_n 0, 1) := by decide +kernel
theorem dX5_now_49 : decode cX5_now 49 = .ok (.getfield 9, 3) := by decide +kernel
theorem dX5_now_52 : decode cX5_now 52 = .ok (.iconst 0, 1) := by decide +kernel
theorem dX5_now_53 : decode cX5_now 53 = .ok (.iaload, 1) := by decide +kernel
theorem dX5_now_54 : decode cX5_now 54 = .ok (.ireturn, 1) := by decide +kernel
theorem dX5_now_55 : decode cX5_now 55 = .ok (.aload_n 0, 1) := by decide +kernel
theorem dX5_now_56 : decode cX5_now 56 = .ok (.invokevirtual 182, 3) := by decide +kernel
theorem dX5_now_59 : decode cX5_now 59 = .ok (.ireturn, 1) := by decide +kernel
theorem dX5_now_60 : decode cX5_now 60 = .ok (.aload_n 0, 1) := by decide +kernel
theorem dX5_now_61 : decode cX5_now 61 = .ok (.invokevirtual 185, 3) := by decide +kernel
theorem dX5_now_64 : decode cX5_now 64 = .ok (.ireturn, 1) := by decide +kernel
theorem dX5_now_65 : decode cX5_now 65 = .ok (.aload_n 0, 1) := by decide +kernel
theorem dX5_now_66 : decode cX5_now 66 = .ok (.invokevirtual 188, 3) := by decide +kernel
theorem dX5_now_69 : decode cX5_now 69 = .ok (.ireturn, 1) := by decide +kernel
theorem dX5_now_70 : decode cX5_now 70 = .ok (.aload_n 0, 1) := by decide +kernel
theorem dX5_now_71 : decode cX5_now 71 = .ok (.invokevirtual 191, 3) := by decide +kernel
theorem dX5_now_74 : decode cX5_now 74 = .ok (.ireturn, 1) := by decide +kernel
theorem dX5_now_75 : decode cX5_now 75 = .ok (.aload_n 0, 1) := by decide +kernel
theorem dX5_now_76 : decode cX5_now 76 = .ok (.invokevirtual 194, 3) := by decide +kernel
theorem dX5_now_79 : decode cX5_now 79 = .ok (.ireturn, 1) := by decide +kernel
theorem dX5_now_80 : decode cX5_now 80 = .ok (.aload_n 0, 1) := by decide +kernel
theorem dX5_now_81 : decode cX5_now 81 = .ok (.invokevirtual 197, 3) := by decide +kernel
theorem dX5_now_84 : decode cX5_now 84 = .ok (.ireturn, 1) := by decide +kernel
theorem dX5_now_85 : decode cX5_now 85 = .ok (.aload_n 0, 1) := by decide +kernel
theorem dX5_now_86 : decode cX5_now 86 = .ok (.invokevirtual 200, 3) := by decide +kernel
theorem dX5_now_89 : decode cX5_now 89 = .ok (.ireturn, 1) := by decide +kernel
theorem dX5_now_90 : decode cX5_now 90 = .ok (.aload_n 0, 1) := by decide +kernel
theorem dX5_now_91 : decode cX5_now 91 = .ok (.ldc 60, 2) := by decide +kernel
theorem dX5_now_93 : decode cX5_now 93 = .ok (.invokevirtual 66, 3) := by decide +kernel
theorem dX5_now_96 : decode cX5_now 96 = .ok (.ireturn, 1) := by decide +kernel
set_option maxRecDepth 20000 in
theorem ggX5_behind_X5_copyRow : GoodIn wsX5_behind wsX5_copyRow := goodIn_r _ [6] (by decide +kernel) (by decide +kernel)
set_option maxRecDepth 20000 in
theorem gX5_behind_X5_copyRow : GoodIn wsX5_behind (va_wsS RX5 61 yX5_copyRow wsX5_copyRow) := goodIn_app (goodIn_of _ (by decide +kernel)) ggX5_behind_X5_copyRow
set_option maxRecDepth 20000 in
theorem ggX5_behind_X5_daysGo : GoodIn wsX5_behind wsX5_daysGo := goodIn_r _ [10, 11, 12, 13, 5, 14, 1, 15, 16, 17, 18, 19, 20, 21, 22, 23, 24, 25, 26, 27, 28, 29, 30, 31, 32, 33, 34, 35, 36, 37, 38, 39, 40, 41, 42, 43, 44, 45, 46, 47, 48, 49, 50, 51, 52, 53, 54, 55, 56, 57, 58, 59, 60, 61, 62, 63, 64, 65, 66, 67, 68, 69, 70, 71, 72, 73, 74, 75, 76, 77, 78, 79, 80, 81, 82, 83, 84, 85, 86, 91, 92, 93, 94, 95, 96, 97, 98, 99, 100, 101, 102, 103, 104, 105, 106, 107, 108, 109, 110, 111] (by decide +kernel) (by decide +kernel)
set_option maxRecDepth 20000 in
theorem gX5_behind_X5_daysGo : GoodIn wsX5_behind (wsV RX5 179 RX5 yX5_daysGo wsX5_daysGo) := goodIn_app (goodIn_of _ (by decide +kernel)) ggX5_behind_X5_daysGo
set_option maxRecDepth 20000 in
theorem ggX5_behind_X5_putBack : GoodIn wsX5_behind wsX5_putBack := goodIn_r _ [90, 2, 1, 3, 4, 5, 6, 91, 92, 93, 94, 95, 96, 97, 98, 99, 100, 101, 102, 103, 104, 105, 106, 107, 108, 109, 110, 111] (by decide +kernel) (by decide +kernel)
set_option maxRecDepth 20000 in
theorem gX5_behind_X5_putBack : GoodIn wsX5_behind (wsV RX5 203 RX5 yX5_putBack wsX5_putBack) := goodIn_app (goodIn_of _ (by decide +kernel)) ggX5_behind_X5_putBack
theorem dX5_behind_0 : decode cX5_behind 0 = .ok (.aload_n 0, 1) := by decide +kernel
theorem dX5_behind_1 : decode cX5_behind 1 = .ok (.getfield 9, 3) := by decide +kernel
theorem dX5_behind_4 : decode cX5_behind 4 = .ok (.aload_n 0, 1) := by decide +kernel
theorem dX5_behind_5 : decode cX5_behind 5 = .ok (.getfield 16, 3) := by decide +kernel
theorem dX5_behind_8 : decode cX5_behind 8 = .ok (.invokestatic 61, 3) := by decide +kernel
theorem dX5_behind_11 : decode cX5_behind 11 = .ok (.aload_n 0, 1) := by decide +kernel
theorem dX5_behind_12 : decode cX5_behind 12 = .ok (.iload_n 2, 1) := by decide +kernel
theorem dX5_behind_13 : decode cX5_behind 13 = .ok (.invokevirtual 179, 3) := by decide +kernel
theorem dX5_behind_16 : decode cX5_behind 16 = .ok (.aload_n 0, 1) := by decide +kernel
theorem dX5_behind_17 : decode cX5_behind 17 = .ok (.aload_n 0, 1) := by decide +kernel
theorem dX5_behind_18 : decode cX5_behind 18 = .ok (.getfield 9, 3) := by decide +kernel
theorem dX5_behind_21 : decode cX5_behind 21 = .ok (.iload_n 1, 1) := by decide +kernel
theorem dX5_behind_22 : decode cX5_behind 22 = .ok (.iaload, 1) := by decide +kernel
theorem dX5_behind_23 : decode cX5_behind 23 = .ok (.invokevirtual 203, 3) := by decide +kernel
theorem dX5_behind_26 : decode cX5_behind 26 = .ok (.ireturn, 1) := by decide +kernel
set_option maxRecDepth 20000 in
theorem ggX5_ahead_X5_isSaying : GoodIn wsX5_ahead wsX5_isSaying := goodIn_r _ [8, 2, 9, 10, 7, 11, 101, 102, 103, 104, 105, 106, 107, 108, 109, 110, 111, 112, 113, 114, 115, 116, 117, 118, 119, 120, 121] (by decide +kernel) (by decide +kernel)
set_option maxRecDepth 20000 in
theorem gX5_ahead_X5_isSaying : GoodIn wsX5_ahead (wsV RX5 123 RX5 yX5_isSaying wsX5_isSaying) := goodIn_app (goodIn_of _ (by decide +kernel)) ggX5_ahead_X5_isSaying
set_option maxRecDepth 20000 in
theorem ggX5_ahead_X5_within : GoodIn wsX5_ahead wsX5_within := goodIn_r _ [11] (by decide +kernel) (by decide +kernel)
set_option maxRecDepth 20000 in
theorem gX5_ahead_X5_within : GoodIn wsX5_ahead (va_wsS RX5 70 yX5_within wsX5_within) := goodIn_app (goodIn_of _ (by decide +kernel)) ggX5_ahead_X5_within
set_option maxRecDepth 20000 in
theorem ggX5_ahead_X5_finding : GoodIn wsX5_ahead wsX5_finding := goodIn_r _ [15, 16, 1, 101, 102, 103, 104, 105, 106, 107, 108, 109, 110, 111, 112, 113, 114, 115, 116, 117, 118, 119, 120, 121] (by decide +kernel) (by decide +kernel)
set_option maxRecDepth 20000 in
theorem gX5_ahead_X5_finding : GoodIn wsX5_ahead (wsV RX5 66 RX5 yX5_finding wsX5_finding) := goodIn_app (goodIn_of _ (by decide +kernel)) ggX5_ahead_X5_finding
set_option maxRecDepth 20000 in
theorem ggX5_ahead_X5_copyRow : GoodIn wsX5_ahead wsX5_copyRow := goodIn_r _ [19] (by decide +kernel) (by decide +kernel)
set_option maxRecDepth 20000 in
theorem gX5_ahead_X5_copyRow : GoodIn wsX5_ahead (va_wsS RX5 61 yX5_copyRow wsX5_copyRow) := goodIn_app (goodIn_of _ (by decide +kernel)) ggX5_ahead_X5_copyRow
set_option maxRecDepth 20000 in
theorem ggX5_ahead_X5_daysGo : GoodIn wsX5_ahead wsX5_daysGo := goodIn_r _ [23, 24, 25, 26, 7, 27, 2, 28, 29, 30, 31, 32, 33, 34, 35, 36, 37, 38, 39, 40, 41, 42, 43, 44, 45, 46, 47, 48, 49, 50, 51, 52, 53, 54, 55, 56, 57, 58, 59, 60, 61, 62, 63, 64, 65, 66, 67, 68, 69, 70, 71, 72, 73, 74, 75, 76, 77, 78, 79, 80, 4, 5, 6, 8, 9, 10, 11, 81, 82, 83, 84, 85, 86, 87, 88, 89, 90, 91, 92, 101, 102, 103, 104, 105, 106, 107, 108, 109, 110, 111, 112, 113, 114, 115, 116, 117, 118, 119, 120, 121] (by decide +kernel) (by decide +kernel)
set_option maxRecDepth 20000 in
theorem gX5_ahead_X5_daysGo : GoodIn wsX5_ahead (wsV RX5 179 RX5 yX5_daysGo wsX5_daysGo) := goodIn_app (goodIn_of _ (by decide +kernel)) ggX5_ahead_X5_daysGo
set_option maxRecDepth 20000 in
theorem ggX5_ahead_X5_told : GoodIn wsX5_ahead wsX5_told := goodIn_r _ [96, 65, 66, 67, 7, 68, 54, 55, 56, 57, 2, 58, 59, 60, 61, 62, 63, 64, 89, 90, 91, 92, 85, 86, 87, 88, 101, 102, 103, 104, 105, 106, 107, 108, 109, 110, 111, 112, 113, 114, 115, 116, 117, 118, 119, 120, 121] (by decide +kernel) (by decide +kernel)
set_option maxRecDepth 20000 in
theorem gX5_ahead_X5_told : GoodIn wsX5_ahead (wsV RX5 126 RX5 yX5_told wsX5_told) := goodIn_app (goodIn_of _ (by decide +kernel)) ggX5_ahead_X5_told
set_option maxRecDepth 20000 in
theorem ggX5_ahead_X5_putBack : GoodIn wsX5_ahead wsX5_putBack := goodIn_r _ [100, 3, 2, 17, 18, 7, 19, 101, 102, 103, 104, 105, 106, 107, 108, 109, 110, 111, 112, 113, 114, 115, 116, 117, 118, 119, 120, 121] (by decide +kernel) (by decide +kernel)
set_option maxRecDepth 20000 in
theorem gX5_ahead_X5_putBack : GoodIn wsX5_ahead (wsV RX5 203 RX5 yX5_putBack wsX5_putBack) := goodIn_app (goodIn_of _ (by decide +kernel)) ggX5_ahead_X5_putBack
theorem dX5_ahead_0 : decode cX5_ahead 0 = .ok (.aload_n 0, 1) := by decide +kernel
theorem dX5_ahead_1 : decode cX5_ahead 1 = .ok (.iload_n 1, 1) := by decide +kernel
theorem dX5_ahead_2 : decode cX5_ahead 2 = .ok (.invokevirtual 123, 3) := by decide +kernel
theorem dX5_ahead_5 : decode cX5_ahead 5 = .ok (.ifCond .eq 22, 3) := by decide +kernel
theorem dX5_ahead_8 : decode cX5_ahead 8 = .ok (.iload_n 2, 1) := by decide +kernel
theorem dX5_ahead_9 : decode cX5_ahead 9 = .ok (.iconst 2, 1) := by decide +kernel
theorem dX5_ahead_10 : decode cX5_ahead 10 = .ok (.iconst 5, 1) := by decide +kernel
theorem dX5_ahead_11 : decode cX5_ahead 11 = .ok (.invokestatic 70, 3) := by decide +kernel
theorem dX5_ahead_14 : decode cX5_ahead 14 = .ok (.ifCond .eq 13, 3) := by decide +kernel
theorem dX5_ahead_17 : decode cX5_ahead 17 = .ok (.iload_n 3, 1) := by decide +kernel
theorem dX5_ahead_18 : decode cX5_ahead 18 = .ok (.iconst 0, 1) := by decide +kernel
theorem dX5_ahead_19 : decode cX5_ahead 19 = .ok (.bipush 100, 2) := by decide +kernel
theorem dX5_ahead_21 : decode cX5_ahead 21 = .ok (.invokestatic 70, 3) := by decide +kernel
theorem dX5_ahead_24 : decode cX5_ahead 24 = .ok (.ifCond .ne 10, 3) := by decide +kernel
theorem dX5_ahead_27 : decode cX5_ahead 27 = .ok (.aload_n 0, 1) := by decide +kernel
theorem dX5_ahead_28 : decode cX5_ahead 28 = .ok (.ldc 60, 2) := by decide +kernel
theorem dX5_ahead_30 : decode cX5_ahead 30 = .ok (.invokevirtual 66, 3) := by decide +kernel
theorem dX5_ahead_33 : decode cX5_ahead 33 = .ok (.ireturn, 1) := by decide +kernel
theorem dX5_ahead_34 : decode cX5_ahead 34 = .ok (.aload_n 0, 1) := by decide +kernel
theorem dX5_ahead_35 : decode cX5_ahead 35 = .ok (.getfield 9, 3) := by decide +kernel
theorem dX5_ahead_38 : decode cX5_ahead 38 = .ok (.aload_n 0, 1) := by decide +kernel
theorem dX5_ahead_39 : decode cX5_ahead 39 = .ok (.getfield 16, 3) := by decide +kernel
theorem dX5_ahead_42 : decode cX5_ahead 42 = .ok (.invokestatic 61, 3) := by decide +kernel
theorem dX5_ahead_45 : decode cX5_ahead 45 = .ok (.aload_n 0, 1) := by decide +kernel
theorem dX5_ahead_46 : decode cX5_ahead 46 = .ok (.iload_n 3, 1) := by decide +kernel
theorem dX5_ahead_47 : decode cX5_ahead 47 = .ok (.invokevirtual 179, 3) := by decide +kernel
theorem dX5_ahead_50 : decode cX5_ahead 50 = .ok (.aload_n 0, 1) := by decide +kernel
theorem dX5_ahead_51 : decode cX5_ahead 51 = .ok (.aload_n 0, 1) := by decide +kernel
theorem dX5_ahead_52 : decode cX5_ahead 52 = .ok (.iload_n 1, 1) := by decide +kernel
theorem dX5_ahead_53 : decode cX5_ahead 53 = .ok (.iload_n 2, 1) := by decide +kernel
theorem dX5_ahead_54 : decode cX5_ahead 54 = .ok (.invokevirtual 126, 3) := by decide +kernel
theorem dX5_ahead_57 : decode cX5_ahead 57 = .ok (.invokevirtual 203, 3) := by decide +kernel
theorem dX5_ahead_60 : decode cX5_ahead 60 = .ok (.ireturn, 1) := by decide +kernel
set_option maxRecDepth 20000 in
theorem ggX5_later_X5_isShip : GoodIn wsX5_later wsX5_isShip := goodIn_r _ [6, 7, 8, 9, 5, 10, 105, 106, 107, 108, 109, 110, 111, 112, 113, 114, 115, 116, 117, 118, 119, 120, 121, 122, 123, 124, 125] (by decide +kernel) (by decide +kernel)
set_option maxRecDepth 20000 in
theorem gX5_later_X5_isShip : GoodIn wsX5_later (wsV RX5 133 RX5 yX5_isShip wsX5_isShip) := goodIn_app (goodIn_of _ (by decide +kernel)) ggX5_later_X5_isShip
set_option maxRecDepth 20000 in
theorem ggX5_later_X5_within : GoodIn wsX5_later wsX5_within := goodIn_r _ [10] (by decide +kernel) (by decide +kernel)
set_option maxRecDepth 20000 in
theorem gX5_later_X5_within : GoodIn wsX5_later (va_wsS RX5 70 yX5_within wsX5_within) := goodIn_app (goodIn_of _ (by decide +kernel)) ggX5_later_X5_within
set_option maxRecDepth 20000 in
theorem ggX5_later_X5_shipAt : GoodIn wsX5_later wsX5_shipAt := goodIn_r _ [13] (by decide +kernel) (by decide +kernel)
set_option maxRecDepth 20000 in
theorem gX5_later_X5_shipAt : GoodIn wsX5_later (va_wsS RX5 85 yX5_shipAt wsX5_shipAt) := goodIn_app (goodIn_of _ (by decide +kernel)) ggX5_later_X5_shipAt
set_option maxRecDepth 20000 in
theorem ggX5_later_X5_behind : GoodIn wsX5_later wsX5_behind := goodIn_r _ [17, 7, 18, 19, 20, 5, 21, 22, 23, 24, 25, 26, 27, 28, 29, 30, 31, 32, 33, 34, 35, 36, 37, 38, 39, 40, 41, 11, 12, 13, 42, 43, 44, 45, 46, 47, 48, 49, 50, 51, 52, 53, 54, 55, 56, 57, 58, 59, 60, 61, 62, 63, 64, 65, 66, 67, 68, 69, 70, 71, 72, 73, 74, 75, 76, 77, 78, 79, 80, 81, 82, 83, 8, 9, 10, 84, 85, 86, 87, 88, 89, 90, 91, 92, 93, 94, 95, 96, 97, 98, 99, 105, 106, 107, 108, 109, 110, 111, 112, 113, 114, 115, 116, 117, 118, 119, 120, 121, 122, 123, 124, 125] (by decide +kernel) (by decide +kernel)
set_option maxRecDepth 20000 in
theorem gX5_later_X5_behind : GoodIn wsX5_later (wsV RX5 206 RX5 yX5_behind wsX5_behind) := goodIn_app (goodIn_of _ (by decide +kernel)) ggX5_later_X5_behind
set_option maxRecDepth 20000 in
theorem ggX5_later_X5_finding : GoodIn wsX5_later wsX5_finding := goodIn_r _ [103, 104, 1, 105, 106, 107, 108, 109, 110, 111, 112, 113, 114, 115, 116, 117, 118, 119, 120, 121, 122, 123, 124, 125] (by decide +kernel) (by decide +kernel)
set_option maxRecDepth 20000 in
theorem gX5_later_X5_finding : GoodIn wsX5_later (wsV RX5 66 RX5 yX5_finding wsX5_finding) := goodIn_app (goodIn_of _ (by decide +kernel)) ggX5_later_X5_finding
theorem dX5_later_0 : decode cX5_later 0 = .ok (.aload_n 0, 1) := by decide +kernel
theorem dX5_later_1 : decode cX5_later 1 = .ok (.iload_n 1, 1) := by decide +kernel
theorem dX5_later_2 : decode cX5_later 2 = .ok (.invokevirtual 133, 3) := by decide +kernel
theorem dX5_later_5 : decode cX5_later 5 = .ok (.ifCond .eq 35, 3) := by decide +kernel
theorem dX5_later_8 : decode cX5_later 8 = .ok (.iload_n 2, 1) := by decide +kernel
theorem dX5_later_9 : decode cX5_later 9 = .ok (.ifCond .eq 8, 3) := by decide +kernel
theorem dX5_later_12 : decode cX5_later 12 = .ok (.iload_n 2, 1) := by decide +kernel
theorem dX5_later_13 : decode cX5_later 13 = .ok (.iconst 3, 1) := by decide +kernel
theorem dX5_later_14 : decode cX5_later 14 = .ok (.if_icmp .ne 26, 3) := by decide +kernel
theorem dX5_later_17 : decode cX5_later 17 = .ok (.iload_n 3, 1) := by decide +kernel
theorem dX5_later_18 : decode cX5_later 18 = .ok (.iconst 0, 1) := by decide +kernel
theorem dX5_later_19 : decode cX5_later 19 = .ok (.bipush 100, 2) := by decide +kernel
theorem dX5_later_21 : decode cX5_later 21 = .ok (.invokestatic 70, 3) := by decide +kernel
theorem dX5_later_24 : decode cX5_later 24 = .ok (.ifCond .eq 16, 3) := by decide +kernel
theorem dX5_later_27 : decode cX5_later 27 = .ok (.aload_n 0, 1) := by decide +kernel
theorem dX5_later_28 : decode cX5_later 28 = .ok (.iload_n 1, 1) := by decide +kernel
theorem dX5_later_29 : decode cX5_later 29 = .ok (.iload_n 2, 1) := by decide +kernel
theorem dX5_later_30 : decode cX5_later 30 = .ok (.invokestatic 85, 3) := by decide +kernel
theorem dX5_later_33 : decode cX5_later 33 = .ok (.iload_n 3, 1) := by decide +kernel
theorem dX5_later_34 : decode cX5_later 34 = .ok (.invokevirtual 206, 3) := by decide +kernel
theorem dX5_later_37 : decode cX5_later 37 = .ok (.goto 9, 3) := by decide +kernel
theorem dX5_later_40 : decode cX5_later 40 = .ok (.aload_n 0, 1) := by decide +kernel
theorem dX5_later_41 : decode cX5_later 41 = .ok (.ldc 60, 2) := by decide +kernel
theorem dX5_later_43 : decode cX5_later 43 = .ok (.invokevirtual 66, 3) := by decide +kernel
theorem dX5_later_46 : decode cX5_later 46 = .ok (.ireturn, 1) := by decide +kernel
set_option maxRecDepth 20000 in
theorem ggX5_fog_X5_isCell : GoodIn wsX5_fog wsX5_isCell := goodIn_r _ [7, 8, 9, 6, 10] (by decide +kernel) (by decide +kernel)
set_option maxRecDepth 20000 in
theorem gX5_fog_X5_isCell : GoodIn wsX5_fog (va_wsS RX5 94 yX5_isCell wsX5_isCell) := goodIn_app (goodIn_of _ (by decide +kernel)) ggX5_fog_X5_isCell
set_option maxRecDepth 20000 in
theorem ggX5_fog_X5_within : GoodIn wsX5_fog wsX5_within := goodIn_r _ [10] (by decide +kernel) (by decide +kernel)
set_option maxRecDepth 20000 in
theorem gX5_fog_X5_within : GoodIn wsX5_fog (va_wsS RX5 70 yX5_within wsX5_within) := goodIn_app (goodIn_of _ (by decide +kernel)) ggX5_fog_X5_within
set_option maxRecDepth 20000 in
theorem ggX5_fog_X5_finding : GoodIn wsX5_fog wsX5_finding := goodIn_r _ [14, 15, 1, 100, 101, 102, 103, 104, 105, 106, 107, 108, 109, 110, 111, 112, 113, 114, 115, 116, 117, 118, 119, 120] (by decide +kernel) (by decide +kernel)
set_option maxRecDepth 20000 in
theorem gX5_fog_X5_finding : GoodIn wsX5_fog (wsV RX5 66 RX5 yX5_finding wsX5_finding) := goodIn_app (goodIn_of _ (by decide +kernel)) ggX5_fog_X5_finding
set_option maxRecDepth 20000 in
theorem ggX5_fog_X5_copyRow : GoodIn wsX5_fog wsX5_copyRow := goodIn_r _ [18] (by decide +kernel) (by decide +kernel)
set_option maxRecDepth 20000 in
theorem gX5_fog_X5_copyRow : GoodIn wsX5_fog (va_wsS RX5 61 yX5_copyRow wsX5_copyRow) := goodIn_app (goodIn_of _ (by decide +kernel)) ggX5_fog_X5_copyRow
set_option maxRecDepth 20000 in
theorem ggX5_fog_X5_daysGo : GoodIn wsX5_fog wsX5_daysGo := goodIn_r _ [22, 23, 24, 25, 6, 26, 2, 27, 28, 29, 30, 31, 32, 33, 34, 35, 36, 37, 38, 39, 40, 41, 42, 43, 44, 45, 46, 47, 48, 49, 50, 51, 52, 53, 54, 55, 56, 57, 58, 59, 60, 61, 62, 63, 64, 65, 66, 67, 68, 69, 70, 71, 72, 73, 74, 75, 76, 77, 78, 79, 80, 81, 82, 83, 8, 9, 10, 84, 85, 86, 87, 88, 89, 90, 91, 92, 93, 94, 95, 100, 101, 102, 103, 104, 105, 106, 107, 108, 109, 110, 111, 112, 113, 114, 115, 116, 117, 118, 119, 120] (by decide +kernel) (by decide +kernel)
set_option maxRecDepth 20000 in
theorem gX5_fog_X5_daysGo : GoodIn wsX5_fog (wsV RX5 179 RX5 yX5_daysGo wsX5_daysGo) := goodIn_app (goodIn_of _ (by decide +kernel)) ggX5_fog_X5_daysGo
set_option maxRecDepth 20000 in
theorem ggX5_fog_X5_thickAt : GoodIn wsX5_fog wsX5_thickAt := goodIn_r _ [49, 2, 50, 51, 29, 52, 31, 32, 33, 53, 54, 55, 6, 56, 57, 58, 59, 60, 61, 62, 63, 64, 65, 66, 67, 100, 101, 102, 103, 104, 105, 106, 107, 108, 109, 110, 111, 112, 113, 114, 115, 116, 117, 118, 119, 120] (by decide +kernel) (by decide +kernel)
set_option maxRecDepth 20000 in
theorem gX5_fog_X5_thickAt : GoodIn wsX5_fog (wsV RX5 150 RX5 yX5_thickAt wsX5_thickAt) := goodIn_app (goodIn_of _ (by decide +kernel)) ggX5_fog_X5_thickAt
set_option maxRecDepth 20000 in
theorem ggX5_fog_X5_putBack : GoodIn wsX5_fog wsX5_putBack := goodIn_r _ [99, 3, 2, 16, 17, 6, 18, 100, 101, 102, 103, 104, 105, 106, 107, 108, 109, 110, 111, 112, 113, 114, 115, 116, 117, 118, 119, 120] (by decide +kernel) (by decide +kernel)
set_option maxRecDepth 20000 in
theorem gX5_fog_X5_putBack : GoodIn wsX5_fog (wsV RX5 203 RX5 yX5_putBack wsX5_putBack) := goodIn_app (goodIn_of _ (by decide +kernel)) ggX5_fog_X5_putBack
theorem dX5_fog_0 : decode cX5_fog 0 = .ok (.iload_n 1, 1) := by decide +kernel
theorem dX5_fog_1 : decode cX5_fog 1 = .ok (.invokestatic 94, 3) := by decide +kernel
theorem dX5_fog_4 : decode cX5_fog 4 = .ok (.ifCond .eq 13, 3) := by decide +kernel
theorem dX5_fog_7 : decode cX5_fog 7 = .ok (.iload_n 2, 1) := by decide +kernel
theorem dX5_fog_8 : decode cX5_fog 8 = .ok (.iconst 0, 1) := by decide +kernel
theorem dX5_fog_9 : decode cX5_fog 9 = .ok (.bipush 100, 2) := by decide +kernel
theorem dX5_fog_11 : decode cX5_fog 11 = .ok (.invokestatic 70, 3) := by decide +kernel
theorem dX5_fog_14 : decode cX5_fog 14 = .ok (.ifCond .ne 10, 3) := by decide +kernel
theorem dX5_fog_17 : decode cX5_fog 17 = .ok (.aload_n 0, 1) := by decide +kernel
theorem dX5_fog_18 : decode cX5_fog 18 = .ok (.ldc 60, 2) := by decide +kernel
theorem dX5_fog_20 : decode cX5_fog 20 = .ok (.invokevirtual 66, 3) := by decide +kernel
theorem dX5_fog_23 : decode cX5_fog 23 = .ok (.ireturn, 1) := by decide +kernel
theorem dX5_fog_24 : decode cX5_fog 24 = .ok (.aload_n 0, 1) := by decide +kernel
theorem dX5_fog_25 : decode cX5_fog 25 = .ok (.getfield 9, 3) := by decide +kernel
theorem dX5_fog_28 : decode cX5_fog 28 = .ok (.aload_n 0, 1) := by decide +kernel
theorem dX5_fog_29 : decode cX5_fog 29 = .ok (.getfield 16, 3) := by decide +kernel
theorem dX5_fog_32 : decode cX5_fog 32 = .ok (.invokestatic 61, 3) := by decide +kernel
theorem dX5_fog_35 : decode cX5_fog 35 = .ok (.aload_n 0, 1) := by decide +kernel
theorem dX5_fog_36 : decode cX5_fog 36 = .ok (.iload_n 2, 1) := by decide +kernel
theorem dX5_fog_37 : decode cX5_fog 37 = .ok (.invokevirtual 179, 3) := by decide +kernel
theorem dX5_fog_40 : decode cX5_fog 40 = .ok (.aload_n 0, 1) := by decide +kernel
theorem dX5_fog_41 : decode cX5_fog 41 = .ok (.aload_n 0, 1) := by decide +kernel
theorem dX5_fog_42 : decode cX5_fog 42 = .ok (.iload_n 1, 1) := by decide +kernel
theorem dX5_fog_43 : decode cX5_fog 43 = .ok (.invokevirtual 150, 3) := by decide +kernel
theorem dX5_fog_46 : decode cX5_fog 46 = .ok (.invokevirtual 203, 3) := by decide +kernel
theorem dX5_fog_49 : decode cX5_fog 49 = .ok (.ireturn, 1) := by decide +kernel
set_option maxRecDepth 20000 in
theorem ggX5_lands_X5_isShip : GoodIn wsX5_lands wsX5_isShip := goodIn_r _ [8, 2, 9, 10, 7, 11, 102, 103, 104, 105, 106, 107, 108, 109, 110, 111, 112, 113, 114, 115, 116, 117, 118, 119, 120, 121, 122] (by decide +kernel) (by decide +kernel)
set_option maxRecDepth 20000 in
theorem gX5_lands_X5_isShip : GoodIn wsX5_lands (wsV RX5 133 RX5 yX5_isShip wsX5_isShip) := goodIn_app (goodIn_of _ (by decide +kernel)) ggX5_lands_X5_isShip
set_option maxRecDepth 20000 in
theorem ggX5_lands_X5_finding : GoodIn wsX5_lands wsX5_finding := goodIn_r _ [15, 16, 1, 102, 103, 104, 105, 106, 107, 108, 109, 110, 111, 112, 113, 114, 115, 116, 117, 118, 119, 120, 121, 122] (by decide +kernel) (by decide +kernel)
set_option maxRecDepth 20000 in
theorem gX5_lands_X5_finding : GoodIn wsX5_lands (wsV RX5 66 RX5 yX5_finding wsX5_finding) := goodIn_app (goodIn_of _ (by decide +kernel)) ggX5_lands_X5_finding
set_option maxRecDepth 20000 in
theorem ggX5_lands_X5_copyRow : GoodIn wsX5_lands wsX5_copyRow := goodIn_r _ [19] (by decide +kernel) (by decide +kernel)
set_option maxRecDepth 20000 in
theorem gX5_lands_X5_copyRow : GoodIn wsX5_lands (va_wsS RX5 61 yX5_copyRow wsX5_copyRow) := goodIn_app (goodIn_of _ (by decide +kernel)) ggX5_lands_X5_copyRow
set_option maxRecDepth 20000 in
theorem ggX5_lands_X5_isInPort : GoodIn wsX5_lands wsX5_isInPort := goodIn_r _ [23, 24, 25, 26, 7, 27, 2, 28, 29, 30, 102, 103, 104, 105, 106, 107, 108, 109, 110, 111, 112, 113, 114, 115, 116, 117, 118, 119, 120, 121, 122] (by decide +kernel) (by decide +kernel)
set_option maxRecDepth 20000 in
theorem gX5_lands_X5_isInPort : GoodIn wsX5_lands (wsV RX5 163 RX5 yX5_isInPort wsX5_isInPort) := goodIn_app (goodIn_of _ (by decide +kernel)) ggX5_lands_X5_isInPort
set_option maxRecDepth 20000 in
theorem ggX5_lands_X5_day : GoodIn wsX5_lands wsX5_day := goodIn_r _ [34, 2, 35, 36, 37, 38, 39, 40, 41, 42, 24, 25, 26, 7, 27, 28, 29, 30, 43, 44, 45, 46, 47, 48, 49, 50, 51, 52, 53, 54, 55, 56, 57, 58, 59, 60, 61, 62, 63, 64, 65, 66, 67, 68, 69, 70, 71, 72, 20, 21, 22, 23, 73, 74, 75, 76, 77, 78, 79, 80, 9, 10, 11, 81, 82, 83, 84, 85, 86, 87, 88, 89, 90, 91, 92, 102, 103, 104, 105, 106, 107, 108, 109, 110, 111, 112, 113, 114, 115, 116, 117, 118, 119, 120, 121, 122] (by decide +kernel) (by decide +kernel)
set_option maxRecDepth 20000 in
theorem gX5_lands_X5_day : GoodIn wsX5_lands (wsV RX5 175 RX5 yX5_day wsX5_day) := goodIn_app (goodIn_of _ (by decide +kernel)) ggX5_lands_X5_day
set_option maxRecDepth 20000 in
theorem ggX5_lands_X5_putBack : GoodIn wsX5_lands wsX5_putBack := goodIn_r _ [96, 3, 2, 17, 18, 7, 19, 102, 103, 104, 105, 106, 107, 108, 109, 110, 111, 112, 113, 114, 115, 116, 117, 118, 119, 120, 121, 122] (by decide +kernel) (by decide +kernel)
set_option maxRecDepth 20000 in
theorem gX5_lands_X5_putBack : GoodIn wsX5_lands (wsV RX5 203 RX5 yX5_putBack wsX5_putBack) := goodIn_app (goodIn_of _ (by decide +kernel)) ggX5_lands_X5_putBack
set_option maxRecDepth 20000 in
theorem ggX5_lands_X5_orNone : GoodIn wsX5_lands wsX5_orNone := goodIn_r _ [100, 101, 12, 13, 14, 7, 15, 16, 1, 102, 103, 104, 105, 106, 107, 108, 109, 110, 111, 112, 113, 114, 115, 116, 117, 118, 119, 120, 121, 122] (by decide +kernel) (by decide +kernel)
set_option maxRecDepth 20000 in
theorem gX5_lands_X5_orNone : GoodIn wsX5_lands (wsV RX5 209 RX5 yX5_orNone wsX5_orNone) := goodIn_app (goodIn_of _ (by decide +kernel)) ggX5_lands_X5_orNone
theorem dX5_lands_0 : decode cX5_lands 0 = .ok (.aload_n 0, 1) := by decide +kernel
theorem dX5_lands_1 : decode cX5_lands 1 = .ok (.iload_n 1, 1) := by decide +kernel
theorem dX5_lands_2 : decode cX5_lands 2 = .ok (.invokevirtual 133, 3) := by decide +kernel
theorem dX5_lands_5 : decode cX5_lands 5 = .ok (.ifCond .ne 10, 3) := by decide +kernel
theorem dX5_lands_8 : decode cX5_lands 8 = .ok (.aload_n 0, 1) := by decide +kernel
theorem dX5_lands_9 : decode cX5_lands 9 = .ok (.ldc 60, 2) := by decide +kernel
theorem dX5_lands_11 : decode cX5_lands 11 = .ok (.invokevirtual 66, 3) := by decide +kernel
theorem dX5_lands_14 : decode cX5_lands 14 = .ok (.ireturn, 1) := by decide +kernel
theorem dX5_lands_15 : decode cX5_lands 15 = .ok (.aload_n 0, 1) := by decide +kernel
theorem dX5_lands_16 : decode cX5_lands 16 = .ok (.getfield 9, 3) := by decide +kernel
theorem dX5_lands_19 : decode cX5_lands 19 = .ok (.aload_n 0, 1) := by decide +kernel
theorem dX5_lands_20 : decode cX5_lands 20 = .ok (.getfield 16, 3) := by decide +kernel
theorem dX5_lands_23 : decode cX5_lands 23 = .ok (.invokestatic 61, 3) := by decide +kernel
theorem dX5_lands_26 : decode cX5_lands 26 = .ok (.iconst 0, 1) := by decide +kernel
theorem dX5_lands_27 : decode cX5_lands 27 = .ok (.istore_n 2, 1) := by decide +kernel
theorem dX5_lands_28 : decode cX5_lands 28 = .ok (.iload_n 2, 1) := by decide +kernel
theorem dX5_lands_29 : decode cX5_lands 29 = .ok (.sipush 200, 3) := by decide +kernel
theorem dX5_lands_32 : decode cX5_lands 32 = .ok (.if_icmp .ge 21, 3) := by decide +kernel
theorem dX5_lands_35 : decode cX5_lands 35 = .ok (.aload_n 0, 1) := by decide +kernel
theorem dX5_lands_36 : decode cX5_lands 36 = .ok (.iload_n 1, 1) := by decide +kernel
theorem dX5_lands_37 : decode cX5_lands 37 = .ok (.invokevirtual 163, 3) := by decide +kernel
theorem dX5_lands_40 : decode cX5_lands 40 = .ok (.ifCond .ne 13, 3) := by decide +kernel
theorem dX5_lands_43 : decode cX5_lands 43 = .ok (.aload_n 0, 1) := by decide +kernel
theorem dX5_lands_44 : decode cX5_lands 44 = .ok (.invokevirtual 175, 3) := by decide +kernel
theorem dX5_lands_47 : decode cX5_lands 47 = .ok (.iinc 2 1, 3) := by decide +kernel
theorem dX5_lands_50 : decode cX5_lands 50 = .ok (.goto (-22), 3) := by decide +kernel
theorem dX5_lands_53 : decode cX5_lands 53 = .ok (.aload_n 0, 1) := by decide +kernel
theorem dX5_lands_54 : decode cX5_lands 54 = .ok (.aload_n 0, 1) := by decide +kernel
theorem dX5_lands_55 : decode cX5_lands 55 = .ok (.aload_n 0, 1) := by decide +kernel
theorem dX5_lands_56 : decode cX5_lands 56 = .ok (.iload_n 1, 1) := by decide +kernel
theorem dX5_lands_57 : decode cX5_lands 57 = .ok (.invokevirtual 163, 3) := by decide +kernel
theorem dX5_lands_60 : decode cX5_lands 60 = .ok (.ifCond .eq 7, 3) := by decide +kernel
theorem dX5_lands_63 : decode cX5_lands 63 = .ok (.iload_n 2, 1) := by decide +kernel
theorem dX5_lands_64 : decode cX5_lands 64 = .ok (.goto 4, 3) := by decide +kernel
theorem dX5_lands_67 : decode cX5_lands 67 = .ok (.iconst (-1), 1) := by decide +kernel
theorem dX5_lands_68 : decode cX5_lands 68 = .ok (.invokevirtual 203, 3) := by decide +kernel
theorem dX5_lands_71 : decode cX5_lands 71 = .ok (.invokevirtual 209, 3) := by decide +kernel
theorem dX5_lands_74 : decode cX5_lands 74 = .ok (.ireturn, 1) := by decide +kernel
set_option maxRecDepth 20000 in
theorem ggX5_closes_X5_isCell : GoodIn wsX5_closes wsX5_isCell := goodIn_r _ [7, 8, 9, 6, 10] (by decide +kernel) (by decide +kernel)
set_option maxRecDepth 20000 in
theorem gX5_closes_X5_isCell : GoodIn wsX5_closes (va_wsS RX5 94 yX5_isCell wsX5_isCell) := goodIn_app (goodIn_of _ (by decide +kernel)) ggX5_closes_X5_isCell
set_option maxRecDepth 20000 in
theorem ggX5_closes_X5_within : GoodIn wsX5_closes wsX5_within := goodIn_r _ [10] (by decide +kernel) (by decide +kernel)
set_option maxRecDepth 20000 in
theorem gX5_closes_X5_within : GoodIn wsX5_closes (va_wsS RX5 70 yX5_within wsX5_within) := goodIn_app (goodIn_of _ (by decide +kernel)) ggX5_closes_X5_within
set_option maxRecDepth 20000 in
theorem ggX5_closes_X5_finding : GoodIn wsX5_closes wsX5_finding := goodIn_r _ [14, 15, 1, 101, 102, 103, 104, 105, 106, 107, 108, 109, 110, 111, 112, 113, 114, 115, 116, 117, 118, 119, 120, 121] (by decide +kernel) (by decide +kernel)
set_option maxRecDepth 20000 in
theorem gX5_closes_X5_finding : GoodIn wsX5_closes (wsV RX5 66 RX5 yX5_finding wsX5_finding) := goodIn_app (goodIn_of _ (by decide +kernel)) ggX5_closes_X5_finding
set_option maxRecDepth 20000 in
theorem ggX5_closes_X5_copyRow : GoodIn wsX5_closes wsX5_copyRow := goodIn_r _ [18] (by decide +kernel) (by decide +kernel)
set_option maxRecDepth 20000 in
theorem gX5_closes_X5_copyRow : GoodIn wsX5_closes (va_wsS RX5 61 yX5_copyRow wsX5_copyRow) := goodIn_app (goodIn_of _ (by decide +kernel)) ggX5_closes_X5_copyRow
set_option maxRecDepth 20000 in
theorem ggX5_closes_X5_thickAt : GoodIn wsX5_closes wsX5_thickAt := goodIn_r _ [22, 2, 23, 24, 25, 26, 27, 28, 29, 30, 31, 32, 6, 33, 34, 35, 36, 37, 38, 39, 40, 41, 42, 43, 44, 101, 102, 103, 104, 105, 106, 107, 108, 109, 110, 111, 112, 113, 114, 115, 116, 117, 118, 119, 120, 121] (by decide +kernel) (by decide +kernel)
set_option maxRecDepth 20000 in
theorem gX5_closes_X5_thickAt : GoodIn wsX5_closes (wsV RX5 150 RX5 yX5_thickAt wsX5_thickAt) := goodIn_app (goodIn_of _ (by decide +kernel)) ggX5_closes_X5_thickAt
set_option maxRecDepth 20000 in
theorem ggX5_closes_X5_day : GoodIn wsX5_closes wsX5_day := goodIn_r _ [48, 2, 49, 50, 25, 51, 27, 28, 29, 52, 53, 54, 55, 6, 56, 57, 58, 59, 60, 61, 62, 63, 19, 20, 21, 22, 23, 24, 26, 30, 31, 32, 33, 34, 35, 36, 37, 38, 39, 40, 41, 42, 43, 44, 64, 65, 66, 67, 68, 69, 70, 71, 72, 73, 74, 75, 76, 77, 78, 79, 8, 9, 10, 80, 81, 82, 83, 84, 85, 86, 87, 88, 89, 90, 91, 101, 102, 103, 104, 105, 106, 107, 108, 109, 110, 111, 112, 113, 114, 115, 116, 117, 118, 119, 120, 121] (by decide +kernel) (by decide +kernel)
set_option maxRecDepth 20000 in
theorem gX5_closes_X5_day : GoodIn wsX5_closes (wsV RX5 175 RX5 yX5_day wsX5_day) := goodIn_app (goodIn_of _ (by decide +kernel)) ggX5_closes_X5_day
set_option maxRecDepth 20000 in
theorem ggX5_closes_X5_putBack : GoodIn wsX5_closes wsX5_putBack := goodIn_r _ [95, 3, 2, 16, 17, 6, 18, 101, 102, 103, 104, 105, 106, 107, 108, 109, 110, 111, 112, 113, 114, 115, 116, 117, 118, 119, 120, 121] (by decide +kernel) (by decide +kernel)
set_option maxRecDepth 20000 in
theorem gX5_closes_X5_putBack : GoodIn wsX5_closes (wsV RX5 203 RX5 yX5_putBack wsX5_putBack) := goodIn_app (goodIn_of _ (by decide +kernel)) ggX5_closes_X5_putBack
set_option maxRecDepth 20000 in
theorem ggX5_closes_X5_orNone : GoodIn wsX5_closes wsX5_orNone := goodIn_r _ [99, 100, 11, 12, 13, 6, 14, 15, 1, 101, 102, 103, 104, 105, 106, 107, 108, 109, 110, 111, 112, 113, 114, 115, 116, 117, 118, 119, 120, 121] (by decide +kernel) (by decide +kernel)
set_option maxRecDepth 20000 in
theorem gX5_closes_X5_orNone : GoodIn wsX5_closes (wsV RX5 209 RX5 yX5_orNone wsX5_orNone) := goodIn_app (goodIn_of _ (by decide +kernel)) ggX5_closes_X5_orNone
theorem dX5_closes_0 : decode cX5_closes 0 = .ok (.iload_n 1, 1) := by decide +kernel
theorem dX5_closes_1 : decode cX5_closes 1 = .ok (.invokestatic 94, 3) := by decide +kernel
theorem dX5_closes_4 : decode cX5_closes 4 = .ok (.ifCond .eq 14, 3) := by decide +kernel
theorem dX5_closes_7 : decode cX5_closes 7 = .ok (.iload_n 2, 1) := by decide +kernel
theorem dX5_closes_8 : decode cX5_closes 8 = .ok (.iconst 0, 1) := by decide +kernel
theorem dX5_closes_9 : decode cX5_closes 9 = .ok (.sipush 999, 3) := by decide +kernel
theorem dX5_closes_12 : decode cX5_closes 12 = .ok (.invokestatic 70, 3) := by decide +kernel
theorem dX5_closes_15 : decode cX5_closes 15 = .ok (.ifCond .ne 10, 3) := by decide +kernel
theorem dX5_closes_18 : decode cX5_closes 18 = .ok (.aload_n 0, 1) := by decide +kernel
theorem dX5_closes_19 : decode cX5_closes 19 = .ok (.ldc 60, 2) := by decide +kernel
theorem dX5_closes_21 : decode cX5_closes 21 = .ok (.invokevirtual 66, 3) := by decide +kernel
theorem dX5_closes_24 : decode cX5_closes 24 = .ok (.ireturn, 1) := by decide +kernel
theorem dX5_closes_25 : decode cX5_closes 25 = .ok (.aload_n 0, 1) := by decide +kernel
theorem dX5_closes_26 : decode cX5_closes 26 = .ok (.getfield 9, 3) := by decide +kernel
theorem dX5_closes_29 : decode cX5_closes 29 = .ok (.aload_n 0, 1) := by decide +kernel
theorem dX5_closes_30 : decode cX5_closes 30 = .ok (.getfield 16, 3) := by decide +kernel
theorem dX5_closes_33 : decode cX5_closes 33 = .ok (.invokestatic 61, 3) := by decide +kernel
theorem dX5_closes_36 : decode cX5_closes 36 = .ok (.iconst 0, 1) := by decide +kernel
theorem dX5_closes_37 : decode cX5_closes 37 = .ok (.istore_n 3, 1) := by decide +kernel
theorem dX5_closes_38 : decode cX5_closes 38 = .ok (.iload_n 3, 1) := by decide +kernel
theorem dX5_closes_39 : decode cX5_closes 39 = .ok (.sipush 200, 3) := by decide +kernel
theorem dX5_closes_42 : decode cX5_closes 42 = .ok (.if_icmp .ge 22, 3) := by decide +kernel
theorem dX5_closes_45 : decode cX5_closes 45 = .ok (.aload_n 0, 1) := by decide +kernel
theorem dX5_closes_46 : decode cX5_closes 46 = .ok (.iload_n 1, 1) := by decide +kernel
theorem dX5_closes_47 : decode cX5_closes 47 = .ok (.invokevirtual 150, 3) := by decide +kernel
theorem dX5_closes_50 : decode cX5_closes 50 = .ok (.iload_n 2, 1) := by decide +kernel
theorem dX5_closes_51 : decode cX5_closes 51 = .ok (.if_icmp .ge 13, 3) := by decide +kernel
theorem dX5_closes_54 : decode cX5_closes 54 = .ok (.aload_n 0, 1) := by decide +kernel
theorem dX5_closes_55 : decode cX5_closes 55 = .ok (.invokevirtual 175, 3) := by decide +kernel
theorem dX5_closes_58 : decode cX5_closes 58 = .ok (.iinc 3 1, 3) := by decide +kernel
theorem dX5_closes_61 : decode cX5_closes 61 = .ok (.goto (-23), 3) := by decide +kernel
theorem dX5_closes_64 : decode cX5_closes 64 = .ok (.aload_n 0, 1) := by decide +kernel
theorem dX5_closes_65 : decode cX5_closes 65 = .ok (.aload_n 0, 1) := by decide +kernel
theorem dX5_closes_66 : decode cX5_closes 66 = .ok (.aload_n 0, 1) := by decide +kernel
theorem dX5_closes_67 : decode cX5_closes 67 = .ok (.iload_n 1, 1) := by decide +kernel
theorem dX5_closes_68 : decode cX5_closes 68 = .ok (.invokevirtual 150, 3) := by decide +kernel
theorem dX5_closes_71 : decode cX5_closes 71 = .ok (.iload_n 2, 1) := by decide +kernel
theorem dX5_closes_72 : decode cX5_closes 72 = .ok (.if_icmp .ge 7, 3) := by decide +kernel
theorem dX5_closes_75 : decode cX5_closes 75 = .ok (.iconst (-1), 1) := by decide +kernel
theorem dX5_closes_76 : decode cX5_closes 76 = .ok (.goto 4, 3) := by decide +kernel
theorem dX5_closes_79 : decode cX5_closes 79 = .ok (.iload_n 3, 1) := by decide +kernel
theorem dX5_closes_80 : decode cX5_closes 80 = .ok (.invokevirtual 203, 3) := by decide +kernel
theorem dX5_closes_83 : decode cX5_closes 83 = .ok (.invokevirtual 209, 3) := by decide +kernel
theorem dX5_closes_86 : decode cX5_closes 86 = .ok (.ireturn, 1) := by decide +kernel
set_option maxRecDepth 20000 in
theorem ggX5_isSettled_X5_finishedOnes : GoodIn wsX5_isSettled wsX5_finishedOnes := goodIn_r _ [6, 1, 7, 8, 9, 5, 10, 11, 12, 13, 14, 15, 16, 17, 18, 19, 20, 21, 22, 23, 24, 25, 26, 27, 28, 29, 30, 31, 32, 33, 34] (by decide +kernel) (by decide +kernel)
set_option maxRecDepth 20000 in
theorem gX5_isSettled_X5_finishedOnes : GoodIn wsX5_isSettled (wsV RX5 185 RX5 yX5_finishedOnes wsX5_finishedOnes) := goodIn_app (goodIn_of _ (by decide +kernel)) ggX5_isSettled_X5_finishedOnes
theorem dX5_isSettled_0 : decode cX5_isSettled 0 = .ok (.aload_n 0, 1) := by decide +kernel
theorem dX5_isSettled_1 : decode cX5_isSettled 1 = .ok (.invokevirtual 185, 3) := by decide +kernel
theorem dX5_isSettled_4 : decode cX5_isSettled 4 = .ok (.iconst 1, 1) := by decide +kernel
theorem dX5_isSettled_5 : decode cX5_isSettled 5 = .ok (.aload_n 0, 1) := by decide +kernel
theorem dX5_isSettled_6 : decode cX5_isSettled 6 = .ok (.getfield 9, 3) := by decide +kernel
theorem dX5_isSettled_9 : decode cX5_isSettled 9 = .ok (.iconst 1, 1) := by decide +kernel
theorem dX5_isSettled_10 : decode cX5_isSettled 10 = .ok (.iaload, 1) := by decide +kernel
theorem dX5_isSettled_11 : decode cX5_isSettled 11 = .ok (.ishl, 1) := by decide +kernel
theorem dX5_isSettled_12 : decode cX5_isSettled 12 = .ok (.iconst 1, 1) := by decide +kernel
theorem dX5_isSettled_13 : decode cX5_isSettled 13 = .ok (.isub, 1) := by decide +kernel
theorem dX5_isSettled_14 : decode cX5_isSettled 14 = .ok (.if_icmp .ne 7, 3) := by decide +kernel
theorem dX5_isSettled_17 : decode cX5_isSettled 17 = .ok (.iconst 1, 1) := by decide +kernel
theorem dX5_isSettled_18 : decode cX5_isSettled 18 = .ok (.goto 4, 3) := by decide +kernel
theorem dX5_isSettled_21 : decode cX5_isSettled 21 = .ok (.iconst 0, 1) := by decide +kernel
theorem dX5_isSettled_22 : decode cX5_isSettled 22 = .ok (.ireturn, 1) := by decide +kernel
set_option maxRecDepth 20000 in
theorem ggX5_settled_X5_copyRow : GoodIn wsX5_settled wsX5_copyRow := goodIn_r _ [6] (by decide +kernel) (by decide +kernel)
set_option maxRecDepth 20000 in
theorem gX5_settled_X5_copyRow : GoodIn wsX5_settled (va_wsS RX5 61 yX5_copyRow wsX5_copyRow) := goodIn_app (goodIn_of _ (by decide +kernel)) ggX5_settled_X5_copyRow
set_option maxRecDepth 20000 in
theorem ggX5_settled_X5_isSettled : GoodIn wsX5_settled wsX5_isSettled := goodIn_r _ [10, 1, 11, 12, 13, 5, 14, 15, 16, 17, 18, 19, 20, 21, 106, 107, 108, 109, 110, 111, 112, 113, 114, 115, 116, 117, 118, 119, 120, 121, 122, 123, 124, 125, 126] (by decide +kernel) (by decide +kernel)
set_option maxRecDepth 20000 in
theorem gX5_settled_X5_isSettled : GoodIn wsX5_settled (wsV RX5 212 RX5 yX5_isSettled wsX5_isSettled) := goodIn_app (goodIn_of _ (by decide +kernel)) ggX5_settled_X5_isSettled
set_option maxRecDepth 20000 in
theorem ggX5_settled_X5_day : GoodIn wsX5_settled wsX5_day := goodIn_r _ [25, 1, 26, 27, 28, 29, 30, 31, 32, 33, 34, 35, 36, 5, 37, 38, 39, 40, 41, 42, 43, 44, 45, 46, 47, 48, 49, 50, 51, 15, 16, 17, 18, 19, 20, 21, 52, 53, 54, 55, 56, 57, 58, 59, 60, 61, 62, 63, 64, 65, 66, 67, 68, 69, 70, 71, 72, 73, 74, 75, 76, 77, 78, 79, 80, 81, 82, 83, 84, 85, 86, 87, 88, 89, 90, 106, 107, 108, 109, 110, 111, 112, 113, 114, 115, 116, 117, 118, 119, 120, 121, 122, 123, 124, 125, 126] (by decide +kernel) (by decide +kernel)
set_option maxRecDepth 20000 in
theorem gX5_settled_X5_day : GoodIn wsX5_settled (wsV RX5 175 RX5 yX5_day wsX5_day) := goodIn_app (goodIn_of _ (by decide +kernel)) ggX5_settled_X5_day
set_option maxRecDepth 20000 in
theorem ggX5_settled_X5_putBack : GoodIn wsX5_settled wsX5_putBack := goodIn_r _ [94, 2, 1, 3, 4, 5, 6, 106, 107, 108, 109, 110, 111, 112, 113, 114, 115, 116, 117, 118, 119, 120, 121, 122, 123, 124, 125, 126] (by decide +kernel) (by decide +kernel)
set_option maxRecDepth 20000 in
theorem gX5_settled_X5_putBack : GoodIn wsX5_settled (wsV RX5 203 RX5 yX5_putBack wsX5_putBack) := goodIn_app (goodIn_of _ (by decide +kernel)) ggX5_settled_X5_putBack
set_option maxRecDepth 20000 in
theorem ggX5_settled_X5_orNone : GoodIn wsX5_settled wsX5_orNone := goodIn_r _ [98, 99, 100, 101, 102, 5, 103, 104, 105, 106, 107, 108, 109, 110, 111, 112, 113, 114, 115, 116, 117, 118, 119, 120, 121, 122, 123, 124, 125, 126] (by decide +kernel) (by decide +kernel)
set_option maxRecDepth 20000 in
theorem gX5_settled_X5_orNone : GoodIn wsX5_settled (wsV RX5 209 RX5 yX5_orNone wsX5_orNone) := goodIn_app (goodIn_of _ (by decide +kernel)) ggX5_settled_X5_orNone
theorem dX5_settled_0 : decode cX5_settled 0 = .ok (.aload_n 0, 1) := by decide +kernel
theorem dX5_settled_1 : decode cX5_settled 1 = .ok (.getfield 9, 3) := by decide +kernel
theorem dX5_settled_4 : decode cX5_settled 4 = .ok (.aload_n 0, 1) := by decide +kernel
theorem dX5_settled_5 : decode cX5_settled 5 = .ok (.getfield 16, 3) := by decide +kernel
theorem dX5_settled_8 : decode cX5_settled 8 = .ok (.invokestatic 61, 3) := by decide +kernel
theorem dX5_settled_11 : decode cX5_settled 11 = .ok (.iconst 0, 1) := by decide +kernel
theorem dX5_settled_12 : decode cX5_settled 12 = .ok (.istore_n 1, 1) := by decide +kernel
theorem dX5_settled_13 : decode cX5_settled 13 = .ok (.iload_n 1, 1) := by decide +kernel
theorem dX5_settled_14 : decode cX5_settled 14 = .ok (.sipush 200, 3) := by decide +kernel
theorem dX5_settled_17 : decode cX5_settled 17 = .ok (.if_icmp .ge 20, 3) := by decide +kernel
theorem dX5_settled_20 : decode cX5_settled 20 = .ok (.aload_n 0, 1) := by decide +kernel
theorem dX5_settled_21 : decode cX5_settled 21 = .ok (.invokevirtual 212, 3) := by decide +kernel
theorem dX5_settled_24 : decode cX5_settled 24 = .ok (.ifCond .ne 13, 3) := by decide +kernel
theorem dX5_settled_27 : decode cX5_settled 27 = .ok (.aload_n 0, 1) := by decide +kernel
theorem dX5_settled_28 : decode cX5_settled 28 = .ok (.invokevirtual 175, 3) := by decide +kernel
theorem dX5_settled_31 : decode cX5_settled 31 = .ok (.iinc 1 1, 3) := by decide +kernel
theorem dX5_settled_34 : decode cX5_settled 34 = .ok (.goto (-21), 3) := by decide +kernel
theorem dX5_settled_37 : decode cX5_settled 37 = .ok (.aload_n 0, 1) := by decide +kernel
theorem dX5_settled_38 : decode cX5_settled 38 = .ok (.aload_n 0, 1) := by decide +kernel
theorem dX5_settled_39 : decode cX5_settled 39 = .ok (.aload_n 0, 1) := by decide +kernel
theorem dX5_settled_40 : decode cX5_settled 40 = .ok (.invokevirtual 212, 3) := by decide +kernel
theorem dX5_settled_43 : decode cX5_settled 43 = .ok (.ifCond .eq 7, 3) := by decide +kernel
theorem dX5_settled_46 : decode cX5_settled 46 = .ok (.iload_n 1, 1) := by decide +kernel
theorem dX5_settled_47 : decode cX5_settled 47 = .ok (.goto 4, 3) := by decide +kernel
theorem dX5_settled_50 : decode cX5_settled 50 = .ok (.iconst (-1), 1) := by decide +kernel
theorem dX5_settled_51 : decode cX5_settled 51 = .ok (.invokevirtual 203, 3) := by decide +kernel
theorem dX5_settled_54 : decode cX5_settled 54 = .ok (.invokevirtual 209, 3) := by decide +kernel
theorem dX5_settled_57 : decode cX5_settled 57 = .ok (.ireturn, 1) := by decide +kernel
set_option maxRecDepth 20000 in
theorem ggX5_isThought_X5_within : GoodIn wsX5_isThought wsX5_within := goodIn_r _ [4] (by decide +kernel) (by decide +kernel)
set_option maxRecDepth 20000 in
theorem gX5_isThought_X5_within : GoodIn wsX5_isThought (va_wsS RX5 70 yX5_within wsX5_within) := goodIn_app (goodIn_of _ (by decide +kernel)) ggX5_isThought_X5_within
theorem dX5_isThought_0 : decode cX5_isThought 0 = .ok (.iload_n 0, 1) := by decide +kernel
theorem dX5_isThought_1 : decode cX5_isThought 1 = .ok (.iconst 0, 1) := by decide +kernel
theorem dX5_isThought_2 : decode cX5_isThought 2 = .ok (.bipush 40, 2) := by decide +kernel
theorem dX5_isThought_4 : decode cX5_isThought 4 = .ok (.invokestatic 70, 3) := by decide +kernel
theorem dX5_isThought_7 : decode cX5_isThought 7 = .ok (.ireturn, 1) := by decide +kernel
set_option maxRecDepth 20000 in
theorem ggX5_waitedBehind_X5_copyRow : GoodIn wsX5_waitedBehind wsX5_copyRow := goodIn_r _ [6] (by decide +kernel) (by decide +kernel)
set_option maxRecDepth 20000 in
theorem gX5_waitedBehind_X5_copyRow : GoodIn wsX5_waitedBehind (va_wsS RX5 61 yX5_copyRow wsX5_copyRow) := goodIn_app (goodIn_of _ (by decide +kernel)) ggX5_waitedBehind_X5_copyRow
set_option maxRecDepth 20000 in
theorem ggX5_waitedBehind_X5_daysGo : GoodIn wsX5_waitedBehind wsX5_daysGo := goodIn_r _ [10, 11, 12, 13, 5, 14, 1, 15, 16, 17, 18, 19, 20, 21, 22, 23, 24, 25, 26, 27, 28, 29, 30, 31, 32, 33, 34, 35, 36, 37, 38, 39, 40, 41, 42, 43, 44, 45, 46, 47, 48, 49, 50, 51, 52, 53, 54, 55, 56, 57, 58, 59, 60, 61, 62, 63, 64, 65, 66, 67, 68, 69, 70, 71, 72, 73, 74, 75, 76, 77, 78, 79, 80, 81, 82, 83, 84, 85, 86, 95, 96, 97, 98, 99, 100, 101, 102, 103, 104, 105, 106, 107, 108, 109, 110, 111, 112, 113, 114, 115] (by decide +kernel) (by decide +kernel)
set_option maxRecDepth 20000 in
theorem gX5_waitedBehind_X5_daysGo : GoodIn wsX5_waitedBehind (wsV RX5 179 RX5 yX5_daysGo wsX5_daysGo) := goodIn_app (goodIn_of _ (by decide +kernel)) ggX5_waitedBehind_X5_daysGo
set_option maxRecDepth 20000 in
theorem ggX5_waitedBehind_X5_waitedInAll : GoodIn wsX5_waitedBehind wsX5_waitedInAll := goodIn_r _ [90, 1, 23, 24, 25, 5, 26, 27, 28, 29, 95, 96, 97, 98, 99, 100, 101, 102, 103, 104, 105, 106, 107, 108, 109, 110, 111, 112, 113, 114, 115] (by decide +kernel) (by decide +kernel)
set_option maxRecDepth 20000 in
theorem gX5_waitedBehind_X5_waitedInAll : GoodIn wsX5_waitedBehind (wsV RX5 191 RX5 yX5_waitedInAll wsX5_waitedInAll) := goodIn_app (goodIn_of _ (by decide +kernel)) ggX5_waitedBehind_X5_waitedInAll
set_option maxRecDepth 20000 in
theorem ggX5_waitedBehind_X5_putBack : GoodIn wsX5_waitedBehind wsX5_putBack := goodIn_r _ [94, 2, 1, 3, 4, 5, 6, 95, 96, 97, 98, 99, 100, 101, 102, 103, 104, 105, 106, 107, 108, 109, 110, 111, 112, 113, 114, 115] (by decide +kernel) (by decide +kernel)
set_option maxRecDepth 20000 in
theorem gX5_waitedBehind_X5_putBack : GoodIn wsX5_waitedBehind (wsV RX5 203 RX5 yX5_putBack wsX5_putBack) := goodIn_app (goodIn_of _ (by decide +kernel)) ggX5_waitedBehind_X5_putBack
theorem dX5_waitedBehind_0 : decode cX5_waitedBehind 0 = .ok (.aload_n 0, 1) := by decide +kernel
theorem dX5_waitedBehind_1 : decode cX5_waitedBehind 1 = .ok (.getfield 9, 3) := by decide +kernel
theorem dX5_waitedBehind_4 : decode cX5_waitedBehind 4 = .ok (.aload_n 0, 1) := by decide +kernel
theorem dX5_waitedBehind_5 : decode cX5_waitedBehind 5 = .ok (.getfield 16, 3) := by decide +kernel
theorem dX5_waitedBehind_8 : decode cX5_waitedBehind 8 = .ok (.invokestatic 61, 3) := by decide +kernel
theorem dX5_waitedBehind_11 : decode cX5_waitedBehind 11 = .ok (.aload_n 0, 1) := by decide +kernel
theorem dX5_waitedBehind_12 : decode cX5_waitedBehind 12 = .ok (.iload_n 1, 1) := by decide +kernel
theorem dX5_waitedBehind_13 : decode cX5_waitedBehind 13 = .ok (.invokevirtual 179, 3) := by decide +kernel
theorem dX5_waitedBehind_16 : decode cX5_waitedBehind 16 = .ok (.aload_n 0, 1) := by decide +kernel
theorem dX5_waitedBehind_17 : decode cX5_waitedBehind 17 = .ok (.aload_n 0, 1) := by decide +kernel
theorem dX5_waitedBehind_18 : decode cX5_waitedBehind 18 = .ok (.invokevirtual 191, 3) := by decide +kernel
theorem dX5_waitedBehind_21 : decode cX5_waitedBehind 21 = .ok (.invokevirtual 203, 3) := by decide +kernel
theorem dX5_waitedBehind_24 : decode cX5_waitedBehind 24 = .ok (.ireturn, 1) := by decide +kernel
set_option maxRecDepth 20000 in
theorem ggX5_leastFor_X5_waitedWith : GoodIn wsX5_leastFor wsX5_waitedWith := goodIn_r _ [6, 1, 7, 8, 9, 5, 10, 11, 12, 13, 14, 15, 16, 17, 18, 19, 20, 21, 22, 23, 24, 25, 26, 27, 28, 29, 30, 31, 32, 33, 34, 35, 36, 37, 38, 39, 40, 41, 42, 43, 44, 45, 46, 47, 48, 49, 50, 51, 52, 53, 54, 55, 56, 57, 58, 59, 60, 61, 62, 63, 64, 65, 66, 67, 68, 69, 70, 71, 72, 73, 74, 75, 76, 77, 78, 79, 80, 81, 82, 83, 84, 85, 86, 87, 88, 89, 90, 91, 92, 93, 94, 95, 96, 97, 98, 99, 100, 101, 102, 103, 104, 105, 106, 107, 108, 109, 110, 111, 112, 113, 114, 115, 116, 117, 118, 119, 120, 121, 122, 123] (by decide +kernel) (by decide +kernel)
set_option maxRecDepth 20000 in
theorem gX5_leastFor_X5_waitedWith : GoodIn wsX5_leastFor (wsV RX5 216 RX5 yX5_waitedWith wsX5_waitedWith) := goodIn_app (goodIn_of _ (by decide +kernel)) ggX5_leastFor_X5_waitedWith
theorem dX5_leastFor_0 : decode cX5_leastFor 0 = .ok (.aload_n 0, 1) := by decide +kernel
theorem dX5_leastFor_1 : decode cX5_leastFor 1 = .ok (.getfield 9, 3) := by decide +kernel
theorem dX5_leastFor_4 : decode cX5_leastFor 4 = .ok (.iload_n 1, 1) := by decide +kernel
theorem dX5_leastFor_5 : decode cX5_leastFor 5 = .ok (.iaload, 1) := by decide +kernel
theorem dX5_leastFor_6 : decode cX5_leastFor 6 = .ok (.istore 4, 2) := by decide +kernel
theorem dX5_leastFor_8 : decode cX5_leastFor 8 = .ok (.iconst 0, 1) := by decide +kernel
theorem dX5_leastFor_9 : decode cX5_leastFor 9 = .ok (.istore 5, 2) := by decide +kernel
theorem dX5_leastFor_11 : decode cX5_leastFor 11 = .ok (.aload_n 0, 1) := by decide +kernel
theorem dX5_leastFor_12 : decode cX5_leastFor 12 = .ok (.iload_n 1, 1) := by decide +kernel
theorem dX5_leastFor_13 : decode cX5_leastFor 13 = .ok (.iconst 0, 1) := by decide +kernel
theorem dX5_leastFor_14 : decode cX5_leastFor 14 = .ok (.iload_n 3, 1) := by decide +kernel
theorem dX5_leastFor_15 : decode cX5_leastFor 15 = .ok (.invokevirtual 216, 3) := by decide +kernel
theorem dX5_leastFor_18 : decode cX5_leastFor 18 = .ok (.istore 6, 2) := by decide +kernel
theorem dX5_leastFor_20 : decode cX5_leastFor 20 = .ok (.iconst 1, 1) := by decide +kernel
theorem dX5_leastFor_21 : decode cX5_leastFor 21 = .ok (.istore 7, 2) := by decide +kernel
theorem dX5_leastFor_23 : decode cX5_leastFor 23 = .ok (.iload 7, 2) := by decide +kernel
theorem dX5_leastFor_25 : decode cX5_leastFor 25 = .ok (.iload_n 2, 1) := by decide +kernel
theorem dX5_leastFor_26 : decode cX5_leastFor 26 = .ok (.if_icmp .gt 34, 3) := by decide +kernel
theorem dX5_leastFor_29 : decode cX5_leastFor 29 = .ok (.aload_n 0, 1) := by decide +kernel
theorem dX5_leastFor_30 : decode cX5_leastFor 30 = .ok (.iload_n 1, 1) := by decide +kernel
theorem dX5_leastFor_31 : decode cX5_leastFor 31 = .ok (.iload 7, 2) := by decide +kernel
theorem dX5_leastFor_33 : decode cX5_leastFor 33 = .ok (.iload_n 3, 1) := by decide +kernel
theorem dX5_leastFor_34 : decode cX5_leastFor 34 = .ok (.invokevirtual 216, 3) := by decide +kernel
theorem dX5_leastFor_37 : decode cX5_leastFor 37 = .ok (.istore 8, 2) := by decide +kernel
theorem dX5_leastFor_39 : decode cX5_leastFor 39 = .ok (.iload 8, 2) := by decide +kernel
theorem dX5_leastFor_41 : decode cX5_leastFor 41 = .ok (.iload 6, 2) := by decide +kernel
theorem dX5_leastFor_43 : decode cX5_leastFor 43 = .ok (.if_icmp .ge 11, 3) := by decide +kernel
theorem dX5_leastFor_46 : decode cX5_leastFor 46 = .ok (.iload 7, 2) := by decide +kernel
theorem dX5_leastFor_48 : decode cX5_leastFor 48 = .ok (.istore 5, 2) := by decide +kernel
theorem dX5_leastFor_50 : decode cX5_leastFor 50 = .ok (.iload 8, 2) := by decide +kernel
theorem dX5_leastFor_52 : decode cX5_leastFor 52 = .ok (.istore 6, 2) := by decide +kernel
theorem dX5_leastFor_54 : decode cX5_leastFor 54 = .ok (.iinc 7 1, 3) := by decide +kernel
theorem dX5_leastFor_57 : decode cX5_leastFor 57 = .ok (.goto (-34), 3) := by decide +kernel
theorem dX5_leastFor_60 : decode cX5_leastFor 60 = .ok (.aload_n 0, 1) := by decide +kernel
theorem dX5_leastFor_61 : decode cX5_leastFor 61 = .ok (.getfield 9, 3) := by decide +kernel
theorem dX5_leastFor_64 : decode cX5_leastFor 64 = .ok (.iload_n 1, 1) := by decide +kernel
theorem dX5_leastFor_65 : decode cX5_leastFor 65 = .ok (.iload 4, 2) := by decide +kernel
theorem dX5_leastFor_67 : decode cX5_leastFor 67 = .ok (.iastore, 1) := by decide +kernel
theorem dX5_leastFor_68 : decode cX5_leastFor 68 = .ok (.iload 5, 2) := by decide +kernel
theorem dX5_leastFor_70 : decode cX5_leastFor 70 = .ok (.ireturn, 1) := by decide +kernel
set_option maxRecDepth 20000 in
theorem ggX5_waitedWith_X5_waitedBehind : GoodIn wsX5_waitedWith wsX5_waitedBehind := goodIn_r _ [6, 1, 7, 8, 9, 5, 10, 11, 12, 13, 14, 15, 16, 17, 18, 19, 20, 21, 22, 23, 24, 25, 26, 27, 28, 29, 30, 31, 32, 33, 34, 35, 36, 37, 38, 39, 40, 41, 42, 43, 44, 45, 46, 47, 48, 49, 50, 51, 52, 53, 54, 55, 56, 57, 58, 59, 60, 61, 62, 63, 64, 65, 66, 67, 68, 69, 70, 71, 72, 73, 74, 75, 76, 77, 78, 79, 80, 81, 82, 83, 84, 85, 86, 87, 88, 89, 90, 91, 92, 93, 94, 95, 96, 97, 98, 99, 100, 101, 102, 103, 104, 105, 106, 107, 108, 109, 110, 111, 112, 113, 114, 115, 116, 117, 118, 119] (by decide +kernel) (by decide +kernel)
set_option maxRecDepth 20000 in
theorem gX5_waitedWith_X5_waitedBehind : GoodIn wsX5_waitedWith (wsV RX5 219 RX5 yX5_waitedBehind wsX5_waitedBehind) := goodIn_app (goodIn_of _ (by decide +kernel)) ggX5_waitedWith_X5_waitedBehind
theorem dX5_waitedWith_0 : decode cX5_waitedWith 0 = .ok (.aload_n 0, 1) := by decide +kernel
theorem dX5_waitedWith_1 : decode cX5_waitedWith 1 = .ok (.getfield 9, 3) := by decide +kernel
theorem dX5_waitedWith_4 : decode cX5_waitedWith 4 = .ok (.iload_n 1, 1) := by decide +kernel
theorem dX5_waitedWith_5 : decode cX5_waitedWith 5 = .ok (.iload_n 2, 1) := by decide +kernel
theorem dX5_waitedWith_6 : decode cX5_waitedWith 6 = .ok (.iastore, 1) := by decide +kernel
theorem dX5_waitedWith_7 : decode cX5_waitedWith 7 = .ok (.aload_n 0, 1) := by decide +kernel
theorem dX5_waitedWith_8 : decode cX5_waitedWith 8 = .ok (.iload_n 3, 1) := by decide +kernel
theorem dX5_waitedWith_9 : decode cX5_waitedWith 9 = .ok (.invokevirtual 219, 3) := by decide +kernel
theorem dX5_waitedWith_12 : decode cX5_waitedWith 12 = .ok (.ireturn, 1) := by decide +kernel
set_option maxRecDepth 20000 in
theorem ggX5_finishFor_X5_isPlace : GoodIn wsX5_finishFor wsX5_isPlace := goodIn_r _ [5, 6, 7, 4, 8] (by decide +kernel) (by decide +kernel)
set_option maxRecDepth 20000 in
theorem gX5_finishFor_X5_isPlace : GoodIn wsX5_finishFor (va_wsS RX5 74 yX5_isPlace wsX5_isPlace) := goodIn_app (goodIn_of _ (by decide +kernel)) ggX5_finishFor_X5_isPlace
set_option maxRecDepth 20000 in
theorem ggX5_finishFor_X5_isThought : GoodIn wsX5_finishFor wsX5_isThought := goodIn_r _ [11, 6, 7, 4, 8] (by decide +kernel) (by decide +kernel)
set_option maxRecDepth 20000 in
theorem gX5_finishFor_X5_isThought : GoodIn wsX5_finishFor (va_wsS RX5 222 yX5_isThought wsX5_isThought) := goodIn_app (goodIn_of _ (by decide +kernel)) ggX5_finishFor_X5_isThought
set_option maxRecDepth 20000 in
theorem ggX5_finishFor_X5_leastFor : GoodIn wsX5_finishFor wsX5_leastFor := goodIn_r _ [15, 16, 17, 18, 19, 4, 20, 21, 22, 23, 24, 25, 26, 27, 28, 29, 30, 31, 32, 33, 34, 35, 36, 37, 38, 39, 40, 41, 42, 43, 44, 45, 46, 47, 48, 49, 50, 51, 52, 53, 54, 55, 56, 57, 58, 59, 60, 61, 62, 63, 64, 65, 66, 67, 68, 69, 70, 71, 72, 73, 74, 75, 76, 77, 78, 79, 80, 81, 82, 83, 84, 85, 86, 87, 88, 89, 90, 91, 92, 93, 6, 7, 8, 94, 95, 96, 97, 98, 99, 100, 101, 102, 103, 104, 105, 106, 107, 108, 109, 110, 111, 112, 113, 119, 120, 121, 122, 123, 124, 125, 126, 127, 128, 129, 130, 131, 132, 133, 134, 135, 136, 137, 138, 139] (by decide +kernel) (by decide +kernel)
set_option maxRecDepth 20000 in
theorem gX5_finishFor_X5_leastFor : GoodIn wsX5_finishFor (wsV RX5 225 RX5 yX5_leastFor wsX5_leastFor) := goodIn_app (goodIn_of _ (by decide +kernel)) ggX5_finishFor_X5_leastFor
set_option maxRecDepth 20000 in
theorem ggX5_finishFor_X5_finding : GoodIn wsX5_finishFor wsX5_finding := goodIn_r _ [117, 118, 1, 119, 120, 121, 122, 123, 124, 125, 126, 127, 128, 129, 130, 131, 132, 133, 134, 135, 136, 137, 138, 139] (by decide +kernel) (by decide +kernel)
set_option maxRecDepth 20000 in
theorem gX5_finishFor_X5_finding : GoodIn wsX5_finishFor (wsV RX5 66 RX5 yX5_finding wsX5_finding) := goodIn_app (goodIn_of _ (by decide +kernel)) ggX5_finishFor_X5_finding
theorem dX5_finishFor_0 : decode cX5_finishFor 0 = .ok (.iload_n 1, 1) := by decide +kernel
theorem dX5_finishFor_1 : decode cX5_finishFor 1 = .ok (.invokestatic 74, 3) := by decide +kernel
theorem dX5_finishFor_4 : decode cX5_finishFor 4 = .ok (.ifCond .eq 23, 3) := by decide +kernel
theorem dX5_finishFor_7 : decode cX5_finishFor 7 = .ok (.iload_n 2, 1) := by decide +kernel
theorem dX5_finishFor_8 : decode cX5_finishFor 8 = .ok (.invokestatic 222, 3) := by decide +kernel
theorem dX5_finishFor_11 : decode cX5_finishFor 11 = .ok (.ifCond .eq 16, 3) := by decide +kernel
theorem dX5_finishFor_14 : decode cX5_finishFor 14 = .ok (.aload_n 0, 1) := by decide +kernel
theorem dX5_finishFor_15 : decode cX5_finishFor 15 = .ok (.iconst 4, 1) := by decide +kernel
theorem dX5_finishFor_16 : decode cX5_finishFor 16 = .ok (.iload_n 1, 1) := by decide +kernel
theorem dX5_finishFor_17 : decode cX5_finishFor 17 = .ok (.iadd, 1) := by decide +kernel
theorem dX5_finishFor_18 : decode cX5_finishFor 18 = .ok (.bipush 8, 2) := by decide +kernel
theorem dX5_finishFor_20 : decode cX5_finishFor 20 = .ok (.iload_n 2, 1) := by decide +kernel
theorem dX5_finishFor_21 : decode cX5_finishFor 21 = .ok (.invokevirtual 225, 3) := by decide +kernel
theorem dX5_finishFor_24 : decode cX5_finishFor 24 = .ok (.goto 9, 3) := by decide +kernel
theorem dX5_finishFor_27 : decode cX5_finishFor 27 = .ok (.aload_n 0, 1) := by decide +kernel
theorem dX5_finishFor_28 : decode cX5_finishFor 28 = .ok (.ldc 60, 2) := by decide +kernel
theorem dX5_finishFor_30 : decode cX5_finishFor 30 = .ok (.invokevirtual 66, 3) := by decide +kernel
theorem dX5_finishFor_33 : decode cX5_finishFor 33 = .ok (.ireturn, 1) := by decide +kernel
set_option maxRecDepth 20000 in
theorem ggX5_kindFor_X5_isSaying : GoodIn wsX5_kindFor wsX5_isSaying := goodIn_r _ [6, 7, 8, 9, 5, 10, 116, 117, 118, 119, 120, 121, 122, 123, 124, 125, 126, 127, 128, 129, 130, 131, 132, 133, 134, 135, 136] (by decide +kernel) (by decide +kernel)
set_option maxRecDepth 20000 in
theorem gX5_kindFor_X5_isSaying : GoodIn wsX5_kindFor (wsV RX5 123 RX5 yX5_isSaying wsX5_isSaying) := goodIn_app (goodIn_of _ (by decide +kernel)) ggX5_kindFor_X5_isSaying
set_option maxRecDepth 20000 in
theorem ggX5_kindFor_X5_isThought : GoodIn wsX5_kindFor wsX5_isThought := goodIn_r _ [13, 8, 9, 5, 10] (by decide +kernel) (by decide +kernel)
set_option maxRecDepth 20000 in
theorem gX5_kindFor_X5_isThought : GoodIn wsX5_kindFor (va_wsS RX5 222 yX5_isThought wsX5_isThought) := goodIn_app (goodIn_of _ (by decide +kernel)) ggX5_kindFor_X5_isThought
set_option maxRecDepth 20000 in
theorem ggX5_kindFor_X5_sayingAt : GoodIn wsX5_kindFor wsX5_sayingAt := goodIn_r _ [16] (by decide +kernel) (by decide +kernel)
set_option maxRecDepth 20000 in
theorem gX5_kindFor_X5_sayingAt : GoodIn wsX5_kindFor (va_wsS RX5 82 yX5_sayingAt wsX5_sayingAt) := goodIn_app (goodIn_of _ (by decide +kernel)) ggX5_kindFor_X5_sayingAt
set_option maxRecDepth 20000 in
theorem ggX5_kindFor_X5_leastFor : GoodIn wsX5_kindFor wsX5_leastFor := goodIn_r _ [20, 7, 21, 22, 23, 5, 24, 25, 26, 27, 28, 29, 30, 31, 32, 33, 34, 35, 36, 37, 38, 39, 40, 41, 42, 43, 44, 45, 46, 47, 48, 49, 50, 51, 52, 53, 54, 55, 56, 57, 58, 59, 60, 61, 62, 63, 64, 65, 66, 67, 68, 69, 70, 14, 15, 16, 71, 72, 73, 74, 75, 76, 77, 78, 79, 80, 81, 82, 83, 84, 85, 86, 87, 88, 89, 90, 2, 3, 4, 6, 8, 9, 10, 91, 92, 93, 94, 95, 96, 97, 98, 99, 100, 101, 102, 103, 104, 105, 106, 107, 108, 109, 110, 116, 117, 118, 119, 120, 121, 122, 123, 124, 125, 126, 127, 128, 129, 130, 131, 132, 133, 134, 135, 136] (by decide +kernel) (by decide +kernel)
set_option maxRecDepth 20000 in
theorem gX5_kindFor_X5_leastFor : GoodIn wsX5_kindFor (wsV RX5 225 RX5 yX5_leastFor wsX5_leastFor) := goodIn_app (goodIn_of _ (by decide +kernel)) ggX5_kindFor_X5_leastFor
set_option maxRecDepth 20000 in
theorem ggX5_kindFor_X5_finding : GoodIn wsX5_kindFor wsX5_finding := goodIn_r _ [114, 115, 1, 116, 117, 118, 119, 120, 121, 122, 123, 124, 125, 126, 127, 128, 129, 130, 131, 132, 133, 134, 135, 136] (by decide +kernel) (by decide +kernel)
set_option maxRecDepth 20000 in
theorem gX5_kindFor_X5_finding : GoodIn wsX5_kindFor (wsV RX5 66 RX5 yX5_finding wsX5_finding) := goodIn_app (goodIn_of _ (by decide +kernel)) ggX5_kindFor_X5_finding
theorem dX5_kindFor_0 : decode cX5_kindFor 0 = .ok (.aload_n 0, 1) := by decide +kernel
theorem dX5_kindFor_1 : decode cX5_kindFor 1 = .ok (.iload_n 1, 1) := by decide +kernel
theorem dX5_kindFor_2 : decode cX5_kindFor 2 = .ok (.invokevirtual 123, 3) := by decide +kernel
theorem dX5_kindFor_5 : decode cX5_kindFor 5 = .ok (.ifCond .eq 25, 3) := by decide +kernel
theorem dX5_kindFor_8 : decode cX5_kindFor 8 = .ok (.iload_n 2, 1) := by decide +kernel
theorem dX5_kindFor_9 : decode cX5_kindFor 9 = .ok (.invokestatic 222, 3) := by decide +kernel
theorem dX5_kindFor_12 : decode cX5_kindFor 12 = .ok (.ifCond .eq 18, 3) := by decide +kernel
theorem dX5_kindFor_15 : decode cX5_kindFor 15 = .ok (.aload_n 0, 1) := by decide +kernel
theorem dX5_kindFor_16 : decode cX5_kindFor 16 = .ok (.iload_n 1, 1) := by decide +kernel
theorem dX5_kindFor_17 : decode cX5_kindFor 17 = .ok (.iconst 0, 1) := by decide +kernel
theorem dX5_kindFor_18 : decode cX5_kindFor 18 = .ok (.invokestatic 82, 3) := by decide +kernel
theorem dX5_kindFor_21 : decode cX5_kindFor 21 = .ok (.bipush 6, 2) := by decide +kernel
theorem dX5_kindFor_23 : decode cX5_kindFor 23 = .ok (.iload_n 2, 1) := by decide +kernel
theorem dX5_kindFor_24 : decode cX5_kindFor 24 = .ok (.invokevirtual 225, 3) := by decide +kernel
theorem dX5_kindFor_27 : decode cX5_kindFor 27 = .ok (.goto 9, 3) := by decide +kernel
theorem dX5_kindFor_30 : decode cX5_kindFor 30 = .ok (.aload_n 0, 1) := by decide +kernel
theorem dX5_kindFor_31 : decode cX5_kindFor 31 = .ok (.ldc 60, 2) := by decide +kernel
theorem dX5_kindFor_33 : decode cX5_kindFor 33 = .ok (.invokevirtual 66, 3) := by decide +kernel
theorem dX5_kindFor_36 : decode cX5_kindFor 36 = .ok (.ireturn, 1) := by decide +kernel
set_option maxRecDepth 20000 in
theorem ggX5_landsWith_X5_shipAt : GoodIn wsX5_landsWith wsX5_shipAt := goodIn_r _ [5] (by decide +kernel) (by decide +kernel)
set_option maxRecDepth 20000 in
theorem gX5_landsWith_X5_shipAt : GoodIn wsX5_landsWith (va_wsS RX5 85 yX5_shipAt wsX5_shipAt) := goodIn_app (goodIn_of _ (by decide +kernel)) ggX5_landsWith_X5_shipAt
set_option maxRecDepth 20000 in
theorem ggX5_landsWith_X5_behind : GoodIn wsX5_landsWith wsX5_behind := goodIn_r _ [9, 1, 10, 11, 12, 4, 13, 14, 15, 16, 17, 18, 19, 20, 21, 22, 23, 24, 25, 26, 27, 28, 29, 30, 31, 32, 33, 2, 3, 5, 34, 35, 36, 37, 38, 39, 40, 41, 42, 43, 44, 45, 46, 47, 48, 49, 50, 51, 52, 53, 54, 55, 56, 57, 58, 59, 60, 61, 62, 63, 64, 65, 66, 67, 68, 69, 70, 71, 72, 73, 74, 75, 76, 77, 78, 79, 80, 81, 82, 83, 84, 85, 86, 87, 88, 89, 90, 91, 92, 93, 94, 95, 96, 97, 98, 99, 100, 101, 102, 103, 104, 105, 106, 107, 108, 109, 110, 111, 112, 113, 114, 115] (by decide +kernel) (by decide +kernel)
set_option maxRecDepth 20000 in
theorem gX5_landsWith_X5_behind : GoodIn wsX5_landsWith (wsV RX5 206 RX5 yX5_behind wsX5_behind) := goodIn_app (goodIn_of _ (by decide +kernel)) ggX5_landsWith_X5_behind
theorem dX5_landsWith_0 : decode cX5_landsWith 0 = .ok (.iload_n 1, 1) := by decide +kernel
theorem dX5_landsWith_1 : decode cX5_landsWith 1 = .ok (.iload_n 2, 1) := by decide +kernel
theorem dX5_landsWith_2 : decode cX5_landsWith 2 = .ok (.invokestatic 85, 3) := by decide +kernel
theorem dX5_landsWith_5 : decode cX5_landsWith 5 = .ok (.istore 6, 2) := by decide +kernel
theorem dX5_landsWith_7 : decode cX5_landsWith 7 = .ok (.aload_n 0, 1) := by decide +kernel
theorem dX5_landsWith_8 : decode cX5_landsWith 8 = .ok (.getfield 9, 3) := by decide +kernel
theorem dX5_landsWith_11 : decode cX5_landsWith 11 = .ok (.iload 6, 2) := by decide +kernel
theorem dX5_landsWith_13 : decode cX5_landsWith 13 = .ok (.iaload, 1) := by decide +kernel
theorem dX5_landsWith_14 : decode cX5_landsWith 14 = .ok (.istore 7, 2) := by decide +kernel
theorem dX5_landsWith_16 : decode cX5_landsWith 16 = .ok (.iconst (-1), 1) := by decide +kernel
theorem dX5_landsWith_17 : decode cX5_landsWith 17 = .ok (.istore 8, 2) := by decide +kernel
theorem dX5_landsWith_19 : decode cX5_landsWith 19 = .ok (.iload_n 3, 1) := by decide +kernel
theorem dX5_landsWith_20 : decode cX5_landsWith 20 = .ok (.istore 9, 2) := by decide +kernel
theorem dX5_landsWith_22 : decode cX5_landsWith 22 = .ok (.iload 9, 2) := by decide +kernel
theorem dX5_landsWith_24 : decode cX5_landsWith 24 = .ok (.iload 4, 2) := by decide +kernel
theorem dX5_landsWith_26 : decode cX5_landsWith 26 = .ok (.if_icmp .gt 47, 3) := by decide +kernel
theorem dX5_landsWith_29 : decode cX5_landsWith 29 = .ok (.iload 8, 2) := by decide +kernel
theorem dX5_landsWith_31 : decode cX5_landsWith 31 = .ok (.ifCond .ge 42, 3) := by decide +kernel
theorem dX5_landsWith_34 : decode cX5_landsWith 34 = .ok (.aload_n 0, 1) := by decide +kernel
theorem dX5_landsWith_35 : decode cX5_landsWith 35 = .ok (.getfield 9, 3) := by decide +kernel
theorem dX5_landsWith_38 : decode cX5_landsWith 38 = .ok (.iload 6, 2) := by decide +kernel
theorem dX5_landsWith_40 : decode cX5_landsWith 40 = .ok (.iload 9, 2) := by decide +kernel
theorem dX5_landsWith_42 : decode cX5_landsWith 42 = .ok (.iastore, 1) := by decide +kernel
theorem dX5_landsWith_43 : decode cX5_landsWith 43 = .ok (.aload_n 0, 1) := by decide +kernel
theorem dX5_landsWith_44 : decode cX5_landsWith 44 = .ok (.iload_n 1, 1) := by decide +kernel
theorem dX5_landsWith_45 : decode cX5_landsWith 45 = .ok (.iconst 0, 1) := by decide +kernel
theorem dX5_landsWith_46 : decode cX5_landsWith 46 = .ok (.invokestatic 85, 3) := by decide +kernel
theorem dX5_landsWith_49 : decode cX5_landsWith 49 = .ok (.iload 5, 2) := by decide +kernel
theorem dX5_landsWith_51 : decode cX5_landsWith 51 = .ok (.invokevirtual 206, 3) := by decide +kernel
theorem dX5_landsWith_54 : decode cX5_landsWith 54 = .ok (.bipush 15, 2) := by decide +kernel
theorem dX5_landsWith_56 : decode cX5_landsWith 56 = .ok (.if_icmp .ne 8, 3) := by decide +kernel
theorem dX5_landsWith_59 : decode cX5_landsWith 59 = .ok (.iload 9, 2) := by decide +kernel
theorem dX5_landsWith_61 : decode cX5_landsWith 61 = .ok (.goto 4, 3) := by decide +kernel
theorem dX5_landsWith_64 : decode cX5_landsWith 64 = .ok (.iconst (-1), 1) := by decide +kernel
theorem dX5_landsWith_65 : decode cX5_landsWith 65 = .ok (.istore 8, 2) := by decide +kernel
theorem dX5_landsWith_67 : decode cX5_landsWith 67 = .ok (.iinc 9 1, 3) := by decide +kernel
theorem dX5_landsWith_70 : decode cX5_landsWith 70 = .ok (.goto (-48), 3) := by decide +kernel
theorem dX5_landsWith_73 : decode cX5_landsWith 73 = .ok (.aload_n 0, 1) := by decide +kernel
theorem dX5_landsWith_74 : decode cX5_landsWith 74 = .ok (.getfield 9, 3) := by decide +kernel
theorem dX5_landsWith_77 : decode cX5_landsWith 77 = .ok (.iload 6, 2) := by decide +kernel
theorem dX5_landsWith_79 : decode cX5_landsWith 79 = .ok (.iload 7, 2) := by decide +kernel
theorem dX5_landsWith_81 : decode cX5_landsWith 81 = .ok (.iastore, 1) := by decide +kernel
theorem dX5_landsWith_82 : decode cX5_landsWith 82 = .ok (.iload 8, 2) := by decide +kernel
theorem dX5_landsWith_84 : decode cX5_landsWith 84 = .ok (.ireturn, 1) := by decide +kernel
set_option maxRecDepth 20000 in
theorem ggX5_eyesFor_X5_isShip : GoodIn wsX5_eyesFor wsX5_isShip := goodIn_r _ [6, 7, 8, 9, 5, 10, 117, 118, 119, 120, 121, 122, 123, 124, 125, 126, 127, 128, 129, 130, 131, 132, 133, 134, 135, 136, 137] (by decide +kernel) (by decide +kernel)
set_option maxRecDepth 20000 in
theorem gX5_eyesFor_X5_isShip : GoodIn wsX5_eyesFor (wsV RX5 133 RX5 yX5_isShip wsX5_isShip) := goodIn_app (goodIn_of _ (by decide +kernel)) ggX5_eyesFor_X5_isShip
set_option maxRecDepth 20000 in
theorem ggX5_eyesFor_X5_isThought : GoodIn wsX5_eyesFor wsX5_isThought := goodIn_r _ [13, 8, 9, 5, 10] (by decide +kernel) (by decide +kernel)
set_option maxRecDepth 20000 in
theorem gX5_eyesFor_X5_isThought : GoodIn wsX5_eyesFor (va_wsS RX5 222 yX5_isThought wsX5_isThought) := goodIn_app (goodIn_of _ (by decide +kernel)) ggX5_eyesFor_X5_isThought
set_option maxRecDepth 20000 in
theorem ggX5_eyesFor_X5_landsWith : GoodIn wsX5_eyesFor wsX5_landsWith := goodIn_r _ [17, 7, 18, 19, 5, 20, 21, 22, 23, 24, 25, 26, 27, 28, 29, 30, 31, 32, 33, 34, 35, 36, 37, 38, 39, 40, 41, 42, 43, 44, 45, 46, 47, 48, 49, 50, 51, 52, 53, 54, 55, 56, 57, 58, 59, 60, 61, 62, 63, 64, 65, 66, 67, 68, 69, 70, 71, 72, 73, 74, 75, 76, 77, 78, 79, 80, 81, 82, 83, 84, 85, 86, 87, 88, 89, 90, 8, 9, 10, 91, 92, 93, 94, 95, 96, 97, 98, 99, 100, 101, 102, 103, 104, 105, 106, 117, 118, 119, 120, 121, 122, 123, 124, 125, 126, 127, 128, 129, 130, 131, 132, 133, 134, 135, 136, 137] (by decide +kernel) (by decide +kernel)
set_option maxRecDepth 20000 in
theorem gX5_eyesFor_X5_landsWith : GoodIn wsX5_eyesFor (wsV RX5 228 RX5 yX5_landsWith wsX5_landsWith) := goodIn_app (goodIn_of _ (by decide +kernel)) ggX5_eyesFor_X5_landsWith
set_option maxRecDepth 20000 in
theorem ggX5_eyesFor_X5_orNone : GoodIn wsX5_eyesFor wsX5_orNone := goodIn_r _ [110, 111, 112, 113, 114, 5, 115, 116, 1, 117, 118, 119, 120, 121, 122, 123, 124, 125, 126, 127, 128, 129, 130, 131, 132, 133, 134, 135, 136, 137] (by decide +kernel) (by decide +kernel)
set_option maxRecDepth 20000 in
theorem gX5_eyesFor_X5_orNone : GoodIn wsX5_eyesFor (wsV RX5 209 RX5 yX5_orNone wsX5_orNone) := goodIn_app (goodIn_of _ (by decide +kernel)) ggX5_eyesFor_X5_orNone
set_option maxRecDepth 20000 in
theorem ggX5_eyesFor_X5_finding : GoodIn wsX5_eyesFor wsX5_finding := goodIn_r _ [115, 116, 1, 117, 118, 119, 120, 121, 122, 123, 124, 125, 126, 127, 128, 129, 130, 131, 132, 133, 134, 135, 136, 137] (by decide +kernel) (by decide +kernel)
set_option maxRecDepth 20000 in
theorem gX5_eyesFor_X5_finding : GoodIn wsX5_eyesFor (wsV RX5 66 RX5 yX5_finding wsX5_finding) := goodIn_app (goodIn_of _ (by decide +kernel)) ggX5_eyesFor_X5_finding
theorem dX5_eyesFor_0 : decode cX5_eyesFor 0 = .ok (.aload_n 0, 1) := by decide +kernel
theorem dX5_eyesFor_1 : decode cX5_eyesFor 1 = .ok (.iload_n 1, 1) := by decide +kernel
theorem dX5_eyesFor_2 : decode cX5_eyesFor 2 = .ok (.invokevirtual 133, 3) := by decide +kernel
theorem dX5_eyesFor_5 : decode cX5_eyesFor 5 = .ok (.ifCond .eq 27, 3) := by decide +kernel
theorem dX5_eyesFor_8 : decode cX5_eyesFor 8 = .ok (.iload_n 2, 1) := by decide +kernel
theorem dX5_eyesFor_9 : decode cX5_eyesFor 9 = .ok (.invokestatic 222, 3) := by decide +kernel
theorem dX5_eyesFor_12 : decode cX5_eyesFor 12 = .ok (.ifCond .eq 20, 3) := by decide +kernel
theorem dX5_eyesFor_15 : decode cX5_eyesFor 15 = .ok (.aload_n 0, 1) := by decide +kernel
theorem dX5_eyesFor_16 : decode cX5_eyesFor 16 = .ok (.aload_n 0, 1) := by decide +kernel
theorem dX5_eyesFor_17 : decode cX5_eyesFor 17 = .ok (.iload_n 1, 1) := by decide +kernel
theorem dX5_eyesFor_18 : decode cX5_eyesFor 18 = .ok (.iconst 1, 1) := by decide +kernel
theorem dX5_eyesFor_19 : decode cX5_eyesFor 19 = .ok (.iconst 0, 1) := by decide +kernel
theorem dX5_eyesFor_20 : decode cX5_eyesFor 20 = .ok (.bipush 99, 2) := by decide +kernel
theorem dX5_eyesFor_22 : decode cX5_eyesFor 22 = .ok (.iload_n 2, 1) := by decide +kernel
theorem dX5_eyesFor_23 : decode cX5_eyesFor 23 = .ok (.invokevirtual 228, 3) := by decide +kernel
theorem dX5_eyesFor_26 : decode cX5_eyesFor 26 = .ok (.invokevirtual 209, 3) := by decide +kernel
theorem dX5_eyesFor_29 : decode cX5_eyesFor 29 = .ok (.goto 9, 3) := by decide +kernel
theorem dX5_eyesFor_32 : decode cX5_eyesFor 32 = .ok (.aload_n 0, 1) := by decide +kernel
theorem dX5_eyesFor_33 : decode cX5_eyesFor 33 = .ok (.ldc 60, 2) := by decide +kernel
theorem dX5_eyesFor_35 : decode cX5_eyesFor 35 = .ok (.invokevirtual 66, 3) := by decide +kernel
theorem dX5_eyesFor_38 : decode cX5_eyesFor 38 = .ok (.ireturn, 1) := by decide +kernel
set_option maxRecDepth 20000 in
theorem ggX5_speedFor_X5_isShip : GoodIn wsX5_speedFor wsX5_isShip := goodIn_r _ [6, 7, 8, 9, 5, 10, 117, 118, 119, 120, 121, 122, 123, 124, 125, 126, 127, 128, 129, 130, 131, 132, 133, 134, 135, 136, 137] (by decide +kernel) (by decide +kernel)
set_option maxRecDepth 20000 in
theorem gX5_speedFor_X5_isShip : GoodIn wsX5_speedFor (wsV RX5 133 RX5 yX5_isShip wsX5_isShip) := goodIn_app (goodIn_of _ (by decide +kernel)) ggX5_speedFor_X5_isShip
set_option maxRecDepth 20000 in
theorem ggX5_speedFor_X5_isThought : GoodIn wsX5_speedFor wsX5_isThought := goodIn_r _ [13, 8, 9, 5, 10] (by decide +kernel) (by decide +kernel)
set_option maxRecDepth 20000 in
theorem gX5_speedFor_X5_isThought : GoodIn wsX5_speedFor (va_wsS RX5 222 yX5_isThought wsX5_isThought) := goodIn_app (goodIn_of _ (by decide +kernel)) ggX5_speedFor_X5_isThought
set_option maxRecDepth 20000 in
theorem ggX5_speedFor_X5_landsWith : GoodIn wsX5_speedFor wsX5_landsWith := goodIn_r _ [17, 7, 18, 19, 5, 20, 21, 22, 23, 24, 25, 26, 27, 28, 29, 30, 31, 32, 33, 34, 35, 36, 37, 38, 39, 40, 41, 42, 43, 44, 45, 46, 47, 48, 49, 50, 51, 52, 53, 54, 55, 56, 57, 58, 59, 60, 61, 62, 63, 64, 65, 66, 67, 68, 69, 70, 71, 72, 73, 74, 75, 76, 77, 78, 79, 80, 81, 82, 83, 84, 85, 86, 87, 88, 89, 90, 8, 9, 10, 91, 92, 93, 94, 95, 96, 97, 98, 99, 100, 101, 102, 103, 104, 105, 106, 117, 118, 119, 120, 121, 122, 123, 124, 125, 126, 127, 128, 129, 130, 131, 132, 133, 134, 135, 136, 137] (by decide +kernel) (by decide +kernel)
set_option maxRecDepth 20000 in
theorem gX5_speedFor_X5_landsWith : GoodIn wsX5_speedFor (wsV RX5 228 RX5 yX5_landsWith wsX5_landsWith) := goodIn_app (goodIn_of _ (by decide +kernel)) ggX5_speedFor_X5_landsWith
set_option maxRecDepth 20000 in
theorem ggX5_speedFor_X5_orNone : GoodIn wsX5_speedFor wsX5_orNone := goodIn_r _ [110, 111, 112, 113, 114, 5, 115, 116, 1, 117, 118, 119, 120, 121, 122, 123, 124, 125, 126, 127, 128, 129, 130, 131, 132, 133, 134, 135, 136, 137] (by decide +kernel) (by decide +kernel)
set_option maxRecDepth 20000 in
theorem gX5_speedFor_X5_orNone : GoodIn wsX5_speedFor (wsV RX5 209 RX5 yX5_orNone wsX5_orNone) := goodIn_app (goodIn_of _ (by decide +kernel)) ggX5_speedFor_X5_orNone
set_option maxRecDepth 20000 in
theorem ggX5_speedFor_X5_finding : GoodIn wsX5_speedFor wsX5_finding := goodIn_r _ [115, 116, 1, 117, 118, 119, 120, 121, 122, 123, 124, 125, 126, 127, 128, 129, 130, 131, 132, 133, 134, 135, 136, 137] (by decide +kernel) (by decide +kernel)
set_option maxRecDepth 20000 in
theorem gX5_speedFor_X5_finding : GoodIn wsX5_speedFor (wsV RX5 66 RX5 yX5_finding wsX5_finding) := goodIn_app (goodIn_of _ (by decide +kernel)) ggX5_speedFor_X5_finding
theorem dX5_speedFor_0 : decode cX5_speedFor 0 = .ok (.aload_n 0, 1) := by decide +kernel
theorem dX5_speedFor_1 : decode cX5_speedFor 1 = .ok (.iload_n 1, 1) := by decide +kernel
theorem dX5_speedFor_2 : decode cX5_speedFor 2 = .ok (.invokevirtual 133, 3) := by decide +kernel
theorem dX5_speedFor_5 : decode cX5_speedFor 5 = .ok (.ifCond .eq 26, 3) := by decide +kernel
theorem dX5_speedFor_8 : decode cX5_speedFor 8 = .ok (.iload_n 2, 1) := by decide +kernel
theorem dX5_speedFor_9 : decode cX5_speedFor 9 = .ok (.invokestatic 222, 3) := by decide +kernel
theorem dX5_speedFor_12 : decode cX5_speedFor 12 = .ok (.ifCond .eq 19, 3) := by decide +kernel
theorem dX5_speedFor_15 : decode cX5_speedFor 15 = .ok (.aload_n 0, 1) := by decide +kernel
theorem dX5_speedFor_16 : decode cX5_speedFor 16 = .ok (.aload_n 0, 1) := by decide +kernel
theorem dX5_speedFor_17 : decode cX5_speedFor 17 = .ok (.iload_n 1, 1) := by decide +kernel
theorem dX5_speedFor_18 : decode cX5_speedFor 18 = .ok (.iconst 2, 1) := by decide +kernel
theorem dX5_speedFor_19 : decode cX5_speedFor 19 = .ok (.iconst 1, 1) := by decide +kernel
theorem dX5_speedFor_20 : decode cX5_speedFor 20 = .ok (.iconst 5, 1) := by decide +kernel
theorem dX5_speedFor_21 : decode cX5_speedFor 21 = .ok (.iload_n 2, 1) := by decide +kernel
theorem dX5_speedFor_22 : decode cX5_speedFor 22 = .ok (.invokevirtual 228, 3) := by decide +kernel
theorem dX5_speedFor_25 : decode cX5_speedFor 25 = .ok (.invokevirtual 209, 3) := by decide +kernel
theorem dX5_speedFor_28 : decode cX5_speedFor 28 = .ok (.goto 9, 3) := by decide +kernel
theorem dX5_speedFor_31 : decode cX5_speedFor 31 = .ok (.aload_n 0, 1) := by decide +kernel
theorem dX5_speedFor_32 : decode cX5_speedFor 32 = .ok (.ldc 60, 2) := by decide +kernel
theorem dX5_speedFor_34 : decode cX5_speedFor 34 = .ok (.invokevirtual 66, 3) := by decide +kernel
theorem dX5_speedFor_37 : decode cX5_speedFor 37 = .ok (.ireturn, 1) := by decide +kernel
set_option maxRecDepth 20000 in
theorem ggX5_allLand_X5_copyRow : GoodIn wsX5_allLand wsX5_copyRow := goodIn_r _ [6] (by decide +kernel) (by decide +kernel)
set_option maxRecDepth 20000 in
theorem gX5_allLand_X5_copyRow : GoodIn wsX5_allLand (va_wsS RX5 61 yX5_copyRow wsX5_copyRow) := goodIn_app (goodIn_of _ (by decide +kernel)) ggX5_allLand_X5_copyRow
set_option maxRecDepth 20000 in
theorem ggX5_allLand_X5_sayingAt : GoodIn wsX5_allLand wsX5_sayingAt := goodIn_r _ [9] (by decide +kernel) (by decide +kernel)
set_option maxRecDepth 20000 in
theorem gX5_allLand_X5_sayingAt : GoodIn wsX5_allLand (va_wsS RX5 82 yX5_sayingAt wsX5_sayingAt) := goodIn_app (goodIn_of _ (by decide +kernel)) ggX5_allLand_X5_sayingAt
set_option maxRecDepth 20000 in
theorem ggX5_allLand_X5_daysGo : GoodIn wsX5_allLand wsX5_daysGo := goodIn_r _ [13, 14, 15, 16, 5, 17, 1, 18, 19, 20, 21, 22, 23, 24, 25, 26, 27, 28, 29, 30, 31, 32, 33, 34, 35, 36, 37, 38, 39, 40, 41, 42, 43, 44, 45, 46, 47, 7, 8, 9, 48, 49, 50, 51, 52, 53, 54, 55, 56, 57, 58, 59, 60, 61, 62, 63, 64, 65, 66, 67, 68, 69, 70, 71, 72, 73, 74, 75, 76, 77, 78, 79, 80, 81, 82, 83, 84, 85, 86, 91, 92, 93, 94, 95, 96, 97, 98, 99, 100, 101, 102, 103, 104, 105, 106, 107, 108, 109, 110, 111] (by decide +kernel) (by decide +kernel)
set_option maxRecDepth 20000 in
theorem gX5_allLand_X5_daysGo : GoodIn wsX5_allLand (wsV RX5 179 RX5 yX5_daysGo wsX5_daysGo) := goodIn_app (goodIn_of _ (by decide +kernel)) ggX5_allLand_X5_daysGo
set_option maxRecDepth 20000 in
theorem ggX5_allLand_X5_inPort : GoodIn wsX5_allLand wsX5_inPort := goodIn_r _ [90, 1, 60, 61, 62, 5, 63, 26, 27, 28, 29, 30, 31, 32, 91, 92, 93, 94, 95, 96, 97, 98, 99, 100, 101, 102, 103, 104, 105, 106, 107, 108, 109, 110, 111] (by decide +kernel) (by decide +kernel)
set_option maxRecDepth 20000 in
theorem gX5_allLand_X5_inPort : GoodIn wsX5_allLand (wsV RX5 182 RX5 yX5_inPort wsX5_inPort) := goodIn_app (goodIn_of _ (by decide +kernel)) ggX5_allLand_X5_inPort
theorem dX5_allLand_0 : decode cX5_allLand 0 = .ok (.aload_n 0, 1) := by decide +kernel
theorem dX5_allLand_1 : decode cX5_allLand 1 = .ok (.getfield 9, 3) := by decide +kernel
theorem dX5_allLand_4 : decode cX5_allLand 4 = .ok (.aload_n 0, 1) := by decide +kernel
theorem dX5_allLand_5 : decode cX5_allLand 5 = .ok (.getfield 16, 3) := by decide +kernel
theorem dX5_allLand_8 : decode cX5_allLand 8 = .ok (.invokestatic 61, 3) := by decide +kernel
theorem dX5_allLand_11 : decode cX5_allLand 11 = .ok (.iconst 0, 1) := by decide +kernel
theorem dX5_allLand_12 : decode cX5_allLand 12 = .ok (.istore_n 3, 1) := by decide +kernel
theorem dX5_allLand_13 : decode cX5_allLand 13 = .ok (.iload_n 3, 1) := by decide +kernel
theorem dX5_allLand_14 : decode cX5_allLand 14 = .ok (.aload_n 0, 1) := by decide +kernel
theorem dX5_allLand_15 : decode cX5_allLand 15 = .ok (.getfield 9, 3) := by decide +kernel
theorem dX5_allLand_18 : decode cX5_allLand 18 = .ok (.iconst 1, 1) := by decide +kernel
theorem dX5_allLand_19 : decode cX5_allLand 19 = .ok (.iaload, 1) := by decide +kernel
theorem dX5_allLand_20 : decode cX5_allLand 20 = .ok (.if_icmp .ge 29, 3) := by decide +kernel
theorem dX5_allLand_23 : decode cX5_allLand 23 = .ok (.iload_n 1, 1) := by decide +kernel
theorem dX5_allLand_24 : decode cX5_allLand 24 = .ok (.iload_n 3, 1) := by decide +kernel
theorem dX5_allLand_25 : decode cX5_allLand 25 = .ok (.ishr, 1) := by decide +kernel
theorem dX5_allLand_26 : decode cX5_allLand 26 = .ok (.iconst 1, 1) := by decide +kernel
theorem dX5_allLand_27 : decode cX5_allLand 27 = .ok (.iand, 1) := by decide +kernel
theorem dX5_allLand_28 : decode cX5_allLand 28 = .ok (.iconst 1, 1) := by decide +kernel
theorem dX5_allLand_29 : decode cX5_allLand 29 = .ok (.if_icmp .ne 14, 3) := by decide +kernel
theorem dX5_allLand_32 : decode cX5_allLand 32 = .ok (.aload_n 0, 1) := by decide +kernel
theorem dX5_allLand_33 : decode cX5_allLand 33 = .ok (.getfield 9, 3) := by decide +kernel
theorem dX5_allLand_36 : decode cX5_allLand 36 = .ok (.iload_n 3, 1) := by decide +kernel
theorem dX5_allLand_37 : decode cX5_allLand 37 = .ok (.iconst 3, 1) := by decide +kernel
theorem dX5_allLand_38 : decode cX5_allLand 38 = .ok (.invokestatic 82, 3) := by decide +kernel
theorem dX5_allLand_41 : decode cX5_allLand 41 = .ok (.iconst 1, 1) := by decide +kernel
theorem dX5_allLand_42 : decode cX5_allLand 42 = .ok (.iastore, 1) := by decide +kernel
theorem dX5_allLand_43 : decode cX5_allLand 43 = .ok (.iinc 3 1, 3) := by decide +kernel
theorem dX5_allLand_46 : decode cX5_allLand 46 = .ok (.goto (-33), 3) := by decide +kernel
theorem dX5_allLand_49 : decode cX5_allLand 49 = .ok (.aload_n 0, 1) := by decide +kernel
theorem dX5_allLand_50 : decode cX5_allLand 50 = .ok (.iload_n 2, 1) := by decide +kernel
theorem dX5_allLand_51 : decode cX5_allLand 51 = .ok (.invokevirtual 179, 3) := by decide +kernel
theorem dX5_allLand_54 : decode cX5_allLand 54 = .ok (.aload_n 0, 1) := by decide +kernel
theorem dX5_allLand_55 : decode cX5_allLand 55 = .ok (.invokevirtual 182, 3) := by decide +kernel
theorem dX5_allLand_58 : decode cX5_allLand 58 = .ok (.iconst 1, 1) := by decide +kernel
theorem dX5_allLand_59 : decode cX5_allLand 59 = .ok (.aload_n 0, 1) := by decide +kernel
theorem dX5_allLand_60 : decode cX5_allLand 60 = .ok (.getfield 9, 3) := by decide +kernel
theorem dX5_allLand_63 : decode cX5_allLand 63 = .ok (.iconst 3, 1) := by decide +kernel
theorem dX5_allLand_64 : decode cX5_allLand 64 = .ok (.iaload, 1) := by decide +kernel
theorem dX5_allLand_65 : decode cX5_allLand 65 = .ok (.ishl, 1) := by decide +kernel
theorem dX5_allLand_66 : decode cX5_allLand 66 = .ok (.iconst 1, 1) := by decide +kernel
theorem dX5_allLand_67 : decode cX5_allLand 67 = .ok (.isub, 1) := by decide +kernel
theorem dX5_allLand_68 : decode cX5_allLand 68 = .ok (.if_icmp .ne 7, 3) := by decide +kernel
theorem dX5_allLand_71 : decode cX5_allLand 71 = .ok (.iconst 1, 1) := by decide +kernel
theorem dX5_allLand_72 : decode cX5_allLand 72 = .ok (.goto 4, 3) := by decide +kernel
theorem dX5_allLand_75 : decode cX5_allLand 75 = .ok (.iconst 0, 1) := by decide +kernel
theorem dX5_allLand_76 : decode cX5_allLand 76 = .ok (.istore_n 3, 1) := by decide +kernel
theorem dX5_allLand_77 : decode cX5_allLand 77 = .ok (.aload_n 0, 1) := by decide +kernel
theorem dX5_allLand_78 : decode cX5_allLand 78 = .ok (.getfield 16, 3) := by decide +kernel
theorem dX5_allLand_81 : decode cX5_allLand 81 = .ok (.aload_n 0, 1) := by decide +kernel
theorem dX5_allLand_82 : decode cX5_allLand 82 = .ok (.getfield 9, 3) := by decide +kernel
theorem dX5_allLand_85 : decode cX5_allLand 85 = .ok (.invokestatic 61, 3) := by decide +kernel
theorem dX5_allLand_88 : decode cX5_allLand 88 = .ok (.iload_n 3, 1) := by decide +kernel
theorem dX5_allLand_89 : decode cX5_allLand 89 = .ok (.ireturn, 1) := by decide +kernel
set_option maxRecDepth 20000 in
theorem ggX5_decide_X5_within : GoodIn wsX5_decide wsX5_within := goodIn_r _ [6] (by decide +kernel) (by decide +kernel)
set_option maxRecDepth 20000 in
theorem gX5_decide_X5_within : GoodIn wsX5_decide (va_wsS RX5 70 yX5_within wsX5_within) := goodIn_app (goodIn_of _ (by decide +kernel)) ggX5_decide_X5_within
set_option maxRecDepth 20000 in
theorem ggX5_decide_X5_finding : GoodIn wsX5_decide wsX5_finding := goodIn_r _ [10, 11, 1, 109, 110, 111, 112, 113, 114, 115, 116, 117, 118, 119, 120, 121, 122, 123, 124, 125, 126, 127, 128, 129] (by decide +kernel) (by decide +kernel)
set_option maxRecDepth 20000 in
theorem gX5_decide_X5_finding : GoodIn wsX5_decide (wsV RX5 66 RX5 yX5_finding wsX5_finding) := goodIn_app (goodIn_of _ (by decide +kernel)) ggX5_decide_X5_finding
set_option maxRecDepth 20000 in
theorem ggX5_decide_X5_bits : GoodIn wsX5_decide wsX5_bits := goodIn_r _ [14] (by decide +kernel) (by decide +kernel)
set_option maxRecDepth 20000 in
theorem gX5_decide_X5_bits : GoodIn wsX5_decide (va_wsS RX5 232 yX5_bits wsX5_bits) := goodIn_app (goodIn_of _ (by decide +kernel)) ggX5_decide_X5_bits
set_option maxRecDepth 20000 in
theorem ggX5_decide_X5_allLand : GoodIn wsX5_decide wsX5_allLand := goodIn_r _ [18, 2, 19, 20, 21, 5, 22, 23, 24, 25, 26, 27, 28, 29, 30, 31, 32, 33, 34, 35, 36, 37, 38, 39, 40, 41, 42, 43, 44, 45, 46, 47, 48, 49, 50, 51, 52, 53, 54, 55, 56, 57, 58, 59, 60, 61, 62, 63, 64, 65, 66, 67, 68, 69, 70, 71, 72, 73, 74, 75, 76, 77, 78, 79, 80, 81, 82, 83, 84, 85, 86, 87, 3, 4, 6, 88, 89, 90, 91, 92, 93, 94, 95, 96, 97, 98, 99, 100, 101, 102, 103, 109, 110, 111, 112, 113, 114, 115, 116, 117, 118, 119, 120, 121, 122, 123, 124, 125, 126, 127, 128, 129] (by decide +kernel) (by decide +kernel)
set_option maxRecDepth 20000 in
theorem gX5_decide_X5_allLand : GoodIn wsX5_decide (wsV RX5 235 RX5 yX5_allLand wsX5_allLand) := goodIn_app (goodIn_of _ (by decide +kernel)) ggX5_decide_X5_allLand
set_option maxRecDepth 20000 in
theorem ggX5_decide_X5_orNone : GoodIn wsX5_decide wsX5_orNone := goodIn_r _ [107, 108, 7, 8, 9, 5, 10, 11, 1, 109, 110, 111, 112, 113, 114, 115, 116, 117, 118, 119, 120, 121, 122, 123, 124, 125, 126, 127, 128, 129] (by decide +kernel) (by decide +kernel)
set_option maxRecDepth 20000 in
theorem gX5_decide_X5_orNone : GoodIn wsX5_decide (wsV RX5 209 RX5 yX5_orNone wsX5_orNone) := goodIn_app (goodIn_of _ (by decide +kernel)) ggX5_decide_X5_orNone
theorem dX5_decide_0 : decode cX5_decide 0 = .ok (.iload_n 1, 1) := by decide +kernel
theorem dX5_decide_1 : decode cX5_decide 1 = .ok (.iconst 0, 1) := by decide +kernel
theorem dX5_decide_2 : decode cX5_decide 2 = .ok (.bipush 16, 2) := by decide +kernel
theorem dX5_decide_4 : decode cX5_decide 4 = .ok (.invokestatic 70, 3) := by decide +kernel
theorem dX5_decide_7 : decode cX5_decide 7 = .ok (.ifCond .ne 10, 3) := by decide +kernel
theorem dX5_decide_10 : decode cX5_decide 10 = .ok (.aload_n 0, 1) := by decide +kernel
theorem dX5_decide_11 : decode cX5_decide 11 = .ok (.ldc 60, 2) := by decide +kernel
theorem dX5_decide_13 : decode cX5_decide 13 = .ok (.invokevirtual 66, 3) := by decide +kernel
theorem dX5_decide_16 : decode cX5_decide 16 = .ok (.ireturn, 1) := by decide +kernel
theorem dX5_decide_17 : decode cX5_decide 17 = .ok (.iconst (-1), 1) := by decide +kernel
theorem dX5_decide_18 : decode cX5_decide 18 = .ok (.istore_n 2, 1) := by decide +kernel
theorem dX5_decide_19 : decode cX5_decide 19 = .ok (.iconst 1, 1) := by decide +kernel
theorem dX5_decide_20 : decode cX5_decide 20 = .ok (.aload_n 0, 1) := by decide +kernel
theorem dX5_decide_21 : decode cX5_decide 21 = .ok (.getfield 9, 3) := by decide +kernel
theorem dX5_decide_24 : decode cX5_decide 24 = .ok (.iconst 1, 1) := by decide +kernel
theorem dX5_decide_25 : decode cX5_decide 25 = .ok (.iaload, 1) := by decide +kernel
theorem dX5_decide_26 : decode cX5_decide 26 = .ok (.ishl, 1) := by decide +kernel
theorem dX5_decide_27 : decode cX5_decide 27 = .ok (.iconst 1, 1) := by decide +kernel
theorem dX5_decide_28 : decode cX5_decide 28 = .ok (.isub, 1) := by decide +kernel
theorem dX5_decide_29 : decode cX5_decide 29 = .ok (.istore_n 3, 1) := by decide +kernel
theorem dX5_decide_30 : decode cX5_decide 30 = .ok (.iload_n 3, 1) := by decide +kernel
theorem dX5_decide_31 : decode cX5_decide 31 = .ok (.ifCond .lt 39, 3) := by decide +kernel
theorem dX5_decide_34 : decode cX5_decide 34 = .ok (.iload_n 2, 1) := by decide +kernel
theorem dX5_decide_35 : decode cX5_decide 35 = .ok (.ifCond .lt 14, 3) := by decide +kernel
theorem dX5_decide_38 : decode cX5_decide 38 = .ok (.iload_n 3, 1) := by decide +kernel
theorem dX5_decide_39 : decode cX5_decide 39 = .ok (.invokestatic 232, 3) := by decide +kernel
theorem dX5_decide_42 : decode cX5_decide 42 = .ok (.iload_n 2, 1) := by decide +kernel
theorem dX5_decide_43 : decode cX5_decide 43 = .ok (.invokestatic 232, 3) := by decide +kernel
theorem dX5_decide_46 : decode cX5_decide 46 = .ok (.if_icmp .gt 16, 3) := by decide +kernel
theorem dX5_decide_49 : decode cX5_decide 49 = .ok (.aload_n 0, 1) := by decide +kernel
theorem dX5_decide_50 : decode cX5_decide 50 = .ok (.iload_n 3, 1) := by decide +kernel
theorem dX5_decide_51 : decode cX5_decide 51 = .ok (.iload_n 1, 1) := by decide +kernel
theorem dX5_decide_52 : decode cX5_decide 52 = .ok (.invokevirtual 235, 3) := by decide +kernel
theorem dX5_decide_55 : decode cX5_decide 55 = .ok (.ifCond .eq 7, 3) := by decide +kernel
theorem dX5_decide_58 : decode cX5_decide 58 = .ok (.iload_n 3, 1) := by decide +kernel
theorem dX5_decide_59 : decode cX5_decide 59 = .ok (.goto 4, 3) := by decide +kernel
theorem dX5_decide_62 : decode cX5_decide 62 = .ok (.iload_n 2, 1) := by decide +kernel
theorem dX5_decide_63 : decode cX5_decide 63 = .ok (.istore_n 2, 1) := by decide +kernel
theorem dX5_decide_64 : decode cX5_decide 64 = .ok (.iinc 3 (-1), 3) := by decide +kernel
theorem dX5_decide_67 : decode cX5_decide 67 = .ok (.goto (-37), 3) := by decide +kernel
theorem dX5_decide_70 : decode cX5_decide 70 = .ok (.aload_n 0, 1) := by decide +kernel
theorem dX5_decide_71 : decode cX5_decide 71 = .ok (.iload_n 2, 1) := by decide +kernel
theorem dX5_decide_72 : decode cX5_decide 72 = .ok (.invokevirtual 209, 3) := by decide +kernel
theorem dX5_decide_75 : decode cX5_decide 75 = .ok (.ireturn, 1) := by decide +kernel
set_option maxRecDepth 20000 in
theorem ggX5_lacks_X5_isSheet : GoodIn wsX5_lacks wsX5_isSheet := goodIn_r _ [7, 8, 9, 6, 10] (by decide +kernel) (by decide +kernel)
set_option maxRecDepth 20000 in
theorem gX5_lacks_X5_isSheet : GoodIn wsX5_lacks (va_wsS RX5 238 yX5_isSheet wsX5_isSheet) := goodIn_app (goodIn_of _ (by decide +kernel)) ggX5_lacks_X5_isSheet
theorem dX5_lacks_0 : decode cX5_lacks 0 = .ok (.iload_n 1, 1) := by decide +kernel
theorem dX5_lacks_1 : decode cX5_lacks 1 = .ok (.invokestatic 238, 3) := by decide +kernel
theorem dX5_lacks_4 : decode cX5_lacks 4 = .ok (.ifCond .ne 8, 3) := by decide +kernel
theorem dX5_lacks_7 : decode cX5_lacks 7 = .ok (.ldc 60, 2) := by decide +kernel
theorem dX5_lacks_9 : decode cX5_lacks 9 = .ok (.goto 27, 3) := by decide +kernel
theorem dX5_lacks_12 : decode cX5_lacks 12 = .ok (.aload_n 0, 1) := by decide +kernel
theorem dX5_lacks_13 : decode cX5_lacks 13 = .ok (.getfield 48, 3) := by decide +kernel
theorem dX5_lacks_16 : decode cX5_lacks 16 = .ok (.iload_n 1, 1) := by decide +kernel
theorem dX5_lacks_17 : decode cX5_lacks 17 = .ok (.iaload, 1) := by decide +kernel
theorem dX5_lacks_18 : decode cX5_lacks 18 = .ok (.ifCond .ne 8, 3) := by decide +kernel
theorem dX5_lacks_21 : decode cX5_lacks 21 = .ok (.ldc 241, 2) := by decide +kernel
theorem dX5_lacks_23 : decode cX5_lacks 23 = .ok (.goto 13, 3) := by decide +kernel
theorem dX5_lacks_26 : decode cX5_lacks 26 = .ok (.iload_n 2, 1) := by decide +kernel
theorem dX5_lacks_27 : decode cX5_lacks 27 = .ok (.ifCond .eq 7, 3) := by decide +kernel
theorem dX5_lacks_30 : decode cX5_lacks 30 = .ok (.iconst 0, 1) := by decide +kernel
theorem dX5_lacks_31 : decode cX5_lacks 31 = .ok (.goto 5, 3) := by decide +kernel
theorem dX5_lacks_34 : decode cX5_lacks 34 = .ok (.ldc 60, 2) := by decide +kernel
theorem dX5_lacks_36 : decode cX5_lacks 36 = .ok (.ireturn, 1) := by decide +kernel
set_option maxRecDepth 20000 in
theorem ggX5_isSo_X5_copyRow : GoodIn wsX5_isSo wsX5_copyRow := goodIn_r _ [8] (by decide +kernel) (by decide +kernel)
