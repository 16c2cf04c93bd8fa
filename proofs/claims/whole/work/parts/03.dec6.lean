theorem dX5_load_16 : decode cX5_load 16 = .ok (.invokevirtual 66, 3) := by decide +kernel
theorem dX5_load_19 : decode cX5_load 19 = .ok (.ireturn, 1) := by decide +kernel
theorem dX5_load_20 : decode cX5_load 20 = .ok (.iconst 0, 1) := by decide +kernel
theorem dX5_load_21 : decode cX5_load 21 = .ok (.istore_n 2, 1) := by decide +kernel
theorem dX5_load_22 : decode cX5_load 22 = .ok (.iload_n 2, 1) := by decide +kernel
theorem dX5_load_23 : decode cX5_load 23 = .ok (.aload_n 0, 1) := by decide +kernel
theorem dX5_load_24 : decode cX5_load 24 = .ok (.getfield 51, 3) := by decide +kernel
theorem dX5_load_27 : decode cX5_load 27 = .ok (.iload_n 1, 1) := by decide +kernel
theorem dX5_load_28 : decode cX5_load 28 = .ok (.iaload, 1) := by decide +kernel
theorem dX5_load_29 : decode cX5_load 29 = .ok (.if_icmp .ge 55, 3) := by decide +kernel
theorem dX5_load_32 : decode cX5_load 32 = .ok (.aload_n 0, 1) := by decide +kernel
theorem dX5_load_33 : decode cX5_load 33 = .ok (.iload_n 2, 1) := by decide +kernel
theorem dX5_load_34 : decode cX5_load 34 = .ok (.invokevirtual 123, 3) := by decide +kernel
theorem dX5_load_37 : decode cX5_load 37 = .ok (.ifCond .eq 47, 3) := by decide +kernel
theorem dX5_load_40 : decode cX5_load 40 = .ok (.aload_n 0, 1) := by decide +kernel
theorem dX5_load_41 : decode cX5_load 41 = .ok (.getfield 54, 3) := by decide +kernel
theorem dX5_load_44 : decode cX5_load 44 = .ok (.bipush 40, 2) := by decide +kernel
theorem dX5_load_46 : decode cX5_load 46 = .ok (.iload_n 1, 1) := by decide +kernel
theorem dX5_load_47 : decode cX5_load 47 = .ok (.imul, 1) := by decide +kernel
theorem dX5_load_48 : decode cX5_load 48 = .ok (.iload_n 2, 1) := by decide +kernel
theorem dX5_load_49 : decode cX5_load 49 = .ok (.iadd, 1) := by decide +kernel
theorem dX5_load_50 : decode cX5_load 50 = .ok (.iaload, 1) := by decide +kernel
theorem dX5_load_51 : decode cX5_load 51 = .ok (.invokestatic 91, 3) := by decide +kernel
theorem dX5_load_54 : decode cX5_load 54 = .ok (.ifCond .eq 30, 3) := by decide +kernel
theorem dX5_load_57 : decode cX5_load 57 = .ok (.aload_n 0, 1) := by decide +kernel
theorem dX5_load_58 : decode cX5_load 58 = .ok (.getfield 9, 3) := by decide +kernel
theorem dX5_load_61 : decode cX5_load 61 = .ok (.iload_n 2, 1) := by decide +kernel
theorem dX5_load_62 : decode cX5_load 62 = .ok (.iconst 2, 1) := by decide +kernel
theorem dX5_load_63 : decode cX5_load 63 = .ok (.invokestatic 82, 3) := by decide +kernel
theorem dX5_load_66 : decode cX5_load 66 = .ok (.aload_n 0, 1) := by decide +kernel
theorem dX5_load_67 : decode cX5_load 67 = .ok (.getfield 54, 3) := by decide +kernel
theorem dX5_load_70 : decode cX5_load 70 = .ok (.bipush 40, 2) := by decide +kernel
theorem dX5_load_72 : decode cX5_load 72 = .ok (.iload_n 1, 1) := by decide +kernel
theorem dX5_load_73 : decode cX5_load 73 = .ok (.imul, 1) := by decide +kernel
theorem dX5_load_74 : decode cX5_load 74 = .ok (.iload_n 2, 1) := by decide +kernel
theorem dX5_load_75 : decode cX5_load 75 = .ok (.iadd, 1) := by decide +kernel
theorem dX5_load_76 : decode cX5_load 76 = .ok (.iaload, 1) := by decide +kernel
theorem dX5_load_77 : decode cX5_load 77 = .ok (.iastore, 1) := by decide +kernel
theorem dX5_load_78 : decode cX5_load 78 = .ok (.iinc 2 1, 3) := by decide +kernel
theorem dX5_load_81 : decode cX5_load 81 = .ok (.goto (-59), 3) := by decide +kernel
theorem dX5_load_84 : decode cX5_load 84 = .ok (.iload_n 2, 1) := by decide +kernel
theorem dX5_load_85 : decode cX5_load 85 = .ok (.ireturn, 1) := by decide +kernel
set_option maxRecDepth 20000 in
theorem ggX5_judge_X5_lacks : GoodIn wsX5_judge wsX5_lacks := goodIn_r _ [7, 8, 9, 10, 11, 12, 6, 13, 14, 15, 16, 34, 35, 36, 37, 38, 39, 40, 41, 42, 43, 44, 45, 46, 47, 48, 49, 50, 51, 52, 53, 54] (by decide +kernel) (by decide +kernel)
set_option maxRecDepth 20000 in
theorem gX5_judge_X5_lacks : GoodIn wsX5_judge (wsV RX5 242 RX5 yX5_lacks wsX5_lacks) := goodIn_app (goodIn_of _ (by decide +kernel)) ggX5_judge_X5_lacks
set_option maxRecDepth 20000 in
theorem ggX5_judge_X5_finding : GoodIn wsX5_judge wsX5_finding := goodIn_r _ [20, 21, 8, 34, 35, 36, 37, 38, 39, 40, 41, 42, 43, 44, 45, 46, 47, 48, 49, 50, 51, 52, 53, 54] (by decide +kernel) (by decide +kernel)
set_option maxRecDepth 20000 in
theorem gX5_judge_X5_finding : GoodIn wsX5_judge (wsV RX5 66 RX5 yX5_finding wsX5_finding) := goodIn_app (goodIn_of _ (by decide +kernel)) ggX5_judge_X5_finding
set_option maxRecDepth 20000 in
theorem ggX5_judge_X5_isShip : GoodIn wsX5_judge wsX5_isShip := goodIn_r _ [25, 26, 14, 15, 6, 16, 34, 35, 36, 37, 38, 39, 40, 41, 42, 43, 44, 45, 46, 47, 48, 49, 50, 51, 52, 53, 54] (by decide +kernel) (by decide +kernel)
set_option maxRecDepth 20000 in
theorem gX5_judge_X5_isShip : GoodIn wsX5_judge (wsV RX5 133 RX5 yX5_isShip wsX5_isShip) := goodIn_app (goodIn_of _ (by decide +kernel)) ggX5_judge_X5_isShip
set_option maxRecDepth 20000 in
theorem ggX5_judge_X5_shipIs : GoodIn wsX5_judge wsX5_shipIs := goodIn_r _ [30, 26, 31, 32, 6, 33, 34, 35, 36, 37, 38, 39, 40, 41, 42, 43, 44, 45, 46, 47, 48, 49, 50, 51, 52, 53, 54] (by decide +kernel) (by decide +kernel)
set_option maxRecDepth 20000 in
theorem gX5_judge_X5_shipIs : GoodIn wsX5_judge (wsV RX5 136 RX5 yX5_shipIs wsX5_shipIs) := goodIn_app (goodIn_of _ (by decide +kernel)) ggX5_judge_X5_shipIs
theorem dX5_judge_0 : decode cX5_judge 0 = .ok (.aload_n 0, 1) := by decide +kernel
theorem dX5_judge_1 : decode cX5_judge 1 = .ok (.iload_n 1, 1) := by decide +kernel
theorem dX5_judge_2 : decode cX5_judge 2 = .ok (.iconst 1, 1) := by decide +kernel
theorem dX5_judge_3 : decode cX5_judge 3 = .ok (.invokevirtual 242, 3) := by decide +kernel
theorem dX5_judge_6 : decode cX5_judge 6 = .ok (.ifCond .eq 14, 3) := by decide +kernel
theorem dX5_judge_9 : decode cX5_judge 9 = .ok (.aload_n 0, 1) := by decide +kernel
theorem dX5_judge_10 : decode cX5_judge 10 = .ok (.aload_n 0, 1) := by decide +kernel
theorem dX5_judge_11 : decode cX5_judge 11 = .ok (.iload_n 1, 1) := by decide +kernel
theorem dX5_judge_12 : decode cX5_judge 12 = .ok (.iconst 1, 1) := by decide +kernel
theorem dX5_judge_13 : decode cX5_judge 13 = .ok (.invokevirtual 242, 3) := by decide +kernel
theorem dX5_judge_16 : decode cX5_judge 16 = .ok (.invokevirtual 66, 3) := by decide +kernel
theorem dX5_judge_19 : decode cX5_judge 19 = .ok (.ireturn, 1) := by decide +kernel
theorem dX5_judge_20 : decode cX5_judge 20 = .ok (.iconst 0, 1) := by decide +kernel
theorem dX5_judge_21 : decode cX5_judge 21 = .ok (.istore_n 2, 1) := by decide +kernel
theorem dX5_judge_22 : decode cX5_judge 22 = .ok (.iload_n 2, 1) := by decide +kernel
theorem dX5_judge_23 : decode cX5_judge 23 = .ok (.aload_n 0, 1) := by decide +kernel
theorem dX5_judge_24 : decode cX5_judge 24 = .ok (.getfield 51, 3) := by decide +kernel
theorem dX5_judge_27 : decode cX5_judge 27 = .ok (.iload_n 1, 1) := by decide +kernel
theorem dX5_judge_28 : decode cX5_judge 28 = .ok (.iaload, 1) := by decide +kernel
theorem dX5_judge_29 : decode cX5_judge 29 = .ok (.if_icmp .ge 37, 3) := by decide +kernel
theorem dX5_judge_32 : decode cX5_judge 32 = .ok (.aload_n 0, 1) := by decide +kernel
theorem dX5_judge_33 : decode cX5_judge 33 = .ok (.iload_n 2, 1) := by decide +kernel
theorem dX5_judge_34 : decode cX5_judge 34 = .ok (.invokevirtual 133, 3) := by decide +kernel
theorem dX5_judge_37 : decode cX5_judge 37 = .ok (.ifCond .eq 29, 3) := by decide +kernel
theorem dX5_judge_40 : decode cX5_judge 40 = .ok (.aload_n 0, 1) := by decide +kernel
theorem dX5_judge_41 : decode cX5_judge 41 = .ok (.getfield 54, 3) := by decide +kernel
theorem dX5_judge_44 : decode cX5_judge 44 = .ok (.bipush 40, 2) := by decide +kernel
theorem dX5_judge_46 : decode cX5_judge 46 = .ok (.iload_n 1, 1) := by decide +kernel
theorem dX5_judge_47 : decode cX5_judge 47 = .ok (.imul, 1) := by decide +kernel
theorem dX5_judge_48 : decode cX5_judge 48 = .ok (.iload_n 2, 1) := by decide +kernel
theorem dX5_judge_49 : decode cX5_judge 49 = .ok (.iadd, 1) := by decide +kernel
theorem dX5_judge_50 : decode cX5_judge 50 = .ok (.iaload, 1) := by decide +kernel
theorem dX5_judge_51 : decode cX5_judge 51 = .ok (.aload_n 0, 1) := by decide +kernel
theorem dX5_judge_52 : decode cX5_judge 52 = .ok (.iload_n 2, 1) := by decide +kernel
theorem dX5_judge_53 : decode cX5_judge 53 = .ok (.iconst 0, 1) := by decide +kernel
theorem dX5_judge_54 : decode cX5_judge 54 = .ok (.invokevirtual 136, 3) := by decide +kernel
theorem dX5_judge_57 : decode cX5_judge 57 = .ok (.if_icmp .ne 9, 3) := by decide +kernel
theorem dX5_judge_60 : decode cX5_judge 60 = .ok (.iinc 2 1, 3) := by decide +kernel
theorem dX5_judge_63 : decode cX5_judge 63 = .ok (.goto (-41), 3) := by decide +kernel
theorem dX5_judge_66 : decode cX5_judge 66 = .ok (.iload_n 2, 1) := by decide +kernel
theorem dX5_judge_67 : decode cX5_judge 67 = .ok (.aload_n 0, 1) := by decide +kernel
theorem dX5_judge_68 : decode cX5_judge 68 = .ok (.getfield 51, 3) := by decide +kernel
theorem dX5_judge_71 : decode cX5_judge 71 = .ok (.iload_n 1, 1) := by decide +kernel
theorem dX5_judge_72 : decode cX5_judge 72 = .ok (.iaload, 1) := by decide +kernel
theorem dX5_judge_73 : decode cX5_judge 73 = .ok (.if_icmp .ne 7, 3) := by decide +kernel
theorem dX5_judge_76 : decode cX5_judge 76 = .ok (.iconst 0, 1) := by decide +kernel
theorem dX5_judge_77 : decode cX5_judge 77 = .ok (.goto 6, 3) := by decide +kernel
theorem dX5_judge_80 : decode cX5_judge 80 = .ok (.iconst 1, 1) := by decide +kernel
theorem dX5_judge_81 : decode cX5_judge 81 = .ok (.iload_n 2, 1) := by decide +kernel
theorem dX5_judge_82 : decode cX5_judge 82 = .ok (.iadd, 1) := by decide +kernel
theorem dX5_judge_83 : decode cX5_judge 83 = .ok (.ireturn, 1) := by decide +kernel
set_option maxRecDepth 20000 in
theorem ggX5_image_X5_copyRow : GoodIn wsX5_image wsX5_copyRow := goodIn_r _ [7] (by decide +kernel) (by decide +kernel)
set_option maxRecDepth 20000 in
theorem gX5_image_X5_copyRow : GoodIn wsX5_image (va_wsS RX5 61 yX5_copyRow wsX5_copyRow) := goodIn_app (goodIn_of _ (by decide +kernel)) ggX5_image_X5_copyRow
theorem dX5_image_0 : decode cX5_image 0 = .ok (.aload_n 0, 1) := by decide +kernel
theorem dX5_image_1 : decode cX5_image 1 = .ok (.getfield 9, 3) := by decide +kernel
theorem dX5_image_4 : decode cX5_image 4 = .ok (.aload_n 0, 1) := by decide +kernel
theorem dX5_image_5 : decode cX5_image 5 = .ok (.getfield 13, 3) := by decide +kernel
theorem dX5_image_8 : decode cX5_image 8 = .ok (.invokestatic 61, 3) := by decide +kernel
theorem dX5_image_11 : decode cX5_image 11 = .ok (.aload_n 0, 1) := by decide +kernel
theorem dX5_image_12 : decode cX5_image 12 = .ok (.iconst 1, 1) := by decide +kernel
theorem dX5_image_13 : decode cX5_image 13 = .ok (.putfield 353, 3) := by decide +kernel
theorem dX5_image_16 : decode cX5_image 16 = .ok (.iconst 1, 1) := by decide +kernel
theorem dX5_image_17 : decode cX5_image 17 = .ok (.ireturn, 1) := by decide +kernel
set_option maxRecDepth 20000 in
theorem ggX5_undo_X5_finding : GoodIn wsX5_undo wsX5_finding := goodIn_r _ [9, 10, 11, 15, 16, 17, 18, 19, 20, 21, 22, 23, 24, 25, 26, 27, 28, 29, 30, 31, 32, 33, 34, 35] (by decide +kernel) (by decide +kernel)
set_option maxRecDepth 20000 in
theorem gX5_undo_X5_finding : GoodIn wsX5_undo (wsV RX5 66 RX5 yX5_finding wsX5_finding) := goodIn_app (goodIn_of _ (by decide +kernel)) ggX5_undo_X5_finding
set_option maxRecDepth 20000 in
theorem ggX5_undo_X5_copyRow : GoodIn wsX5_undo wsX5_copyRow := goodIn_r _ [14] (by decide +kernel) (by decide +kernel)
set_option maxRecDepth 20000 in
theorem gX5_undo_X5_copyRow : GoodIn wsX5_undo (va_wsS RX5 61 yX5_copyRow wsX5_copyRow) := goodIn_app (goodIn_of _ (by decide +kernel)) ggX5_undo_X5_copyRow
theorem dX5_undo_0 : decode cX5_undo 0 = .ok (.aload_n 0, 1) := by decide +kernel
theorem dX5_undo_1 : decode cX5_undo 1 = .ok (.getfield 353, 3) := by decide +kernel
theorem dX5_undo_4 : decode cX5_undo 4 = .ok (.ifCond .ne 10, 3) := by decide +kernel
theorem dX5_undo_7 : decode cX5_undo 7 = .ok (.aload_n 0, 1) := by decide +kernel
theorem dX5_undo_8 : decode cX5_undo 8 = .ok (.ldc 65, 2) := by decide +kernel
theorem dX5_undo_10 : decode cX5_undo 10 = .ok (.invokevirtual 66, 3) := by decide +kernel
theorem dX5_undo_13 : decode cX5_undo 13 = .ok (.ireturn, 1) := by decide +kernel
theorem dX5_undo_14 : decode cX5_undo 14 = .ok (.aload_n 0, 1) := by decide +kernel
theorem dX5_undo_15 : decode cX5_undo 15 = .ok (.getfield 13, 3) := by decide +kernel
theorem dX5_undo_18 : decode cX5_undo 18 = .ok (.aload_n 0, 1) := by decide +kernel
theorem dX5_undo_19 : decode cX5_undo 19 = .ok (.getfield 9, 3) := by decide +kernel
theorem dX5_undo_22 : decode cX5_undo 22 = .ok (.invokestatic 61, 3) := by decide +kernel
theorem dX5_undo_25 : decode cX5_undo 25 = .ok (.aload_n 0, 1) := by decide +kernel
theorem dX5_undo_26 : decode cX5_undo 26 = .ok (.getfield 9, 3) := by decide +kernel
theorem dX5_undo_29 : decode cX5_undo 29 = .ok (.iconst 0, 1) := by decide +kernel
theorem dX5_undo_30 : decode cX5_undo 30 = .ok (.iaload, 1) := by decide +kernel
theorem dX5_undo_31 : decode cX5_undo 31 = .ok (.ireturn, 1) := by decide +kernel
theorem dX5_tear_0 : decode cX5_tear 0 = .ok (.aload_n 0, 1) := by decide +kernel
theorem dX5_tear_1 : decode cX5_tear 1 = .ok (.getfield 353, 3) := by decide +kernel
theorem dX5_tear_4 : decode cX5_tear 4 = .ok (.ifCond .eq 7, 3) := by decide +kernel
theorem dX5_tear_7 : decode cX5_tear 7 = .ok (.iconst 1, 1) := by decide +kernel
theorem dX5_tear_8 : decode cX5_tear 8 = .ok (.goto 4, 3) := by decide +kernel
theorem dX5_tear_11 : decode cX5_tear 11 = .ok (.iconst 0, 1) := by decide +kernel
theorem dX5_tear_12 : decode cX5_tear 12 = .ok (.istore_n 1, 1) := by decide +kernel
theorem dX5_tear_13 : decode cX5_tear 13 = .ok (.aload_n 0, 1) := by decide +kernel
theorem dX5_tear_14 : decode cX5_tear 14 = .ok (.iconst 0, 1) := by decide +kernel
theorem dX5_tear_15 : decode cX5_tear 15 = .ok (.putfield 353, 3) := by decide +kernel
theorem dX5_tear_18 : decode cX5_tear 18 = .ok (.iload_n 1, 1) := by decide +kernel
theorem dX5_tear_19 : decode cX5_tear 19 = .ok (.ireturn, 1) := by decide +kernel
set_option maxRecDepth 20000 in
theorem ggX5_count_X5_waitedInAll : GoodIn wsX5_count wsX5_waitedInAll := goodIn_r _ [8, 1, 9, 10, 11, 7, 12, 13, 14, 15, 35, 36, 37, 38, 39, 40, 41, 42, 43, 44, 45, 46, 47, 48, 49, 50, 51, 52, 53, 54, 55] (by decide +kernel) (by decide +kernel)
set_option maxRecDepth 20000 in
theorem gX5_count_X5_waitedInAll : GoodIn wsX5_count (wsV RX5 191 RX5 yX5_waitedInAll wsX5_waitedInAll) := goodIn_app (goodIn_of _ (by decide +kernel)) ggX5_count_X5_waitedInAll
set_option maxRecDepth 20000 in
theorem ggX5_count_X5_finishedOnes : GoodIn wsX5_count wsX5_finishedOnes := goodIn_r _ [19, 1, 20, 21, 22, 7, 23, 24, 25, 26, 35, 36, 37, 38, 39, 40, 41, 42, 43, 44, 45, 46, 47, 48, 49, 50, 51, 52, 53, 54, 55] (by decide +kernel) (by decide +kernel)
set_option maxRecDepth 20000 in
theorem gX5_count_X5_finishedOnes : GoodIn wsX5_count (wsV RX5 185 RX5 yX5_finishedOnes wsX5_finishedOnes) := goodIn_app (goodIn_of _ (by decide +kernel)) ggX5_count_X5_finishedOnes
set_option maxRecDepth 20000 in
theorem ggX5_count_X5_bits : GoodIn wsX5_count wsX5_bits := goodIn_r _ [29] (by decide +kernel) (by decide +kernel)
set_option maxRecDepth 20000 in
theorem gX5_count_X5_bits : GoodIn wsX5_count (va_wsS RX5 232 yX5_bits wsX5_bits) := goodIn_app (goodIn_of _ (by decide +kernel)) ggX5_count_X5_bits
set_option maxRecDepth 20000 in
theorem ggX5_count_X5_finding : GoodIn wsX5_count wsX5_finding := goodIn_r _ [33, 34, 3, 35, 36, 37, 38, 39, 40, 41, 42, 43, 44, 45, 46, 47, 48, 49, 50, 51, 52, 53, 54, 55] (by decide +kernel) (by decide +kernel)
set_option maxRecDepth 20000 in
theorem gX5_count_X5_finding : GoodIn wsX5_count (wsV RX5 66 RX5 yX5_finding wsX5_finding) := goodIn_app (goodIn_of _ (by decide +kernel)) ggX5_count_X5_finding
theorem dX5_count_0 : decode cX5_count 0 = .ok (.iconst 0, 1) := by decide +kernel
theorem dX5_count_1 : decode cX5_count 1 = .ok (.istore_n 2, 1) := by decide +kernel
theorem dX5_count_2 : decode cX5_count 2 = .ok (.iload_n 1, 1) := by decide +kernel
theorem dX5_count_3 : decode cX5_count 3 = .ok (.tableswitch 127 0 7 #[45, 52, 59, 66, 71, 79, 84, 91], 45) := by decide +kernel
theorem dX5_count_48 : decode cX5_count 48 = .ok (.aload_n 0, 1) := by decide +kernel
theorem dX5_count_49 : decode cX5_count 49 = .ok (.getfield 9, 3) := by decide +kernel
theorem dX5_count_52 : decode cX5_count 52 = .ok (.iconst 0, 1) := by decide +kernel
theorem dX5_count_53 : decode cX5_count 53 = .ok (.iaload, 1) := by decide +kernel
theorem dX5_count_54 : decode cX5_count 54 = .ok (.ireturn, 1) := by decide +kernel
theorem dX5_count_55 : decode cX5_count 55 = .ok (.aload_n 0, 1) := by decide +kernel
theorem dX5_count_56 : decode cX5_count 56 = .ok (.getfield 9, 3) := by decide +kernel
theorem dX5_count_59 : decode cX5_count 59 = .ok (.iconst 1, 1) := by decide +kernel
theorem dX5_count_60 : decode cX5_count 60 = .ok (.iaload, 1) := by decide +kernel
theorem dX5_count_61 : decode cX5_count 61 = .ok (.ireturn, 1) := by decide +kernel
theorem dX5_count_62 : decode cX5_count 62 = .ok (.aload_n 0, 1) := by decide +kernel
theorem dX5_count_63 : decode cX5_count 63 = .ok (.getfield 9, 3) := by decide +kernel
theorem dX5_count_66 : decode cX5_count 66 = .ok (.iconst 3, 1) := by decide +kernel
theorem dX5_count_67 : decode cX5_count 67 = .ok (.iaload, 1) := by decide +kernel
theorem dX5_count_68 : decode cX5_count 68 = .ok (.ireturn, 1) := by decide +kernel
theorem dX5_count_69 : decode cX5_count 69 = .ok (.aload_n 0, 1) := by decide +kernel
theorem dX5_count_70 : decode cX5_count 70 = .ok (.invokevirtual 191, 3) := by decide +kernel
theorem dX5_count_73 : decode cX5_count 73 = .ok (.ireturn, 1) := by decide +kernel
theorem dX5_count_74 : decode cX5_count 74 = .ok (.aload_n 0, 1) := by decide +kernel
theorem dX5_count_75 : decode cX5_count 75 = .ok (.invokevirtual 185, 3) := by decide +kernel
theorem dX5_count_78 : decode cX5_count 78 = .ok (.invokestatic 232, 3) := by decide +kernel
theorem dX5_count_81 : decode cX5_count 81 = .ok (.ireturn, 1) := by decide +kernel
theorem dX5_count_82 : decode cX5_count 82 = .ok (.aload_n 0, 1) := by decide +kernel
theorem dX5_count_83 : decode cX5_count 83 = .ok (.getfield 253, 3) := by decide +kernel
theorem dX5_count_86 : decode cX5_count 86 = .ok (.ireturn, 1) := by decide +kernel
theorem dX5_count_87 : decode cX5_count 87 = .ok (.aload_n 0, 1) := by decide +kernel
theorem dX5_count_88 : decode cX5_count 88 = .ok (.getfield 9, 3) := by decide +kernel
theorem dX5_count_91 : decode cX5_count 91 = .ok (.iconst 2, 1) := by decide +kernel
theorem dX5_count_92 : decode cX5_count 92 = .ok (.iaload, 1) := by decide +kernel
theorem dX5_count_93 : decode cX5_count 93 = .ok (.ireturn, 1) := by decide +kernel
theorem dX5_count_94 : decode cX5_count 94 = .ok (.iconst 0, 1) := by decide +kernel
theorem dX5_count_95 : decode cX5_count 95 = .ok (.istore_n 3, 1) := by decide +kernel
theorem dX5_count_96 : decode cX5_count 96 = .ok (.iload_n 3, 1) := by decide +kernel
theorem dX5_count_97 : decode cX5_count 97 = .ok (.bipush 10, 2) := by decide +kernel
theorem dX5_count_99 : decode cX5_count 99 = .ok (.if_icmp .ge 29, 3) := by decide +kernel
theorem dX5_count_102 : decode cX5_count 102 = .ok (.iload_n 2, 1) := by decide +kernel
theorem dX5_count_103 : decode cX5_count 103 = .ok (.aload_n 0, 1) := by decide +kernel
theorem dX5_count_104 : decode cX5_count 104 = .ok (.getfield 9, 3) := by decide +kernel
theorem dX5_count_107 : decode cX5_count 107 = .ok (.bipush 10, 2) := by decide +kernel
theorem dX5_count_109 : decode cX5_count 109 = .ok (.iload_n 3, 1) := by decide +kernel
theorem dX5_count_110 : decode cX5_count 110 = .ok (.iadd, 1) := by decide +kernel
theorem dX5_count_111 : decode cX5_count 111 = .ok (.iaload, 1) := by decide +kernel
theorem dX5_count_112 : decode cX5_count 112 = .ok (.ifCond .ge 7, 3) := by decide +kernel
theorem dX5_count_115 : decode cX5_count 115 = .ok (.iconst 0, 1) := by decide +kernel
theorem dX5_count_116 : decode cX5_count 116 = .ok (.goto 4, 3) := by decide +kernel
theorem dX5_count_119 : decode cX5_count 119 = .ok (.iconst 1, 1) := by decide +kernel
theorem dX5_count_120 : decode cX5_count 120 = .ok (.iadd, 1) := by decide +kernel
theorem dX5_count_121 : decode cX5_count 121 = .ok (.istore_n 2, 1) := by decide +kernel
theorem dX5_count_122 : decode cX5_count 122 = .ok (.iinc 3 1, 3) := by decide +kernel
theorem dX5_count_125 : decode cX5_count 125 = .ok (.goto (-29), 3) := by decide +kernel
theorem dX5_count_128 : decode cX5_count 128 = .ok (.iload_n 2, 1) := by decide +kernel
theorem dX5_count_129 : decode cX5_count 129 = .ok (.ireturn, 1) := by decide +kernel
theorem dX5_count_130 : decode cX5_count 130 = .ok (.aload_n 0, 1) := by decide +kernel
theorem dX5_count_131 : decode cX5_count 131 = .ok (.ldc 60, 2) := by decide +kernel
theorem dX5_count_133 : decode cX5_count 133 = .ok (.invokevirtual 66, 3) := by decide +kernel
theorem dX5_count_136 : decode cX5_count 136 = .ok (.ireturn, 1) := by decide +kernel
set_option maxRecDepth 20000 in
theorem ggX5_status_X5_within : GoodIn wsX5_status wsX5_within := goodIn_r _ [6] (by decide +kernel) (by decide +kernel)
set_option maxRecDepth 20000 in
theorem gX5_status_X5_within : GoodIn wsX5_status (va_wsS RX5 70 yX5_within wsX5_within) := goodIn_app (goodIn_of _ (by decide +kernel)) ggX5_status_X5_within
set_option maxRecDepth 20000 in
theorem ggX5_status_X5_finding : GoodIn wsX5_status wsX5_finding := goodIn_r _ [10, 1, 2, 11, 12, 13, 14, 15, 16, 17, 18, 19, 20, 21, 22, 23, 24, 25, 26, 27, 28, 29, 30, 31] (by decide +kernel) (by decide +kernel)
set_option maxRecDepth 20000 in
theorem gX5_status_X5_finding : GoodIn wsX5_status (wsV RX5 66 RX5 yX5_finding wsX5_finding) := goodIn_app (goodIn_of _ (by decide +kernel)) ggX5_status_X5_finding
theorem dX5_status_0 : decode cX5_status 0 = .ok (.iload_n 1, 1) := by decide +kernel
theorem dX5_status_1 : decode cX5_status 1 = .ok (.iconst (-1), 1) := by decide +kernel
theorem dX5_status_2 : decode cX5_status 2 = .ok (.bipush 6, 2) := by decide +kernel
theorem dX5_status_4 : decode cX5_status 4 = .ok (.invokestatic 70, 3) := by decide +kernel
theorem dX5_status_7 : decode cX5_status 7 = .ok (.ifCond .eq 14, 3) := by decide +kernel
theorem dX5_status_10 : decode cX5_status 10 = .ok (.aload_n 0, 1) := by decide +kernel
theorem dX5_status_11 : decode cX5_status 11 = .ok (.getfield 19, 3) := by decide +kernel
theorem dX5_status_14 : decode cX5_status 14 = .ok (.iload_n 1, 1) := by decide +kernel
theorem dX5_status_15 : decode cX5_status 15 = .ok (.iconst 1, 1) := by decide +kernel
theorem dX5_status_16 : decode cX5_status 16 = .ok (.iadd, 1) := by decide +kernel
theorem dX5_status_17 : decode cX5_status 17 = .ok (.iaload, 1) := by decide +kernel
theorem dX5_status_18 : decode cX5_status 18 = .ok (.goto 9, 3) := by decide +kernel
theorem dX5_status_21 : decode cX5_status 21 = .ok (.aload_n 0, 1) := by decide +kernel
theorem dX5_status_22 : decode cX5_status 22 = .ok (.ldc 60, 2) := by decide +kernel
theorem dX5_status_24 : decode cX5_status 24 = .ok (.invokevirtual 66, 3) := by decide +kernel
theorem dX5_status_27 : decode cX5_status 27 = .ok (.ireturn, 1) := by decide +kernel
theorem dJ9_abs_0f7a4_0 : decode cJ9_abs_0f7a4 0 = .ok (.iload_n 0, 1) := by decide +kernel
theorem dJ9_abs_0f7a4_1 : decode cJ9_abs_0f7a4 1 = .ok (.ifCond .ge 8, 3) := by decide +kernel
theorem dJ9_abs_0f7a4_4 : decode cJ9_abs_0f7a4 4 = .ok (.iload_n 0, 1) := by decide +kernel
theorem dJ9_abs_0f7a4_5 : decode cJ9_abs_0f7a4 5 = .ok (.ineg, 1) := by decide +kernel
theorem dJ9_abs_0f7a4_6 : decode cJ9_abs_0f7a4 6 = .ok (.goto 4, 3) := by decide +kernel
theorem dJ9_abs_0f7a4_9 : decode cJ9_abs_0f7a4 9 = .ok (.iload_n 0, 1) := by decide +kernel
theorem dJ9_abs_0f7a4_10 : decode cJ9_abs_0f7a4 10 = .ok (.ireturn, 1) := by decide +kernel
theorem dJ9_max_7cf53_0 : decode cJ9_max_7cf53 0 = .ok (.iload_n 0, 1) := by decide +kernel
theorem dJ9_max_7cf53_1 : decode cJ9_max_7cf53 1 = .ok (.iload_n 1, 1) := by decide +kernel
theorem dJ9_max_7cf53_2 : decode cJ9_max_7cf53 2 = .ok (.if_icmp .lt 7, 3) := by decide +kernel
theorem dJ9_max_7cf53_5 : decode cJ9_max_7cf53 5 = .ok (.iload_n 0, 1) := by decide +kernel
theorem dJ9_max_7cf53_6 : decode cJ9_max_7cf53 6 = .ok (.goto 4, 3) := by decide +kernel
theorem dJ9_max_7cf53_9 : decode cJ9_max_7cf53 9 = .ok (.iload_n 1, 1) := by decide +kernel
theorem dJ9_max_7cf53_10 : decode cJ9_max_7cf53 10 = .ok (.ireturn, 1) := by decide +kernel
theorem dJ9_min_7cf53_0 : decode cJ9_min_7cf53 0 = .ok (.iload_n 0, 1) := by decide +kernel
theorem dJ9_min_7cf53_1 : decode cJ9_min_7cf53 1 = .ok (.iload_n 1, 1) := by decide +kernel
theorem dJ9_min_7cf53_2 : decode cJ9_min_7cf53 2 = .ok (.if_icmp .gt 7, 3) := by decide +kernel
theorem dJ9_min_7cf53_5 : decode cJ9_min_7cf53 5 = .ok (.iload_n 0, 1) := by decide +kernel
theorem dJ9_min_7cf53_6 : decode cJ9_min_7cf53 6 = .ok (.goto 4, 3) := by decide +kernel
theorem dJ9_min_7cf53_9 : decode cJ9_min_7cf53 9 = .ok (.iload_n 1, 1) := by decide +kernel
theorem dJ9_min_7cf53_10 : decode cJ9_min_7cf53 10 = .ok (.ireturn, 1) := by decide +kernel
set_option maxRecDepth 20000 in
theorem ggJ0_length_8abf5_J0_coder_7d493 : GoodIn wsJ0_length_8abf5 wsJ0_coder_7d493 := goodIn_r _ [6, 7, 8] (by decide +kernel) (by decide +kernel)
set_option maxRecDepth 20000 in
theorem gJ0_length_8abf5_J0_coder_7d493 : GoodIn wsJ0_length_8abf5 (wsV RJ0 335 RJ0 yJ0_coder_7d493 wsJ0_coder_7d493) := goodIn_app (goodIn_of _ (by decide +kernel)) ggJ0_length_8abf5_J0_coder_7d493
theorem dJ0_length_8abf5_0 : decode cJ0_length_8abf5 0 = .ok (.aload_n 0, 1) := by decide +kernel
theorem dJ0_length_8abf5_1 : decode cJ0_length_8abf5 1 = .ok (.getfield 9, 3) := by decide +kernel
theorem dJ0_length_8abf5_4 : decode cJ0_length_8abf5 4 = .ok (.arraylength, 1) := by decide +kernel
theorem dJ0_length_8abf5_5 : decode cJ0_length_8abf5 5 = .ok (.aload_n 0, 1) := by decide +kernel
theorem dJ0_length_8abf5_6 : decode cJ0_length_8abf5 6 = .ok (.invokevirtual 335, 3) := by decide +kernel
theorem dJ0_length_8abf5_9 : decode cJ0_length_8abf5 9 = .ok (.ishr, 1) := by decide +kernel
theorem dJ0_length_8abf5_10 : decode cJ0_length_8abf5 10 = .ok (.ireturn, 1) := by decide +kernel
set_option maxRecDepth 20000 in
theorem ggJ0_charAt_5068e_J0_isLatin1_aae02 : GoodIn wsJ0_charAt_5068e wsJ0_isLatin1_aae02 := goodIn_r _ [6, 7, 8] (by decide +kernel) (by decide +kernel)
set_option maxRecDepth 20000 in
theorem gJ0_charAt_5068e_J0_isLatin1_aae02 : GoodIn wsJ0_charAt_5068e (wsV RJ0 492 RJ0 yJ0_isLatin1_aae02 wsJ0_isLatin1_aae02) := goodIn_app (goodIn_of _ (by decide +kernel)) ggJ0_charAt_5068e_J0_isLatin1_aae02
set_option maxRecDepth 20000 in
theorem ggJ0_charAt_5068e_J1_charAt_3b067 : GoodIn wsJ0_charAt_5068e wsJ1_charAt_3b067 := goodIn_r _ [12, 13, 14, 5, 15, 16, 17, 18, 19, 20] (by decide +kernel) (by decide +kernel)
set_option maxRecDepth 20000 in
theorem gJ0_charAt_5068e_J1_charAt_3b067 : GoodIn wsJ0_charAt_5068e (va_wsS RJ0 495 yJ1_charAt_3b067 wsJ1_charAt_3b067) := goodIn_app (goodIn_of _ (by decide +kernel)) ggJ0_charAt_5068e_J1_charAt_3b067
set_option maxRecDepth 20000 in
theorem ggJ0_charAt_5068e_J2_charAt_3b067 : GoodIn wsJ0_charAt_5068e wsJ2_charAt_3b067 := goodIn_r _ [24, 25, 26, 23, 27, 28, 29, 30, 31, 14, 5, 15, 16, 17, 18, 19, 20, 32, 33, 34, 35, 36, 37] (by decide +kernel) (by decide +kernel)
set_option maxRecDepth 20000 in
theorem gJ0_charAt_5068e_J2_charAt_3b067 : GoodIn wsJ0_charAt_5068e (va_wsS RJ0 498 yJ2_charAt_3b067 wsJ2_charAt_3b067) := goodIn_app (goodIn_of _ (by decide +kernel)) ggJ0_charAt_5068e_J2_charAt_3b067
theorem dJ0_charAt_5068e_0 : decode cJ0_charAt_5068e 0 = .ok (.aload_n 0, 1) := by decide +kernel
theorem dJ0_charAt_5068e_1 : decode cJ0_charAt_5068e 1 = .ok (.invokevirtual 492, 3) := by decide +kernel
theorem dJ0_charAt_5068e_4 : decode cJ0_charAt_5068e 4 = .ok (.ifCond .eq 12, 3) := by decide +kernel
theorem dJ0_charAt_5068e_7 : decode cJ0_charAt_5068e 7 = .ok (.aload_n 0, 1) := by decide +kernel
theorem dJ0_charAt_5068e_8 : decode cJ0_charAt_5068e 8 = .ok (.getfield 9, 3) := by decide +kernel
theorem dJ0_charAt_5068e_11 : decode cJ0_charAt_5068e 11 = .ok (.iload_n 1, 1) := by decide +kernel
theorem dJ0_charAt_5068e_12 : decode cJ0_charAt_5068e 12 = .ok (.invokestatic 495, 3) := by decide +kernel
theorem dJ0_charAt_5068e_15 : decode cJ0_charAt_5068e 15 = .ok (.ireturn, 1) := by decide +kernel
theorem dJ0_charAt_5068e_16 : decode cJ0_charAt_5068e 16 = .ok (.aload_n 0, 1) := by decide +kernel
theorem dJ0_charAt_5068e_17 : decode cJ0_charAt_5068e 17 = .ok (.getfield 9, 3) := by decide +kernel
theorem dJ0_charAt_5068e_20 : decode cJ0_charAt_5068e 20 = .ok (.iload_n 1, 1) := by decide +kernel
theorem dJ0_charAt_5068e_21 : decode cJ0_charAt_5068e 21 = .ok (.invokestatic 498, 3) := by decide +kernel
theorem dJ0_charAt_5068e_24 : decode cJ0_charAt_5068e 24 = .ok (.ireturn, 1) := by decide +kernel
theorem dJ0_coder_7d493_0 : decode cJ0_coder_7d493 0 = .ok (.getstatic 38, 3) := by decide +kernel
theorem dJ0_coder_7d493_3 : decode cJ0_coder_7d493 3 = .ok (.ifCond .eq 10, 3) := by decide +kernel
theorem dJ0_coder_7d493_6 : decode cJ0_coder_7d493 6 = .ok (.aload_n 0, 1) := by decide +kernel
theorem dJ0_coder_7d493_7 : decode cJ0_coder_7d493 7 = .ok (.getfield 15, 3) := by decide +kernel
theorem dJ0_coder_7d493_10 : decode cJ0_coder_7d493 10 = .ok (.goto 4, 3) := by decide +kernel
theorem dJ0_coder_7d493_13 : decode cJ0_coder_7d493 13 = .ok (.iconst 1, 1) := by decide +kernel
theorem dJ0_coder_7d493_14 : decode cJ0_coder_7d493 14 = .ok (.ireturn, 1) := by decide +kernel
theorem dJ0_isLatin1_aae02_0 : decode cJ0_isLatin1_aae02 0 = .ok (.getstatic 38, 3) := by decide +kernel
theorem dJ0_isLatin1_aae02_3 : decode cJ0_isLatin1_aae02 3 = .ok (.ifCond .eq 14, 3) := by decide +kernel
theorem dJ0_isLatin1_aae02_6 : decode cJ0_isLatin1_aae02 6 = .ok (.aload_n 0, 1) := by decide +kernel
theorem dJ0_isLatin1_aae02_7 : decode cJ0_isLatin1_aae02 7 = .ok (.getfield 15, 3) := by decide +kernel
theorem dJ0_isLatin1_aae02_10 : decode cJ0_isLatin1_aae02 10 = .ok (.ifCond .ne 7, 3) := by decide +kernel
theorem dJ0_isLatin1_aae02_13 : decode cJ0_isLatin1_aae02 13 = .ok (.iconst 1, 1) := by decide +kernel
theorem dJ0_isLatin1_aae02_14 : decode cJ0_isLatin1_aae02 14 = .ok (.goto 4, 3) := by decide +kernel
theorem dJ0_isLatin1_aae02_17 : decode cJ0_isLatin1_aae02 17 = .ok (.iconst 0, 1) := by decide +kernel
theorem dJ0_isLatin1_aae02_18 : decode cJ0_isLatin1_aae02 18 = .ok (.ireturn, 1) := by decide +kernel
set_option maxRecDepth 20000 in
theorem ggJ0_checkIndex_df160_J3_checkIndex_8e157 : GoodIn wsJ0_checkIndex_df160 wsJ3_checkIndex_8e157 := goodIn_r _ [5] (by decide +kernel) (by decide +kernel)
set_option maxRecDepth 20000 in
theorem gJ0_checkIndex_df160_J3_checkIndex_8e157 : GoodIn wsJ0_checkIndex_df160 (va_wsS RJ0 1059 yJ3_checkIndex_8e157 wsJ3_checkIndex_8e157) := goodIn_app (goodIn_of _ (by decide +kernel)) ggJ0_checkIndex_df160_J3_checkIndex_8e157
theorem dJ0_checkIndex_df160_0 : decode cJ0_checkIndex_df160 0 = .ok (.iload_n 0, 1) := by decide +kernel
theorem dJ0_checkIndex_df160_1 : decode cJ0_checkIndex_df160 1 = .ok (.iload_n 1, 1) := by decide +kernel
theorem dJ0_checkIndex_df160_2 : decode cJ0_checkIndex_df160 2 = .ok (.getstatic 1053, 3) := by decide +kernel
theorem dJ0_checkIndex_df160_5 : decode cJ0_checkIndex_df160 5 = .ok (.invokestatic 1059, 3) := by decide +kernel
theorem dJ0_checkIndex_df160_8 : decode cJ0_checkIndex_df160 8 = .ok (.pop, 1) := by decide +kernel
theorem dJ0_checkIndex_df160_9 : decode cJ0_checkIndex_df160 9 = .ok (.return_, 1) := by decide +kernel
set_option maxRecDepth 20000 in
theorem ggJ1_charAt_3b067_J0_checkIndex_df160 : GoodIn wsJ1_charAt_3b067 wsJ0_checkIndex_df160 := goodIn_r _ [4, 5, 6, 7, 8, 9] (by decide +kernel) (by decide +kernel)
set_option maxRecDepth 20000 in
theorem gJ1_charAt_3b067_J0_checkIndex_df160 : GoodIn wsJ1_charAt_3b067 (va_wsS RJ1 9 yJ0_checkIndex_df160 wsJ0_checkIndex_df160) := goodIn_app (goodIn_of _ (by decide +kernel)) ggJ1_charAt_3b067_J0_checkIndex_df160
theorem dJ1_charAt_3b067_0 : decode cJ1_charAt_3b067 0 = .ok (.iload_n 1, 1) := by decide +kernel
theorem dJ1_charAt_3b067_1 : decode cJ1_charAt_3b067 1 = .ok (.aload_n 0, 1) := by decide +kernel
theorem dJ1_charAt_3b067_2 : decode cJ1_charAt_3b067 2 = .ok (.arraylength, 1) := by decide +kernel
theorem dJ1_charAt_3b067_3 : decode cJ1_charAt_3b067 3 = .ok (.invokestatic 9, 3) := by decide +kernel
theorem dJ1_charAt_3b067_6 : decode cJ1_charAt_3b067 6 = .ok (.aload_n 0, 1) := by decide +kernel
theorem dJ1_charAt_3b067_7 : decode cJ1_charAt_3b067 7 = .ok (.iload_n 1, 1) := by decide +kernel
theorem dJ1_charAt_3b067_8 : decode cJ1_charAt_3b067 8 = .ok (.baload, 1) := by decide +kernel
theorem dJ1_charAt_3b067_9 : decode cJ1_charAt_3b067 9 = .ok (.sipush 255, 3) := by decide +kernel
theorem dJ1_charAt_3b067_12 : decode cJ1_charAt_3b067 12 = .ok (.iand, 1) := by decide +kernel
theorem dJ1_charAt_3b067_13 : decode cJ1_charAt_3b067 13 = .ok (.i2c, 1) := by decide +kernel
theorem dJ1_charAt_3b067_14 : decode cJ1_charAt_3b067 14 = .ok (.ireturn, 1) := by decide +kernel
set_option maxRecDepth 20000 in
theorem ggJ2_getChar_3b067_J2_length_9d52b : GoodIn wsJ2_getChar_3b067 wsJ2_length_9d52b := goodIn_r _ [7] (by decide +kernel) (by decide +kernel)
set_option maxRecDepth 20000 in
theorem gJ2_getChar_3b067_J2_length_9d52b : GoodIn wsJ2_getChar_3b067 (va_wsS RJ2 48 yJ2_length_9d52b wsJ2_length_9d52b) := goodIn_app (goodIn_of _ (by decide +kernel)) ggJ2_getChar_3b067_J2_length_9d52b
theorem dJ2_getChar_3b067_0 : decode cJ2_getChar_3b067 0 = .ok (.getstatic 44, 3) := by decide +kernel
theorem dJ2_getChar_3b067_3 : decode cJ2_getChar_3b067 3 = .ok (.ifCond .ne 25, 3) := by decide +kernel
theorem dJ2_getChar_3b067_6 : decode cJ2_getChar_3b067 6 = .ok (.iload_n 1, 1) := by decide +kernel
theorem dJ2_getChar_3b067_7 : decode cJ2_getChar_3b067 7 = .ok (.ifCond .lt 11, 3) := by decide +kernel
theorem dJ2_getChar_3b067_10 : decode cJ2_getChar_3b067 10 = .ok (.iload_n 1, 1) := by decide +kernel
theorem dJ2_getChar_3b067_11 : decode cJ2_getChar_3b067 11 = .ok (.aload_n 0, 1) := by decide +kernel
theorem dJ2_getChar_3b067_12 : decode cJ2_getChar_3b067 12 = .ok (.invokestatic 48, 3) := by decide +kernel
theorem dJ2_getChar_3b067_15 : decode cJ2_getChar_3b067 15 = .ok (.if_icmp .lt 13, 3) := by decide +kernel
theorem dJ2_getChar_3b067_18 : decode cJ2_getChar_3b067 18 = .ok (.new 52, 3) := by decide +kernel
theorem dJ2_getChar_3b067_21 : decode cJ2_getChar_3b067 21 = .ok (.dup, 1) := by decide +kernel
theorem dJ2_getChar_3b067_22 : decode cJ2_getChar_3b067 22 = .ok (.ldc 54, 2) := by decide +kernel
theorem dJ2_getChar_3b067_24 : decode cJ2_getChar_3b067 24 = .ok (.invokespecial 56, 3) := by decide +kernel
theorem dJ2_getChar_3b067_27 : decode cJ2_getChar_3b067 27 = .ok (.athrow, 1) := by decide +kernel
theorem dJ2_getChar_3b067_28 : decode cJ2_getChar_3b067 28 = .ok (.iload_n 1, 1) := by decide +kernel
theorem dJ2_getChar_3b067_29 : decode cJ2_getChar_3b067 29 = .ok (.iconst 1, 1) := by decide +kernel
theorem dJ2_getChar_3b067_30 : decode cJ2_getChar_3b067 30 = .ok (.ishl, 1) := by decide +kernel
theorem dJ2_getChar_3b067_31 : decode cJ2_getChar_3b067 31 = .ok (.istore_n 1, 1) := by decide +kernel
theorem dJ2_getChar_3b067_32 : decode cJ2_getChar_3b067 32 = .ok (.aload_n 0, 1) := by decide +kernel
theorem dJ2_getChar_3b067_33 : decode cJ2_getChar_3b067 33 = .ok (.iload_n 1, 1) := by decide +kernel
theorem dJ2_getChar_3b067_34 : decode cJ2_getChar_3b067 34 = .ok (.iinc 1 1, 3) := by decide +kernel
theorem dJ2_getChar_3b067_37 : decode cJ2_getChar_3b067 37 = .ok (.baload, 1) := by decide +kernel
theorem dJ2_getChar_3b067_38 : decode cJ2_getChar_3b067 38 = .ok (.sipush 255, 3) := by decide +kernel
theorem dJ2_getChar_3b067_41 : decode cJ2_getChar_3b067 41 = .ok (.iand, 1) := by decide +kernel
theorem dJ2_getChar_3b067_42 : decode cJ2_getChar_3b067 42 = .ok (.getstatic 59, 3) := by decide +kernel
theorem dJ2_getChar_3b067_45 : decode cJ2_getChar_3b067 45 = .ok (.ishl, 1) := by decide +kernel
theorem dJ2_getChar_3b067_46 : decode cJ2_getChar_3b067 46 = .ok (.aload_n 0, 1) := by decide +kernel
theorem dJ2_getChar_3b067_47 : decode cJ2_getChar_3b067 47 = .ok (.iload_n 1, 1) := by decide +kernel
theorem dJ2_getChar_3b067_48 : decode cJ2_getChar_3b067 48 = .ok (.baload, 1) := by decide +kernel
theorem dJ2_getChar_3b067_49 : decode cJ2_getChar_3b067 49 = .ok (.sipush 255, 3) := by decide +kernel
theorem dJ2_getChar_3b067_52 : decode cJ2_getChar_3b067 52 = .ok (.iand, 1) := by decide +kernel
theorem dJ2_getChar_3b067_53 : decode cJ2_getChar_3b067 53 = .ok (.getstatic 63, 3) := by decide +kernel
theorem dJ2_getChar_3b067_56 : decode cJ2_getChar_3b067 56 = .ok (.ishl, 1) := by decide +kernel
theorem dJ2_getChar_3b067_57 : decode cJ2_getChar_3b067 57 = .ok (.ior, 1) := by decide +kernel
theorem dJ2_getChar_3b067_58 : decode cJ2_getChar_3b067 58 = .ok (.i2c, 1) := by decide +kernel
theorem dJ2_getChar_3b067_59 : decode cJ2_getChar_3b067 59 = .ok (.ireturn, 1) := by decide +kernel
theorem dJ2_length_9d52b_0 : decode cJ2_length_9d52b 0 = .ok (.aload_n 0, 1) := by decide +kernel
theorem dJ2_length_9d52b_1 : decode cJ2_length_9d52b 1 = .ok (.arraylength, 1) := by decide +kernel
theorem dJ2_length_9d52b_2 : decode cJ2_length_9d52b 2 = .ok (.iconst 1, 1) := by decide +kernel
theorem dJ2_length_9d52b_3 : decode cJ2_length_9d52b 3 = .ok (.ishr, 1) := by decide +kernel
theorem dJ2_length_9d52b_4 : decode cJ2_length_9d52b 4 = .ok (.ireturn, 1) := by decide +kernel
set_option maxRecDepth 20000 in
theorem ggJ2_charAt_3b067_J2_checkIndex_2214a : GoodIn wsJ2_charAt_3b067 wsJ2_checkIndex_2214a := goodIn_r _ [4, 5, 6, 3, 7, 8, 9, 10, 11, 12, 13, 14, 15, 16] (by decide +kernel) (by decide +kernel)
set_option maxRecDepth 20000 in
theorem gJ2_charAt_3b067_J2_checkIndex_2214a : GoodIn wsJ2_charAt_3b067 (va_wsS RJ2 67 yJ2_checkIndex_2214a wsJ2_checkIndex_2214a) := goodIn_app (goodIn_of _ (by decide +kernel)) ggJ2_charAt_3b067_J2_checkIndex_2214a
set_option maxRecDepth 20000 in
theorem ggJ2_charAt_3b067_J2_getChar_3b067 : GoodIn wsJ2_charAt_3b067 wsJ2_getChar_3b067 := goodIn_r _ [19, 20, 21, 22, 5, 6, 3, 7] (by decide +kernel) (by decide +kernel)
set_option maxRecDepth 20000 in
theorem gJ2_charAt_3b067_J2_getChar_3b067 : GoodIn wsJ2_charAt_3b067 (va_wsS RJ2 71 yJ2_getChar_3b067 wsJ2_getChar_3b067) := goodIn_app (goodIn_of _ (by decide +kernel)) ggJ2_charAt_3b067_J2_getChar_3b067
theorem dJ2_charAt_3b067_0 : decode cJ2_charAt_3b067 0 = .ok (.iload_n 1, 1) := by decide +kernel
theorem dJ2_charAt_3b067_1 : decode cJ2_charAt_3b067 1 = .ok (.aload_n 0, 1) := by decide +kernel
theorem dJ2_charAt_3b067_2 : decode cJ2_charAt_3b067 2 = .ok (.invokestatic 67, 3) := by decide +kernel
theorem dJ2_charAt_3b067_5 : decode cJ2_charAt_3b067 5 = .ok (.aload_n 0, 1) := by decide +kernel
theorem dJ2_charAt_3b067_6 : decode cJ2_charAt_3b067 6 = .ok (.iload_n 1, 1) := by decide +kernel
theorem dJ2_charAt_3b067_7 : decode cJ2_charAt_3b067 7 = .ok (.invokestatic 71, 3) := by decide +kernel
theorem dJ2_charAt_3b067_10 : decode cJ2_charAt_3b067 10 = .ok (.ireturn, 1) := by decide +kernel
set_option maxRecDepth 20000 in
theorem ggJ2_checkIndex_2214a_J2_length_9d52b : GoodIn wsJ2_checkIndex_2214a wsJ2_length_9d52b := goodIn_r _ [4] (by decide +kernel) (by decide +kernel)
set_option maxRecDepth 20000 in
theorem gJ2_checkIndex_2214a_J2_length_9d52b : GoodIn wsJ2_checkIndex_2214a (va_wsS RJ2 48 yJ2_length_9d52b wsJ2_length_9d52b) := goodIn_app (goodIn_of _ (by decide +kernel)) ggJ2_checkIndex_2214a_J2_length_9d52b
set_option maxRecDepth 20000 in
theorem ggJ2_checkIndex_2214a_J0_checkIndex_df160 : GoodIn wsJ2_checkIndex_2214a wsJ0_checkIndex_df160 := goodIn_r _ [8, 9, 10, 11, 12, 13] (by decide +kernel) (by decide +kernel)
set_option maxRecDepth 20000 in
theorem gJ2_checkIndex_2214a_J0_checkIndex_df160 : GoodIn wsJ2_checkIndex_2214a (va_wsS RJ2 414 yJ0_checkIndex_df160 wsJ0_checkIndex_df160) := goodIn_app (goodIn_of _ (by decide +kernel)) ggJ2_checkIndex_2214a_J0_checkIndex_df160
theorem dJ2_checkIndex_2214a_0 : decode cJ2_checkIndex_2214a 0 = .ok (.iload_n 0, 1) := by decide +kernel
theorem dJ2_checkIndex_2214a_1 : decode cJ2_checkIndex_2214a 1 = .ok (.aload_n 1, 1) := by decide +kernel
theorem dJ2_checkIndex_2214a_2 : decode cJ2_checkIndex_2214a 2 = .ok (.invokestatic 48, 3) := by decide +kernel
theorem dJ2_checkIndex_2214a_5 : decode cJ2_checkIndex_2214a 5 = .ok (.invokestatic 414, 3) := by decide +kernel
theorem dJ2_checkIndex_2214a_8 : decode cJ2_checkIndex_2214a 8 = .ok (.return_, 1) := by decide +kernel
theorem dJ3_checkIndex_8e157_0 : decode cJ3_checkIndex_8e157 0 = .ok (.iload_n 0, 1) := by decide +kernel
theorem dJ3_checkIndex_8e157_1 : decode cJ3_checkIndex_8e157 1 = .ok (.ifCond .lt 8, 3) := by decide +kernel
theorem dJ3_checkIndex_8e157_4 : decode cJ3_checkIndex_8e157 4 = .ok (.iload_n 0, 1) := by decide +kernel
theorem dJ3_checkIndex_8e157_5 : decode cJ3_checkIndex_8e157 5 = .ok (.iload_n 1, 1) := by decide +kernel
theorem dJ3_checkIndex_8e157_6 : decode cJ3_checkIndex_8e157 6 = .ok (.if_icmp .lt 10, 3) := by decide +kernel
theorem dJ3_checkIndex_8e157_9 : decode cJ3_checkIndex_8e157 9 = .ok (.aload_n 2, 1) := by decide +kernel
theorem dJ3_checkIndex_8e157_10 : decode cJ3_checkIndex_8e157 10 = .ok (.iload_n 0, 1) := by decide +kernel
theorem dJ3_checkIndex_8e157_11 : decode cJ3_checkIndex_8e157 11 = .ok (.iload_n 1, 1) := by decide +kernel
theorem dJ3_checkIndex_8e157_12 : decode cJ3_checkIndex_8e157 12 = .ok (.invokestatic 95, 3) := by decide +kernel
theorem dJ3_checkIndex_8e157_15 : decode cJ3_checkIndex_8e157 15 = .ok (.athrow, 1) := by decide +kernel
theorem dJ3_checkIndex_8e157_16 : decode cJ3_checkIndex_8e157 16 = .ok (.iload_n 0, 1) := by decide +kernel
theorem dJ3_checkIndex_8e157_17 : decode cJ3_checkIndex_8e157 17 = .ok (.ireturn, 1) := by decide +kernel

