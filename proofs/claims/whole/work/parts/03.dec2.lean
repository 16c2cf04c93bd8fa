theorem dX3_readSaying_91 : decode cX3_readSaying 91 = .ok (.ldc 97, 2) := by decide +kernel
theorem dX3_readSaying_93 : decode cX3_readSaying 93 = .ok (.invokevirtual 54, 3) := by decide +kernel
theorem dX3_readSaying_96 : decode cX3_readSaying 96 = .ok (.ifCond .eq 15, 3) := by decide +kernel
theorem dX3_readSaying_99 : decode cX3_readSaying 99 = .ok (.aload_n 1, 1) := by decide +kernel
theorem dX3_readSaying_100 : decode cX3_readSaying 100 = .ok (.iload 6, 2) := by decide +kernel
theorem dX3_readSaying_102 : decode cX3_readSaying 102 = .ok (.iconst 3, 1) := by decide +kernel
theorem dX3_readSaying_103 : decode cX3_readSaying 103 = .ok (.iconst 1, 1) := by decide +kernel
theorem dX3_readSaying_104 : decode cX3_readSaying 104 = .ok (.invokevirtual 93, 3) := by decide +kernel
theorem dX3_readSaying_107 : decode cX3_readSaying 107 = .ok (.aload_n 0, 1) := by decide +kernel
theorem dX3_readSaying_108 : decode cX3_readSaying 108 = .ok (.invokevirtual 41, 3) := by decide +kernel
theorem dX3_readSaying_111 : decode cX3_readSaying 111 = .ok (.iconst 1, 1) := by decide +kernel
theorem dX3_readSaying_112 : decode cX3_readSaying 112 = .ok (.ireturn, 1) := by decide +kernel
set_option maxRecDepth 20000 in
theorem ggX3_readShip_X3_advance : GoodIn wsX3_readShip wsX3_advance := goodIn_r _ [5, 6, 7, 8, 9, 10, 11, 12, 13, 14, 15, 16, 17, 18, 19, 20, 21, 4, 22, 107, 108, 109, 110, 111, 112] (by decide +kernel) (by decide +kernel)
set_option maxRecDepth 20000 in
theorem gX3_readShip_X3_advance : GoodIn wsX3_readShip (wsV RX3 41 RX3 yX3_advance wsX3_advance) := goodIn_app (goodIn_of _ (by decide +kernel)) ggX3_readShip_X3_advance
set_option maxRecDepth 20000 in
theorem ggX3_readShip_X3_readOption : GoodIn wsX3_readShip wsX3_readOption := goodIn_r _ [26, 27, 28, 29, 4, 30, 10, 6, 7, 9, 31, 32, 33, 34, 35, 36, 37, 38, 39, 40, 41, 42, 16, 17, 18, 43, 44, 45, 46, 47, 48, 49, 50, 51, 52, 53, 54, 55, 56, 57, 58, 59, 60, 61, 62, 63, 64, 65, 66, 67, 68, 69, 70, 71, 72, 73, 74, 75, 76, 77, 78, 79, 1, 2, 3, 5, 8, 11, 12, 13, 14, 15, 19, 20, 21, 22, 80, 81, 82, 83, 84, 85, 107, 108, 109, 110, 111, 112] (by decide +kernel) (by decide +kernel)
set_option maxRecDepth 20000 in
theorem gX3_readShip_X3_readOption : GoodIn wsX3_readShip (wsV RX3 83 RX3 yX3_readOption wsX3_readOption) := goodIn_app (goodIn_of _ (by decide +kernel)) ggX3_readShip_X3_readOption
set_option maxRecDepth 20000 in
theorem ggX3_readShip_X0_addShip : GoodIn wsX3_readShip wsX0_addShip := goodIn_r _ [90, 91, 92, 93, 94, 89, 95, 96, 97, 17, 98, 99, 100, 101, 102, 103, 104, 105, 106] (by decide +kernel) (by decide +kernel)
set_option maxRecDepth 20000 in
theorem gX3_readShip_X0_addShip : GoodIn wsX3_readShip (wsV RX3 106 RX0 yX0_addShip wsX0_addShip) := goodIn_app (goodIn_of _ (by decide +kernel)) ggX3_readShip_X0_addShip
theorem dX3_readShip_0 : decode cX3_readShip 0 = .ok (.aload_n 1, 1) := by decide +kernel
theorem dX3_readShip_1 : decode cX3_readShip 1 = .ok (.getfield 99, 3) := by decide +kernel
theorem dX3_readShip_4 : decode cX3_readShip 4 = .ok (.bipush 6, 2) := by decide +kernel
theorem dX3_readShip_6 : decode cX3_readShip 6 = .ok (.if_icmp .lt 5, 3) := by decide +kernel
theorem dX3_readShip_9 : decode cX3_readShip 9 = .ok (.iconst 0, 1) := by decide +kernel
theorem dX3_readShip_10 : decode cX3_readShip 10 = .ok (.ireturn, 1) := by decide +kernel
theorem dX3_readShip_11 : decode cX3_readShip 11 = .ok (.aload_n 0, 1) := by decide +kernel
theorem dX3_readShip_12 : decode cX3_readShip 12 = .ok (.invokevirtual 41, 3) := by decide +kernel
theorem dX3_readShip_15 : decode cX3_readShip 15 = .ok (.aload_n 0, 1) := by decide +kernel
theorem dX3_readShip_16 : decode cX3_readShip 16 = .ok (.ldc 81, 2) := by decide +kernel
theorem dX3_readShip_18 : decode cX3_readShip 18 = .ok (.iconst 0, 1) := by decide +kernel
theorem dX3_readShip_19 : decode cX3_readShip 19 = .ok (.bipush 15, 2) := by decide +kernel
theorem dX3_readShip_21 : decode cX3_readShip 21 = .ok (.iconst 0, 1) := by decide +kernel
theorem dX3_readShip_22 : decode cX3_readShip 22 = .ok (.invokevirtual 83, 3) := by decide +kernel
theorem dX3_readShip_25 : decode cX3_readShip 25 = .ok (.istore_n 2, 1) := by decide +kernel
theorem dX3_readShip_26 : decode cX3_readShip 26 = .ok (.iload_n 2, 1) := by decide +kernel
theorem dX3_readShip_27 : decode cX3_readShip 27 = .ok (.iconst (-1), 1) := by decide +kernel
theorem dX3_readShip_28 : decode cX3_readShip 28 = .ok (.if_icmp .ne 5, 3) := by decide +kernel
theorem dX3_readShip_31 : decode cX3_readShip 31 = .ok (.iconst 0, 1) := by decide +kernel
theorem dX3_readShip_32 : decode cX3_readShip 32 = .ok (.ireturn, 1) := by decide +kernel
theorem dX3_readShip_33 : decode cX3_readShip 33 = .ok (.aload_n 0, 1) := by decide +kernel
theorem dX3_readShip_34 : decode cX3_readShip 34 = .ok (.ldc 102, 2) := by decide +kernel
theorem dX3_readShip_36 : decode cX3_readShip 36 = .ok (.iconst 0, 1) := by decide +kernel
theorem dX3_readShip_37 : decode cX3_readShip 37 = .ok (.bipush 99, 2) := by decide +kernel
theorem dX3_readShip_39 : decode cX3_readShip 39 = .ok (.bipush 30, 2) := by decide +kernel
theorem dX3_readShip_41 : decode cX3_readShip 41 = .ok (.invokevirtual 83, 3) := by decide +kernel
theorem dX3_readShip_44 : decode cX3_readShip 44 = .ok (.istore_n 3, 1) := by decide +kernel
theorem dX3_readShip_45 : decode cX3_readShip 45 = .ok (.iload_n 3, 1) := by decide +kernel
theorem dX3_readShip_46 : decode cX3_readShip 46 = .ok (.iconst (-1), 1) := by decide +kernel
theorem dX3_readShip_47 : decode cX3_readShip 47 = .ok (.if_icmp .ne 5, 3) := by decide +kernel
theorem dX3_readShip_50 : decode cX3_readShip 50 = .ok (.iconst 0, 1) := by decide +kernel
theorem dX3_readShip_51 : decode cX3_readShip 51 = .ok (.ireturn, 1) := by decide +kernel
theorem dX3_readShip_52 : decode cX3_readShip 52 = .ok (.aload_n 0, 1) := by decide +kernel
theorem dX3_readShip_53 : decode cX3_readShip 53 = .ok (.ldc 104, 2) := by decide +kernel
theorem dX3_readShip_55 : decode cX3_readShip 55 = .ok (.iconst 1, 1) := by decide +kernel
theorem dX3_readShip_56 : decode cX3_readShip 56 = .ok (.iconst 5, 1) := by decide +kernel
theorem dX3_readShip_57 : decode cX3_readShip 57 = .ok (.iconst 2, 1) := by decide +kernel
theorem dX3_readShip_58 : decode cX3_readShip 58 = .ok (.invokevirtual 83, 3) := by decide +kernel
theorem dX3_readShip_61 : decode cX3_readShip 61 = .ok (.istore 4, 2) := by decide +kernel
theorem dX3_readShip_63 : decode cX3_readShip 63 = .ok (.iload 4, 2) := by decide +kernel
theorem dX3_readShip_65 : decode cX3_readShip 65 = .ok (.iconst (-1), 1) := by decide +kernel
theorem dX3_readShip_66 : decode cX3_readShip 66 = .ok (.if_icmp .ne 5, 3) := by decide +kernel
theorem dX3_readShip_69 : decode cX3_readShip 69 = .ok (.iconst 0, 1) := by decide +kernel
theorem dX3_readShip_70 : decode cX3_readShip 70 = .ok (.ireturn, 1) := by decide +kernel
theorem dX3_readShip_71 : decode cX3_readShip 71 = .ok (.aload_n 1, 1) := by decide +kernel
theorem dX3_readShip_72 : decode cX3_readShip 72 = .ok (.iload_n 2, 1) := by decide +kernel
theorem dX3_readShip_73 : decode cX3_readShip 73 = .ok (.iload_n 3, 1) := by decide +kernel
theorem dX3_readShip_74 : decode cX3_readShip 74 = .ok (.iload 4, 2) := by decide +kernel
theorem dX3_readShip_76 : decode cX3_readShip 76 = .ok (.invokevirtual 106, 3) := by decide +kernel
theorem dX3_readShip_79 : decode cX3_readShip 79 = .ok (.pop, 1) := by decide +kernel
theorem dX3_readShip_80 : decode cX3_readShip 80 = .ok (.iconst 1, 1) := by decide +kernel
theorem dX3_readShip_81 : decode cX3_readShip 81 = .ok (.ireturn, 1) := by decide +kernel
set_option maxRecDepth 20000 in
theorem ggX3_readFinish_X3_advance : GoodIn wsX3_readFinish wsX3_advance := goodIn_r _ [5, 6, 7, 8, 9, 10, 11, 12, 13, 14, 15, 16, 17, 18, 19, 20, 21, 4, 22, 37, 38, 39, 40, 41, 42] (by decide +kernel) (by decide +kernel)
set_option maxRecDepth 20000 in
theorem gX3_readFinish_X3_advance : GoodIn wsX3_readFinish (wsV RX3 41 RX3 yX3_advance wsX3_advance) := goodIn_app (goodIn_of _ (by decide +kernel)) ggX3_readFinish_X3_advance
set_option maxRecDepth 20000 in
theorem ggX3_readFinish_X3_readNumber : GoodIn wsX3_readFinish wsX3_readNumber := goodIn_r _ [26, 10, 11, 27, 17, 28, 1, 2, 3, 4, 5, 6, 7, 8, 9, 12, 13, 14, 15, 16, 18, 19, 20, 21, 22, 37, 38, 39, 40, 41, 42] (by decide +kernel) (by decide +kernel)
set_option maxRecDepth 20000 in
theorem gX3_readFinish_X3_readNumber : GoodIn wsX3_readFinish (wsV RX3 78 RX3 yX3_readNumber wsX3_readNumber) := goodIn_app (goodIn_of _ (by decide +kernel)) ggX3_readFinish_X3_readNumber
set_option maxRecDepth 20000 in
theorem ggX3_readFinish_X0_setPlace : GoodIn wsX3_readFinish wsX0_setPlace := goodIn_r _ [33, 34, 35, 17, 36, 43, 44, 45, 46, 47, 48, 49, 50] (by decide +kernel) (by decide +kernel)
set_option maxRecDepth 20000 in
theorem gX3_readFinish_X0_setPlace : GoodIn wsX3_readFinish (wsV RX3 109 RX0 yX0_setPlace wsX0_setPlace) := goodIn_app (goodIn_of _ (by decide +kernel)) ggX3_readFinish_X0_setPlace
theorem dX3_readFinish_0 : decode cX3_readFinish 0 = .ok (.aload_n 0, 1) := by decide +kernel
theorem dX3_readFinish_1 : decode cX3_readFinish 1 = .ok (.invokevirtual 41, 3) := by decide +kernel
theorem dX3_readFinish_4 : decode cX3_readFinish 4 = .ok (.aload_n 0, 1) := by decide +kernel
theorem dX3_readFinish_5 : decode cX3_readFinish 5 = .ok (.iconst 0, 1) := by decide +kernel
theorem dX3_readFinish_6 : decode cX3_readFinish 6 = .ok (.iconst 5, 1) := by decide +kernel
theorem dX3_readFinish_7 : decode cX3_readFinish 7 = .ok (.invokevirtual 78, 3) := by decide +kernel
theorem dX3_readFinish_10 : decode cX3_readFinish 10 = .ok (.istore_n 2, 1) := by decide +kernel
theorem dX3_readFinish_11 : decode cX3_readFinish 11 = .ok (.iload_n 2, 1) := by decide +kernel
theorem dX3_readFinish_12 : decode cX3_readFinish 12 = .ok (.iconst (-1), 1) := by decide +kernel
theorem dX3_readFinish_13 : decode cX3_readFinish 13 = .ok (.if_icmp .ne 5, 3) := by decide +kernel
theorem dX3_readFinish_16 : decode cX3_readFinish 16 = .ok (.iconst 0, 1) := by decide +kernel
theorem dX3_readFinish_17 : decode cX3_readFinish 17 = .ok (.ireturn, 1) := by decide +kernel
theorem dX3_readFinish_18 : decode cX3_readFinish 18 = .ok (.aload_n 0, 1) := by decide +kernel
theorem dX3_readFinish_19 : decode cX3_readFinish 19 = .ok (.iconst 0, 1) := by decide +kernel
theorem dX3_readFinish_20 : decode cX3_readFinish 20 = .ok (.bipush 8, 2) := by decide +kernel
theorem dX3_readFinish_22 : decode cX3_readFinish 22 = .ok (.invokevirtual 78, 3) := by decide +kernel
theorem dX3_readFinish_25 : decode cX3_readFinish 25 = .ok (.istore_n 3, 1) := by decide +kernel
theorem dX3_readFinish_26 : decode cX3_readFinish 26 = .ok (.iload_n 3, 1) := by decide +kernel
theorem dX3_readFinish_27 : decode cX3_readFinish 27 = .ok (.iconst (-1), 1) := by decide +kernel
theorem dX3_readFinish_28 : decode cX3_readFinish 28 = .ok (.if_icmp .ne 5, 3) := by decide +kernel
theorem dX3_readFinish_31 : decode cX3_readFinish 31 = .ok (.iconst 0, 1) := by decide +kernel
theorem dX3_readFinish_32 : decode cX3_readFinish 32 = .ok (.ireturn, 1) := by decide +kernel
theorem dX3_readFinish_33 : decode cX3_readFinish 33 = .ok (.aload_n 1, 1) := by decide +kernel
theorem dX3_readFinish_34 : decode cX3_readFinish 34 = .ok (.iload_n 2, 1) := by decide +kernel
theorem dX3_readFinish_35 : decode cX3_readFinish 35 = .ok (.iload_n 3, 1) := by decide +kernel
theorem dX3_readFinish_36 : decode cX3_readFinish 36 = .ok (.invokevirtual 109, 3) := by decide +kernel
theorem dX3_readFinish_39 : decode cX3_readFinish 39 = .ok (.iconst 1, 1) := by decide +kernel
theorem dX3_readFinish_40 : decode cX3_readFinish 40 = .ok (.ireturn, 1) := by decide +kernel
set_option maxRecDepth 20000 in
theorem ggX3_readOption_X3_isWord : GoodIn wsX3_readOption wsX3_isWord := goodIn_r _ [5, 6, 7, 8, 9, 10, 11, 12, 13, 14, 15, 16, 17, 18, 19, 20, 21, 22, 23, 24, 25, 26, 27, 28, 29, 30, 31, 32, 33, 34, 35, 36, 37, 38, 39, 40, 41, 42, 43, 44, 45, 46, 47, 48, 49, 50, 51, 52, 53, 54, 55, 56, 57, 58, 59, 60, 61, 82, 83, 84, 85, 86, 87] (by decide +kernel) (by decide +kernel)
set_option maxRecDepth 20000 in
theorem gX3_readOption_X3_isWord : GoodIn wsX3_readOption (wsV RX3 54 RX3 yX3_isWord wsX3_isWord) := goodIn_app (goodIn_of _ (by decide +kernel)) ggX3_readOption_X3_isWord
set_option maxRecDepth 20000 in
theorem ggX3_readOption_X3_advance : GoodIn wsX3_readOption wsX3_advance := goodIn_r _ [65, 7, 8, 66, 9, 6, 67, 68, 69, 70, 71, 22, 23, 24, 72, 73, 74, 4, 75, 82, 83, 84, 85, 86, 87] (by decide +kernel) (by decide +kernel)
set_option maxRecDepth 20000 in
theorem gX3_readOption_X3_advance : GoodIn wsX3_readOption (wsV RX3 41 RX3 yX3_advance wsX3_advance) := goodIn_app (goodIn_of _ (by decide +kernel)) ggX3_readOption_X3_advance
set_option maxRecDepth 20000 in
theorem ggX3_readOption_X3_readNumber : GoodIn wsX3_readOption wsX3_readNumber := goodIn_r _ [79, 6, 67, 80, 23, 81, 62, 63, 64, 4, 65, 7, 8, 66, 9, 68, 69, 70, 71, 22, 24, 72, 73, 74, 75, 82, 83, 84, 85, 86, 87] (by decide +kernel) (by decide +kernel)
set_option maxRecDepth 20000 in
theorem gX3_readOption_X3_readNumber : GoodIn wsX3_readOption (wsV RX3 78 RX3 yX3_readNumber wsX3_readNumber) := goodIn_app (goodIn_of _ (by decide +kernel)) ggX3_readOption_X3_readNumber
theorem dX3_readOption_0 : decode cX3_readOption 0 = .ok (.aload_n 0, 1) := by decide +kernel
theorem dX3_readOption_1 : decode cX3_readOption 1 = .ok (.aload_n 1, 1) := by decide +kernel
theorem dX3_readOption_2 : decode cX3_readOption 2 = .ok (.invokevirtual 54, 3) := by decide +kernel
theorem dX3_readOption_5 : decode cX3_readOption 5 = .ok (.ifCond .ne 6, 3) := by decide +kernel
theorem dX3_readOption_8 : decode cX3_readOption 8 = .ok (.iload 4, 2) := by decide +kernel
theorem dX3_readOption_10 : decode cX3_readOption 10 = .ok (.ireturn, 1) := by decide +kernel
theorem dX3_readOption_11 : decode cX3_readOption 11 = .ok (.aload_n 0, 1) := by decide +kernel
theorem dX3_readOption_12 : decode cX3_readOption 12 = .ok (.invokevirtual 41, 3) := by decide +kernel
theorem dX3_readOption_15 : decode cX3_readOption 15 = .ok (.aload_n 0, 1) := by decide +kernel
theorem dX3_readOption_16 : decode cX3_readOption 16 = .ok (.iload_n 2, 1) := by decide +kernel
theorem dX3_readOption_17 : decode cX3_readOption 17 = .ok (.iload_n 3, 1) := by decide +kernel
theorem dX3_readOption_18 : decode cX3_readOption 18 = .ok (.invokevirtual 78, 3) := by decide +kernel
theorem dX3_readOption_21 : decode cX3_readOption 21 = .ok (.ireturn, 1) := by decide +kernel
set_option maxRecDepth 20000 in
theorem ggX3_readNumber_X4_within : GoodIn wsX3_readNumber wsX4_within := goodIn_r _ [5] (by decide +kernel) (by decide +kernel)
set_option maxRecDepth 20000 in
theorem gX3_readNumber_X4_within_n113 : GoodIn wsX3_readNumber (wsX4_within) := ggX3_readNumber_X4_within
set_option maxRecDepth 20000 in
theorem ggX3_readNumber_X3_advance : GoodIn wsX3_readNumber wsX3_advance := goodIn_r _ [10, 11, 12, 13, 14, 1, 2, 15, 16, 17, 18, 19, 4, 20, 21, 22, 23, 9, 24, 25, 26, 27, 28, 29, 30] (by decide +kernel) (by decide +kernel)
set_option maxRecDepth 20000 in
theorem gX3_readNumber_X3_advance : GoodIn wsX3_readNumber (wsV RX3 41 RX3 yX3_advance wsX3_advance) := goodIn_app (goodIn_of _ (by decide +kernel)) ggX3_readNumber_X3_advance
theorem dX3_readNumber_0 : decode cX3_readNumber 0 = .ok (.aload_n 0, 1) := by decide +kernel
theorem dX3_readNumber_1 : decode cX3_readNumber 1 = .ok (.getfield 19, 3) := by decide +kernel
theorem dX3_readNumber_4 : decode cX3_readNumber 4 = .ok (.iconst 2, 1) := by decide +kernel
theorem dX3_readNumber_5 : decode cX3_readNumber 5 = .ok (.if_icmp .ne 15, 3) := by decide +kernel
theorem dX3_readNumber_8 : decode cX3_readNumber 8 = .ok (.aload_n 0, 1) := by decide +kernel
theorem dX3_readNumber_9 : decode cX3_readNumber 9 = .ok (.getfield 28, 3) := by decide +kernel
theorem dX3_readNumber_12 : decode cX3_readNumber 12 = .ok (.iload_n 1, 1) := by decide +kernel
theorem dX3_readNumber_13 : decode cX3_readNumber 13 = .ok (.iload_n 2, 1) := by decide +kernel
theorem dX3_readNumber_14 : decode cX3_readNumber 14 = .ok (.invokestatic 113, 3) := by decide +kernel
theorem dX3_readNumber_17 : decode cX3_readNumber 17 = .ok (.ifCond .ne 5, 3) := by decide +kernel
theorem dX3_readNumber_20 : decode cX3_readNumber 20 = .ok (.iconst (-1), 1) := by decide +kernel
theorem dX3_readNumber_21 : decode cX3_readNumber 21 = .ok (.ireturn, 1) := by decide +kernel
theorem dX3_readNumber_22 : decode cX3_readNumber 22 = .ok (.aload_n 0, 1) := by decide +kernel
theorem dX3_readNumber_23 : decode cX3_readNumber 23 = .ok (.getfield 28, 3) := by decide +kernel
theorem dX3_readNumber_26 : decode cX3_readNumber 26 = .ok (.istore_n 3, 1) := by decide +kernel
theorem dX3_readNumber_27 : decode cX3_readNumber 27 = .ok (.aload_n 0, 1) := by decide +kernel
theorem dX3_readNumber_28 : decode cX3_readNumber 28 = .ok (.invokevirtual 41, 3) := by decide +kernel
theorem dX3_readNumber_31 : decode cX3_readNumber 31 = .ok (.iload_n 3, 1) := by decide +kernel
theorem dX3_readNumber_32 : decode cX3_readNumber 32 = .ok (.ireturn, 1) := by decide +kernel
set_option maxRecDepth 20000 in
theorem ggX3_isWord_J0_length_8abf5 : GoodIn wsX3_isWord wsJ0_length_8abf5 := goodIn_r _ [9, 10, 11, 12, 13, 8, 14, 15, 16] (by decide +kernel) (by decide +kernel)
set_option maxRecDepth 20000 in
theorem gX3_isWord_J0_length_8abf5 : GoodIn wsX3_isWord (wsV RX3 117 RJ0 yJ0_length_8abf5 wsJ0_length_8abf5) := goodIn_app (goodIn_of _ (by decide +kernel)) ggX3_isWord_J0_length_8abf5
set_option maxRecDepth 20000 in
theorem ggX3_isWord_X4_numberAt : GoodIn wsX3_isWord wsX4_numberAt := goodIn_r _ [19] (by decide +kernel) (by decide +kernel)
set_option maxRecDepth 20000 in
theorem gX3_isWord_X4_numberAt_n121 : GoodIn wsX3_isWord (wsX4_numberAt) := ggX3_isWord_X4_numberAt
set_option maxRecDepth 20000 in
theorem ggX3_isWord_J0_charAt_5068e : GoodIn wsX3_isWord wsJ0_charAt_5068e := goodIn_r _ [23, 10, 24, 25, 26, 8, 27, 15, 16, 28, 29, 30, 31, 32, 33, 34, 35, 36, 37, 38, 39, 40, 41, 42, 43, 44, 45, 46, 47, 48, 49, 50, 51, 52, 53, 54, 55, 56] (by decide +kernel) (by decide +kernel)
set_option maxRecDepth 20000 in
theorem gX3_isWord_J0_charAt_5068e : GoodIn wsX3_isWord (wsV RX3 125 RJ0 yJ0_charAt_5068e wsJ0_charAt_5068e) := goodIn_app (goodIn_of _ (by decide +kernel)) ggX3_isWord_J0_charAt_5068e
theorem dX3_isWord_0 : decode cX3_isWord 0 = .ok (.aload_n 0, 1) := by decide +kernel
theorem dX3_isWord_1 : decode cX3_isWord 1 = .ok (.getfield 19, 3) := by decide +kernel
theorem dX3_isWord_4 : decode cX3_isWord 4 = .ok (.iconst 1, 1) := by decide +kernel
theorem dX3_isWord_5 : decode cX3_isWord 5 = .ok (.if_icmp .ne 19, 3) := by decide +kernel
theorem dX3_isWord_8 : decode cX3_isWord 8 = .ok (.aload_n 0, 1) := by decide +kernel
theorem dX3_isWord_9 : decode cX3_isWord 9 = .ok (.getfield 25, 3) := by decide +kernel
theorem dX3_isWord_12 : decode cX3_isWord 12 = .ok (.aload_n 0, 1) := by decide +kernel
theorem dX3_isWord_13 : decode cX3_isWord 13 = .ok (.getfield 22, 3) := by decide +kernel
theorem dX3_isWord_16 : decode cX3_isWord 16 = .ok (.isub, 1) := by decide +kernel
theorem dX3_isWord_17 : decode cX3_isWord 17 = .ok (.aload_n 1, 1) := by decide +kernel
theorem dX3_isWord_18 : decode cX3_isWord 18 = .ok (.invokevirtual 117, 3) := by decide +kernel
theorem dX3_isWord_21 : decode cX3_isWord 21 = .ok (.if_icmp .eq 5, 3) := by decide +kernel
theorem dX3_isWord_24 : decode cX3_isWord 24 = .ok (.iconst 0, 1) := by decide +kernel
theorem dX3_isWord_25 : decode cX3_isWord 25 = .ok (.ireturn, 1) := by decide +kernel
theorem dX3_isWord_26 : decode cX3_isWord 26 = .ok (.iconst 0, 1) := by decide +kernel
theorem dX3_isWord_27 : decode cX3_isWord 27 = .ok (.istore_n 2, 1) := by decide +kernel
theorem dX3_isWord_28 : decode cX3_isWord 28 = .ok (.iload_n 2, 1) := by decide +kernel
theorem dX3_isWord_29 : decode cX3_isWord 29 = .ok (.aload_n 1, 1) := by decide +kernel
theorem dX3_isWord_30 : decode cX3_isWord 30 = .ok (.invokevirtual 117, 3) := by decide +kernel
theorem dX3_isWord_33 : decode cX3_isWord 33 = .ok (.if_icmp .ge 32, 3) := by decide +kernel
theorem dX3_isWord_36 : decode cX3_isWord 36 = .ok (.aload_n 0, 1) := by decide +kernel
theorem dX3_isWord_37 : decode cX3_isWord 37 = .ok (.getfield 9, 3) := by decide +kernel
theorem dX3_isWord_40 : decode cX3_isWord 40 = .ok (.aload_n 0, 1) := by decide +kernel
theorem dX3_isWord_41 : decode cX3_isWord 41 = .ok (.getfield 22, 3) := by decide +kernel
theorem dX3_isWord_44 : decode cX3_isWord 44 = .ok (.iload_n 2, 1) := by decide +kernel
theorem dX3_isWord_45 : decode cX3_isWord 45 = .ok (.iadd, 1) := by decide +kernel
theorem dX3_isWord_46 : decode cX3_isWord 46 = .ok (.invokestatic 121, 3) := by decide +kernel
theorem dX3_isWord_49 : decode cX3_isWord 49 = .ok (.aload_n 1, 1) := by decide +kernel
theorem dX3_isWord_50 : decode cX3_isWord 50 = .ok (.iload_n 2, 1) := by decide +kernel
theorem dX3_isWord_51 : decode cX3_isWord 51 = .ok (.invokevirtual 125, 3) := by decide +kernel
theorem dX3_isWord_54 : decode cX3_isWord 54 = .ok (.if_icmp .eq 5, 3) := by decide +kernel
theorem dX3_isWord_57 : decode cX3_isWord 57 = .ok (.iconst 0, 1) := by decide +kernel
theorem dX3_isWord_58 : decode cX3_isWord 58 = .ok (.ireturn, 1) := by decide +kernel
theorem dX3_isWord_59 : decode cX3_isWord 59 = .ok (.iinc 2 1, 3) := by decide +kernel
theorem dX3_isWord_62 : decode cX3_isWord 62 = .ok (.goto (-34), 3) := by decide +kernel
theorem dX3_isWord_65 : decode cX3_isWord 65 = .ok (.iconst 1, 1) := by decide +kernel
theorem dX3_isWord_66 : decode cX3_isWord 66 = .ok (.ireturn, 1) := by decide +kernel
set_option maxRecDepth 20000 in
theorem ggX3_advance_X4_numberAt : GoodIn wsX3_advance wsX4_numberAt := goodIn_r _ [13] (by decide +kernel) (by decide +kernel)
set_option maxRecDepth 20000 in
theorem gX3_advance_X4_numberAt_n121 : GoodIn wsX3_advance (wsX4_numberAt) := ggX3_advance_X4_numberAt
set_option maxRecDepth 20000 in
theorem ggX3_advance_X3_sortAt : GoodIn wsX3_advance wsX3_sortAt := goodIn_r _ [18, 3, 4, 19, 20, 21, 22, 23, 24] (by decide +kernel) (by decide +kernel)
set_option maxRecDepth 20000 in
theorem gX3_advance_X3_sortAt : GoodIn wsX3_advance (wsV RX3 129 RX3 yX3_sortAt wsX3_sortAt) := goodIn_app (goodIn_of _ (by decide +kernel)) ggX3_advance_X3_sortAt
theorem dX3_advance_0 : decode cX3_advance 0 = .ok (.aload_n 0, 1) := by decide +kernel
theorem dX3_advance_1 : decode cX3_advance 1 = .ok (.aload_n 0, 1) := by decide +kernel
theorem dX3_advance_2 : decode cX3_advance 2 = .ok (.getfield 25, 3) := by decide +kernel
theorem dX3_advance_5 : decode cX3_advance 5 = .ok (.putfield 22, 3) := by decide +kernel
theorem dX3_advance_8 : decode cX3_advance 8 = .ok (.aload_n 0, 1) := by decide +kernel
theorem dX3_advance_9 : decode cX3_advance 9 = .ok (.getfield 22, 3) := by decide +kernel
theorem dX3_advance_12 : decode cX3_advance 12 = .ok (.aload_n 0, 1) := by decide +kernel
theorem dX3_advance_13 : decode cX3_advance 13 = .ok (.getfield 15, 3) := by decide +kernel
theorem dX3_advance_16 : decode cX3_advance 16 = .ok (.if_icmp .ge 32, 3) := by decide +kernel
theorem dX3_advance_19 : decode cX3_advance 19 = .ok (.aload_n 0, 1) := by decide +kernel
theorem dX3_advance_20 : decode cX3_advance 20 = .ok (.getfield 9, 3) := by decide +kernel
theorem dX3_advance_23 : decode cX3_advance 23 = .ok (.aload_n 0, 1) := by decide +kernel
theorem dX3_advance_24 : decode cX3_advance 24 = .ok (.getfield 22, 3) := by decide +kernel
theorem dX3_advance_27 : decode cX3_advance 27 = .ok (.invokestatic 121, 3) := by decide +kernel
theorem dX3_advance_30 : decode cX3_advance 30 = .ok (.bipush 32, 2) := by decide +kernel
theorem dX3_advance_32 : decode cX3_advance 32 = .ok (.if_icmp .ne 16, 3) := by decide +kernel
theorem dX3_advance_35 : decode cX3_advance 35 = .ok (.aload_n 0, 1) := by decide +kernel
theorem dX3_advance_36 : decode cX3_advance 36 = .ok (.dup, 1) := by decide +kernel
theorem dX3_advance_37 : decode cX3_advance 37 = .ok (.getfield 22, 3) := by decide +kernel
theorem dX3_advance_40 : decode cX3_advance 40 = .ok (.iconst 1, 1) := by decide +kernel
theorem dX3_advance_41 : decode cX3_advance 41 = .ok (.iadd, 1) := by decide +kernel
theorem dX3_advance_42 : decode cX3_advance 42 = .ok (.putfield 22, 3) := by decide +kernel
theorem dX3_advance_45 : decode cX3_advance 45 = .ok (.goto (-37), 3) := by decide +kernel
theorem dX3_advance_48 : decode cX3_advance 48 = .ok (.aload_n 0, 1) := by decide +kernel
theorem dX3_advance_49 : decode cX3_advance 49 = .ok (.aload_n 0, 1) := by decide +kernel
theorem dX3_advance_50 : decode cX3_advance 50 = .ok (.aload_n 0, 1) := by decide +kernel
theorem dX3_advance_51 : decode cX3_advance 51 = .ok (.getfield 22, 3) := by decide +kernel
theorem dX3_advance_54 : decode cX3_advance 54 = .ok (.invokevirtual 129, 3) := by decide +kernel
theorem dX3_advance_57 : decode cX3_advance 57 = .ok (.putfield 19, 3) := by decide +kernel
theorem dX3_advance_60 : decode cX3_advance 60 = .ok (.aload_n 0, 1) := by decide +kernel
theorem dX3_advance_61 : decode cX3_advance 61 = .ok (.aload_n 0, 1) := by decide +kernel
theorem dX3_advance_62 : decode cX3_advance 62 = .ok (.getfield 22, 3) := by decide +kernel
theorem dX3_advance_65 : decode cX3_advance 65 = .ok (.putfield 25, 3) := by decide +kernel
theorem dX3_advance_68 : decode cX3_advance 68 = .ok (.aload_n 0, 1) := by decide +kernel
theorem dX3_advance_69 : decode cX3_advance 69 = .ok (.iconst 0, 1) := by decide +kernel
theorem dX3_advance_70 : decode cX3_advance 70 = .ok (.putfield 28, 3) := by decide +kernel
theorem dX3_advance_73 : decode cX3_advance 73 = .ok (.aload_n 0, 1) := by decide +kernel
theorem dX3_advance_74 : decode cX3_advance 74 = .ok (.getfield 19, 3) := by decide +kernel
theorem dX3_advance_77 : decode cX3_advance 77 = .ok (.iconst 1, 1) := by decide +kernel
theorem dX3_advance_78 : decode cX3_advance 78 = .ok (.if_icmp .eq 11, 3) := by decide +kernel
theorem dX3_advance_81 : decode cX3_advance 81 = .ok (.aload_n 0, 1) := by decide +kernel
theorem dX3_advance_82 : decode cX3_advance 82 = .ok (.getfield 19, 3) := by decide +kernel
theorem dX3_advance_85 : decode cX3_advance 85 = .ok (.iconst 2, 1) := by decide +kernel
theorem dX3_advance_86 : decode cX3_advance 86 = .ok (.if_icmp .ne 74, 3) := by decide +kernel
theorem dX3_advance_89 : decode cX3_advance 89 = .ok (.aload_n 0, 1) := by decide +kernel
theorem dX3_advance_90 : decode cX3_advance 90 = .ok (.getfield 25, 3) := by decide +kernel
theorem dX3_advance_93 : decode cX3_advance 93 = .ok (.aload_n 0, 1) := by decide +kernel
theorem dX3_advance_94 : decode cX3_advance 94 = .ok (.getfield 15, 3) := by decide +kernel
theorem dX3_advance_97 : decode cX3_advance 97 = .ok (.if_icmp .ge 80, 3) := by decide +kernel
theorem dX3_advance_100 : decode cX3_advance 100 = .ok (.aload_n 0, 1) := by decide +kernel
theorem dX3_advance_101 : decode cX3_advance 101 = .ok (.aload_n 0, 1) := by decide +kernel
theorem dX3_advance_102 : decode cX3_advance 102 = .ok (.getfield 25, 3) := by decide +kernel
theorem dX3_advance_105 : decode cX3_advance 105 = .ok (.invokevirtual 129, 3) := by decide +kernel
theorem dX3_advance_108 : decode cX3_advance 108 = .ok (.aload_n 0, 1) := by decide +kernel
theorem dX3_advance_109 : decode cX3_advance 109 = .ok (.getfield 19, 3) := by decide +kernel
theorem dX3_advance_112 : decode cX3_advance 112 = .ok (.if_icmp .ne 65, 3) := by decide +kernel
theorem dX3_advance_115 : decode cX3_advance 115 = .ok (.aload_n 0, 1) := by decide +kernel
theorem dX3_advance_116 : decode cX3_advance 116 = .ok (.sipush 10000, 3) := by decide +kernel
theorem dX3_advance_119 : decode cX3_advance 119 = .ok (.aload_n 0, 1) := by decide +kernel
theorem dX3_advance_120 : decode cX3_advance 120 = .ok (.getfield 28, 3) := by decide +kernel
theorem dX3_advance_123 : decode cX3_advance 123 = .ok (.bipush 10, 2) := by decide +kernel
theorem dX3_advance_125 : decode cX3_advance 125 = .ok (.imul, 1) := by decide +kernel
theorem dX3_advance_126 : decode cX3_advance 126 = .ok (.aload_n 0, 1) := by decide +kernel
theorem dX3_advance_127 : decode cX3_advance 127 = .ok (.getfield 9, 3) := by decide +kernel
theorem dX3_advance_130 : decode cX3_advance 130 = .ok (.aload_n 0, 1) := by decide +kernel
theorem dX3_advance_131 : decode cX3_advance 131 = .ok (.getfield 25, 3) := by decide +kernel
theorem dX3_advance_134 : decode cX3_advance 134 = .ok (.invokestatic 121, 3) := by decide +kernel
theorem dX3_advance_137 : decode cX3_advance 137 = .ok (.iadd, 1) := by decide +kernel
theorem dX3_advance_138 : decode cX3_advance 138 = .ok (.bipush 48, 2) := by decide +kernel
theorem dX3_advance_140 : decode cX3_advance 140 = .ok (.isub, 1) := by decide +kernel
theorem dX3_advance_141 : decode cX3_advance 141 = .ok (.invokestatic 35, 3) := by decide +kernel
theorem dX3_advance_144 : decode cX3_advance 144 = .ok (.putfield 28, 3) := by decide +kernel
theorem dX3_advance_147 : decode cX3_advance 147 = .ok (.aload_n 0, 1) := by decide +kernel
theorem dX3_advance_148 : decode cX3_advance 148 = .ok (.dup, 1) := by decide +kernel
theorem dX3_advance_149 : decode cX3_advance 149 = .ok (.getfield 25, 3) := by decide +kernel
theorem dX3_advance_152 : decode cX3_advance 152 = .ok (.iconst 1, 1) := by decide +kernel
theorem dX3_advance_153 : decode cX3_advance 153 = .ok (.iadd, 1) := by decide +kernel
theorem dX3_advance_154 : decode cX3_advance 154 = .ok (.putfield 25, 3) := by decide +kernel
theorem dX3_advance_157 : decode cX3_advance 157 = .ok (.goto (-68), 3) := by decide +kernel
theorem dX3_advance_160 : decode cX3_advance 160 = .ok (.aload_n 0, 1) := by decide +kernel
theorem dX3_advance_161 : decode cX3_advance 161 = .ok (.getfield 19, 3) := by decide +kernel
theorem dX3_advance_164 : decode cX3_advance 164 = .ok (.ifCond .eq 13, 3) := by decide +kernel
theorem dX3_advance_167 : decode cX3_advance 167 = .ok (.aload_n 0, 1) := by decide +kernel
theorem dX3_advance_168 : decode cX3_advance 168 = .ok (.dup, 1) := by decide +kernel
theorem dX3_advance_169 : decode cX3_advance 169 = .ok (.getfield 25, 3) := by decide +kernel
theorem dX3_advance_172 : decode cX3_advance 172 = .ok (.iconst 1, 1) := by decide +kernel
theorem dX3_advance_173 : decode cX3_advance 173 = .ok (.iadd, 1) := by decide +kernel
theorem dX3_advance_174 : decode cX3_advance 174 = .ok (.putfield 25, 3) := by decide +kernel
theorem dX3_advance_177 : decode cX3_advance 177 = .ok (.return_, 1) := by decide +kernel
theorem dX3_sortAt_0 : decode cX3_sortAt 0 = .ok (.iload_n 1, 1) := by decide +kernel
theorem dX3_sortAt_1 : decode cX3_sortAt 1 = .ok (.ifCond .lt 20, 3) := by decide +kernel
theorem dX3_sortAt_4 : decode cX3_sortAt 4 = .ok (.iload_n 1, 1) := by decide +kernel
theorem dX3_sortAt_5 : decode cX3_sortAt 5 = .ok (.aload_n 0, 1) := by decide +kernel
theorem dX3_sortAt_6 : decode cX3_sortAt 6 = .ok (.getfield 15, 3) := by decide +kernel
theorem dX3_sortAt_9 : decode cX3_sortAt 9 = .ok (.if_icmp .ge 12, 3) := by decide +kernel
theorem dX3_sortAt_12 : decode cX3_sortAt 12 = .ok (.iload_n 1, 1) := by decide +kernel
theorem dX3_sortAt_13 : decode cX3_sortAt 13 = .ok (.aload_n 0, 1) := by decide +kernel
theorem dX3_sortAt_14 : decode cX3_sortAt 14 = .ok (.getfield 9, 3) := by decide +kernel
theorem dX3_sortAt_17 : decode cX3_sortAt 17 = .ok (.arraylength, 1) := by decide +kernel
theorem dX3_sortAt_18 : decode cX3_sortAt 18 = .ok (.if_icmp .lt 5, 3) := by decide +kernel
theorem dX3_sortAt_21 : decode cX3_sortAt 21 = .ok (.iconst 0, 1) := by decide +kernel
theorem dX3_sortAt_22 : decode cX3_sortAt 22 = .ok (.ireturn, 1) := by decide +kernel
theorem dX3_sortAt_23 : decode cX3_sortAt 23 = .ok (.aload_n 0, 1) := by decide +kernel
theorem dX3_sortAt_24 : decode cX3_sortAt 24 = .ok (.getfield 9, 3) := by decide +kernel
theorem dX3_sortAt_27 : decode cX3_sortAt 27 = .ok (.iload_n 1, 1) := by decide +kernel
theorem dX3_sortAt_28 : decode cX3_sortAt 28 = .ok (.iaload, 1) := by decide +kernel
theorem dX3_sortAt_29 : decode cX3_sortAt 29 = .ok (.istore_n 2, 1) := by decide +kernel
theorem dX3_sortAt_30 : decode cX3_sortAt 30 = .ok (.iload_n 2, 1) := by decide +kernel
theorem dX3_sortAt_31 : decode cX3_sortAt 31 = .ok (.bipush 97, 2) := by decide +kernel
theorem dX3_sortAt_33 : decode cX3_sortAt 33 = .ok (.if_icmp .lt 11, 3) := by decide +kernel
theorem dX3_sortAt_36 : decode cX3_sortAt 36 = .ok (.iload_n 2, 1) := by decide +kernel
theorem dX3_sortAt_37 : decode cX3_sortAt 37 = .ok (.bipush 122, 2) := by decide +kernel
theorem dX3_sortAt_39 : decode cX3_sortAt 39 = .ok (.if_icmp .gt 5, 3) := by decide +kernel
theorem dX3_sortAt_42 : decode cX3_sortAt 42 = .ok (.iconst 1, 1) := by decide +kernel
theorem dX3_sortAt_43 : decode cX3_sortAt 43 = .ok (.ireturn, 1) := by decide +kernel
theorem dX3_sortAt_44 : decode cX3_sortAt 44 = .ok (.iload_n 2, 1) := by decide +kernel
theorem dX3_sortAt_45 : decode cX3_sortAt 45 = .ok (.bipush 48, 2) := by decide +kernel
theorem dX3_sortAt_47 : decode cX3_sortAt 47 = .ok (.if_icmp .lt 11, 3) := by decide +kernel
theorem dX3_sortAt_50 : decode cX3_sortAt 50 = .ok (.iload_n 2, 1) := by decide +kernel
theorem dX3_sortAt_51 : decode cX3_sortAt 51 = .ok (.bipush 57, 2) := by decide +kernel
theorem dX3_sortAt_53 : decode cX3_sortAt 53 = .ok (.if_icmp .gt 5, 3) := by decide +kernel
theorem dX3_sortAt_56 : decode cX3_sortAt 56 = .ok (.iconst 2, 1) := by decide +kernel
theorem dX3_sortAt_57 : decode cX3_sortAt 57 = .ok (.ireturn, 1) := by decide +kernel
theorem dX3_sortAt_58 : decode cX3_sortAt 58 = .ok (.iload_n 2, 1) := by decide +kernel
theorem dX3_sortAt_59 : decode cX3_sortAt 59 = .ok (.bipush 59, 2) := by decide +kernel
theorem dX3_sortAt_61 : decode cX3_sortAt 61 = .ok (.if_icmp .ne 7, 3) := by decide +kernel
theorem dX3_sortAt_64 : decode cX3_sortAt 64 = .ok (.iconst 3, 1) := by decide +kernel
theorem dX3_sortAt_65 : decode cX3_sortAt 65 = .ok (.goto 4, 3) := by decide +kernel
theorem dX3_sortAt_68 : decode cX3_sortAt 68 = .ok (.iconst 4, 1) := by decide +kernel
theorem dX3_sortAt_69 : decode cX3_sortAt 69 = .ok (.ireturn, 1) := by decide +kernel
set_option maxRecDepth 20000 in
theorem ggX4_init_X0_init : GoodIn wsX4_init wsX0_init := goodIn_r _ [23, 24, 2, 3, 19, 25, 26, 27, 28, 29, 30, 31, 32, 33, 34, 35, 36, 52, 53, 54, 55, 56, 57, 58, 59] (by decide +kernel) (by decide +kernel)
set_option maxRecDepth 20000 in
theorem gX4_init_X0_init : GoodIn wsX4_init (wsX0_init) := ggX4_init_X0_init
set_option maxRecDepth 20000 in
theorem ggX4_init_X3_init : GoodIn wsX4_init wsX3_init := goodIn_r _ [38, 39, 2, 3, 19, 40, 41, 42, 43, 44, 45, 67, 68, 69, 70, 71, 72] (by decide +kernel) (by decide +kernel)
set_option maxRecDepth 20000 in
theorem gX4_init_X3_init_n28 : GoodIn wsX4_init (wsX3_init) := ggX4_init_X3_init
set_option maxRecDepth 20000 in
theorem ggX4_init_X2_init : GoodIn wsX4_init wsX2_init := goodIn_r _ [47, 48, 2, 3, 19, 49, 50, 51, 73, 74, 75] (by decide +kernel) (by decide +kernel)
set_option maxRecDepth 20000 in
theorem gX4_init_X2_init_n35 : GoodIn wsX4_init (wsX2_init) := ggX4_init_X2_init
theorem dX4_init_0 : decode cX4_init 0 = .ok (.aload_n 0, 1) := by decide +kernel
theorem dX4_init_1 : decode cX4_init 1 = .ok (.invokespecial 3, 3) := by decide +kernel
theorem dX4_init_4 : decode cX4_init 4 = .ok (.aload_n 0, 1) := by decide +kernel
theorem dX4_init_5 : decode cX4_init 5 = .ok (.new 9, 3) := by decide +kernel
theorem dX4_init_8 : decode cX4_init 8 = .ok (.dup, 1) := by decide +kernel
theorem dX4_init_9 : decode cX4_init 9 = .ok (.invokespecial 11, 3) := by decide +kernel
theorem dX4_init_12 : decode cX4_init 12 = .ok (.putfield 12, 3) := by decide +kernel
theorem dX4_init_15 : decode cX4_init 15 = .ok (.aload_n 0, 1) := by decide +kernel
theorem dX4_init_16 : decode cX4_init 16 = .ok (.new 9, 3) := by decide +kernel
theorem dX4_init_19 : decode cX4_init 19 = .ok (.dup, 1) := by decide +kernel
theorem dX4_init_20 : decode cX4_init 20 = .ok (.invokespecial 11, 3) := by decide +kernel
theorem dX4_init_23 : decode cX4_init 23 = .ok (.putfield 16, 3) := by decide +kernel
theorem dX4_init_26 : decode cX4_init 26 = .ok (.aload_n 0, 1) := by decide +kernel
theorem dX4_init_27 : decode cX4_init 27 = .ok (.new 9, 3) := by decide +kernel
theorem dX4_init_30 : decode cX4_init 30 = .ok (.dup, 1) := by decide +kernel
theorem dX4_init_31 : decode cX4_init 31 = .ok (.invokespecial 11, 3) := by decide +kernel
theorem dX4_init_34 : decode cX4_init 34 = .ok (.putfield 19, 3) := by decide +kernel
theorem dX4_init_37 : decode cX4_init 37 = .ok (.aload_n 0, 1) := by decide +kernel
theorem dX4_init_38 : decode cX4_init 38 = .ok (.iconst 0, 1) := by decide +kernel
theorem dX4_init_39 : decode cX4_init 39 = .ok (.putfield 22, 3) := by decide +kernel
theorem dX4_init_42 : decode cX4_init 42 = .ok (.aload_n 0, 1) := by decide +kernel
theorem dX4_init_43 : decode cX4_init 43 = .ok (.new 26, 3) := by decide +kernel
theorem dX4_init_46 : decode cX4_init 46 = .ok (.dup, 1) := by decide +kernel
theorem dX4_init_47 : decode cX4_init 47 = .ok (.invokespecial 28, 3) := by decide +kernel
theorem dX4_init_50 : decode cX4_init 50 = .ok (.putfield 29, 3) := by decide +kernel
theorem dX4_init_53 : decode cX4_init 53 = .ok (.aload_n 0, 1) := by decide +kernel
theorem dX4_init_54 : decode cX4_init 54 = .ok (.new 33, 3) := by decide +kernel
theorem dX4_init_57 : decode cX4_init 57 = .ok (.dup, 1) := by decide +kernel
theorem dX4_init_58 : decode cX4_init 58 = .ok (.invokespecial 35, 3) := by decide +kernel
theorem dX4_init_61 : decode cX4_init 61 = .ok (.putfield 36, 3) := by decide +kernel
theorem dX4_init_64 : decode cX4_init 64 = .ok (.aload_n 0, 1) := by decide +kernel
theorem dX4_init_65 : decode cX4_init 65 = .ok (.bipush 7, 2) := by decide +kernel
theorem dX4_init_67 : decode cX4_init 67 = .ok (.newarray .int, 2) := by decide +kernel
theorem dX4_init_69 : decode cX4_init 69 = .ok (.putfield 40, 3) := by decide +kernel
theorem dX4_init_72 : decode cX4_init 72 = .ok (.return_, 1) := by decide +kernel
set_option maxRecDepth 20000 in
theorem ggX4_list_X4_isPlace : GoodIn wsX4_list wsX4_isPlace := goodIn_r _ [6, 7, 8, 5, 9] (by decide +kernel) (by decide +kernel)
set_option maxRecDepth 20000 in
theorem gX4_list_X4_isPlace : GoodIn wsX4_list (va_wsS RX4 44 yX4_isPlace wsX4_isPlace) := goodIn_app (goodIn_of _ (by decide +kernel)) ggX4_list_X4_isPlace
set_option maxRecDepth 20000 in
theorem ggX4_list_X4_within : GoodIn wsX4_list wsX4_within := goodIn_r _ [9] (by decide +kernel) (by decide +kernel)
set_option maxRecDepth 20000 in
theorem gX4_list_X4_within : GoodIn wsX4_list (va_wsS RX4 48 yX4_within wsX4_within) := goodIn_app (goodIn_of _ (by decide +kernel)) ggX4_list_X4_within
set_option maxRecDepth 20000 in
theorem ggX4_list_X4_finding : GoodIn wsX4_list wsX4_finding := goodIn_r _ [13, 1, 14, 7, 8, 5, 9, 29, 30, 31, 32, 33, 34, 35] (by decide +kernel) (by decide +kernel)
set_option maxRecDepth 20000 in
theorem gX4_list_X4_finding : GoodIn wsX4_list (wsV RX4 53 RX4 yX4_finding wsX4_finding) := goodIn_app (goodIn_of _ (by decide +kernel)) ggX4_list_X4_finding
set_option maxRecDepth 20000 in
theorem ggX4_list_X0_placeAt : GoodIn wsX4_list wsX0_placeAt := goodIn_r _ [19, 20, 21, 5, 22, 36, 37, 38, 39, 40, 41, 42, 43] (by decide +kernel) (by decide +kernel)
set_option maxRecDepth 20000 in
theorem gX4_list_X0_placeAt : GoodIn wsX4_list (wsV RX4 57 RX0 yX0_placeAt wsX0_placeAt) := goodIn_app (goodIn_of _ (by decide +kernel)) ggX4_list_X0_placeAt
set_option maxRecDepth 20000 in
theorem ggX4_list_X0_setPlace : GoodIn wsX4_list wsX0_setPlace := goodIn_r _ [26, 20, 27, 5, 28, 36, 37, 38, 39, 40, 41, 42, 43] (by decide +kernel) (by decide +kernel)
set_option maxRecDepth 20000 in
theorem gX4_list_X0_setPlace : GoodIn wsX4_list (wsV RX4 60 RX0 yX0_setPlace wsX0_setPlace) := goodIn_app (goodIn_of _ (by decide +kernel)) ggX4_list_X0_setPlace
theorem dX4_list_0 : decode cX4_list 0 = .ok (.iload_n 1, 1) := by decide +kernel
theorem dX4_list_1 : decode cX4_list 1 = .ok (.invokestatic 44, 3) := by decide +kernel
theorem dX4_list_4 : decode cX4_list 4 = .ok (.ifCond .eq 13, 3) := by decide +kernel
theorem dX4_list_7 : decode cX4_list 7 = .ok (.iload_n 2, 1) := by decide +kernel
theorem dX4_list_8 : decode cX4_list 8 = .ok (.iconst 0, 1) := by decide +kernel
theorem dX4_list_9 : decode cX4_list 9 = .ok (.bipush 8, 2) := by decide +kernel
theorem dX4_list_11 : decode cX4_list 11 = .ok (.invokestatic 48, 3) := by decide +kernel
theorem dX4_list_14 : decode cX4_list 14 = .ok (.ifCond .ne 10, 3) := by decide +kernel
theorem dX4_list_17 : decode cX4_list 17 = .ok (.aload_n 0, 1) := by decide +kernel
theorem dX4_list_18 : decode cX4_list 18 = .ok (.ldc 52, 2) := by decide +kernel
theorem dX4_list_20 : decode cX4_list 20 = .ok (.invokevirtual 53, 3) := by decide +kernel
theorem dX4_list_23 : decode cX4_list 23 = .ok (.ireturn, 1) := by decide +kernel
theorem dX4_list_24 : decode cX4_list 24 = .ok (.aload_n 0, 1) := by decide +kernel
theorem dX4_list_25 : decode cX4_list 25 = .ok (.getfield 12, 3) := by decide +kernel
theorem dX4_list_28 : decode cX4_list 28 = .ok (.iload_n 1, 1) := by decide +kernel
theorem dX4_list_29 : decode cX4_list 29 = .ok (.invokevirtual 57, 3) := by decide +kernel
theorem dX4_list_32 : decode cX4_list 32 = .ok (.istore_n 3, 1) := by decide +kernel
theorem dX4_list_33 : decode cX4_list 33 = .ok (.aload_n 0, 1) := by decide +kernel
theorem dX4_list_34 : decode cX4_list 34 = .ok (.getfield 12, 3) := by decide +kernel
theorem dX4_list_37 : decode cX4_list 37 = .ok (.iload_n 1, 1) := by decide +kernel
theorem dX4_list_38 : decode cX4_list 38 = .ok (.iload_n 2, 1) := by decide +kernel
theorem dX4_list_39 : decode cX4_list 39 = .ok (.invokevirtual 60, 3) := by decide +kernel
theorem dX4_list_42 : decode cX4_list 42 = .ok (.iload_n 3, 1) := by decide +kernel
theorem dX4_list_43 : decode cX4_list 43 = .ok (.ireturn, 1) := by decide +kernel
set_option maxRecDepth 20000 in
theorem ggX4_listed_X4_isPlace : GoodIn wsX4_listed wsX4_isPlace := goodIn_r _ [6, 7, 8, 5, 9] (by decide +kernel) (by decide +kernel)
set_option maxRecDepth 20000 in
theorem gX4_listed_X4_isPlace : GoodIn wsX4_listed (va_wsS RX4 44 yX4_isPlace wsX4_isPlace) := goodIn_app (goodIn_of _ (by decide +kernel)) ggX4_listed_X4_isPlace
set_option maxRecDepth 20000 in
theorem ggX4_listed_X0_placeAt : GoodIn wsX4_listed wsX0_placeAt := goodIn_r _ [14, 15, 16, 5, 17, 30, 31, 32, 33, 34, 35, 36, 37] (by decide +kernel) (by decide +kernel)
set_option maxRecDepth 20000 in
theorem gX4_listed_X0_placeAt : GoodIn wsX4_listed (wsV RX4 57 RX0 yX0_placeAt wsX0_placeAt) := goodIn_app (goodIn_of _ (by decide +kernel)) ggX4_listed_X0_placeAt
set_option maxRecDepth 20000 in
theorem ggX4_listed_X4_finding : GoodIn wsX4_listed wsX4_finding := goodIn_r _ [21, 2, 22, 7, 8, 5, 9, 23, 24, 25, 26, 27, 28, 29] (by decide +kernel) (by decide +kernel)
set_option maxRecDepth 20000 in
theorem gX4_listed_X4_finding : GoodIn wsX4_listed (wsV RX4 53 RX4 yX4_finding wsX4_finding) := goodIn_app (goodIn_of _ (by decide +kernel)) ggX4_listed_X4_finding
theorem dX4_listed_0 : decode cX4_listed 0 = .ok (.iload_n 1, 1) := by decide +kernel
theorem dX4_listed_1 : decode cX4_listed 1 = .ok (.invokestatic 44, 3) := by decide +kernel
theorem dX4_listed_4 : decode cX4_listed 4 = .ok (.ifCond .eq 14, 3) := by decide +kernel
theorem dX4_listed_7 : decode cX4_listed 7 = .ok (.aload_n 0, 1) := by decide +kernel
theorem dX4_listed_8 : decode cX4_listed 8 = .ok (.getfield 12, 3) := by decide +kernel
theorem dX4_listed_11 : decode cX4_listed 11 = .ok (.iload_n 1, 1) := by decide +kernel
theorem dX4_listed_12 : decode cX4_listed 12 = .ok (.invokevirtual 57, 3) := by decide +kernel
theorem dX4_listed_15 : decode cX4_listed 15 = .ok (.goto 9, 3) := by decide +kernel
theorem dX4_listed_18 : decode cX4_listed 18 = .ok (.aload_n 0, 1) := by decide +kernel
theorem dX4_listed_19 : decode cX4_listed 19 = .ok (.ldc 52, 2) := by decide +kernel
theorem dX4_listed_21 : decode cX4_listed 21 = .ok (.invokevirtual 53, 3) := by decide +kernel
theorem dX4_listed_24 : decode cX4_listed 24 = .ok (.ireturn, 1) := by decide +kernel
set_option maxRecDepth 20000 in
theorem ggX4_saying_X4_isKind : GoodIn wsX4_saying wsX4_isKind := goodIn_r _ [7, 8, 9, 6, 10] (by decide +kernel) (by decide +kernel)
set_option maxRecDepth 20000 in
theorem gX4_saying_X4_isKind : GoodIn wsX4_saying (va_wsS RX4 64 yX4_isKind wsX4_isKind) := goodIn_app (goodIn_of _ (by decide +kernel)) ggX4_saying_X4_isKind
set_option maxRecDepth 20000 in
theorem ggX4_saying_X4_within : GoodIn wsX4_saying wsX4_within := goodIn_r _ [10] (by decide +kernel) (by decide +kernel)
set_option maxRecDepth 20000 in
theorem gX4_saying_X4_within : GoodIn wsX4_saying (va_wsS RX4 48 yX4_within wsX4_within) := goodIn_app (goodIn_of _ (by decide +kernel)) ggX4_saying_X4_within
set_option maxRecDepth 20000 in
theorem ggX4_saying_X4_isCell : GoodIn wsX4_saying wsX4_isCell := goodIn_r _ [13, 8, 9, 6, 10] (by decide +kernel) (by decide +kernel)
set_option maxRecDepth 20000 in
theorem gX4_saying_X4_isCell : GoodIn wsX4_saying (va_wsS RX4 67 yX4_isCell wsX4_isCell) := goodIn_app (goodIn_of _ (by decide +kernel)) ggX4_saying_X4_isCell
set_option maxRecDepth 20000 in
theorem ggX4_saying_X4_finding : GoodIn wsX4_saying wsX4_finding := goodIn_r _ [17, 1, 18, 8, 9, 6, 10, 32, 33, 34, 35, 36, 37, 38] (by decide +kernel) (by decide +kernel)
set_option maxRecDepth 20000 in
theorem gX4_saying_X4_finding : GoodIn wsX4_saying (wsV RX4 53 RX4 yX4_finding wsX4_finding) := goodIn_app (goodIn_of _ (by decide +kernel)) ggX4_saying_X4_finding
set_option maxRecDepth 20000 in
theorem ggX4_saying_X0_addSaying : GoodIn wsX4_saying wsX0_addSaying := goodIn_r _ [23, 24, 25, 26, 27, 22, 28, 29, 30, 6, 31, 39, 40, 41, 42, 43, 44, 45, 46] (by decide +kernel) (by decide +kernel)
set_option maxRecDepth 20000 in
theorem gX4_saying_X0_addSaying : GoodIn wsX4_saying (wsV RX4 75 RX0 yX0_addSaying wsX0_addSaying) := goodIn_app (goodIn_of _ (by decide +kernel)) ggX4_saying_X0_addSaying
theorem dX4_saying_0 : decode cX4_saying 0 = .ok (.iload_n 1, 1) := by decide +kernel
theorem dX4_saying_1 : decode cX4_saying 1 = .ok (.invokestatic 64, 3) := by decide +kernel
theorem dX4_saying_4 : decode cX4_saying 4 = .ok (.ifCond .eq 20, 3) := by decide +kernel
theorem dX4_saying_7 : decode cX4_saying 7 = .ok (.iload_n 2, 1) := by decide +kernel
theorem dX4_saying_8 : decode cX4_saying 8 = .ok (.iconst 0, 1) := by decide +kernel
theorem dX4_saying_9 : decode cX4_saying 9 = .ok (.bipush 99, 2) := by decide +kernel
theorem dX4_saying_11 : decode cX4_saying 11 = .ok (.invokestatic 48, 3) := by decide +kernel
theorem dX4_saying_14 : decode cX4_saying 14 = .ok (.ifCond .eq 10, 3) := by decide +kernel
theorem dX4_saying_17 : decode cX4_saying 17 = .ok (.iload_n 3, 1) := by decide +kernel
theorem dX4_saying_18 : decode cX4_saying 18 = .ok (.invokestatic 67, 3) := by decide +kernel
theorem dX4_saying_21 : decode cX4_saying 21 = .ok (.ifCond .ne 10, 3) := by decide +kernel
theorem dX4_saying_24 : decode cX4_saying 24 = .ok (.aload_n 0, 1) := by decide +kernel
theorem dX4_saying_25 : decode cX4_saying 25 = .ok (.ldc 52, 2) := by decide +kernel
theorem dX4_saying_27 : decode cX4_saying 27 = .ok (.invokevirtual 53, 3) := by decide +kernel
theorem dX4_saying_30 : decode cX4_saying 30 = .ok (.ireturn, 1) := by decide +kernel
theorem dX4_saying_31 : decode cX4_saying 31 = .ok (.aload_n 0, 1) := by decide +kernel
theorem dX4_saying_32 : decode cX4_saying 32 = .ok (.getfield 12, 3) := by decide +kernel
theorem dX4_saying_35 : decode cX4_saying 35 = .ok (.getfield 70, 3) := by decide +kernel
theorem dX4_saying_38 : decode cX4_saying 38 = .ok (.bipush 8, 2) := by decide +kernel
theorem dX4_saying_40 : decode cX4_saying 40 = .ok (.if_icmp .lt 10, 3) := by decide +kernel
theorem dX4_saying_43 : decode cX4_saying 43 = .ok (.aload_n 0, 1) := by decide +kernel
theorem dX4_saying_44 : decode cX4_saying 44 = .ok (.ldc 74, 2) := by decide +kernel
theorem dX4_saying_46 : decode cX4_saying 46 = .ok (.invokevirtual 53, 3) := by decide +kernel
theorem dX4_saying_49 : decode cX4_saying 49 = .ok (.ireturn, 1) := by decide +kernel
theorem dX4_saying_50 : decode cX4_saying 50 = .ok (.aload_n 0, 1) := by decide +kernel
theorem dX4_saying_51 : decode cX4_saying 51 = .ok (.getfield 12, 3) := by decide +kernel
theorem dX4_saying_54 : decode cX4_saying 54 = .ok (.iload_n 1, 1) := by decide +kernel
theorem dX4_saying_55 : decode cX4_saying 55 = .ok (.iload_n 2, 1) := by decide +kernel
theorem dX4_saying_56 : decode cX4_saying 56 = .ok (.iload_n 3, 1) := by decide +kernel
theorem dX4_saying_57 : decode cX4_saying 57 = .ok (.invokevirtual 75, 3) := by decide +kernel
theorem dX4_saying_60 : decode cX4_saying 60 = .ok (.ireturn, 1) := by decide +kernel
set_option maxRecDepth 20000 in
theorem ggX4_ship_X4_isCell : GoodIn wsX4_ship wsX4_isCell := goodIn_r _ [7, 8, 9, 6, 10] (by decide +kernel) (by decide +kernel)
set_option maxRecDepth 20000 in
theorem gX4_ship_X4_isCell : GoodIn wsX4_ship (va_wsS RX4 67 yX4_isCell wsX4_isCell) := goodIn_app (goodIn_of _ (by decide +kernel)) ggX4_ship_X4_isCell
set_option maxRecDepth 20000 in
theorem ggX4_ship_X4_within : GoodIn wsX4_ship wsX4_within := goodIn_r _ [10] (by decide +kernel) (by decide +kernel)
set_option maxRecDepth 20000 in
theorem gX4_ship_X4_within : GoodIn wsX4_ship (va_wsS RX4 48 yX4_within wsX4_within) := goodIn_app (goodIn_of _ (by decide +kernel)) ggX4_ship_X4_within
set_option maxRecDepth 20000 in
theorem ggX4_ship_X4_finding : GoodIn wsX4_ship wsX4_finding := goodIn_r _ [14, 1, 15, 8, 9, 6, 10, 29, 30, 31, 32, 33, 34, 35] (by decide +kernel) (by decide +kernel)
set_option maxRecDepth 20000 in
theorem gX4_ship_X4_finding : GoodIn wsX4_ship (wsV RX4 53 RX4 yX4_finding wsX4_finding) := goodIn_app (goodIn_of _ (by decide +kernel)) ggX4_ship_X4_finding
set_option maxRecDepth 20000 in
theorem ggX4_ship_X0_addShip : GoodIn wsX4_ship wsX0_addShip := goodIn_r _ [20, 21, 22, 23, 24, 19, 25, 26, 27, 6, 28, 36, 37, 38, 39, 40, 41, 42, 43] (by decide +kernel) (by decide +kernel)
set_option maxRecDepth 20000 in
theorem gX4_ship_X0_addShip : GoodIn wsX4_ship (wsV RX4 82 RX0 yX0_addShip wsX0_addShip) := goodIn_app (goodIn_of _ (by decide +kernel)) ggX4_ship_X0_addShip
theorem dX4_ship_0 : decode cX4_ship 0 = .ok (.iload_n 1, 1) := by decide +kernel
theorem dX4_ship_1 : decode cX4_ship 1 = .ok (.invokestatic 67, 3) := by decide +kernel
theorem dX4_ship_4 : decode cX4_ship 4 = .ok (.ifCond .eq 12, 3) := by decide +kernel
theorem dX4_ship_7 : decode cX4_ship 7 = .ok (.iload_n 2, 1) := by decide +kernel
theorem dX4_ship_8 : decode cX4_ship 8 = .ok (.iconst 1, 1) := by decide +kernel
theorem dX4_ship_9 : decode cX4_ship 9 = .ok (.iconst 5, 1) := by decide +kernel
theorem dX4_ship_10 : decode cX4_ship 10 = .ok (.invokestatic 48, 3) := by decide +kernel
theorem dX4_ship_13 : decode cX4_ship 13 = .ok (.ifCond .ne 10, 3) := by decide +kernel
theorem dX4_ship_16 : decode cX4_ship 16 = .ok (.aload_n 0, 1) := by decide +kernel
theorem dX4_ship_17 : decode cX4_ship 17 = .ok (.ldc 52, 2) := by decide +kernel
theorem dX4_ship_19 : decode cX4_ship 19 = .ok (.invokevirtual 53, 3) := by decide +kernel
theorem dX4_ship_22 : decode cX4_ship 22 = .ok (.ireturn, 1) := by decide +kernel
theorem dX4_ship_23 : decode cX4_ship 23 = .ok (.aload_n 0, 1) := by decide +kernel
theorem dX4_ship_24 : decode cX4_ship 24 = .ok (.getfield 12, 3) := by decide +kernel
theorem dX4_ship_27 : decode cX4_ship 27 = .ok (.getfield 79, 3) := by decide +kernel
theorem dX4_ship_30 : decode cX4_ship 30 = .ok (.bipush 6, 2) := by decide +kernel
theorem dX4_ship_32 : decode cX4_ship 32 = .ok (.if_icmp .lt 10, 3) := by decide +kernel
theorem dX4_ship_35 : decode cX4_ship 35 = .ok (.aload_n 0, 1) := by decide +kernel
theorem dX4_ship_36 : decode cX4_ship 36 = .ok (.ldc 74, 2) := by decide +kernel
theorem dX4_ship_38 : decode cX4_ship 38 = .ok (.invokevirtual 53, 3) := by decide +kernel
theorem dX4_ship_41 : decode cX4_ship 41 = .ok (.ireturn, 1) := by decide +kernel
theorem dX4_ship_42 : decode cX4_ship 42 = .ok (.aload_n 0, 1) := by decide +kernel
theorem dX4_ship_43 : decode cX4_ship 43 = .ok (.getfield 12, 3) := by decide +kernel
theorem dX4_ship_46 : decode cX4_ship 46 = .ok (.iload_n 1, 1) := by decide +kernel
theorem dX4_ship_47 : decode cX4_ship 47 = .ok (.bipush 30, 2) := by decide +kernel
theorem dX4_ship_49 : decode cX4_ship 49 = .ok (.iload_n 2, 1) := by decide +kernel
theorem dX4_ship_50 : decode cX4_ship 50 = .ok (.invokevirtual 82, 3) := by decide +kernel
theorem dX4_ship_53 : decode cX4_ship 53 = .ok (.ireturn, 1) := by decide +kernel
set_option maxRecDepth 20000 in
theorem ggX4_of_X0_hasSaying : GoodIn wsX4_of wsX0_hasSaying := goodIn_r _ [7, 8, 9, 10, 11, 48, 49, 50, 51, 52, 53, 54, 55] (by decide +kernel) (by decide +kernel)
set_option maxRecDepth 20000 in
theorem gX4_of_X0_hasSaying : GoodIn wsX4_of (wsV RX4 85 RX0 yX0_hasSaying wsX0_hasSaying) := goodIn_app (goodIn_of _ (by decide +kernel)) ggX4_of_X0_hasSaying
set_option maxRecDepth 20000 in
theorem ggX4_of_X4_within : GoodIn wsX4_of wsX4_within := goodIn_r _ [11] (by decide +kernel) (by decide +kernel)
set_option maxRecDepth 20000 in
theorem gX4_of_X4_within : GoodIn wsX4_of (va_wsS RX4 48 yX4_within wsX4_within) := goodIn_app (goodIn_of _ (by decide +kernel)) ggX4_of_X4_within
set_option maxRecDepth 20000 in
theorem ggX4_of_X4_finding : GoodIn wsX4_of wsX4_finding := goodIn_r _ [16, 2, 17, 12, 9, 10, 11, 41, 42, 43, 44, 45, 46, 47] (by decide +kernel) (by decide +kernel)
set_option maxRecDepth 20000 in
theorem gX4_of_X4_finding : GoodIn wsX4_of (wsV RX4 53 RX4 yX4_finding wsX4_finding) := goodIn_app (goodIn_of _ (by decide +kernel)) ggX4_of_X4_finding
set_option maxRecDepth 20000 in
theorem ggX4_of_X0_tellOfSaying : GoodIn wsX4_of wsX0_tellOfSaying := goodIn_r _ [21, 22, 23, 24, 25, 6, 26, 27, 28, 29, 30, 31, 32, 33, 34, 35, 36, 37, 38, 39, 40, 48, 49, 50, 51, 52, 53, 54, 55] (by decide +kernel) (by decide +kernel)
set_option maxRecDepth 20000 in
theorem gX4_of_X0_tellOfSaying : GoodIn wsX4_of (wsV RX4 88 RX0 yX0_tellOfSaying wsX0_tellOfSaying) := goodIn_app (goodIn_of _ (by decide +kernel)) ggX4_of_X0_tellOfSaying
theorem dX4_of_0 : decode cX4_of 0 = .ok (.aload_n 0, 1) := by decide +kernel
theorem dX4_of_1 : decode cX4_of 1 = .ok (.getfield 12, 3) := by decide +kernel
theorem dX4_of_4 : decode cX4_of 4 = .ok (.iload_n 1, 1) := by decide +kernel
theorem dX4_of_5 : decode cX4_of 5 = .ok (.invokevirtual 85, 3) := by decide +kernel
theorem dX4_of_8 : decode cX4_of 8 = .ok (.ifCond .eq 13, 3) := by decide +kernel
theorem dX4_of_11 : decode cX4_of 11 = .ok (.iload_n 2, 1) := by decide +kernel
theorem dX4_of_12 : decode cX4_of 12 = .ok (.iconst 0, 1) := by decide +kernel
theorem dX4_of_13 : decode cX4_of 13 = .ok (.bipush 8, 2) := by decide +kernel
theorem dX4_of_15 : decode cX4_of 15 = .ok (.invokestatic 48, 3) := by decide +kernel
theorem dX4_of_18 : decode cX4_of 18 = .ok (.ifCond .ne 10, 3) := by decide +kernel
theorem dX4_of_21 : decode cX4_of 21 = .ok (.aload_n 0, 1) := by decide +kernel
theorem dX4_of_22 : decode cX4_of 22 = .ok (.ldc 52, 2) := by decide +kernel
theorem dX4_of_24 : decode cX4_of 24 = .ok (.invokevirtual 53, 3) := by decide +kernel
theorem dX4_of_27 : decode cX4_of 27 = .ok (.ireturn, 1) := by decide +kernel
theorem dX4_of_28 : decode cX4_of 28 = .ok (.aload_n 0, 1) := by decide +kernel
theorem dX4_of_29 : decode cX4_of 29 = .ok (.getfield 12, 3) := by decide +kernel
theorem dX4_of_32 : decode cX4_of 32 = .ok (.iload_n 1, 1) := by decide +kernel
theorem dX4_of_33 : decode cX4_of 33 = .ok (.iload_n 2, 1) := by decide +kernel
theorem dX4_of_34 : decode cX4_of 34 = .ok (.invokevirtual 88, 3) := by decide +kernel
theorem dX4_of_37 : decode cX4_of 37 = .ok (.ireturn, 1) := by decide +kernel
set_option maxRecDepth 20000 in
theorem ggX4_change_X0_hasSaying : GoodIn wsX4_change wsX0_hasSaying := goodIn_r _ [8, 9, 10, 11, 12, 40, 41, 42, 43, 44, 45, 46, 47] (by decide +kernel) (by decide +kernel)
set_option maxRecDepth 20000 in
theorem gX4_change_X0_hasSaying : GoodIn wsX4_change (wsV RX4 85 RX0 yX0_hasSaying wsX0_hasSaying) := goodIn_app (goodIn_of _ (by decide +kernel)) ggX4_change_X0_hasSaying
set_option maxRecDepth 20000 in
theorem ggX4_change_X4_within : GoodIn wsX4_change wsX4_within := goodIn_r _ [12] (by decide +kernel) (by decide +kernel)
set_option maxRecDepth 20000 in
theorem gX4_change_X4_within : GoodIn wsX4_change (va_wsS RX4 48 yX4_within wsX4_within) := goodIn_app (goodIn_of _ (by decide +kernel)) ggX4_change_X4_within
set_option maxRecDepth 20000 in
theorem ggX4_change_X4_finding : GoodIn wsX4_change wsX4_finding := goodIn_r _ [17, 2, 18, 13, 10, 11, 12, 33, 34, 35, 36, 37, 38, 39] (by decide +kernel) (by decide +kernel)
set_option maxRecDepth 20000 in
theorem gX4_change_X4_finding : GoodIn wsX4_change (wsV RX4 53 RX4 yX4_finding wsX4_finding) := goodIn_app (goodIn_of _ (by decide +kernel)) ggX4_change_X4_finding
set_option maxRecDepth 20000 in
theorem ggX4_change_X4_numberAt : GoodIn wsX4_change wsX4_numberAt := goodIn_r _ [21] (by decide +kernel) (by decide +kernel)
set_option maxRecDepth 20000 in
theorem gX4_change_X4_numberAt : GoodIn wsX4_change (va_wsS RX4 95 yX4_numberAt wsX4_numberAt) := goodIn_app (goodIn_of _ (by decide +kernel)) ggX4_change_X4_numberAt
set_option maxRecDepth 20000 in
theorem ggX4_change_X0_sayingHas : GoodIn wsX4_change wsX0_sayingHas := goodIn_r _ [25, 26, 40, 41, 42, 43, 44, 45, 46, 47] (by decide +kernel) (by decide +kernel)
set_option maxRecDepth 20000 in
theorem gX4_change_X0_sayingHas : GoodIn wsX4_change (wsV RX4 99 RX0 yX0_sayingHas wsX0_sayingHas) := goodIn_app (goodIn_of _ (by decide +kernel)) ggX4_change_X0_sayingHas
set_option maxRecDepth 20000 in
theorem ggX4_change_X0_setOfSaying : GoodIn wsX4_change wsX0_setOfSaying := goodIn_r _ [30, 26, 31, 11, 32, 40, 41, 42, 43, 44, 45, 46, 47] (by decide +kernel) (by decide +kernel)
set_option maxRecDepth 20000 in
theorem gX4_change_X0_setOfSaying : GoodIn wsX4_change (wsV RX4 102 RX0 yX0_setOfSaying wsX0_setOfSaying) := goodIn_app (goodIn_of _ (by decide +kernel)) ggX4_change_X0_setOfSaying
theorem dX4_change_0 : decode cX4_change 0 = .ok (.aload_n 0, 1) := by decide +kernel
theorem dX4_change_1 : decode cX4_change 1 = .ok (.getfield 12, 3) := by decide +kernel
theorem dX4_change_4 : decode cX4_change 4 = .ok (.iload_n 1, 1) := by decide +kernel
theorem dX4_change_5 : decode cX4_change 5 = .ok (.invokevirtual 85, 3) := by decide +kernel
theorem dX4_change_8 : decode cX4_change 8 = .ok (.ifCond .eq 12, 3) := by decide +kernel
theorem dX4_change_11 : decode cX4_change 11 = .ok (.iload_n 2, 1) := by decide +kernel
theorem dX4_change_12 : decode cX4_change 12 = .ok (.iconst 0, 1) := by decide +kernel
theorem dX4_change_13 : decode cX4_change 13 = .ok (.iconst 4, 1) := by decide +kernel
theorem dX4_change_14 : decode cX4_change 14 = .ok (.invokestatic 48, 3) := by decide +kernel
theorem dX4_change_17 : decode cX4_change 17 = .ok (.ifCond .ne 10, 3) := by decide +kernel
theorem dX4_change_20 : decode cX4_change 20 = .ok (.aload_n 0, 1) := by decide +kernel
theorem dX4_change_21 : decode cX4_change 21 = .ok (.ldc 52, 2) := by decide +kernel
theorem dX4_change_23 : decode cX4_change 23 = .ok (.invokevirtual 53, 3) := by decide +kernel
theorem dX4_change_26 : decode cX4_change 26 = .ok (.ireturn, 1) := by decide +kernel
theorem dX4_change_27 : decode cX4_change 27 = .ok (.iload_n 3, 1) := by decide +kernel
theorem dX4_change_28 : decode cX4_change 28 = .ok (.iconst 0, 1) := by decide +kernel
theorem dX4_change_29 : decode cX4_change 29 = .ok (.getstatic 92, 3) := by decide +kernel
theorem dX4_change_32 : decode cX4_change 32 = .ok (.iload_n 2, 1) := by decide +kernel
theorem dX4_change_33 : decode cX4_change 33 = .ok (.invokestatic 95, 3) := by decide +kernel
theorem dX4_change_36 : decode cX4_change 36 = .ok (.invokestatic 48, 3) := by decide +kernel
theorem dX4_change_39 : decode cX4_change 39 = .ok (.ifCond .ne 10, 3) := by decide +kernel
theorem dX4_change_42 : decode cX4_change 42 = .ok (.aload_n 0, 1) := by decide +kernel
theorem dX4_change_43 : decode cX4_change 43 = .ok (.ldc 52, 2) := by decide +kernel
theorem dX4_change_45 : decode cX4_change 45 = .ok (.invokevirtual 53, 3) := by decide +kernel
theorem dX4_change_48 : decode cX4_change 48 = .ok (.ireturn, 1) := by decide +kernel
theorem dX4_change_49 : decode cX4_change 49 = .ok (.aload_n 0, 1) := by decide +kernel
theorem dX4_change_50 : decode cX4_change 50 = .ok (.getfield 12, 3) := by decide +kernel
theorem dX4_change_53 : decode cX4_change 53 = .ok (.iload_n 1, 1) := by decide +kernel
theorem dX4_change_54 : decode cX4_change 54 = .ok (.iload_n 2, 1) := by decide +kernel
theorem dX4_change_55 : decode cX4_change 55 = .ok (.invokevirtual 99, 3) := by decide +kernel
theorem dX4_change_58 : decode cX4_change 58 = .ok (.istore 4, 2) := by decide +kernel
theorem dX4_change_60 : decode cX4_change 60 = .ok (.aload_n 0, 1) := by decide +kernel
theorem dX4_change_61 : decode cX4_change 61 = .ok (.getfield 12, 3) := by decide +kernel
theorem dX4_change_64 : decode cX4_change 64 = .ok (.iload_n 1, 1) := by decide +kernel
theorem dX4_change_65 : decode cX4_change 65 = .ok (.iload_n 2, 1) := by decide +kernel
theorem dX4_change_66 : decode cX4_change 66 = .ok (.iload_n 3, 1) := by decide +kernel
theorem dX4_change_67 : decode cX4_change 67 = .ok (.invokevirtual 102, 3) := by decide +kernel
theorem dX4_change_70 : decode cX4_change 70 = .ok (.iload 4, 2) := by decide +kernel
theorem dX4_change_72 : decode cX4_change 72 = .ok (.ireturn, 1) := by decide +kernel
set_option maxRecDepth 20000 in
theorem ggX4_ofShip_X0_hasShip : GoodIn wsX4_ofShip wsX0_hasShip := goodIn_r _ [7, 8, 9, 10, 11, 32, 33, 34, 35, 36, 37, 38, 39] (by decide +kernel) (by decide +kernel)
set_option maxRecDepth 20000 in
theorem gX4_ofShip_X0_hasShip : GoodIn wsX4_ofShip (wsV RX4 106 RX0 yX0_hasShip wsX0_hasShip) := goodIn_app (goodIn_of _ (by decide +kernel)) ggX4_ofShip_X0_hasShip
set_option maxRecDepth 20000 in
theorem ggX4_ofShip_X4_within : GoodIn wsX4_ofShip wsX4_within := goodIn_r _ [11] (by decide +kernel) (by decide +kernel)
set_option maxRecDepth 20000 in
theorem gX4_ofShip_X4_within : GoodIn wsX4_ofShip (va_wsS RX4 48 yX4_within wsX4_within) := goodIn_app (goodIn_of _ (by decide +kernel)) ggX4_ofShip_X4_within
set_option maxRecDepth 20000 in
theorem ggX4_ofShip_X4_finding : GoodIn wsX4_ofShip wsX4_finding := goodIn_r _ [16, 2, 17, 12, 9, 10, 11, 25, 26, 27, 28, 29, 30, 31] (by decide +kernel) (by decide +kernel)
set_option maxRecDepth 20000 in
theorem gX4_ofShip_X4_finding : GoodIn wsX4_ofShip (wsV RX4 53 RX4 yX4_finding wsX4_finding) := goodIn_app (goodIn_of _ (by decide +kernel)) ggX4_ofShip_X4_finding
set_option maxRecDepth 20000 in
theorem ggX4_ofShip_X0_shipHas : GoodIn wsX4_ofShip wsX0_shipHas := goodIn_r _ [21, 22, 23, 10, 24, 32, 33, 34, 35, 36, 37, 38, 39] (by decide +kernel) (by decide +kernel)
set_option maxRecDepth 20000 in
theorem gX4_ofShip_X0_shipHas : GoodIn wsX4_ofShip (wsV RX4 109 RX0 yX0_shipHas wsX0_shipHas) := goodIn_app (goodIn_of _ (by decide +kernel)) ggX4_ofShip_X0_shipHas
theorem dX4_ofShip_0 : decode cX4_ofShip 0 = .ok (.aload_n 0, 1) := by decide +kernel
theorem dX4_ofShip_1 : decode cX4_ofShip 1 = .ok (.getfield 12, 3) := by decide +kernel
theorem dX4_ofShip_4 : decode cX4_ofShip 4 = .ok (.iload_n 1, 1) := by decide +kernel
theorem dX4_ofShip_5 : decode cX4_ofShip 5 = .ok (.invokevirtual 106, 3) := by decide +kernel
theorem dX4_ofShip_8 : decode cX4_ofShip 8 = .ok (.ifCond .eq 12, 3) := by decide +kernel
theorem dX4_ofShip_11 : decode cX4_ofShip 11 = .ok (.iload_n 2, 1) := by decide +kernel
theorem dX4_ofShip_12 : decode cX4_ofShip 12 = .ok (.iconst 0, 1) := by decide +kernel
theorem dX4_ofShip_13 : decode cX4_ofShip 13 = .ok (.iconst 3, 1) := by decide +kernel
theorem dX4_ofShip_14 : decode cX4_ofShip 14 = .ok (.invokestatic 48, 3) := by decide +kernel
theorem dX4_ofShip_17 : decode cX4_ofShip 17 = .ok (.ifCond .ne 10, 3) := by decide +kernel
theorem dX4_ofShip_20 : decode cX4_ofShip 20 = .ok (.aload_n 0, 1) := by decide +kernel
theorem dX4_ofShip_21 : decode cX4_ofShip 21 = .ok (.ldc 52, 2) := by decide +kernel
theorem dX4_ofShip_23 : decode cX4_ofShip 23 = .ok (.invokevirtual 53, 3) := by decide +kernel
theorem dX4_ofShip_26 : decode cX4_ofShip 26 = .ok (.ireturn, 1) := by decide +kernel
theorem dX4_ofShip_27 : decode cX4_ofShip 27 = .ok (.aload_n 0, 1) := by decide +kernel
theorem dX4_ofShip_28 : decode cX4_ofShip 28 = .ok (.getfield 12, 3) := by decide +kernel
theorem dX4_ofShip_31 : decode cX4_ofShip 31 = .ok (.iload_n 1, 1) := by decide +kernel
theorem dX4_ofShip_32 : decode cX4_ofShip 32 = .ok (.iload_n 2, 1) := by decide +kernel
theorem dX4_ofShip_33 : decode cX4_ofShip 33 = .ok (.invokevirtual 109, 3) := by decide +kernel
theorem dX4_ofShip_36 : decode cX4_ofShip 36 = .ok (.ireturn, 1) := by decide +kernel
set_option maxRecDepth 20000 in
theorem ggX4_steer_X0_hasShip : GoodIn wsX4_steer wsX0_hasShip := goodIn_r _ [9, 10, 11, 12, 13, 41, 42, 43, 44, 45, 46, 47, 48] (by decide +kernel) (by decide +kernel)
set_option maxRecDepth 20000 in
theorem gX4_steer_X0_hasShip : GoodIn wsX4_steer (wsV RX4 106 RX0 yX0_hasShip wsX0_hasShip) := goodIn_app (goodIn_of _ (by decide +kernel)) ggX4_steer_X0_hasShip
set_option maxRecDepth 20000 in
theorem ggX4_steer_X4_within : GoodIn wsX4_steer wsX4_within := goodIn_r _ [13] (by decide +kernel) (by decide +kernel)
set_option maxRecDepth 20000 in
theorem gX4_steer_X4_within : GoodIn wsX4_steer (va_wsS RX4 48 yX4_within wsX4_within) := goodIn_app (goodIn_of _ (by decide +kernel)) ggX4_steer_X4_within
set_option maxRecDepth 20000 in
theorem ggX4_steer_X4_finding : GoodIn wsX4_steer wsX4_finding := goodIn_r _ [18, 2, 19, 14, 11, 12, 13, 34, 35, 36, 37, 38, 39, 40] (by decide +kernel) (by decide +kernel)
set_option maxRecDepth 20000 in
theorem gX4_steer_X4_finding : GoodIn wsX4_steer (wsV RX4 53 RX4 yX4_finding wsX4_finding) := goodIn_app (goodIn_of _ (by decide +kernel)) ggX4_steer_X4_finding
set_option maxRecDepth 20000 in
theorem ggX4_steer_X4_numberAt : GoodIn wsX4_steer wsX4_numberAt := goodIn_r _ [22] (by decide +kernel) (by decide +kernel)
set_option maxRecDepth 20000 in
theorem gX4_steer_X4_numberAt : GoodIn wsX4_steer (va_wsS RX4 95 yX4_numberAt wsX4_numberAt) := goodIn_app (goodIn_of _ (by decide +kernel)) ggX4_steer_X4_numberAt
set_option maxRecDepth 20000 in
theorem ggX4_steer_X0_shipHas : GoodIn wsX4_steer wsX0_shipHas := goodIn_r _ [26, 27, 21, 12, 22, 41, 42, 43, 44, 45, 46, 47, 48] (by decide +kernel) (by decide +kernel)
set_option maxRecDepth 20000 in
theorem gX4_steer_X0_shipHas : GoodIn wsX4_steer (wsV RX4 109 RX0 yX0_shipHas wsX0_shipHas) := goodIn_app (goodIn_of _ (by decide +kernel)) ggX4_steer_X0_shipHas
set_option maxRecDepth 20000 in
theorem ggX4_steer_X0_setOfShip : GoodIn wsX4_steer wsX0_setOfShip := goodIn_r _ [31, 27, 32, 12, 33, 41, 42, 43, 44, 45, 46, 47, 48] (by decide +kernel) (by decide +kernel)
set_option maxRecDepth 20000 in
theorem gX4_steer_X0_setOfShip : GoodIn wsX4_steer (wsV RX4 118 RX0 yX0_setOfShip wsX0_setOfShip) := goodIn_app (goodIn_of _ (by decide +kernel)) ggX4_steer_X0_setOfShip
theorem dX4_steer_0 : decode cX4_steer 0 = .ok (.aload_n 0, 1) := by decide +kernel
theorem dX4_steer_1 : decode cX4_steer 1 = .ok (.getfield 12, 3) := by decide +kernel
theorem dX4_steer_4 : decode cX4_steer 4 = .ok (.iload_n 1, 1) := by decide +kernel
theorem dX4_steer_5 : decode cX4_steer 5 = .ok (.invokevirtual 106, 3) := by decide +kernel
theorem dX4_steer_8 : decode cX4_steer 8 = .ok (.ifCond .eq 12, 3) := by decide +kernel
theorem dX4_steer_11 : decode cX4_steer 11 = .ok (.iload_n 2, 1) := by decide +kernel
theorem dX4_steer_12 : decode cX4_steer 12 = .ok (.iconst 0, 1) := by decide +kernel
theorem dX4_steer_13 : decode cX4_steer 13 = .ok (.iconst 3, 1) := by decide +kernel
theorem dX4_steer_14 : decode cX4_steer 14 = .ok (.invokestatic 48, 3) := by decide +kernel
theorem dX4_steer_17 : decode cX4_steer 17 = .ok (.ifCond .ne 10, 3) := by decide +kernel
theorem dX4_steer_20 : decode cX4_steer 20 = .ok (.aload_n 0, 1) := by decide +kernel
theorem dX4_steer_21 : decode cX4_steer 21 = .ok (.ldc 52, 2) := by decide +kernel
theorem dX4_steer_23 : decode cX4_steer 23 = .ok (.invokevirtual 53, 3) := by decide +kernel
theorem dX4_steer_26 : decode cX4_steer 26 = .ok (.ireturn, 1) := by decide +kernel
theorem dX4_steer_27 : decode cX4_steer 27 = .ok (.iload_n 3, 1) := by decide +kernel
theorem dX4_steer_28 : decode cX4_steer 28 = .ok (.getstatic 112, 3) := by decide +kernel
theorem dX4_steer_31 : decode cX4_steer 31 = .ok (.iload_n 2, 1) := by decide +kernel
theorem dX4_steer_32 : decode cX4_steer 32 = .ok (.invokestatic 95, 3) := by decide +kernel
theorem dX4_steer_35 : decode cX4_steer 35 = .ok (.getstatic 115, 3) := by decide +kernel
theorem dX4_steer_38 : decode cX4_steer 38 = .ok (.iload_n 2, 1) := by decide +kernel
theorem dX4_steer_39 : decode cX4_steer 39 = .ok (.invokestatic 95, 3) := by decide +kernel
theorem dX4_steer_42 : decode cX4_steer 42 = .ok (.invokestatic 48, 3) := by decide +kernel
theorem dX4_steer_45 : decode cX4_steer 45 = .ok (.ifCond .ne 10, 3) := by decide +kernel
theorem dX4_steer_48 : decode cX4_steer 48 = .ok (.aload_n 0, 1) := by decide +kernel
theorem dX4_steer_49 : decode cX4_steer 49 = .ok (.ldc 52, 2) := by decide +kernel
theorem dX4_steer_51 : decode cX4_steer 51 = .ok (.invokevirtual 53, 3) := by decide +kernel
theorem dX4_steer_54 : decode cX4_steer 54 = .ok (.ireturn, 1) := by decide +kernel
theorem dX4_steer_55 : decode cX4_steer 55 = .ok (.aload_n 0, 1) := by decide +kernel
theorem dX4_steer_56 : decode cX4_steer 56 = .ok (.getfield 12, 3) := by decide +kernel
theorem dX4_steer_59 : decode cX4_steer 59 = .ok (.iload_n 1, 1) := by decide +kernel
theorem dX4_steer_60 : decode cX4_steer 60 = .ok (.iload_n 2, 1) := by decide +kernel
theorem dX4_steer_61 : decode cX4_steer 61 = .ok (.invokevirtual 109, 3) := by decide +kernel
theorem dX4_steer_64 : decode cX4_steer 64 = .ok (.istore 4, 2) := by decide +kernel
theorem dX4_steer_66 : decode cX4_steer 66 = .ok (.aload_n 0, 1) := by decide +kernel
theorem dX4_steer_67 : decode cX4_steer 67 = .ok (.getfield 12, 3) := by decide +kernel
theorem dX4_steer_70 : decode cX4_steer 70 = .ok (.iload_n 1, 1) := by decide +kernel
theorem dX4_steer_71 : decode cX4_steer 71 = .ok (.iload_n 2, 1) := by decide +kernel
theorem dX4_steer_72 : decode cX4_steer 72 = .ok (.iload_n 3, 1) := by decide +kernel
theorem dX4_steer_73 : decode cX4_steer 73 = .ok (.invokevirtual 118, 3) := by decide +kernel
theorem dX4_steer_76 : decode cX4_steer 76 = .ok (.iload 4, 2) := by decide +kernel
theorem dX4_steer_78 : decode cX4_steer 78 = .ok (.ireturn, 1) := by decide +kernel
set_option maxRecDepth 20000 in
theorem ggX4_thick_X4_isCell : GoodIn wsX4_thick wsX4_isCell := goodIn_r _ [6, 7, 8, 5, 9] (by decide +kernel) (by decide +kernel)
set_option maxRecDepth 20000 in
theorem gX4_thick_X4_isCell : GoodIn wsX4_thick (va_wsS RX4 67 yX4_isCell wsX4_isCell) := goodIn_app (goodIn_of _ (by decide +kernel)) ggX4_thick_X4_isCell
set_option maxRecDepth 20000 in
theorem ggX4_thick_X0_thickAt : GoodIn wsX4_thick wsX0_thickAt := goodIn_r _ [14, 15, 16, 17, 18, 19, 20, 21, 22, 13, 23, 24, 25, 26, 27, 28, 29, 30, 31, 32, 33, 34, 35, 36, 37, 38, 39, 40, 41, 42, 43, 44, 45, 58, 59, 60, 61, 62, 63, 64, 65] (by decide +kernel) (by decide +kernel)
set_option maxRecDepth 20000 in
theorem gX4_thick_X0_thickAt : GoodIn wsX4_thick (wsV RX4 121 RX0 yX0_thickAt wsX0_thickAt) := goodIn_app (goodIn_of _ (by decide +kernel)) ggX4_thick_X0_thickAt
set_option maxRecDepth 20000 in
theorem ggX4_thick_X4_finding : GoodIn wsX4_thick wsX4_finding := goodIn_r _ [49, 2, 50, 7, 8, 5, 9, 51, 52, 53, 54, 55, 56, 57] (by decide +kernel) (by decide +kernel)
set_option maxRecDepth 20000 in
theorem gX4_thick_X4_finding : GoodIn wsX4_thick (wsV RX4 53 RX4 yX4_finding wsX4_finding) := goodIn_app (goodIn_of _ (by decide +kernel)) ggX4_thick_X4_finding
theorem dX4_thick_0 : decode cX4_thick 0 = .ok (.iload_n 1, 1) := by decide +kernel
theorem dX4_thick_1 : decode cX4_thick 1 = .ok (.invokestatic 67, 3) := by decide +kernel
theorem dX4_thick_4 : decode cX4_thick 4 = .ok (.ifCond .eq 14, 3) := by decide +kernel
theorem dX4_thick_7 : decode cX4_thick 7 = .ok (.aload_n 0, 1) := by decide +kernel
theorem dX4_thick_8 : decode cX4_thick 8 = .ok (.getfield 12, 3) := by decide +kernel
theorem dX4_thick_11 : decode cX4_thick 11 = .ok (.iload_n 1, 1) := by decide +kernel
theorem dX4_thick_12 : decode cX4_thick 12 = .ok (.invokevirtual 121, 3) := by decide +kernel
theorem dX4_thick_15 : decode cX4_thick 15 = .ok (.goto 9, 3) := by decide +kernel
theorem dX4_thick_18 : decode cX4_thick 18 = .ok (.aload_n 0, 1) := by decide +kernel
theorem dX4_thick_19 : decode cX4_thick 19 = .ok (.ldc 52, 2) := by decide +kernel
theorem dX4_thick_21 : decode cX4_thick 21 = .ok (.invokevirtual 53, 3) := by decide +kernel
theorem dX4_thick_24 : decode cX4_thick 24 = .ok (.ireturn, 1) := by decide +kernel
set_option maxRecDepth 20000 in
theorem ggX4_go_X4_within : GoodIn wsX4_go wsX4_within := goodIn_r _ [8] (by decide +kernel) (by decide +kernel)
set_option maxRecDepth 20000 in
theorem gX4_go_X4_within : GoodIn wsX4_go (va_wsS RX4 48 yX4_within wsX4_within) := goodIn_app (goodIn_of _ (by decide +kernel)) ggX4_go_X4_within
set_option maxRecDepth 20000 in
theorem ggX4_go_X4_finding : GoodIn wsX4_go wsX4_finding := goodIn_r _ [12, 1, 13, 5, 6, 7, 8, 116, 117, 118, 119, 120, 121, 122] (by decide +kernel) (by decide +kernel)
set_option maxRecDepth 20000 in
theorem gX4_go_X4_finding : GoodIn wsX4_go (wsV RX4 53 RX4 yX4_finding wsX4_finding) := goodIn_app (goodIn_of _ (by decide +kernel)) ggX4_go_X4_finding
set_option maxRecDepth 20000 in
theorem ggX4_go_X0_passDays : GoodIn wsX4_go wsX0_passDays := goodIn_r _ [18, 19, 20, 21, 22, 23, 24, 25, 26, 27, 28, 29, 17, 30, 31, 32, 33, 34, 35, 36, 7, 37, 38, 39, 40, 41, 42, 43, 44, 45, 46, 47, 48, 49, 50, 51, 52, 53, 54, 55, 56, 57, 58, 59, 60, 61, 62, 63, 64, 65, 66, 67, 68, 69, 70, 71, 72, 73, 74, 75, 76, 77, 78, 79, 80, 81, 82, 83, 84, 85, 86, 87, 88, 89, 90, 91, 92, 93, 94, 95, 96, 97, 6, 8, 98, 99, 100, 101, 102, 103, 104, 105, 106, 107, 108, 109, 110, 111, 123, 124, 125, 126, 127, 128, 129, 130] (by decide +kernel) (by decide +kernel)
set_option maxRecDepth 20000 in
theorem gX4_go_X0_passDays : GoodIn wsX4_go (wsV RX4 129 RX0 yX0_passDays wsX0_passDays) := goodIn_app (goodIn_of _ (by decide +kernel)) ggX4_go_X0_passDays
set_option maxRecDepth 20000 in
theorem ggX4_go_X0_shipsInPort : GoodIn wsX4_go wsX0_shipsInPort := goodIn_r _ [115, 19, 27, 28, 29, 17, 30, 31, 32, 33, 34, 35, 36, 7, 37, 123, 124, 125, 126, 127, 128, 129, 130] (by decide +kernel) (by decide +kernel)
set_option maxRecDepth 20000 in
theorem gX4_go_X0_shipsInPort : GoodIn wsX4_go (wsV RX4 132 RX0 yX0_shipsInPort wsX0_shipsInPort) := goodIn_app (goodIn_of _ (by decide +kernel)) ggX4_go_X0_shipsInPort
theorem dX4_go_0 : decode cX4_go 0 = .ok (.iload_n 1, 1) := by decide +kernel
theorem dX4_go_1 : decode cX4_go 1 = .ok (.iconst 1, 1) := by decide +kernel
theorem dX4_go_2 : decode cX4_go 2 = .ok (.bipush 60, 2) := by decide +kernel
theorem dX4_go_4 : decode cX4_go 4 = .ok (.invokestatic 48, 3) := by decide +kernel
theorem dX4_go_7 : decode cX4_go 7 = .ok (.ifCond .ne 10, 3) := by decide +kernel
theorem dX4_go_10 : decode cX4_go 10 = .ok (.aload_n 0, 1) := by decide +kernel
theorem dX4_go_11 : decode cX4_go 11 = .ok (.ldc 52, 2) := by decide +kernel
theorem dX4_go_13 : decode cX4_go 13 = .ok (.invokevirtual 53, 3) := by decide +kernel
theorem dX4_go_16 : decode cX4_go 16 = .ok (.ireturn, 1) := by decide +kernel
theorem dX4_go_17 : decode cX4_go 17 = .ok (.aload_n 0, 1) := by decide +kernel
theorem dX4_go_18 : decode cX4_go 18 = .ok (.getfield 12, 3) := by decide +kernel
theorem dX4_go_21 : decode cX4_go 21 = .ok (.getfield 124, 3) := by decide +kernel
theorem dX4_go_24 : decode cX4_go 24 = .ok (.iload_n 1, 1) := by decide +kernel
theorem dX4_go_25 : decode cX4_go 25 = .ok (.iadd, 1) := by decide +kernel
theorem dX4_go_26 : decode cX4_go 26 = .ok (.ldc 127, 2) := by decide +kernel
theorem dX4_go_28 : decode cX4_go 28 = .ok (.if_icmp .le 10, 3) := by decide +kernel
theorem dX4_go_31 : decode cX4_go 31 = .ok (.aload_n 0, 1) := by decide +kernel
theorem dX4_go_32 : decode cX4_go 32 = .ok (.ldc 128, 2) := by decide +kernel
theorem dX4_go_34 : decode cX4_go 34 = .ok (.invokevirtual 53, 3) := by decide +kernel
theorem dX4_go_37 : decode cX4_go 37 = .ok (.ireturn, 1) := by decide +kernel
theorem dX4_go_38 : decode cX4_go 38 = .ok (.aload_n 0, 1) := by decide +kernel
theorem dX4_go_39 : decode cX4_go 39 = .ok (.getfield 12, 3) := by decide +kernel
theorem dX4_go_42 : decode cX4_go 42 = .ok (.iload_n 1, 1) := by decide +kernel
theorem dX4_go_43 : decode cX4_go 43 = .ok (.bipush 63, 2) := by decide +kernel
theorem dX4_go_45 : decode cX4_go 45 = .ok (.invokevirtual 129, 3) := by decide +kernel
theorem dX4_go_48 : decode cX4_go 48 = .ok (.aload_n 0, 1) := by decide +kernel
theorem dX4_go_49 : decode cX4_go 49 = .ok (.getfield 12, 3) := by decide +kernel
theorem dX4_go_52 : decode cX4_go 52 = .ok (.invokevirtual 132, 3) := by decide +kernel
theorem dX4_go_55 : decode cX4_go 55 = .ok (.ireturn, 1) := by decide +kernel
set_option maxRecDepth 20000 in
theorem ggX4_now_X0_shipsInPort : GoodIn wsX4_now wsX0_shipsInPort := goodIn_r _ [7, 8, 9, 10, 11, 6, 12, 13, 14, 15, 16, 17, 18, 19, 20, 99, 100, 101, 102, 103, 104, 105, 106] (by decide +kernel) (by decide +kernel)
set_option maxRecDepth 20000 in
theorem gX4_now_X0_shipsInPort : GoodIn wsX4_now (wsV RX4 132 RX0 yX0_shipsInPort wsX0_shipsInPort) := goodIn_app (goodIn_of _ (by decide +kernel)) ggX4_now_X0_shipsInPort
set_option maxRecDepth 20000 in
theorem ggX4_now_X0_finishedSayings : GoodIn wsX4_now wsX0_finishedSayings := goodIn_r _ [24, 25, 26, 27, 28, 6, 29, 30, 31, 32, 33, 34, 99, 100, 101, 102, 103, 104, 105, 106] (by decide +kernel) (by decide +kernel)
set_option maxRecDepth 20000 in
theorem gX4_now_X0_finishedSayings : GoodIn wsX4_now (wsV RX4 136 RX0 yX0_finishedSayings wsX0_finishedSayings) := goodIn_app (goodIn_of _ (by decide +kernel)) ggX4_now_X0_finishedSayings
set_option maxRecDepth 20000 in
theorem ggX4_now_X0_vagueTogether : GoodIn wsX4_now wsX0_vagueTogether := goodIn_r _ [38, 25, 26, 27, 28, 6, 29, 30, 31, 32, 33, 34, 99, 100, 101, 102, 103, 104, 105, 106] (by decide +kernel) (by decide +kernel)
set_option maxRecDepth 20000 in
theorem gX4_now_X0_vagueTogether : GoodIn wsX4_now (wsV RX4 139 RX0 yX0_vagueTogether wsX0_vagueTogether) := goodIn_app (goodIn_of _ (by decide +kernel)) ggX4_now_X0_vagueTogether
set_option maxRecDepth 20000 in
theorem ggX4_now_X0_waitedTogether : GoodIn wsX4_now wsX0_waitedTogether := goodIn_r _ [42, 8, 13, 14, 15, 6, 16, 17, 18, 19, 20, 99, 100, 101, 102, 103, 104, 105, 106] (by decide +kernel) (by decide +kernel)
set_option maxRecDepth 20000 in
theorem gX4_now_X0_waitedTogether : GoodIn wsX4_now (wsV RX4 142 RX0 yX0_waitedTogether wsX0_waitedTogether) := goodIn_app (goodIn_of _ (by decide +kernel)) ggX4_now_X0_waitedTogether
set_option maxRecDepth 20000 in
theorem ggX4_now_X0_thickestCell : GoodIn wsX4_now wsX0_thickestCell := goodIn_r _ [46, 47, 48, 49, 6, 50, 25, 51, 52, 53, 54, 26, 27, 28, 29, 30, 31, 32, 33, 34, 55, 56, 57, 58, 59, 60, 61, 62, 63, 64, 65, 66, 67, 68, 69, 70, 71, 99, 100, 101, 102, 103, 104, 105, 106] (by decide +kernel) (by decide +kernel)
set_option maxRecDepth 20000 in
theorem gX4_now_X0_thickestCell : GoodIn wsX4_now (wsV RX4 145 RX0 yX0_thickestCell wsX0_thickestCell) := goodIn_app (goodIn_of _ (by decide +kernel)) ggX4_now_X0_thickestCell
set_option maxRecDepth 20000 in
theorem ggX4_now_X0_clearCells : GoodIn wsX4_now wsX0_clearCells := goodIn_r _ [75, 47, 48, 49, 6, 50, 25, 51, 52, 53, 54, 26, 27, 28, 29, 30, 31, 32, 33, 34, 55, 56, 57, 58, 59, 60, 61, 62, 63, 64, 65, 66, 67, 68, 69, 70, 71, 99, 100, 101, 102, 103, 104, 105, 106] (by decide +kernel) (by decide +kernel)
set_option maxRecDepth 20000 in
theorem gX4_now_X0_clearCells : GoodIn wsX4_now (wsV RX4 148 RX0 yX0_clearCells wsX0_clearCells) := goodIn_app (goodIn_of _ (by decide +kernel)) ggX4_now_X0_clearCells
set_option maxRecDepth 20000 in
theorem ggX4_now_X0_shipsThatGoOn : GoodIn wsX4_now wsX0_shipsThatGoOn := goodIn_r _ [79, 8, 13, 14, 15, 6, 16, 17, 18, 19, 20, 80, 81, 82, 83, 47, 48, 49, 50, 25, 51, 52, 53, 54, 26, 27, 28, 29, 30, 31, 32, 33, 34, 55, 56, 57, 58, 59, 60, 61, 62, 63, 64, 65, 66, 67, 68, 69, 70, 71, 99, 100, 101, 102, 103, 104, 105, 106] (by decide +kernel) (by decide +kernel)
set_option maxRecDepth 20000 in
theorem gX4_now_X0_shipsThatGoOn : GoodIn wsX4_now (wsV RX4 151 RX0 yX0_shipsThatGoOn wsX0_shipsThatGoOn) := goodIn_app (goodIn_of _ (by decide +kernel)) ggX4_now_X0_shipsThatGoOn
set_option maxRecDepth 20000 in
theorem ggX4_now_X4_finding : GoodIn wsX4_now wsX4_finding := goodIn_r _ [87, 2, 88, 89, 90, 19, 91, 92, 93, 94, 95, 96, 97, 98] (by decide +kernel) (by decide +kernel)
set_option maxRecDepth 20000 in
theorem gX4_now_X4_finding : GoodIn wsX4_now (wsV RX4 53 RX4 yX4_finding wsX4_finding) := goodIn_app (goodIn_of _ (by decide +kernel)) ggX4_now_X4_finding
theorem dX4_now_0 : decode cX4_now 0 = .ok (.iload_n 1, 1) := by decide +kernel
theorem dX4_now_1 : decode cX4_now 1 = .ok (.tableswitch 111 0 7 #[47, 55, 63, 71, 79, 87, 95, 103], 47) := by decide +kernel
theorem dX4_now_48 : decode cX4_now 48 = .ok (.aload_n 0, 1) := by decide +kernel
theorem dX4_now_49 : decode cX4_now 49 = .ok (.getfield 12, 3) := by decide +kernel
theorem dX4_now_52 : decode cX4_now 52 = .ok (.getfield 124, 3) := by decide +kernel
theorem dX4_now_55 : decode cX4_now 55 = .ok (.ireturn, 1) := by decide +kernel
theorem dX4_now_56 : decode cX4_now 56 = .ok (.aload_n 0, 1) := by decide +kernel
theorem dX4_now_57 : decode cX4_now 57 = .ok (.getfield 12, 3) := by decide +kernel
theorem dX4_now_60 : decode cX4_now 60 = .ok (.invokevirtual 132, 3) := by decide +kernel
theorem dX4_now_63 : decode cX4_now 63 = .ok (.ireturn, 1) := by decide +kernel
theorem dX4_now_64 : decode cX4_now 64 = .ok (.aload_n 0, 1) := by decide +kernel
theorem dX4_now_65 : decode cX4_now 65 = .ok (.getfield 12, 3) := by decide +kernel
theorem dX4_now_68 : decode cX4_now 68 = .ok (.invokevirtual 136, 3) := by decide +kernel
theorem dX4_now_71 : decode cX4_now 71 = .ok (.ireturn, 1) := by decide +kernel
theorem dX4_now_72 : decode cX4_now 72 = .ok (.aload_n 0, 1) := by decide +kernel
theorem dX4_now_73 : decode cX4_now 73 = .ok (.getfield 12, 3) := by decide +kernel
theorem dX4_now_76 : decode cX4_now 76 = .ok (.invokevirtual 139, 3) := by decide +kernel
theorem dX4_now_79 : decode cX4_now 79 = .ok (.ireturn, 1) := by decide +kernel
theorem dX4_now_80 : decode cX4_now 80 = .ok (.aload_n 0, 1) := by decide +kernel
theorem dX4_now_81 : decode cX4_now 81 = .ok (.getfield 12, 3) := by decide +kernel
theorem dX4_now_84 : decode cX4_now 84 = .ok (.invokevirtual 142, 3) := by decide +kernel
theorem dX4_now_87 : decode cX4_now 87 = .ok (.ireturn, 1) := by decide +kernel
theorem dX4_now_88 : decode cX4_now 88 = .ok (.aload_n 0, 1) := by decide +kernel
theorem dX4_now_89 : decode cX4_now 89 = .ok (.getfield 12, 3) := by decide +kernel
theorem dX4_now_92 : decode cX4_now 92 = .ok (.invokevirtual 145, 3) := by decide +kernel
theorem dX4_now_95 : decode cX4_now 95 = .ok (.ireturn, 1) := by decide +kernel
theorem dX4_now_96 : decode cX4_now 96 = .ok (.aload_n 0, 1) := by decide +kernel
theorem dX4_now_97 : decode cX4_now 97 = .ok (.getfield 12, 3) := by decide +kernel
theorem dX4_now_100 : decode cX4_now 100 = .ok (.invokevirtual 148, 3) := by decide +kernel
theorem dX4_now_103 : decode cX4_now 103 = .ok (.ireturn, 1) := by decide +kernel
theorem dX4_now_104 : decode cX4_now 104 = .ok (.aload_n 0, 1) := by decide +kernel
theorem dX4_now_105 : decode cX4_now 105 = .ok (.getfield 12, 3) := by decide +kernel
theorem dX4_now_108 : decode cX4_now 108 = .ok (.invokevirtual 151, 3) := by decide +kernel
theorem dX4_now_111 : decode cX4_now 111 = .ok (.ireturn, 1) := by decide +kernel
theorem dX4_now_112 : decode cX4_now 112 = .ok (.aload_n 0, 1) := by decide +kernel
theorem dX4_now_113 : decode cX4_now 113 = .ok (.ldc 52, 2) := by decide +kernel
theorem dX4_now_115 : decode cX4_now 115 = .ok (.invokevirtual 53, 3) := by decide +kernel
theorem dX4_now_118 : decode cX4_now 118 = .ok (.ireturn, 1) := by decide +kernel
set_option maxRecDepth 20000 in
theorem ggX4_ahead_X0_hasSaying : GoodIn wsX4_ahead wsX0_hasSaying := goodIn_r _ [7, 8, 9, 10, 11, 137, 138, 139, 140, 141, 142, 143, 144] (by decide +kernel) (by decide +kernel)
set_option maxRecDepth 20000 in
theorem gX4_ahead_X0_hasSaying : GoodIn wsX4_ahead (wsV RX4 85 RX0 yX0_hasSaying wsX0_hasSaying) := goodIn_app (goodIn_of _ (by decide +kernel)) ggX4_ahead_X0_hasSaying
set_option maxRecDepth 20000 in
theorem ggX4_ahead_X4_within : GoodIn wsX4_ahead wsX4_within := goodIn_r _ [11] (by decide +kernel) (by decide +kernel)
set_option maxRecDepth 20000 in
theorem gX4_ahead_X4_within : GoodIn wsX4_ahead (va_wsS RX4 48 yX4_within wsX4_within) := goodIn_app (goodIn_of _ (by decide +kernel)) ggX4_ahead_X4_within
set_option maxRecDepth 20000 in
theorem ggX4_ahead_X4_finding : GoodIn wsX4_ahead wsX4_finding := goodIn_r _ [16, 2, 17, 12, 9, 10, 11, 130, 131, 132, 133, 134, 135, 136] (by decide +kernel) (by decide +kernel)
set_option maxRecDepth 20000 in
theorem gX4_ahead_X4_finding : GoodIn wsX4_ahead (wsV RX4 53 RX4 yX4_finding wsX4_finding) := goodIn_app (goodIn_of _ (by decide +kernel)) ggX4_ahead_X4_finding
set_option maxRecDepth 20000 in
theorem ggX4_ahead_X4_behindDays : GoodIn wsX4_ahead wsX4_behindDays := goodIn_r _ [21, 22, 1, 23, 24, 25, 6, 26, 27, 28, 29, 30, 31, 32, 33, 34, 8, 35, 36, 37, 38, 39, 40, 41, 42, 43, 44, 45, 46, 47, 48, 49, 50, 51, 52, 53, 54, 55, 10, 56, 57, 58, 59, 60, 61, 62, 63, 64, 65, 66, 67, 68, 69, 70, 71, 72, 73, 74, 75, 76, 77, 78, 79, 80, 81, 82, 83, 84, 85, 86, 87, 88, 89, 90, 91, 92, 93, 94, 95, 96, 97, 98, 99, 100, 101, 102, 103, 104, 105, 106, 107, 108, 109, 110, 111, 4, 5, 7, 9, 11, 112, 113, 114, 115, 116, 117, 118, 119, 120, 121, 122, 123, 124, 125, 130, 131, 132, 133, 134, 135, 136, 137, 138, 139, 140, 141, 142, 143, 144] (by decide +kernel) (by decide +kernel)
set_option maxRecDepth 20000 in
theorem gX4_ahead_X4_behindDays : GoodIn wsX4_ahead (wsV RX4 154 RX4 yX4_behindDays wsX4_behindDays) := goodIn_app (goodIn_of _ (by decide +kernel)) ggX4_ahead_X4_behindDays
set_option maxRecDepth 20000 in
theorem ggX4_ahead_X0_tellOfSaying : GoodIn wsX4_ahead wsX0_tellOfSaying := goodIn_r _ [129, 36, 72, 73, 74, 6, 75, 33, 87, 88, 85, 89, 83, 84, 86, 123, 124, 125, 112, 113, 114, 137, 138, 139, 140, 141, 142, 143, 144] (by decide +kernel) (by decide +kernel)
set_option maxRecDepth 20000 in
theorem gX4_ahead_X0_tellOfSaying : GoodIn wsX4_ahead (wsV RX4 88 RX0 yX0_tellOfSaying wsX0_tellOfSaying) := goodIn_app (goodIn_of _ (by decide +kernel)) ggX4_ahead_X0_tellOfSaying
theorem dX4_ahead_0 : decode cX4_ahead 0 = .ok (.aload_n 0, 1) := by decide +kernel
theorem dX4_ahead_1 : decode cX4_ahead 1 = .ok (.getfield 12, 3) := by decide +kernel
theorem dX4_ahead_4 : decode cX4_ahead 4 = .ok (.iload_n 1, 1) := by decide +kernel
theorem dX4_ahead_5 : decode cX4_ahead 5 = .ok (.invokevirtual 85, 3) := by decide +kernel
theorem dX4_ahead_8 : decode cX4_ahead 8 = .ok (.ifCond .eq 22, 3) := by decide +kernel
theorem dX4_ahead_11 : decode cX4_ahead 11 = .ok (.iload_n 2, 1) := by decide +kernel
theorem dX4_ahead_12 : decode cX4_ahead 12 = .ok (.iconst 2, 1) := by decide +kernel
theorem dX4_ahead_13 : decode cX4_ahead 13 = .ok (.iconst 5, 1) := by decide +kernel
theorem dX4_ahead_14 : decode cX4_ahead 14 = .ok (.invokestatic 48, 3) := by decide +kernel
theorem dX4_ahead_17 : decode cX4_ahead 17 = .ok (.ifCond .eq 13, 3) := by decide +kernel
theorem dX4_ahead_20 : decode cX4_ahead 20 = .ok (.iload_n 3, 1) := by decide +kernel
theorem dX4_ahead_21 : decode cX4_ahead 21 = .ok (.iconst 0, 1) := by decide +kernel
theorem dX4_ahead_22 : decode cX4_ahead 22 = .ok (.bipush 100, 2) := by decide +kernel
theorem dX4_ahead_24 : decode cX4_ahead 24 = .ok (.invokestatic 48, 3) := by decide +kernel
theorem dX4_ahead_27 : decode cX4_ahead 27 = .ok (.ifCond .ne 10, 3) := by decide +kernel
theorem dX4_ahead_30 : decode cX4_ahead 30 = .ok (.aload_n 0, 1) := by decide +kernel
theorem dX4_ahead_31 : decode cX4_ahead 31 = .ok (.ldc 52, 2) := by decide +kernel
theorem dX4_ahead_33 : decode cX4_ahead 33 = .ok (.invokevirtual 53, 3) := by decide +kernel
theorem dX4_ahead_36 : decode cX4_ahead 36 = .ok (.ireturn, 1) := by decide +kernel
theorem dX4_ahead_37 : decode cX4_ahead 37 = .ok (.aload_n 0, 1) := by decide +kernel
theorem dX4_ahead_38 : decode cX4_ahead 38 = .ok (.iload_n 3, 1) := by decide +kernel
theorem dX4_ahead_39 : decode cX4_ahead 39 = .ok (.iconst 0, 1) := by decide +kernel
theorem dX4_ahead_40 : decode cX4_ahead 40 = .ok (.invokevirtual 154, 3) := by decide +kernel
theorem dX4_ahead_43 : decode cX4_ahead 43 = .ok (.iload_n 1, 1) := by decide +kernel
theorem dX4_ahead_44 : decode cX4_ahead 44 = .ok (.iload_n 2, 1) := by decide +kernel
theorem dX4_ahead_45 : decode cX4_ahead 45 = .ok (.invokevirtual 88, 3) := by decide +kernel
theorem dX4_ahead_48 : decode cX4_ahead 48 = .ok (.ireturn, 1) := by decide +kernel
set_option maxRecDepth 20000 in
theorem ggX4_later_X0_hasShip : GoodIn wsX4_later wsX0_hasShip := goodIn_r _ [7, 8, 9, 10, 11, 137, 138, 139, 140, 141, 142, 143, 144] (by decide +kernel) (by decide +kernel)
set_option maxRecDepth 20000 in
theorem gX4_later_X0_hasShip : GoodIn wsX4_later (wsV RX4 106 RX0 yX0_hasShip wsX0_hasShip) := goodIn_app (goodIn_of _ (by decide +kernel)) ggX4_later_X0_hasShip
set_option maxRecDepth 20000 in
theorem ggX4_later_X4_within : GoodIn wsX4_later wsX4_within := goodIn_r _ [11] (by decide +kernel) (by decide +kernel)
set_option maxRecDepth 20000 in
theorem gX4_later_X4_within : GoodIn wsX4_later (va_wsS RX4 48 yX4_within wsX4_within) := goodIn_app (goodIn_of _ (by decide +kernel)) ggX4_later_X4_within
set_option maxRecDepth 20000 in
theorem ggX4_later_X4_finding : GoodIn wsX4_later wsX4_finding := goodIn_r _ [16, 2, 17, 12, 9, 10, 11, 130, 131, 132, 133, 134, 135, 136] (by decide +kernel) (by decide +kernel)
set_option maxRecDepth 20000 in
theorem gX4_later_X4_finding : GoodIn wsX4_later (wsV RX4 53 RX4 yX4_finding wsX4_finding) := goodIn_app (goodIn_of _ (by decide +kernel)) ggX4_later_X4_finding
set_option maxRecDepth 20000 in
theorem ggX4_later_X4_behindDays : GoodIn wsX4_later wsX4_behindDays := goodIn_r _ [21, 22, 1, 23, 24, 25, 6, 26, 27, 28, 29, 30, 31, 32, 33, 34, 35, 8, 36, 37, 38, 39, 40, 41, 42, 43, 44, 45, 46, 47, 48, 49, 50, 51, 52, 53, 54, 55, 10, 56, 57, 58, 59, 60, 61, 62, 63, 64, 65, 66, 67, 68, 69, 70, 71, 72, 73, 74, 75, 76, 77, 78, 79, 80, 81, 82, 83, 84, 85, 86, 87, 88, 89, 90, 91, 92, 93, 94, 95, 96, 97, 98, 99, 100, 101, 102, 103, 104, 105, 106, 107, 108, 109, 110, 111, 112, 113, 114, 9, 11, 115, 116, 117, 118, 119, 120, 121, 122, 123, 124, 125, 126, 127, 128, 130, 131, 132, 133, 134, 135, 136, 137, 138, 139, 140, 141, 142, 143, 144] (by decide +kernel) (by decide +kernel)
set_option maxRecDepth 20000 in
theorem gX4_later_X4_behindDays : GoodIn wsX4_later (wsV RX4 154 RX4 yX4_behindDays wsX4_behindDays) := goodIn_app (goodIn_of _ (by decide +kernel)) ggX4_later_X4_behindDays
set_option maxRecDepth 20000 in
theorem ggX4_later_X0_shipHas : GoodIn wsX4_later wsX0_shipHas := goodIn_r _ [54, 34, 55, 10, 56, 137, 138, 139, 140, 141, 142, 143, 144] (by decide +kernel) (by decide +kernel)
set_option maxRecDepth 20000 in
theorem gX4_later_X0_shipHas : GoodIn wsX4_later (wsV RX4 109 RX0 yX0_shipHas wsX0_shipHas) := goodIn_app (goodIn_of _ (by decide +kernel)) ggX4_later_X0_shipHas
theorem dX4_later_0 : decode cX4_later 0 = .ok (.aload_n 0, 1) := by decide +kernel
theorem dX4_later_1 : decode cX4_later 1 = .ok (.getfield 12, 3) := by decide +kernel
theorem dX4_later_4 : decode cX4_later 4 = .ok (.iload_n 1, 1) := by decide +kernel
theorem dX4_later_5 : decode cX4_later 5 = .ok (.invokevirtual 106, 3) := by decide +kernel
theorem dX4_later_8 : decode cX4_later 8 = .ok (.ifCond .eq 22, 3) := by decide +kernel
theorem dX4_later_11 : decode cX4_later 11 = .ok (.iload_n 2, 1) := by decide +kernel
theorem dX4_later_12 : decode cX4_later 12 = .ok (.ifCond .eq 8, 3) := by decide +kernel
theorem dX4_later_15 : decode cX4_later 15 = .ok (.iload_n 2, 1) := by decide +kernel
theorem dX4_later_16 : decode cX4_later 16 = .ok (.iconst 3, 1) := by decide +kernel
theorem dX4_later_17 : decode cX4_later 17 = .ok (.if_icmp .ne 13, 3) := by decide +kernel
theorem dX4_later_20 : decode cX4_later 20 = .ok (.iload_n 3, 1) := by decide +kernel
theorem dX4_later_21 : decode cX4_later 21 = .ok (.iconst 0, 1) := by decide +kernel
theorem dX4_later_22 : decode cX4_later 22 = .ok (.bipush 100, 2) := by decide +kernel
theorem dX4_later_24 : decode cX4_later 24 = .ok (.invokestatic 48, 3) := by decide +kernel
theorem dX4_later_27 : decode cX4_later 27 = .ok (.ifCond .ne 10, 3) := by decide +kernel
theorem dX4_later_30 : decode cX4_later 30 = .ok (.aload_n 0, 1) := by decide +kernel
theorem dX4_later_31 : decode cX4_later 31 = .ok (.ldc 52, 2) := by decide +kernel
theorem dX4_later_33 : decode cX4_later 33 = .ok (.invokevirtual 53, 3) := by decide +kernel
theorem dX4_later_36 : decode cX4_later 36 = .ok (.ireturn, 1) := by decide +kernel
theorem dX4_later_37 : decode cX4_later 37 = .ok (.aload_n 0, 1) := by decide +kernel
theorem dX4_later_38 : decode cX4_later 38 = .ok (.iload_n 3, 1) := by decide +kernel
theorem dX4_later_39 : decode cX4_later 39 = .ok (.bipush 63, 2) := by decide +kernel
theorem dX4_later_41 : decode cX4_later 41 = .ok (.invokevirtual 154, 3) := by decide +kernel
theorem dX4_later_44 : decode cX4_later 44 = .ok (.iload_n 1, 1) := by decide +kernel
theorem dX4_later_45 : decode cX4_later 45 = .ok (.iload_n 2, 1) := by decide +kernel
theorem dX4_later_46 : decode cX4_later 46 = .ok (.invokevirtual 109, 3) := by decide +kernel
theorem dX4_later_49 : decode cX4_later 49 = .ok (.ireturn, 1) := by decide +kernel
set_option maxRecDepth 20000 in
theorem ggX4_fog_X4_isCell : GoodIn wsX4_fog wsX4_isCell := goodIn_r _ [5, 6, 7, 4, 8] (by decide +kernel) (by decide +kernel)
set_option maxRecDepth 20000 in
theorem gX4_fog_X4_isCell : GoodIn wsX4_fog (va_wsS RX4 67 yX4_isCell wsX4_isCell) := goodIn_app (goodIn_of _ (by decide +kernel)) ggX4_fog_X4_isCell
set_option maxRecDepth 20000 in
theorem ggX4_fog_X4_within : GoodIn wsX4_fog wsX4_within := goodIn_r _ [8] (by decide +kernel) (by decide +kernel)
set_option maxRecDepth 20000 in
theorem gX4_fog_X4_within : GoodIn wsX4_fog (va_wsS RX4 48 yX4_within wsX4_within) := goodIn_app (goodIn_of _ (by decide +kernel)) ggX4_fog_X4_within
set_option maxRecDepth 20000 in
theorem ggX4_fog_X4_finding : GoodIn wsX4_fog wsX4_finding := goodIn_r _ [12, 1, 13, 6, 7, 4, 8, 129, 130, 131, 132, 133, 134, 135] (by decide +kernel) (by decide +kernel)
set_option maxRecDepth 20000 in
theorem gX4_fog_X4_finding : GoodIn wsX4_fog (wsV RX4 53 RX4 yX4_finding wsX4_finding) := goodIn_app (goodIn_of _ (by decide +kernel)) ggX4_fog_X4_finding
set_option maxRecDepth 20000 in
theorem ggX4_fog_X4_behindDays : GoodIn wsX4_fog wsX4_behindDays := goodIn_r _ [17, 18, 19, 20, 21, 22, 23, 24, 25, 26, 27, 28, 29, 30, 31, 32, 33, 34, 35, 36, 37, 38, 39, 40, 41, 42, 43, 44, 45, 46, 47, 48, 49, 50, 51, 52, 53, 54, 4, 55, 56, 57, 58, 59, 60, 61, 62, 63, 64, 65, 66, 67, 68, 69, 70, 71, 72, 73, 74, 75, 76, 77, 78, 79, 80, 81, 82, 83, 84, 85, 86, 87, 88, 89, 90, 91, 92, 93, 94, 95, 96, 97, 98, 99, 100, 101, 102, 103, 104, 105, 106, 107, 108, 109, 110, 111, 112, 113, 7, 8, 114, 115, 116, 117, 118, 119, 120, 121, 122, 123, 124, 125, 126, 127, 129, 130, 131, 132, 133, 134, 135, 136, 137, 138, 139, 140, 141, 142, 143] (by decide +kernel) (by decide +kernel)
set_option maxRecDepth 20000 in
theorem gX4_fog_X4_behindDays : GoodIn wsX4_fog (wsV RX4 154 RX4 yX4_behindDays wsX4_behindDays) := goodIn_app (goodIn_of _ (by decide +kernel)) ggX4_fog_X4_behindDays
set_option maxRecDepth 20000 in
theorem ggX4_fog_X0_thickAt : GoodIn wsX4_fog wsX0_thickAt := goodIn_r _ [63, 33, 64, 65, 44, 66, 67, 68, 69, 23, 70, 71, 72, 73, 74, 31, 75, 76, 77, 78, 79, 80, 81, 82, 83, 84, 85, 86, 87, 88, 89, 90, 91, 136, 137, 138, 139, 140, 141, 142, 143] (by decide +kernel) (by decide +kernel)
set_option maxRecDepth 20000 in
theorem gX4_fog_X0_thickAt : GoodIn wsX4_fog (wsV RX4 121 RX0 yX0_thickAt wsX0_thickAt) := goodIn_app (goodIn_of _ (by decide +kernel)) ggX4_fog_X0_thickAt
theorem dX4_fog_0 : decode cX4_fog 0 = .ok (.iload_n 1, 1) := by decide +kernel
theorem dX4_fog_1 : decode cX4_fog 1 = .ok (.invokestatic 67, 3) := by decide +kernel
theorem dX4_fog_4 : decode cX4_fog 4 = .ok (.ifCond .eq 13, 3) := by decide +kernel
theorem dX4_fog_7 : decode cX4_fog 7 = .ok (.iload_n 2, 1) := by decide +kernel
theorem dX4_fog_8 : decode cX4_fog 8 = .ok (.iconst 0, 1) := by decide +kernel
theorem dX4_fog_9 : decode cX4_fog 9 = .ok (.bipush 100, 2) := by decide +kernel
theorem dX4_fog_11 : decode cX4_fog 11 = .ok (.invokestatic 48, 3) := by decide +kernel
theorem dX4_fog_14 : decode cX4_fog 14 = .ok (.ifCond .ne 10, 3) := by decide +kernel
theorem dX4_fog_17 : decode cX4_fog 17 = .ok (.aload_n 0, 1) := by decide +kernel
theorem dX4_fog_18 : decode cX4_fog 18 = .ok (.ldc 52, 2) := by decide +kernel
theorem dX4_fog_20 : decode cX4_fog 20 = .ok (.invokevirtual 53, 3) := by decide +kernel
theorem dX4_fog_23 : decode cX4_fog 23 = .ok (.ireturn, 1) := by decide +kernel
theorem dX4_fog_24 : decode cX4_fog 24 = .ok (.aload_n 0, 1) := by decide +kernel
theorem dX4_fog_25 : decode cX4_fog 25 = .ok (.iload_n 2, 1) := by decide +kernel
theorem dX4_fog_26 : decode cX4_fog 26 = .ok (.iconst 0, 1) := by decide +kernel
theorem dX4_fog_27 : decode cX4_fog 27 = .ok (.invokevirtual 154, 3) := by decide +kernel
theorem dX4_fog_30 : decode cX4_fog 30 = .ok (.iload_n 1, 1) := by decide +kernel
theorem dX4_fog_31 : decode cX4_fog 31 = .ok (.invokevirtual 121, 3) := by decide +kernel
theorem dX4_fog_34 : decode cX4_fog 34 = .ok (.ireturn, 1) := by decide +kernel
set_option maxRecDepth 20000 in
theorem ggX4_lands_X0_hasShip : GoodIn wsX4_lands wsX0_hasShip := goodIn_r _ [9, 10, 11, 12, 13, 134, 135, 136, 137, 138, 139, 140, 141] (by decide +kernel) (by decide +kernel)
set_option maxRecDepth 20000 in
theorem gX4_lands_X0_hasShip : GoodIn wsX4_lands (wsV RX4 106 RX0 yX0_hasShip wsX0_hasShip) := goodIn_app (goodIn_of _ (by decide +kernel)) ggX4_lands_X0_hasShip
set_option maxRecDepth 20000 in
theorem ggX4_lands_X4_finding : GoodIn wsX4_lands wsX4_finding := goodIn_r _ [17, 2, 18, 19, 11, 12, 13, 127, 128, 129, 130, 131, 132, 133] (by decide +kernel) (by decide +kernel)
set_option maxRecDepth 20000 in
theorem gX4_lands_X4_finding : GoodIn wsX4_lands (wsV RX4 53 RX4 yX4_finding wsX4_finding) := goodIn_app (goodIn_of _ (by decide +kernel)) ggX4_lands_X4_finding
set_option maxRecDepth 20000 in
theorem ggX4_lands_X0_become : GoodIn wsX4_lands wsX0_become := goodIn_r _ [23, 24, 25, 26, 27, 28, 29, 30, 31, 32, 10, 33, 34, 134, 135, 136, 137, 138, 139, 140, 141] (by decide +kernel) (by decide +kernel)
set_option maxRecDepth 20000 in
theorem gX4_lands_X0_become : GoodIn wsX4_lands (wsV RX4 158 RX0 yX0_become wsX0_become) := goodIn_app (goodIn_of _ (by decide +kernel)) ggX4_lands_X0_become
set_option maxRecDepth 20000 in
theorem ggX4_lands_X0_isInPort : GoodIn wsX4_lands wsX0_isInPort := goodIn_r _ [38, 39, 40, 41, 8, 42, 31, 43, 12, 44, 134, 135, 136, 137, 138, 139, 140, 141] (by decide +kernel) (by decide +kernel)
set_option maxRecDepth 20000 in
theorem gX4_lands_X0_isInPort : GoodIn wsX4_lands (wsV RX4 162 RX0 yX0_isInPort wsX0_isInPort) := goodIn_app (goodIn_of _ (by decide +kernel)) ggX4_lands_X0_isInPort
set_option maxRecDepth 20000 in
theorem ggX4_lands_X0_passDays : GoodIn wsX4_lands wsX0_passDays := goodIn_r _ [48, 10, 32, 49, 33, 50, 51, 52, 53, 54, 36, 37, 8, 38, 39, 40, 41, 42, 31, 43, 12, 44, 55, 56, 57, 58, 59, 60, 61, 62, 63, 64, 65, 66, 67, 68, 69, 70, 71, 72, 73, 30, 74, 75, 76, 77, 78, 79, 80, 81, 82, 83, 84, 85, 86, 87, 88, 89, 90, 91, 92, 93, 94, 95, 96, 97, 98, 99, 100, 101, 102, 103, 104, 24, 105, 106, 107, 108, 109, 110, 111, 112, 11, 13, 113, 114, 115, 116, 117, 118, 119, 120, 121, 122, 123, 124, 125, 126, 134, 135, 136, 137, 138, 139, 140, 141] (by decide +kernel) (by decide +kernel)
set_option maxRecDepth 20000 in
theorem gX4_lands_X0_passDays : GoodIn wsX4_lands (wsV RX4 129 RX0 yX0_passDays wsX0_passDays) := goodIn_app (goodIn_of _ (by decide +kernel)) ggX4_lands_X0_passDays
theorem dX4_lands_0 : decode cX4_lands 0 = .ok (.aload_n 0, 1) := by decide +kernel
theorem dX4_lands_1 : decode cX4_lands 1 = .ok (.getfield 12, 3) := by decide +kernel
theorem dX4_lands_4 : decode cX4_lands 4 = .ok (.iload_n 1, 1) := by decide +kernel
theorem dX4_lands_5 : decode cX4_lands 5 = .ok (.invokevirtual 106, 3) := by decide +kernel
theorem dX4_lands_8 : decode cX4_lands 8 = .ok (.ifCond .ne 10, 3) := by decide +kernel
theorem dX4_lands_11 : decode cX4_lands 11 = .ok (.aload_n 0, 1) := by decide +kernel
theorem dX4_lands_12 : decode cX4_lands 12 = .ok (.ldc 52, 2) := by decide +kernel
theorem dX4_lands_14 : decode cX4_lands 14 = .ok (.invokevirtual 53, 3) := by decide +kernel
theorem dX4_lands_17 : decode cX4_lands 17 = .ok (.ireturn, 1) := by decide +kernel
theorem dX4_lands_18 : decode cX4_lands 18 = .ok (.aload_n 0, 1) := by decide +kernel
theorem dX4_lands_19 : decode cX4_lands 19 = .ok (.getfield 16, 3) := by decide +kernel
theorem dX4_lands_22 : decode cX4_lands 22 = .ok (.aload_n 0, 1) := by decide +kernel
theorem dX4_lands_23 : decode cX4_lands 23 = .ok (.getfield 12, 3) := by decide +kernel
theorem dX4_lands_26 : decode cX4_lands 26 = .ok (.invokevirtual 158, 3) := by decide +kernel
theorem dX4_lands_29 : decode cX4_lands 29 = .ok (.iconst 0, 1) := by decide +kernel
theorem dX4_lands_30 : decode cX4_lands 30 = .ok (.istore_n 2, 1) := by decide +kernel
theorem dX4_lands_31 : decode cX4_lands 31 = .ok (.iload_n 2, 1) := by decide +kernel
theorem dX4_lands_32 : decode cX4_lands 32 = .ok (.sipush 200, 3) := by decide +kernel
theorem dX4_lands_35 : decode cX4_lands 35 = .ok (.if_icmp .gt 33, 3) := by decide +kernel
theorem dX4_lands_38 : decode cX4_lands 38 = .ok (.aload_n 0, 1) := by decide +kernel
theorem dX4_lands_39 : decode cX4_lands 39 = .ok (.getfield 16, 3) := by decide +kernel
theorem dX4_lands_42 : decode cX4_lands 42 = .ok (.iload_n 1, 1) := by decide +kernel
theorem dX4_lands_43 : decode cX4_lands 43 = .ok (.invokevirtual 162, 3) := by decide +kernel
theorem dX4_lands_46 : decode cX4_lands 46 = .ok (.ifCond .eq 5, 3) := by decide +kernel
theorem dX4_lands_49 : decode cX4_lands 49 = .ok (.iload_n 2, 1) := by decide +kernel
theorem dX4_lands_50 : decode cX4_lands 50 = .ok (.ireturn, 1) := by decide +kernel
theorem dX4_lands_51 : decode cX4_lands 51 = .ok (.aload_n 0, 1) := by decide +kernel
theorem dX4_lands_52 : decode cX4_lands 52 = .ok (.getfield 16, 3) := by decide +kernel
theorem dX4_lands_55 : decode cX4_lands 55 = .ok (.iconst 1, 1) := by decide +kernel
theorem dX4_lands_56 : decode cX4_lands 56 = .ok (.iconst 1, 1) := by decide +kernel
theorem dX4_lands_57 : decode cX4_lands 57 = .ok (.iload_n 1, 1) := by decide +kernel
theorem dX4_lands_58 : decode cX4_lands 58 = .ok (.ishl, 1) := by decide +kernel
theorem dX4_lands_59 : decode cX4_lands 59 = .ok (.invokevirtual 129, 3) := by decide +kernel
theorem dX4_lands_62 : decode cX4_lands 62 = .ok (.iinc 2 1, 3) := by decide +kernel
theorem dX4_lands_65 : decode cX4_lands 65 = .ok (.goto (-34), 3) := by decide +kernel
theorem dX4_lands_68 : decode cX4_lands 68 = .ok (.aload_n 0, 1) := by decide +kernel
theorem dX4_lands_69 : decode cX4_lands 69 = .ok (.ldc 165, 2) := by decide +kernel
theorem dX4_lands_71 : decode cX4_lands 71 = .ok (.invokevirtual 53, 3) := by decide +kernel
theorem dX4_lands_74 : decode cX4_lands 74 = .ok (.ireturn, 1) := by decide +kernel
set_option maxRecDepth 20000 in
theorem ggX4_closes_X4_isCell : GoodIn wsX4_closes wsX4_isCell := goodIn_r _ [8, 9, 10, 7, 11] (by decide +kernel) (by decide +kernel)
set_option maxRecDepth 20000 in
theorem gX4_closes_X4_isCell : GoodIn wsX4_closes (va_wsS RX4 67 yX4_isCell wsX4_isCell) := goodIn_app (goodIn_of _ (by decide +kernel)) ggX4_closes_X4_isCell
set_option maxRecDepth 20000 in
theorem ggX4_closes_X4_within : GoodIn wsX4_closes wsX4_within := goodIn_r _ [11] (by decide +kernel) (by decide +kernel)
set_option maxRecDepth 20000 in
theorem gX4_closes_X4_within : GoodIn wsX4_closes (va_wsS RX4 48 yX4_within wsX4_within) := goodIn_app (goodIn_of _ (by decide +kernel)) ggX4_closes_X4_within
set_option maxRecDepth 20000 in
theorem ggX4_closes_X4_finding : GoodIn wsX4_closes wsX4_finding := goodIn_r _ [15, 1, 16, 9, 10, 7, 11, 126, 127, 128, 129, 130, 131, 132] (by decide +kernel) (by decide +kernel)
set_option maxRecDepth 20000 in
theorem gX4_closes_X4_finding : GoodIn wsX4_closes (wsV RX4 53 RX4 yX4_finding wsX4_finding) := goodIn_app (goodIn_of _ (by decide +kernel)) ggX4_closes_X4_finding
set_option maxRecDepth 20000 in
theorem ggX4_closes_X0_become : GoodIn wsX4_closes wsX0_become := goodIn_r _ [21, 22, 23, 24, 25, 26, 27, 28, 29, 30, 31, 32, 33, 133, 134, 135, 136, 137, 138, 139, 140] (by decide +kernel) (by decide +kernel)
set_option maxRecDepth 20000 in
theorem gX4_closes_X0_become : GoodIn wsX4_closes (wsV RX4 158 RX0 yX0_become wsX0_become) := goodIn_app (goodIn_of _ (by decide +kernel)) ggX4_closes_X0_become
set_option maxRecDepth 20000 in
theorem ggX4_closes_X0_thickAt : GoodIn wsX4_closes wsX0_thickAt := goodIn_r _ [37, 30, 38, 39, 40, 41, 42, 43, 44, 20, 45, 46, 47, 48, 49, 28, 50, 51, 52, 53, 54, 55, 56, 57, 58, 59, 60, 61, 62, 63, 64, 65, 66, 133, 134, 135, 136, 137, 138, 139, 140] (by decide +kernel) (by decide +kernel)
set_option maxRecDepth 20000 in
theorem gX4_closes_X0_thickAt : GoodIn wsX4_closes (wsV RX4 121 RX0 yX0_thickAt wsX0_thickAt) := goodIn_app (goodIn_of _ (by decide +kernel)) ggX4_closes_X0_thickAt
set_option maxRecDepth 20000 in
theorem ggX4_closes_X0_passDays : GoodIn wsX4_closes wsX0_passDays := goodIn_r _ [70, 31, 30, 71, 32, 72, 73, 40, 74, 75, 76, 77, 20, 78, 79, 80, 81, 82, 29, 83, 7, 84, 85, 86, 87, 88, 89, 35, 36, 37, 38, 39, 41, 42, 43, 44, 45, 46, 47, 48, 49, 28, 50, 51, 52, 53, 54, 55, 56, 57, 58, 59, 60, 61, 62, 63, 64, 65, 66, 90, 91, 92, 93, 94, 95, 96, 97, 98, 99, 100, 101, 102, 103, 22, 104, 105, 106, 107, 108, 109, 110, 111, 10, 11, 112, 113, 114, 115, 116, 117, 118, 119, 120, 121, 122, 123, 124, 125, 133, 134, 135, 136, 137, 138, 139, 140] (by decide +kernel) (by decide +kernel)
set_option maxRecDepth 20000 in
theorem gX4_closes_X0_passDays : GoodIn wsX4_closes (wsV RX4 129 RX0 yX0_passDays wsX0_passDays) := goodIn_app (goodIn_of _ (by decide +kernel)) ggX4_closes_X0_passDays
theorem dX4_closes_0 : decode cX4_closes 0 = .ok (.iload_n 1, 1) := by decide +kernel
theorem dX4_closes_1 : decode cX4_closes 1 = .ok (.invokestatic 67, 3) := by decide +kernel
theorem dX4_closes_4 : decode cX4_closes 4 = .ok (.ifCond .eq 14, 3) := by decide +kernel
theorem dX4_closes_7 : decode cX4_closes 7 = .ok (.iload_n 2, 1) := by decide +kernel
theorem dX4_closes_8 : decode cX4_closes 8 = .ok (.iconst 0, 1) := by decide +kernel
theorem dX4_closes_9 : decode cX4_closes 9 = .ok (.sipush 999, 3) := by decide +kernel
theorem dX4_closes_12 : decode cX4_closes 12 = .ok (.invokestatic 48, 3) := by decide +kernel
theorem dX4_closes_15 : decode cX4_closes 15 = .ok (.ifCond .ne 10, 3) := by decide +kernel
theorem dX4_closes_18 : decode cX4_closes 18 = .ok (.aload_n 0, 1) := by decide +kernel
theorem dX4_closes_19 : decode cX4_closes 19 = .ok (.ldc 52, 2) := by decide +kernel
theorem dX4_closes_21 : decode cX4_closes 21 = .ok (.invokevirtual 53, 3) := by decide +kernel
theorem dX4_closes_24 : decode cX4_closes 24 = .ok (.ireturn, 1) := by decide +kernel
theorem dX4_closes_25 : decode cX4_closes 25 = .ok (.aload_n 0, 1) := by decide +kernel
theorem dX4_closes_26 : decode cX4_closes 26 = .ok (.getfield 16, 3) := by decide +kernel
theorem dX4_closes_29 : decode cX4_closes 29 = .ok (.aload_n 0, 1) := by decide +kernel
theorem dX4_closes_30 : decode cX4_closes 30 = .ok (.getfield 12, 3) := by decide +kernel
theorem dX4_closes_33 : decode cX4_closes 33 = .ok (.invokevirtual 158, 3) := by decide +kernel
theorem dX4_closes_36 : decode cX4_closes 36 = .ok (.iconst 0, 1) := by decide +kernel
theorem dX4_closes_37 : decode cX4_closes 37 = .ok (.istore_n 3, 1) := by decide +kernel
theorem dX4_closes_38 : decode cX4_closes 38 = .ok (.iload_n 3, 1) := by decide +kernel
theorem dX4_closes_39 : decode cX4_closes 39 = .ok (.sipush 200, 3) := by decide +kernel
theorem dX4_closes_42 : decode cX4_closes 42 = .ok (.if_icmp .gt 32, 3) := by decide +kernel
theorem dX4_closes_45 : decode cX4_closes 45 = .ok (.aload_n 0, 1) := by decide +kernel
theorem dX4_closes_46 : decode cX4_closes 46 = .ok (.getfield 16, 3) := by decide +kernel
theorem dX4_closes_49 : decode cX4_closes 49 = .ok (.iload_n 1, 1) := by decide +kernel
theorem dX4_closes_50 : decode cX4_closes 50 = .ok (.invokevirtual 121, 3) := by decide +kernel
theorem dX4_closes_53 : decode cX4_closes 53 = .ok (.iload_n 2, 1) := by decide +kernel
theorem dX4_closes_54 : decode cX4_closes 54 = .ok (.if_icmp .lt 5, 3) := by decide +kernel
theorem dX4_closes_57 : decode cX4_closes 57 = .ok (.iload_n 3, 1) := by decide +kernel
theorem dX4_closes_58 : decode cX4_closes 58 = .ok (.ireturn, 1) := by decide +kernel
theorem dX4_closes_59 : decode cX4_closes 59 = .ok (.aload_n 0, 1) := by decide +kernel
theorem dX4_closes_60 : decode cX4_closes 60 = .ok (.getfield 16, 3) := by decide +kernel
theorem dX4_closes_63 : decode cX4_closes 63 = .ok (.iconst 1, 1) := by decide +kernel
theorem dX4_closes_64 : decode cX4_closes 64 = .ok (.iconst 0, 1) := by decide +kernel
theorem dX4_closes_65 : decode cX4_closes 65 = .ok (.invokevirtual 129, 3) := by decide +kernel
theorem dX4_closes_68 : decode cX4_closes 68 = .ok (.iinc 3 1, 3) := by decide +kernel
theorem dX4_closes_71 : decode cX4_closes 71 = .ok (.goto (-33), 3) := by decide +kernel
theorem dX4_closes_74 : decode cX4_closes 74 = .ok (.aload_n 0, 1) := by decide +kernel
theorem dX4_closes_75 : decode cX4_closes 75 = .ok (.ldc 165, 2) := by decide +kernel
theorem dX4_closes_77 : decode cX4_closes 77 = .ok (.invokevirtual 53, 3) := by decide +kernel
theorem dX4_closes_80 : decode cX4_closes 80 = .ok (.ireturn, 1) := by decide +kernel
set_option maxRecDepth 20000 in
theorem ggX4_settled_X0_become : GoodIn wsX4_settled wsX0_become := goodIn_r _ [8, 9, 10, 11, 12, 13, 14, 15, 16, 17, 18, 19, 20, 140, 141, 142, 143, 144, 145, 146, 147] (by decide +kernel) (by decide +kernel)
set_option maxRecDepth 20000 in
theorem gX4_settled_X0_become : GoodIn wsX4_settled (wsV RX4 158 RX0 yX0_become wsX0_become) := goodIn_app (goodIn_of _ (by decide +kernel)) ggX4_settled_X0_become
set_option maxRecDepth 20000 in
theorem ggX4_settled_X0_finishedSayings : GoodIn wsX4_settled wsX0_finishedSayings := goodIn_r _ [24, 17, 25, 26, 27, 7, 28, 29, 30, 31, 32, 15, 140, 141, 142, 143, 144, 145, 146, 147] (by decide +kernel) (by decide +kernel)
set_option maxRecDepth 20000 in
theorem gX4_settled_X0_finishedSayings : GoodIn wsX4_settled (wsV RX4 136 RX0 yX0_finishedSayings wsX0_finishedSayings) := goodIn_app (goodIn_of _ (by decide +kernel)) ggX4_settled_X0_finishedSayings
set_option maxRecDepth 20000 in
theorem ggX4_settled_J6_bitCount_0f7a4 : GoodIn wsX4_settled wsJ6_bitCount_0f7a4 := goodIn_r _ [36, 37, 38, 39] (by decide +kernel) (by decide +kernel)
set_option maxRecDepth 20000 in
theorem gX4_settled_J6_bitCount_0f7a4 : GoodIn wsX4_settled (va_wsS RX4 166 yJ6_bitCount_0f7a4 wsJ6_bitCount_0f7a4) := goodIn_app (goodIn_of _ (by decide +kernel)) ggX4_settled_J6_bitCount_0f7a4
set_option maxRecDepth 20000 in
theorem ggX4_settled_X0_passDays : GoodIn wsX4_settled wsX0_passDays := goodIn_r _ [43, 18, 17, 44, 19, 45, 46, 47, 48, 49, 50, 51, 7, 52, 53, 54, 55, 56, 16, 57, 58, 59, 60, 61, 62, 63, 64, 65, 66, 67, 68, 69, 70, 25, 26, 27, 28, 29, 30, 31, 32, 15, 71, 72, 73, 74, 75, 76, 77, 78, 79, 80, 81, 82, 83, 84, 85, 86, 87, 88, 89, 90, 91, 92, 93, 94, 95, 96, 97, 98, 99, 100, 101, 9, 102, 103, 104, 105, 106, 107, 108, 109, 110, 111, 112, 113, 114, 115, 116, 117, 118, 119, 120, 121, 122, 123, 124, 125, 140, 141, 142, 143, 144, 145, 146, 147] (by decide +kernel) (by decide +kernel)
set_option maxRecDepth 20000 in
theorem gX4_settled_X0_passDays : GoodIn wsX4_settled (wsV RX4 129 RX0 yX0_passDays wsX0_passDays) := goodIn_app (goodIn_of _ (by decide +kernel)) ggX4_settled_X0_passDays
set_option maxRecDepth 20000 in
theorem ggX4_settled_X4_finding : GoodIn wsX4_settled wsX4_finding := goodIn_r _ [129, 130, 131, 132, 110, 58, 111, 133, 134, 135, 136, 137, 138, 139] (by decide +kernel) (by decide +kernel)
set_option maxRecDepth 20000 in
theorem gX4_settled_X4_finding : GoodIn wsX4_settled (wsV RX4 53 RX4 yX4_finding wsX4_finding) := goodIn_app (goodIn_of _ (by decide +kernel)) ggX4_settled_X4_finding
theorem dX4_settled_0 : decode cX4_settled 0 = .ok (.aload_n 0, 1) := by decide +kernel
theorem dX4_settled_1 : decode cX4_settled 1 = .ok (.getfield 16, 3) := by decide +kernel
theorem dX4_settled_4 : decode cX4_settled 4 = .ok (.aload_n 0, 1) := by decide +kernel
theorem dX4_settled_5 : decode cX4_settled 5 = .ok (.getfield 12, 3) := by decide +kernel
theorem dX4_settled_8 : decode cX4_settled 8 = .ok (.invokevirtual 158, 3) := by decide +kernel
theorem dX4_settled_11 : decode cX4_settled 11 = .ok (.iconst 0, 1) := by decide +kernel
theorem dX4_settled_12 : decode cX4_settled 12 = .ok (.istore_n 1, 1) := by decide +kernel
theorem dX4_settled_13 : decode cX4_settled 13 = .ok (.iload_n 1, 1) := by decide +kernel
theorem dX4_settled_14 : decode cX4_settled 14 = .ok (.sipush 200, 3) := by decide +kernel
theorem dX4_settled_17 : decode cX4_settled 17 = .ok (.if_icmp .gt 40, 3) := by decide +kernel
theorem dX4_settled_20 : decode cX4_settled 20 = .ok (.aload_n 0, 1) := by decide +kernel
theorem dX4_settled_21 : decode cX4_settled 21 = .ok (.getfield 16, 3) := by decide +kernel
theorem dX4_settled_24 : decode cX4_settled 24 = .ok (.invokevirtual 136, 3) := by decide +kernel
theorem dX4_settled_27 : decode cX4_settled 27 = .ok (.invokestatic 166, 3) := by decide +kernel
theorem dX4_settled_30 : decode cX4_settled 30 = .ok (.aload_n 0, 1) := by decide +kernel
theorem dX4_settled_31 : decode cX4_settled 31 = .ok (.getfield 16, 3) := by decide +kernel
theorem dX4_settled_34 : decode cX4_settled 34 = .ok (.getfield 70, 3) := by decide +kernel
theorem dX4_settled_37 : decode cX4_settled 37 = .ok (.if_icmp .ne 5, 3) := by decide +kernel
theorem dX4_settled_40 : decode cX4_settled 40 = .ok (.iload_n 1, 1) := by decide +kernel
theorem dX4_settled_41 : decode cX4_settled 41 = .ok (.ireturn, 1) := by decide +kernel
theorem dX4_settled_42 : decode cX4_settled 42 = .ok (.aload_n 0, 1) := by decide +kernel
theorem dX4_settled_43 : decode cX4_settled 43 = .ok (.getfield 16, 3) := by decide +kernel
theorem dX4_settled_46 : decode cX4_settled 46 = .ok (.iconst 1, 1) := by decide +kernel
theorem dX4_settled_47 : decode cX4_settled 47 = .ok (.iconst 0, 1) := by decide +kernel
theorem dX4_settled_48 : decode cX4_settled 48 = .ok (.invokevirtual 129, 3) := by decide +kernel
theorem dX4_settled_51 : decode cX4_settled 51 = .ok (.iinc 1 1, 3) := by decide +kernel
theorem dX4_settled_54 : decode cX4_settled 54 = .ok (.goto (-41), 3) := by decide +kernel
theorem dX4_settled_57 : decode cX4_settled 57 = .ok (.aload_n 0, 1) := by decide +kernel
theorem dX4_settled_58 : decode cX4_settled 58 = .ok (.ldc 165, 2) := by decide +kernel
theorem dX4_settled_60 : decode cX4_settled 60 = .ok (.invokevirtual 53, 3) := by decide +kernel
theorem dX4_settled_63 : decode cX4_settled 63 = .ok (.ireturn, 1) := by decide +kernel
set_option maxRecDepth 20000 in
theorem ggX4_finishFor_X4_isPlace : GoodIn wsX4_finishFor wsX4_isPlace := goodIn_r _ [8, 9, 10, 7, 11] (by decide +kernel) (by decide +kernel)
set_option maxRecDepth 20000 in
theorem gX4_finishFor_X4_isPlace : GoodIn wsX4_finishFor (va_wsS RX4 44 yX4_isPlace wsX4_isPlace) := goodIn_app (goodIn_of _ (by decide +kernel)) ggX4_finishFor_X4_isPlace
set_option maxRecDepth 20000 in
theorem ggX4_finishFor_X4_within : GoodIn wsX4_finishFor wsX4_within := goodIn_r _ [11] (by decide +kernel) (by decide +kernel)
set_option maxRecDepth 20000 in
theorem gX4_finishFor_X4_within : GoodIn wsX4_finishFor (va_wsS RX4 48 yX4_within wsX4_within) := goodIn_app (goodIn_of _ (by decide +kernel)) ggX4_finishFor_X4_within
set_option maxRecDepth 20000 in
theorem ggX4_finishFor_X4_finding : GoodIn wsX4_finishFor wsX4_finding := goodIn_r _ [15, 1, 16, 9, 10, 7, 11, 133, 134, 135, 136, 137, 138, 139] (by decide +kernel) (by decide +kernel)
set_option maxRecDepth 20000 in
theorem gX4_finishFor_X4_finding : GoodIn wsX4_finishFor (wsV RX4 53 RX4 yX4_finding wsX4_finding) := goodIn_app (goodIn_of _ (by decide +kernel)) ggX4_finishFor_X4_finding
set_option maxRecDepth 20000 in
theorem ggX4_finishFor_X0_become : GoodIn wsX4_finishFor wsX0_become := goodIn_r _ [21, 22, 23, 24, 25, 26, 27, 28, 29, 30, 31, 32, 33, 140, 141, 142, 143, 144, 145, 146, 147] (by decide +kernel) (by decide +kernel)
set_option maxRecDepth 20000 in
theorem gX4_finishFor_X0_become : GoodIn wsX4_finishFor (wsV RX4 158 RX0 yX0_become wsX0_become) := goodIn_app (goodIn_of _ (by decide +kernel)) ggX4_finishFor_X0_become
set_option maxRecDepth 20000 in
theorem ggX4_finishFor_X0_setPlace : GoodIn wsX4_finishFor wsX0_setPlace := goodIn_r _ [37, 22, 38, 7, 39, 140, 141, 142, 143, 144, 145, 146, 147] (by decide +kernel) (by decide +kernel)
set_option maxRecDepth 20000 in
theorem gX4_finishFor_X0_setPlace : GoodIn wsX4_finishFor (wsV RX4 60 RX0 yX0_setPlace wsX0_setPlace) := goodIn_app (goodIn_of _ (by decide +kernel)) ggX4_finishFor_X0_setPlace
set_option maxRecDepth 20000 in
theorem ggX4_finishFor_X0_passDays : GoodIn wsX4_finishFor wsX0_passDays := goodIn_r _ [43, 31, 30, 44, 32, 45, 46, 47, 48, 49, 50, 51, 20, 52, 53, 54, 55, 56, 29, 57, 7, 58, 59, 60, 61, 62, 63, 64, 65, 66, 67, 68, 69, 70, 71, 72, 73, 74, 75, 76, 77, 28, 78, 79, 80, 81, 82, 83, 84, 85, 86, 87, 88, 89, 90, 91, 92, 93, 94, 95, 96, 97, 98, 38, 39, 99, 100, 101, 102, 103, 104, 105, 106, 22, 107, 108, 109, 110, 111, 112, 113, 114, 10, 11, 115, 116, 117, 118, 119, 120, 121, 122, 123, 124, 125, 126, 127, 128, 140, 141, 142, 143, 144, 145, 146, 147] (by decide +kernel) (by decide +kernel)
set_option maxRecDepth 20000 in
theorem gX4_finishFor_X0_passDays : GoodIn wsX4_finishFor (wsV RX4 129 RX0 yX0_passDays wsX0_passDays) := goodIn_app (goodIn_of _ (by decide +kernel)) ggX4_finishFor_X0_passDays
set_option maxRecDepth 20000 in
theorem ggX4_finishFor_X0_waitedTogether : GoodIn wsX4_finishFor wsX0_waitedTogether := goodIn_r _ [132, 31, 53, 54, 55, 20, 56, 29, 57, 7, 58, 140, 141, 142, 143, 144, 145, 146, 147] (by decide +kernel) (by decide +kernel)
set_option maxRecDepth 20000 in
theorem gX4_finishFor_X0_waitedTogether : GoodIn wsX4_finishFor (wsV RX4 142 RX0 yX0_waitedTogether wsX0_waitedTogether) := goodIn_app (goodIn_of _ (by decide +kernel)) ggX4_finishFor_X0_waitedTogether
theorem dX4_finishFor_0 : decode cX4_finishFor 0 = .ok (.iload_n 1, 1) := by decide +kernel
theorem dX4_finishFor_1 : decode cX4_finishFor 1 = .ok (.invokestatic 44, 3) := by decide +kernel
theorem dX4_finishFor_4 : decode cX4_finishFor 4 = .ok (.ifCond .eq 13, 3) := by decide +kernel
theorem dX4_finishFor_7 : decode cX4_finishFor 7 = .ok (.iload_n 2, 1) := by decide +kernel
theorem dX4_finishFor_8 : decode cX4_finishFor 8 = .ok (.iconst 0, 1) := by decide +kernel
theorem dX4_finishFor_9 : decode cX4_finishFor 9 = .ok (.bipush 40, 2) := by decide +kernel
theorem dX4_finishFor_11 : decode cX4_finishFor 11 = .ok (.invokestatic 48, 3) := by decide +kernel
theorem dX4_finishFor_14 : decode cX4_finishFor 14 = .ok (.ifCond .ne 10, 3) := by decide +kernel
theorem dX4_finishFor_17 : decode cX4_finishFor 17 = .ok (.aload_n 0, 1) := by decide +kernel
theorem dX4_finishFor_18 : decode cX4_finishFor 18 = .ok (.ldc 52, 2) := by decide +kernel
theorem dX4_finishFor_20 : decode cX4_finishFor 20 = .ok (.invokevirtual 53, 3) := by decide +kernel
theorem dX4_finishFor_23 : decode cX4_finishFor 23 = .ok (.ireturn, 1) := by decide +kernel
theorem dX4_finishFor_24 : decode cX4_finishFor 24 = .ok (.bipush 8, 2) := by decide +kernel
theorem dX4_finishFor_26 : decode cX4_finishFor 26 = .ok (.istore_n 3, 1) := by decide +kernel
theorem dX4_finishFor_27 : decode cX4_finishFor 27 = .ok (.ldc 171, 2) := by decide +kernel
theorem dX4_finishFor_29 : decode cX4_finishFor 29 = .ok (.istore 4, 2) := by decide +kernel
theorem dX4_finishFor_31 : decode cX4_finishFor 31 = .ok (.iconst 0, 1) := by decide +kernel
theorem dX4_finishFor_32 : decode cX4_finishFor 32 = .ok (.istore 5, 2) := by decide +kernel
theorem dX4_finishFor_34 : decode cX4_finishFor 34 = .ok (.iload 5, 2) := by decide +kernel
theorem dX4_finishFor_36 : decode cX4_finishFor 36 = .ok (.bipush 8, 2) := by decide +kernel
theorem dX4_finishFor_38 : decode cX4_finishFor 38 = .ok (.if_icmp .gt 63, 3) := by decide +kernel
theorem dX4_finishFor_41 : decode cX4_finishFor 41 = .ok (.aload_n 0, 1) := by decide +kernel
theorem dX4_finishFor_42 : decode cX4_finishFor 42 = .ok (.getfield 16, 3) := by decide +kernel
theorem dX4_finishFor_45 : decode cX4_finishFor 45 = .ok (.aload_n 0, 1) := by decide +kernel
theorem dX4_finishFor_46 : decode cX4_finishFor 46 = .ok (.getfield 12, 3) := by decide +kernel
theorem dX4_finishFor_49 : decode cX4_finishFor 49 = .ok (.invokevirtual 158, 3) := by decide +kernel
theorem dX4_finishFor_52 : decode cX4_finishFor 52 = .ok (.aload_n 0, 1) := by decide +kernel
theorem dX4_finishFor_53 : decode cX4_finishFor 53 = .ok (.getfield 16, 3) := by decide +kernel
theorem dX4_finishFor_56 : decode cX4_finishFor 56 = .ok (.iload_n 1, 1) := by decide +kernel
theorem dX4_finishFor_57 : decode cX4_finishFor 57 = .ok (.iload 5, 2) := by decide +kernel
theorem dX4_finishFor_59 : decode cX4_finishFor 59 = .ok (.invokevirtual 60, 3) := by decide +kernel
theorem dX4_finishFor_62 : decode cX4_finishFor 62 = .ok (.aload_n 0, 1) := by decide +kernel
theorem dX4_finishFor_63 : decode cX4_finishFor 63 = .ok (.getfield 16, 3) := by decide +kernel
theorem dX4_finishFor_66 : decode cX4_finishFor 66 = .ok (.iload_n 2, 1) := by decide +kernel
theorem dX4_finishFor_67 : decode cX4_finishFor 67 = .ok (.bipush 63, 2) := by decide +kernel
theorem dX4_finishFor_69 : decode cX4_finishFor 69 = .ok (.invokevirtual 129, 3) := by decide +kernel
theorem dX4_finishFor_72 : decode cX4_finishFor 72 = .ok (.aload_n 0, 1) := by decide +kernel
theorem dX4_finishFor_73 : decode cX4_finishFor 73 = .ok (.getfield 16, 3) := by decide +kernel
theorem dX4_finishFor_76 : decode cX4_finishFor 76 = .ok (.invokevirtual 142, 3) := by decide +kernel
theorem dX4_finishFor_79 : decode cX4_finishFor 79 = .ok (.istore 6, 2) := by decide +kernel
theorem dX4_finishFor_81 : decode cX4_finishFor 81 = .ok (.iload 6, 2) := by decide +kernel
theorem dX4_finishFor_83 : decode cX4_finishFor 83 = .ok (.iload 4, 2) := by decide +kernel
theorem dX4_finishFor_85 : decode cX4_finishFor 85 = .ok (.if_icmp .ge 10, 3) := by decide +kernel
theorem dX4_finishFor_88 : decode cX4_finishFor 88 = .ok (.iload 6, 2) := by decide +kernel
theorem dX4_finishFor_90 : decode cX4_finishFor 90 = .ok (.istore 4, 2) := by decide +kernel
theorem dX4_finishFor_92 : decode cX4_finishFor 92 = .ok (.iload 5, 2) := by decide +kernel
theorem dX4_finishFor_94 : decode cX4_finishFor 94 = .ok (.istore_n 3, 1) := by decide +kernel
theorem dX4_finishFor_95 : decode cX4_finishFor 95 = .ok (.iinc 5 1, 3) := by decide +kernel
theorem dX4_finishFor_98 : decode cX4_finishFor 98 = .ok (.goto (-64), 3) := by decide +kernel
theorem dX4_finishFor_101 : decode cX4_finishFor 101 = .ok (.iload_n 3, 1) := by decide +kernel
theorem dX4_finishFor_102 : decode cX4_finishFor 102 = .ok (.ireturn, 1) := by decide +kernel
set_option maxRecDepth 20000 in
theorem ggX4_kindFor_X0_hasSaying : GoodIn wsX4_kindFor wsX0_hasSaying := goodIn_r _ [9, 10, 11, 12, 13, 135, 136, 137, 138, 139, 140, 141, 142] (by decide +kernel) (by decide +kernel)
set_option maxRecDepth 20000 in
theorem gX4_kindFor_X0_hasSaying : GoodIn wsX4_kindFor (wsV RX4 85 RX0 yX0_hasSaying wsX0_hasSaying) := goodIn_app (goodIn_of _ (by decide +kernel)) ggX4_kindFor_X0_hasSaying
set_option maxRecDepth 20000 in
theorem ggX4_kindFor_X4_within : GoodIn wsX4_kindFor wsX4_within := goodIn_r _ [13] (by decide +kernel) (by decide +kernel)
set_option maxRecDepth 20000 in
theorem gX4_kindFor_X4_within : GoodIn wsX4_kindFor (va_wsS RX4 48 yX4_within wsX4_within) := goodIn_app (goodIn_of _ (by decide +kernel)) ggX4_kindFor_X4_within
set_option maxRecDepth 20000 in
theorem ggX4_kindFor_X4_finding : GoodIn wsX4_kindFor wsX4_finding := goodIn_r _ [18, 2, 19, 14, 11, 12, 13, 128, 129, 130, 131, 132, 133, 134] (by decide +kernel) (by decide +kernel)
set_option maxRecDepth 20000 in
theorem gX4_kindFor_X4_finding : GoodIn wsX4_kindFor (wsV RX4 53 RX4 yX4_finding wsX4_finding) := goodIn_app (goodIn_of _ (by decide +kernel)) ggX4_kindFor_X4_finding
set_option maxRecDepth 20000 in
theorem ggX4_kindFor_X0_become : GoodIn wsX4_kindFor wsX0_become := goodIn_r _ [23, 24, 25, 26, 27, 28, 29, 30, 31, 10, 32, 33, 34, 135, 136, 137, 138, 139, 140, 141, 142] (by decide +kernel) (by decide +kernel)
set_option maxRecDepth 20000 in
theorem gX4_kindFor_X0_become : GoodIn wsX4_kindFor (wsV RX4 158 RX0 yX0_become wsX0_become) := goodIn_app (goodIn_of _ (by decide +kernel)) ggX4_kindFor_X0_become
set_option maxRecDepth 20000 in
theorem ggX4_kindFor_X0_setOfSaying : GoodIn wsX4_kindFor wsX0_setOfSaying := goodIn_r _ [38, 30, 39, 12, 40, 135, 136, 137, 138, 139, 140, 141, 142] (by decide +kernel) (by decide +kernel)
set_option maxRecDepth 20000 in
theorem gX4_kindFor_X0_setOfSaying : GoodIn wsX4_kindFor (wsV RX4 102 RX0 yX0_setOfSaying wsX0_setOfSaying) := goodIn_app (goodIn_of _ (by decide +kernel)) ggX4_kindFor_X0_setOfSaying
set_option maxRecDepth 20000 in
theorem ggX4_kindFor_X0_passDays : GoodIn wsX4_kindFor wsX0_passDays := goodIn_r _ [44, 32, 10, 45, 33, 46, 47, 48, 49, 50, 51, 52, 8, 53, 54, 55, 56, 57, 31, 58, 12, 59, 60, 61, 62, 63, 64, 65, 66, 67, 68, 69, 70, 71, 72, 73, 74, 75, 76, 77, 78, 30, 79, 80, 81, 82, 83, 84, 85, 86, 87, 88, 89, 90, 91, 92, 93, 94, 95, 96, 97, 98, 99, 39, 40, 100, 101, 102, 103, 104, 105, 106, 107, 24, 108, 109, 110, 111, 112, 6, 7, 9, 11, 13, 113, 114, 115, 116, 36, 37, 38, 117, 118, 119, 120, 121, 122, 123, 135, 136, 137, 138, 139, 140, 141, 142] (by decide +kernel) (by decide +kernel)
set_option maxRecDepth 20000 in
theorem gX4_kindFor_X0_passDays : GoodIn wsX4_kindFor (wsV RX4 129 RX0 yX0_passDays wsX0_passDays) := goodIn_app (goodIn_of _ (by decide +kernel)) ggX4_kindFor_X0_passDays
set_option maxRecDepth 20000 in
theorem ggX4_kindFor_X0_waitedTogether : GoodIn wsX4_kindFor wsX0_waitedTogether := goodIn_r _ [127, 32, 54, 55, 56, 8, 57, 31, 58, 12, 59, 135, 136, 137, 138, 139, 140, 141, 142] (by decide +kernel) (by decide +kernel)
set_option maxRecDepth 20000 in
theorem gX4_kindFor_X0_waitedTogether : GoodIn wsX4_kindFor (wsV RX4 142 RX0 yX0_waitedTogether wsX0_waitedTogether) := goodIn_app (goodIn_of _ (by decide +kernel)) ggX4_kindFor_X0_waitedTogether
theorem dX4_kindFor_0 : decode cX4_kindFor 0 = .ok (.aload_n 0, 1) := by decide +kernel
theorem dX4_kindFor_1 : decode cX4_kindFor 1 = .ok (.getfield 12, 3) := by decide +kernel
theorem dX4_kindFor_4 : decode cX4_kindFor 4 = .ok (.iload_n 1, 1) := by decide +kernel
theorem dX4_kindFor_5 : decode cX4_kindFor 5 = .ok (.invokevirtual 85, 3) := by decide +kernel
theorem dX4_kindFor_8 : decode cX4_kindFor 8 = .ok (.ifCond .eq 13, 3) := by decide +kernel
theorem dX4_kindFor_11 : decode cX4_kindFor 11 = .ok (.iload_n 2, 1) := by decide +kernel
theorem dX4_kindFor_12 : decode cX4_kindFor 12 = .ok (.iconst 0, 1) := by decide +kernel
theorem dX4_kindFor_13 : decode cX4_kindFor 13 = .ok (.bipush 40, 2) := by decide +kernel
theorem dX4_kindFor_15 : decode cX4_kindFor 15 = .ok (.invokestatic 48, 3) := by decide +kernel
theorem dX4_kindFor_18 : decode cX4_kindFor 18 = .ok (.ifCond .ne 10, 3) := by decide +kernel
theorem dX4_kindFor_21 : decode cX4_kindFor 21 = .ok (.aload_n 0, 1) := by decide +kernel
theorem dX4_kindFor_22 : decode cX4_kindFor 22 = .ok (.ldc 52, 2) := by decide +kernel
theorem dX4_kindFor_24 : decode cX4_kindFor 24 = .ok (.invokevirtual 53, 3) := by decide +kernel
theorem dX4_kindFor_27 : decode cX4_kindFor 27 = .ok (.ireturn, 1) := by decide +kernel
theorem dX4_kindFor_28 : decode cX4_kindFor 28 = .ok (.iconst 0, 1) := by decide +kernel
theorem dX4_kindFor_29 : decode cX4_kindFor 29 = .ok (.istore_n 3, 1) := by decide +kernel
theorem dX4_kindFor_30 : decode cX4_kindFor 30 = .ok (.ldc 171, 2) := by decide +kernel
theorem dX4_kindFor_32 : decode cX4_kindFor 32 = .ok (.istore 4, 2) := by decide +kernel
theorem dX4_kindFor_34 : decode cX4_kindFor 34 = .ok (.iconst 0, 1) := by decide +kernel
theorem dX4_kindFor_35 : decode cX4_kindFor 35 = .ok (.istore 5, 2) := by decide +kernel
theorem dX4_kindFor_37 : decode cX4_kindFor 37 = .ok (.iload 5, 2) := by decide +kernel
theorem dX4_kindFor_39 : decode cX4_kindFor 39 = .ok (.bipush 7, 2) := by decide +kernel
theorem dX4_kindFor_41 : decode cX4_kindFor 41 = .ok (.if_icmp .ge 64, 3) := by decide +kernel
theorem dX4_kindFor_44 : decode cX4_kindFor 44 = .ok (.aload_n 0, 1) := by decide +kernel
theorem dX4_kindFor_45 : decode cX4_kindFor 45 = .ok (.getfield 16, 3) := by decide +kernel
theorem dX4_kindFor_48 : decode cX4_kindFor 48 = .ok (.aload_n 0, 1) := by decide +kernel
theorem dX4_kindFor_49 : decode cX4_kindFor 49 = .ok (.getfield 12, 3) := by decide +kernel
theorem dX4_kindFor_52 : decode cX4_kindFor 52 = .ok (.invokevirtual 158, 3) := by decide +kernel
theorem dX4_kindFor_55 : decode cX4_kindFor 55 = .ok (.aload_n 0, 1) := by decide +kernel
theorem dX4_kindFor_56 : decode cX4_kindFor 56 = .ok (.getfield 16, 3) := by decide +kernel
theorem dX4_kindFor_59 : decode cX4_kindFor 59 = .ok (.iload_n 1, 1) := by decide +kernel
theorem dX4_kindFor_60 : decode cX4_kindFor 60 = .ok (.iconst 0, 1) := by decide +kernel
theorem dX4_kindFor_61 : decode cX4_kindFor 61 = .ok (.iload 5, 2) := by decide +kernel
theorem dX4_kindFor_63 : decode cX4_kindFor 63 = .ok (.invokevirtual 102, 3) := by decide +kernel
theorem dX4_kindFor_66 : decode cX4_kindFor 66 = .ok (.aload_n 0, 1) := by decide +kernel
theorem dX4_kindFor_67 : decode cX4_kindFor 67 = .ok (.getfield 16, 3) := by decide +kernel
theorem dX4_kindFor_70 : decode cX4_kindFor 70 = .ok (.iload_n 2, 1) := by decide +kernel
theorem dX4_kindFor_71 : decode cX4_kindFor 71 = .ok (.bipush 63, 2) := by decide +kernel
theorem dX4_kindFor_73 : decode cX4_kindFor 73 = .ok (.invokevirtual 129, 3) := by decide +kernel
theorem dX4_kindFor_76 : decode cX4_kindFor 76 = .ok (.aload_n 0, 1) := by decide +kernel
theorem dX4_kindFor_77 : decode cX4_kindFor 77 = .ok (.getfield 16, 3) := by decide +kernel
theorem dX4_kindFor_80 : decode cX4_kindFor 80 = .ok (.invokevirtual 142, 3) := by decide +kernel
theorem dX4_kindFor_83 : decode cX4_kindFor 83 = .ok (.istore 6, 2) := by decide +kernel
theorem dX4_kindFor_85 : decode cX4_kindFor 85 = .ok (.iload 6, 2) := by decide +kernel
theorem dX4_kindFor_87 : decode cX4_kindFor 87 = .ok (.iload 4, 2) := by decide +kernel
theorem dX4_kindFor_89 : decode cX4_kindFor 89 = .ok (.if_icmp .ge 10, 3) := by decide +kernel
theorem dX4_kindFor_92 : decode cX4_kindFor 92 = .ok (.iload 6, 2) := by decide +kernel
theorem dX4_kindFor_94 : decode cX4_kindFor 94 = .ok (.istore 4, 2) := by decide +kernel
theorem dX4_kindFor_96 : decode cX4_kindFor 96 = .ok (.iload 5, 2) := by decide +kernel
theorem dX4_kindFor_98 : decode cX4_kindFor 98 = .ok (.istore_n 3, 1) := by decide +kernel
theorem dX4_kindFor_99 : decode cX4_kindFor 99 = .ok (.iinc 5 1, 3) := by decide +kernel
theorem dX4_kindFor_102 : decode cX4_kindFor 102 = .ok (.goto (-65), 3) := by decide +kernel
theorem dX4_kindFor_105 : decode cX4_kindFor 105 = .ok (.iload_n 3, 1) := by decide +kernel
theorem dX4_kindFor_106 : decode cX4_kindFor 106 = .ok (.ireturn, 1) := by decide +kernel
set_option maxRecDepth 20000 in
theorem ggX4_eyesFor_X4_leastToLand : GoodIn wsX4_eyesFor wsX4_leastToLand := goodIn_r _ [5, 6, 7, 8, 9, 10, 11, 12, 13, 14, 15, 16, 17, 18, 4, 19, 20, 21, 22, 23, 24, 25, 26, 27, 28, 29, 30, 31, 32, 33, 34, 35, 36, 37, 38, 39, 40, 41, 42, 43, 44, 45, 46, 47, 48, 49, 50, 51, 52, 53, 54, 55, 56, 57, 58, 59, 60, 61, 62, 63, 64, 65, 66, 67, 68, 69, 70, 71, 72, 73, 74, 75, 76, 77, 78, 79, 80, 81, 82, 83, 84, 85, 86, 87, 88, 89, 90, 91, 92, 93, 94, 95, 96, 97, 98, 99, 100, 101, 102, 103, 104, 105, 106, 107, 108, 109, 110, 111, 112, 113, 114, 115, 116, 117, 118, 119, 120, 121, 122, 123, 124, 125, 126, 127, 128, 129, 130, 131, 132, 133, 134, 135, 136, 137, 138, 139, 140, 141, 142, 143, 144, 145, 146, 147, 148, 149] (by decide +kernel) (by decide +kernel)
set_option maxRecDepth 20000 in
theorem gX4_eyesFor_X4_leastToLand : GoodIn wsX4_eyesFor (wsV RX4 172 RX4 yX4_leastToLand wsX4_leastToLand) := goodIn_app (goodIn_of _ (by decide +kernel)) ggX4_eyesFor_X4_leastToLand
theorem dX4_eyesFor_0 : decode cX4_eyesFor 0 = .ok (.aload_n 0, 1) := by decide +kernel
theorem dX4_eyesFor_1 : decode cX4_eyesFor 1 = .ok (.iload_n 1, 1) := by decide +kernel
theorem dX4_eyesFor_2 : decode cX4_eyesFor 2 = .ok (.iload_n 2, 1) := by decide +kernel
theorem dX4_eyesFor_3 : decode cX4_eyesFor 3 = .ok (.iconst 1, 1) := by decide +kernel
theorem dX4_eyesFor_4 : decode cX4_eyesFor 4 = .ok (.invokevirtual 172, 3) := by decide +kernel
theorem dX4_eyesFor_7 : decode cX4_eyesFor 7 = .ok (.ireturn, 1) := by decide +kernel
set_option maxRecDepth 20000 in
theorem ggX4_speedFor_X4_leastToLand : GoodIn wsX4_speedFor wsX4_leastToLand := goodIn_r _ [5, 6, 7, 8, 9, 10, 11, 12, 13, 14, 15, 16, 17, 18, 4, 19, 20, 21, 22, 23, 24, 25, 26, 27, 28, 29, 30, 31, 32, 33, 34, 35, 36, 37, 38, 39, 40, 41, 42, 43, 44, 45, 46, 47, 48, 49, 50, 51, 52, 53, 54, 55, 56, 57, 58, 59, 60, 61, 62, 63, 64, 65, 66, 67, 68, 69, 70, 71, 72, 73, 74, 75, 76, 77, 78, 79, 80, 81, 82, 83, 84, 85, 86, 87, 88, 89, 90, 91, 92, 93, 94, 95, 96, 97, 98, 99, 100, 101, 102, 103, 104, 105, 106, 107, 108, 109, 110, 111, 112, 113, 114, 115, 116, 117, 118, 119, 120, 121, 122, 123, 124, 125, 126, 127, 128, 129, 130, 131, 132, 133, 134, 135, 136, 137, 138, 139, 140, 141, 142, 143, 144, 145, 146, 147, 148, 149] (by decide +kernel) (by decide +kernel)
set_option maxRecDepth 20000 in
theorem gX4_speedFor_X4_leastToLand : GoodIn wsX4_speedFor (wsV RX4 172 RX4 yX4_leastToLand wsX4_leastToLand) := goodIn_app (goodIn_of _ (by decide +kernel)) ggX4_speedFor_X4_leastToLand
theorem dX4_speedFor_0 : decode cX4_speedFor 0 = .ok (.aload_n 0, 1) := by decide +kernel
theorem dX4_speedFor_1 : decode cX4_speedFor 1 = .ok (.iload_n 1, 1) := by decide +kernel
theorem dX4_speedFor_2 : decode cX4_speedFor 2 = .ok (.iload_n 2, 1) := by decide +kernel
theorem dX4_speedFor_3 : decode cX4_speedFor 3 = .ok (.iconst 2, 1) := by decide +kernel
theorem dX4_speedFor_4 : decode cX4_speedFor 4 = .ok (.invokevirtual 172, 3) := by decide +kernel
theorem dX4_speedFor_7 : decode cX4_speedFor 7 = .ok (.ireturn, 1) := by decide +kernel
set_option maxRecDepth 20000 in
theorem ggX4_decide_X4_within : GoodIn wsX4_decide wsX4_within := goodIn_r _ [7] (by decide +kernel) (by decide +kernel)
set_option maxRecDepth 20000 in
theorem gX4_decide_X4_within : GoodIn wsX4_decide (va_wsS RX4 48 yX4_within wsX4_within) := goodIn_app (goodIn_of _ (by decide +kernel)) ggX4_decide_X4_within
set_option maxRecDepth 20000 in
theorem ggX4_decide_X4_finding : GoodIn wsX4_decide wsX4_finding := goodIn_r _ [11, 1, 12, 4, 5, 6, 7, 142, 143, 144, 145, 146, 147, 148] (by decide +kernel) (by decide +kernel)
set_option maxRecDepth 20000 in
theorem gX4_decide_X4_finding : GoodIn wsX4_decide (wsV RX4 53 RX4 yX4_finding wsX4_finding) := goodIn_app (goodIn_of _ (by decide +kernel)) ggX4_decide_X4_finding
set_option maxRecDepth 20000 in
theorem ggX4_decide_X0_finishedSayings : GoodIn wsX4_decide wsX0_finishedSayings := goodIn_r _ [17, 18, 19, 20, 21, 16, 22, 23, 24, 25, 26, 27, 149, 150, 151, 152, 153, 154, 155, 156] (by decide +kernel) (by decide +kernel)
set_option maxRecDepth 20000 in
theorem gX4_decide_X0_finishedSayings : GoodIn wsX4_decide (wsV RX4 136 RX0 yX0_finishedSayings wsX0_finishedSayings) := goodIn_app (goodIn_of _ (by decide +kernel)) ggX4_decide_X0_finishedSayings
set_option maxRecDepth 20000 in
theorem ggX4_decide_J6_bitCount_0f7a4 : GoodIn wsX4_decide wsJ6_bitCount_0f7a4 := goodIn_r _ [31, 32, 33, 34] (by decide +kernel) (by decide +kernel)
set_option maxRecDepth 20000 in
theorem gX4_decide_J6_bitCount_0f7a4 : GoodIn wsX4_decide (va_wsS RX4 166 yJ6_bitCount_0f7a4 wsJ6_bitCount_0f7a4) := goodIn_app (goodIn_of _ (by decide +kernel)) ggX4_decide_J6_bitCount_0f7a4
set_option maxRecDepth 20000 in
theorem ggX4_decide_X4_allLandIfFinished : GoodIn wsX4_decide wsX4_allLandIfFinished := goodIn_r _ [38, 39, 2, 40, 41, 42, 16, 43, 44, 45, 46, 47, 48, 49, 27, 50, 18, 51, 52, 53, 54, 55, 56, 57, 58, 6, 59, 60, 61, 62, 63, 64, 65, 66, 67, 68, 69, 70, 71, 72, 73, 74, 75, 76, 77, 78, 79, 80, 81, 82, 83, 84, 85, 86, 87, 88, 89, 90, 91, 92, 93, 19, 20, 21, 22, 23, 24, 25, 26, 94, 95, 96, 97, 98, 99, 100, 101, 102, 103, 104, 105, 106, 107, 108, 109, 110, 111, 112, 113, 114, 115, 116, 117, 118, 119, 120, 121, 122, 123, 124, 125, 126, 127, 128, 129, 130, 5, 7, 131, 132, 133, 134, 135, 136, 137, 138, 139, 140, 141, 142, 143, 144, 145, 146, 147, 148, 149, 150, 151, 152, 153, 154, 155, 156] (by decide +kernel) (by decide +kernel)
set_option maxRecDepth 20000 in
theorem gX4_decide_X4_allLandIfFinished : GoodIn wsX4_decide (wsV RX4 175 RX4 yX4_allLandIfFinished wsX4_allLandIfFinished) := goodIn_app (goodIn_of _ (by decide +kernel)) ggX4_decide_X4_allLandIfFinished
theorem dX4_decide_0 : decode cX4_decide 0 = .ok (.iload_n 1, 1) := by decide +kernel
theorem dX4_decide_1 : decode cX4_decide 1 = .ok (.iconst 0, 1) := by decide +kernel
theorem dX4_decide_2 : decode cX4_decide 2 = .ok (.bipush 16, 2) := by decide +kernel
theorem dX4_decide_4 : decode cX4_decide 4 = .ok (.invokestatic 48, 3) := by decide +kernel
theorem dX4_decide_7 : decode cX4_decide 7 = .ok (.ifCond .ne 10, 3) := by decide +kernel
theorem dX4_decide_10 : decode cX4_decide 10 = .ok (.aload_n 0, 1) := by decide +kernel
theorem dX4_decide_11 : decode cX4_decide 11 = .ok (.ldc 52, 2) := by decide +kernel
theorem dX4_decide_13 : decode cX4_decide 13 = .ok (.invokevirtual 53, 3) := by decide +kernel
theorem dX4_decide_16 : decode cX4_decide 16 = .ok (.ireturn, 1) := by decide +kernel
theorem dX4_decide_17 : decode cX4_decide 17 = .ok (.aload_n 0, 1) := by decide +kernel
theorem dX4_decide_18 : decode cX4_decide 18 = .ok (.getfield 12, 3) := by decide +kernel
theorem dX4_decide_21 : decode cX4_decide 21 = .ok (.invokevirtual 136, 3) := by decide +kernel
theorem dX4_decide_24 : decode cX4_decide 24 = .ok (.istore_n 2, 1) := by decide +kernel
theorem dX4_decide_25 : decode cX4_decide 25 = .ok (.iconst (-1), 1) := by decide +kernel
theorem dX4_decide_26 : decode cX4_decide 26 = .ok (.istore_n 3, 1) := by decide +kernel
theorem dX4_decide_27 : decode cX4_decide 27 = .ok (.bipush 9, 2) := by decide +kernel
theorem dX4_decide_29 : decode cX4_decide 29 = .ok (.istore 4, 2) := by decide +kernel
theorem dX4_decide_31 : decode cX4_decide 31 = .ok (.iconst 0, 1) := by decide +kernel
theorem dX4_decide_32 : decode cX4_decide 32 = .ok (.istore 5, 2) := by decide +kernel
theorem dX4_decide_34 : decode cX4_decide 34 = .ok (.iload 5, 2) := by decide +kernel
theorem dX4_decide_36 : decode cX4_decide 36 = .ok (.iconst 1, 1) := by decide +kernel
theorem dX4_decide_37 : decode cX4_decide 37 = .ok (.aload_n 0, 1) := by decide +kernel
theorem dX4_decide_38 : decode cX4_decide 38 = .ok (.getfield 12, 3) := by decide +kernel
theorem dX4_decide_41 : decode cX4_decide 41 = .ok (.getfield 70, 3) := by decide +kernel
theorem dX4_decide_44 : decode cX4_decide 44 = .ok (.ishl, 1) := by decide +kernel
theorem dX4_decide_45 : decode cX4_decide 45 = .ok (.if_icmp .ge 58, 3) := by decide +kernel
theorem dX4_decide_48 : decode cX4_decide 48 = .ok (.iload 5, 2) := by decide +kernel
theorem dX4_decide_50 : decode cX4_decide 50 = .ok (.iload_n 2, 1) := by decide +kernel
theorem dX4_decide_51 : decode cX4_decide 51 = .ok (.iand, 1) := by decide +kernel
theorem dX4_decide_52 : decode cX4_decide 52 = .ok (.ifCond .ne 17, 3) := by decide +kernel
theorem dX4_decide_55 : decode cX4_decide 55 = .ok (.iload 5, 2) := by decide +kernel
theorem dX4_decide_57 : decode cX4_decide 57 = .ok (.invokestatic 166, 3) := by decide +kernel
theorem dX4_decide_60 : decode cX4_decide 60 = .ok (.iload 4, 2) := by decide +kernel
theorem dX4_decide_62 : decode cX4_decide 62 = .ok (.if_icmp .ge 7, 3) := by decide +kernel
theorem dX4_decide_65 : decode cX4_decide 65 = .ok (.iconst 1, 1) := by decide +kernel
theorem dX4_decide_66 : decode cX4_decide 66 = .ok (.goto 4, 3) := by decide +kernel
theorem dX4_decide_69 : decode cX4_decide 69 = .ok (.iconst 0, 1) := by decide +kernel
theorem dX4_decide_70 : decode cX4_decide 70 = .ok (.istore 6, 2) := by decide +kernel
theorem dX4_decide_72 : decode cX4_decide 72 = .ok (.iload 6, 2) := by decide +kernel
theorem dX4_decide_74 : decode cX4_decide 74 = .ok (.ifCond .eq 23, 3) := by decide +kernel
theorem dX4_decide_77 : decode cX4_decide 77 = .ok (.aload_n 0, 1) := by decide +kernel
theorem dX4_decide_78 : decode cX4_decide 78 = .ok (.iload 5, 2) := by decide +kernel
theorem dX4_decide_80 : decode cX4_decide 80 = .ok (.iload_n 1, 1) := by decide +kernel
theorem dX4_decide_81 : decode cX4_decide 81 = .ok (.invokevirtual 175, 3) := by decide +kernel
theorem dX4_decide_84 : decode cX4_decide 84 = .ok (.ifCond .eq 13, 3) := by decide +kernel
theorem dX4_decide_87 : decode cX4_decide 87 = .ok (.iload 5, 2) := by decide +kernel
theorem dX4_decide_89 : decode cX4_decide 89 = .ok (.istore_n 3, 1) := by decide +kernel
theorem dX4_decide_90 : decode cX4_decide 90 = .ok (.iload 5, 2) := by decide +kernel
theorem dX4_decide_92 : decode cX4_decide 92 = .ok (.invokestatic 166, 3) := by decide +kernel
theorem dX4_decide_95 : decode cX4_decide 95 = .ok (.istore 4, 2) := by decide +kernel
theorem dX4_decide_97 : decode cX4_decide 97 = .ok (.iinc 5 1, 3) := by decide +kernel
theorem dX4_decide_100 : decode cX4_decide 100 = .ok (.goto (-66), 3) := by decide +kernel
theorem dX4_decide_103 : decode cX4_decide 103 = .ok (.iload_n 3, 1) := by decide +kernel
theorem dX4_decide_104 : decode cX4_decide 104 = .ok (.iconst (-1), 1) := by decide +kernel
theorem dX4_decide_105 : decode cX4_decide 105 = .ok (.if_icmp .ne 12, 3) := by decide +kernel
theorem dX4_decide_108 : decode cX4_decide 108 = .ok (.aload_n 0, 1) := by decide +kernel
theorem dX4_decide_109 : decode cX4_decide 109 = .ok (.ldc 165, 2) := by decide +kernel
theorem dX4_decide_111 : decode cX4_decide 111 = .ok (.invokevirtual 53, 3) := by decide +kernel
theorem dX4_decide_114 : decode cX4_decide 114 = .ok (.goto 4, 3) := by decide +kernel
theorem dX4_decide_117 : decode cX4_decide 117 = .ok (.iload_n 3, 1) := by decide +kernel
theorem dX4_decide_118 : decode cX4_decide 118 = .ok (.ireturn, 1) := by decide +kernel
set_option maxRecDepth 20000 in
theorem ggX4_fits_X4_faultOfTold : GoodIn wsX4_fits wsX4_faultOfTold := goodIn_r _ [5, 6, 7, 8, 9, 10, 4, 11, 12, 13, 14, 15, 16, 17, 18, 19, 20, 21, 22, 23, 24, 25, 26, 27, 28, 29, 30, 31, 32, 33, 34, 35, 36, 37, 163, 164, 165, 166, 167, 168, 169, 170, 171, 172, 173, 174, 175, 176, 177, 178, 179, 180] (by decide +kernel) (by decide +kernel)
set_option maxRecDepth 20000 in
theorem gX4_fits_X4_faultOfTold : GoodIn wsX4_fits (wsV RX4 179 RX4 yX4_faultOfTold wsX4_faultOfTold) := goodIn_app (goodIn_of _ (by decide +kernel)) ggX4_fits_X4_faultOfTold
set_option maxRecDepth 20000 in
theorem ggX4_fits_X4_finding : GoodIn wsX4_fits wsX4_finding := goodIn_r _ [41, 7, 42, 17, 18, 4, 19, 163, 164, 165, 166, 167, 168, 169] (by decide +kernel) (by decide +kernel)
set_option maxRecDepth 20000 in
theorem gX4_fits_X4_finding : GoodIn wsX4_fits (wsV RX4 53 RX4 yX4_finding wsX4_finding) := goodIn_app (goodIn_of _ (by decide +kernel)) ggX4_fits_X4_finding
set_option maxRecDepth 20000 in
theorem ggX4_fits_X4_isAsTold : GoodIn wsX4_fits wsX4_isAsTold := goodIn_r _ [46, 47, 6, 12, 48, 49, 50, 51, 52, 53, 54, 35, 55, 56, 57, 58, 59, 60, 61, 62, 63, 37, 64, 65, 66, 67, 68, 69, 70, 71, 4, 72, 73, 74, 75, 76, 77, 78, 79, 23, 80, 81, 30, 31, 82, 83, 84, 85, 86, 87, 88, 89, 90, 91, 92, 93, 94, 95, 96, 97, 98, 99, 100, 101, 102, 103, 104, 105, 106, 107, 108, 109, 110, 111, 112, 113, 114, 115, 116, 117, 118, 119, 120, 121, 122, 123, 124, 125, 126, 127, 128, 129, 130, 131, 132, 133, 134, 135, 136, 137, 138, 139, 140, 141, 142, 143, 144, 145, 146, 147, 148, 149, 150, 151, 33, 34, 36, 18, 19, 152, 153, 154, 155, 156, 157, 158, 159, 160, 161, 162, 163, 164, 165, 166, 167, 168, 169, 173, 174, 175, 176, 177, 178, 179, 180, 170, 171, 172] (by decide +kernel) (by decide +kernel)
set_option maxRecDepth 20000 in
theorem gX4_fits_X4_isAsTold : GoodIn wsX4_fits (wsV RX4 182 RX4 yX4_isAsTold wsX4_isAsTold) := goodIn_app (goodIn_of _ (by decide +kernel)) ggX4_fits_X4_isAsTold
theorem dX4_fits_0 : decode cX4_fits 0 = .ok (.aload_n 0, 1) := by decide +kernel
theorem dX4_fits_1 : decode cX4_fits 1 = .ok (.iload_n 1, 1) := by decide +kernel
theorem dX4_fits_2 : decode cX4_fits 2 = .ok (.iload_n 2, 1) := by decide +kernel
theorem dX4_fits_3 : decode cX4_fits 3 = .ok (.invokevirtual 179, 3) := by decide +kernel
theorem dX4_fits_6 : decode cX4_fits 6 = .ok (.istore_n 3, 1) := by decide +kernel
theorem dX4_fits_7 : decode cX4_fits 7 = .ok (.iload_n 3, 1) := by decide +kernel
theorem dX4_fits_8 : decode cX4_fits 8 = .ok (.ifCond .eq 9, 3) := by decide +kernel
theorem dX4_fits_11 : decode cX4_fits 11 = .ok (.aload_n 0, 1) := by decide +kernel
theorem dX4_fits_12 : decode cX4_fits 12 = .ok (.iload_n 3, 1) := by decide +kernel
theorem dX4_fits_13 : decode cX4_fits 13 = .ok (.invokevirtual 53, 3) := by decide +kernel
theorem dX4_fits_16 : decode cX4_fits 16 = .ok (.ireturn, 1) := by decide +kernel
theorem dX4_fits_17 : decode cX4_fits 17 = .ok (.iconst 0, 1) := by decide +kernel
theorem dX4_fits_18 : decode cX4_fits 18 = .ok (.istore 4, 2) := by decide +kernel
theorem dX4_fits_20 : decode cX4_fits 20 = .ok (.iconst 0, 1) := by decide +kernel
theorem dX4_fits_21 : decode cX4_fits 21 = .ok (.istore 5, 2) := by decide +kernel
theorem dX4_fits_23 : decode cX4_fits 23 = .ok (.iload 5, 2) := by decide +kernel
theorem dX4_fits_25 : decode cX4_fits 25 = .ok (.bipush 99, 2) := by decide +kernel
theorem dX4_fits_27 : decode cX4_fits 27 = .ok (.if_icmp .gt 24, 3) := by decide +kernel
theorem dX4_fits_30 : decode cX4_fits 30 = .ok (.aload_n 0, 1) := by decide +kernel
theorem dX4_fits_31 : decode cX4_fits 31 = .ok (.iload_n 1, 1) := by decide +kernel
theorem dX4_fits_32 : decode cX4_fits 32 = .ok (.iload_n 2, 1) := by decide +kernel
theorem dX4_fits_33 : decode cX4_fits 33 = .ok (.iconst 2, 1) := by decide +kernel
theorem dX4_fits_34 : decode cX4_fits 34 = .ok (.iload 5, 2) := by decide +kernel
theorem dX4_fits_36 : decode cX4_fits 36 = .ok (.invokevirtual 182, 3) := by decide +kernel
theorem dX4_fits_39 : decode cX4_fits 39 = .ok (.ifCond .eq 6, 3) := by decide +kernel
theorem dX4_fits_42 : decode cX4_fits 42 = .ok (.iinc 4 1, 3) := by decide +kernel
theorem dX4_fits_45 : decode cX4_fits 45 = .ok (.iinc 5 1, 3) := by decide +kernel
theorem dX4_fits_48 : decode cX4_fits 48 = .ok (.goto (-25), 3) := by decide +kernel
theorem dX4_fits_51 : decode cX4_fits 51 = .ok (.iload 4, 2) := by decide +kernel
theorem dX4_fits_53 : decode cX4_fits 53 = .ok (.ireturn, 1) := by decide +kernel
set_option maxRecDepth 20000 in
theorem ggX4_kinds_X4_faultOfTold : GoodIn wsX4_kinds wsX4_faultOfTold := goodIn_r _ [5, 6, 7, 8, 9, 10, 4, 11, 12, 13, 14, 15, 16, 17, 18, 19, 20, 21, 22, 23, 24, 25, 26, 27, 28, 29, 30, 31, 32, 33, 34, 35, 36, 37, 163, 164, 165, 166, 167, 168, 169, 170, 171, 172, 173, 174, 175, 176, 177, 178, 179, 180] (by decide +kernel) (by decide +kernel)
set_option maxRecDepth 20000 in
theorem gX4_kinds_X4_faultOfTold : GoodIn wsX4_kinds (wsV RX4 179 RX4 yX4_faultOfTold wsX4_faultOfTold) := goodIn_app (goodIn_of _ (by decide +kernel)) ggX4_kinds_X4_faultOfTold
set_option maxRecDepth 20000 in
theorem ggX4_kinds_X4_finding : GoodIn wsX4_kinds wsX4_finding := goodIn_r _ [41, 7, 42, 17, 18, 4, 19, 163, 164, 165, 166, 167, 168, 169] (by decide +kernel) (by decide +kernel)
set_option maxRecDepth 20000 in
theorem gX4_kinds_X4_finding : GoodIn wsX4_kinds (wsV RX4 53 RX4 yX4_finding wsX4_finding) := goodIn_app (goodIn_of _ (by decide +kernel)) ggX4_kinds_X4_finding
set_option maxRecDepth 20000 in
theorem ggX4_kinds_X4_isAsTold : GoodIn wsX4_kinds wsX4_isAsTold := goodIn_r _ [46, 47, 6, 12, 48, 49, 50, 51, 52, 53, 54, 35, 55, 56, 57, 58, 59, 60, 61, 62, 63, 37, 64, 65, 66, 67, 68, 69, 70, 71, 4, 72, 73, 74, 75, 76, 77, 78, 79, 23, 80, 81, 30, 31, 82, 83, 84, 85, 86, 87, 88, 89, 90, 91, 92, 93, 94, 95, 96, 97, 98, 99, 100, 101, 102, 103, 104, 105, 106, 107, 108, 109, 110, 111, 112, 113, 114, 115, 116, 117, 118, 119, 120, 121, 122, 123, 124, 125, 126, 127, 128, 129, 130, 131, 132, 133, 134, 135, 136, 137, 138, 139, 140, 141, 142, 143, 144, 145, 146, 147, 148, 149, 150, 151, 33, 34, 36, 18, 19, 152, 153, 154, 155, 156, 157, 158, 159, 160, 161, 162, 163, 164, 165, 166, 167, 168, 169, 173, 174, 175, 176, 177, 178, 179, 180, 170, 171, 172] (by decide +kernel) (by decide +kernel)
set_option maxRecDepth 20000 in
theorem gX4_kinds_X4_isAsTold : GoodIn wsX4_kinds (wsV RX4 182 RX4 yX4_isAsTold wsX4_isAsTold) := goodIn_app (goodIn_of _ (by decide +kernel)) ggX4_kinds_X4_isAsTold
theorem dX4_kinds_0 : decode cX4_kinds 0 = .ok (.aload_n 0, 1) := by decide +kernel
theorem dX4_kinds_1 : decode cX4_kinds 1 = .ok (.iload_n 1, 1) := by decide +kernel
theorem dX4_kinds_2 : decode cX4_kinds 2 = .ok (.iload_n 2, 1) := by decide +kernel
theorem dX4_kinds_3 : decode cX4_kinds 3 = .ok (.invokevirtual 179, 3) := by decide +kernel
theorem dX4_kinds_6 : decode cX4_kinds 6 = .ok (.istore_n 3, 1) := by decide +kernel
theorem dX4_kinds_7 : decode cX4_kinds 7 = .ok (.iload_n 3, 1) := by decide +kernel
theorem dX4_kinds_8 : decode cX4_kinds 8 = .ok (.ifCond .eq 9, 3) := by decide +kernel
theorem dX4_kinds_11 : decode cX4_kinds 11 = .ok (.aload_n 0, 1) := by decide +kernel
theorem dX4_kinds_12 : decode cX4_kinds 12 = .ok (.iload_n 3, 1) := by decide +kernel
theorem dX4_kinds_13 : decode cX4_kinds 13 = .ok (.invokevirtual 53, 3) := by decide +kernel
theorem dX4_kinds_16 : decode cX4_kinds 16 = .ok (.ireturn, 1) := by decide +kernel
theorem dX4_kinds_17 : decode cX4_kinds 17 = .ok (.iconst 0, 1) := by decide +kernel
theorem dX4_kinds_18 : decode cX4_kinds 18 = .ok (.istore 4, 2) := by decide +kernel
theorem dX4_kinds_20 : decode cX4_kinds 20 = .ok (.iconst 0, 1) := by decide +kernel
theorem dX4_kinds_21 : decode cX4_kinds 21 = .ok (.istore 5, 2) := by decide +kernel
theorem dX4_kinds_23 : decode cX4_kinds 23 = .ok (.iload 5, 2) := by decide +kernel
theorem dX4_kinds_25 : decode cX4_kinds 25 = .ok (.bipush 7, 2) := by decide +kernel
theorem dX4_kinds_27 : decode cX4_kinds 27 = .ok (.if_icmp .ge 30, 3) := by decide +kernel
theorem dX4_kinds_30 : decode cX4_kinds 30 = .ok (.aload_n 0, 1) := by decide +kernel
theorem dX4_kinds_31 : decode cX4_kinds 31 = .ok (.iload_n 1, 1) := by decide +kernel
theorem dX4_kinds_32 : decode cX4_kinds 32 = .ok (.iload_n 2, 1) := by decide +kernel
theorem dX4_kinds_33 : decode cX4_kinds 33 = .ok (.iconst 0, 1) := by decide +kernel
theorem dX4_kinds_34 : decode cX4_kinds 34 = .ok (.iload 5, 2) := by decide +kernel
theorem dX4_kinds_36 : decode cX4_kinds 36 = .ok (.invokevirtual 182, 3) := by decide +kernel
theorem dX4_kinds_39 : decode cX4_kinds 39 = .ok (.ifCond .eq 12, 3) := by decide +kernel
theorem dX4_kinds_42 : decode cX4_kinds 42 = .ok (.iload 4, 2) := by decide +kernel
theorem dX4_kinds_44 : decode cX4_kinds 44 = .ok (.iconst 1, 1) := by decide +kernel
theorem dX4_kinds_45 : decode cX4_kinds 45 = .ok (.iload 5, 2) := by decide +kernel
theorem dX4_kinds_47 : decode cX4_kinds 47 = .ok (.ishl, 1) := by decide +kernel
theorem dX4_kinds_48 : decode cX4_kinds 48 = .ok (.ior, 1) := by decide +kernel
theorem dX4_kinds_49 : decode cX4_kinds 49 = .ok (.istore 4, 2) := by decide +kernel
theorem dX4_kinds_51 : decode cX4_kinds 51 = .ok (.iinc 5 1, 3) := by decide +kernel
theorem dX4_kinds_54 : decode cX4_kinds 54 = .ok (.goto (-31), 3) := by decide +kernel
theorem dX4_kinds_57 : decode cX4_kinds 57 = .ok (.iload 4, 2) := by decide +kernel
theorem dX4_kinds_59 : decode cX4_kinds 59 = .ok (.ireturn, 1) := by decide +kernel
set_option maxRecDepth 20000 in
theorem ggX4_committee_X4_within : GoodIn wsX4_committee wsX4_within := goodIn_r _ [8] (by decide +kernel) (by decide +kernel)
set_option maxRecDepth 20000 in
theorem gX4_committee_X4_within : GoodIn wsX4_committee (va_wsS RX4 48 yX4_within wsX4_within) := goodIn_app (goodIn_of _ (by decide +kernel)) ggX4_committee_X4_within
set_option maxRecDepth 20000 in
theorem ggX4_committee_X4_finding : GoodIn wsX4_committee wsX4_finding := goodIn_r _ [12, 1, 13, 5, 6, 7, 8, 131, 132, 133, 134, 135, 136, 137] (by decide +kernel) (by decide +kernel)
set_option maxRecDepth 20000 in
theorem gX4_committee_X4_finding : GoodIn wsX4_committee (wsV RX4 53 RX4 yX4_finding wsX4_finding) := goodIn_app (goodIn_of _ (by decide +kernel)) ggX4_committee_X4_finding
set_option maxRecDepth 20000 in
theorem ggX4_committee_X0_placeOfDay : GoodIn wsX4_committee wsX0_placeOfDay := goodIn_r _ [18, 19, 138, 139, 140, 141, 142, 143, 144, 145] (by decide +kernel) (by decide +kernel)
set_option maxRecDepth 20000 in
theorem gX4_committee_X0_placeOfDay : GoodIn wsX4_committee (wsV RX4 186 RX0 yX0_placeOfDay wsX0_placeOfDay) := goodIn_app (goodIn_of _ (by decide +kernel)) ggX4_committee_X0_placeOfDay
set_option maxRecDepth 20000 in
theorem ggX4_committee_X0_draw : GoodIn wsX4_committee wsX0_draw := goodIn_r _ [23, 24, 25, 138, 139, 140, 141, 142, 143, 144, 145] (by decide +kernel) (by decide +kernel)
set_option maxRecDepth 20000 in
theorem gX4_committee_X0_draw : GoodIn wsX4_committee (wsV RX4 189 RX0 yX0_draw wsX0_draw) := goodIn_app (goodIn_of _ (by decide +kernel)) ggX4_committee_X0_draw
set_option maxRecDepth 20000 in
theorem ggX4_committee_X0_setPlace : GoodIn wsX4_committee wsX0_setPlace := goodIn_r _ [29, 30, 31, 7, 32, 138, 139, 140, 141, 142, 143, 144, 145] (by decide +kernel) (by decide +kernel)
set_option maxRecDepth 20000 in
theorem gX4_committee_X0_setPlace : GoodIn wsX4_committee (wsV RX4 60 RX0 yX0_setPlace wsX0_setPlace) := goodIn_app (goodIn_of _ (by decide +kernel)) ggX4_committee_X0_setPlace
set_option maxRecDepth 20000 in
theorem ggX4_committee_X0_makeVaguer : GoodIn wsX4_committee wsX0_makeVaguer := goodIn_r _ [36, 37, 38, 39, 40, 41, 42, 43, 17, 44, 45, 6, 7, 8, 46, 47, 48, 49, 50, 51, 52, 53, 54, 31, 32, 138, 139, 140, 141, 142, 143, 144, 145] (by decide +kernel) (by decide +kernel)
set_option maxRecDepth 20000 in
theorem gX4_committee_X0_makeVaguer : GoodIn wsX4_committee (wsV RX4 192 RX0 yX0_makeVaguer wsX0_makeVaguer) := goodIn_app (goodIn_of _ (by decide +kernel)) ggX4_committee_X0_makeVaguer
set_option maxRecDepth 20000 in
theorem ggX4_committee_X0_passDays : GoodIn wsX4_committee wsX0_passDays := goodIn_r _ [58, 59, 45, 60, 19, 37, 38, 39, 40, 61, 62, 63, 17, 64, 65, 66, 67, 68, 69, 70, 7, 71, 72, 73, 74, 75, 76, 77, 78, 79, 80, 81, 82, 83, 84, 85, 86, 46, 47, 48, 49, 50, 87, 88, 89, 90, 91, 92, 93, 94, 95, 96, 97, 98, 99, 100, 101, 102, 103, 104, 105, 106, 107, 31, 32, 108, 15, 16, 18, 109, 110, 111, 112, 30, 113, 114, 115, 116, 41, 42, 43, 44, 6, 8, 117, 118, 119, 51, 52, 53, 54, 120, 121, 122, 123, 124, 125, 126, 138, 139, 140, 141, 142, 143, 144, 145] (by decide +kernel) (by decide +kernel)
set_option maxRecDepth 20000 in
theorem gX4_committee_X0_passDays : GoodIn wsX4_committee (wsV RX4 129 RX0 yX0_passDays wsX0_passDays) := goodIn_app (goodIn_of _ (by decide +kernel)) ggX4_committee_X0_passDays
set_option maxRecDepth 20000 in
theorem ggX4_committee_X0_shipsInPort : GoodIn wsX4_committee wsX0_shipsInPort := goodIn_r _ [130, 59, 61, 62, 63, 17, 64, 65, 66, 67, 68, 69, 70, 7, 71, 138, 139, 140, 141, 142, 143, 144, 145] (by decide +kernel) (by decide +kernel)
set_option maxRecDepth 20000 in
theorem gX4_committee_X0_shipsInPort : GoodIn wsX4_committee (wsV RX4 132 RX0 yX0_shipsInPort wsX0_shipsInPort) := goodIn_app (goodIn_of _ (by decide +kernel)) ggX4_committee_X0_shipsInPort
theorem dX4_committee_0 : decode cX4_committee 0 = .ok (.iload_n 1, 1) := by decide +kernel
theorem dX4_committee_1 : decode cX4_committee 1 = .ok (.iconst 1, 1) := by decide +kernel
theorem dX4_committee_2 : decode cX4_committee 2 = .ok (.bipush 20, 2) := by decide +kernel
theorem dX4_committee_4 : decode cX4_committee 4 = .ok (.invokestatic 48, 3) := by decide +kernel
theorem dX4_committee_7 : decode cX4_committee 7 = .ok (.ifCond .ne 10, 3) := by decide +kernel
theorem dX4_committee_10 : decode cX4_committee 10 = .ok (.aload_n 0, 1) := by decide +kernel
theorem dX4_committee_11 : decode cX4_committee 11 = .ok (.ldc 52, 2) := by decide +kernel
theorem dX4_committee_13 : decode cX4_committee 13 = .ok (.invokevirtual 53, 3) := by decide +kernel
theorem dX4_committee_16 : decode cX4_committee 16 = .ok (.ireturn, 1) := by decide +kernel
theorem dX4_committee_17 : decode cX4_committee 17 = .ok (.aload_n 0, 1) := by decide +kernel
theorem dX4_committee_18 : decode cX4_committee 18 = .ok (.getfield 12, 3) := by decide +kernel
theorem dX4_committee_21 : decode cX4_committee 21 = .ok (.getfield 124, 3) := by decide +kernel
theorem dX4_committee_24 : decode cX4_committee 24 = .ok (.iload_n 1, 1) := by decide +kernel
theorem dX4_committee_25 : decode cX4_committee 25 = .ok (.iadd, 1) := by decide +kernel
theorem dX4_committee_26 : decode cX4_committee 26 = .ok (.ldc 127, 2) := by decide +kernel
theorem dX4_committee_28 : decode cX4_committee 28 = .ok (.if_icmp .le 10, 3) := by decide +kernel
theorem dX4_committee_31 : decode cX4_committee 31 = .ok (.aload_n 0, 1) := by decide +kernel
theorem dX4_committee_32 : decode cX4_committee 32 = .ok (.ldc 128, 2) := by decide +kernel
theorem dX4_committee_34 : decode cX4_committee 34 = .ok (.invokevirtual 53, 3) := by decide +kernel
theorem dX4_committee_37 : decode cX4_committee 37 = .ok (.ireturn, 1) := by decide +kernel
theorem dX4_committee_38 : decode cX4_committee 38 = .ok (.iconst 0, 1) := by decide +kernel
theorem dX4_committee_39 : decode cX4_committee 39 = .ok (.istore_n 2, 1) := by decide +kernel
theorem dX4_committee_40 : decode cX4_committee 40 = .ok (.iload_n 2, 1) := by decide +kernel
theorem dX4_committee_41 : decode cX4_committee 41 = .ok (.iload_n 1, 1) := by decide +kernel
theorem dX4_committee_42 : decode cX4_committee 42 = .ok (.if_icmp .ge 60, 3) := by decide +kernel
theorem dX4_committee_45 : decode cX4_committee 45 = .ok (.aload_n 0, 1) := by decide +kernel
theorem dX4_committee_46 : decode cX4_committee 46 = .ok (.getfield 12, 3) := by decide +kernel
theorem dX4_committee_49 : decode cX4_committee 49 = .ok (.aload_n 0, 1) := by decide +kernel
theorem dX4_committee_50 : decode cX4_committee 50 = .ok (.getfield 12, 3) := by decide +kernel
theorem dX4_committee_53 : decode cX4_committee 53 = .ok (.invokevirtual 186, 3) := by decide +kernel
theorem dX4_committee_56 : decode cX4_committee 56 = .ok (.aload_n 0, 1) := by decide +kernel
theorem dX4_committee_57 : decode cX4_committee 57 = .ok (.getfield 12, 3) := by decide +kernel
theorem dX4_committee_60 : decode cX4_committee 60 = .ok (.invokevirtual 189, 3) := by decide +kernel
theorem dX4_committee_63 : decode cX4_committee 63 = .ok (.bipush 9, 2) := by decide +kernel
theorem dX4_committee_65 : decode cX4_committee 65 = .ok (.irem, 1) := by decide +kernel
theorem dX4_committee_66 : decode cX4_committee 66 = .ok (.invokevirtual 60, 3) := by decide +kernel
theorem dX4_committee_69 : decode cX4_committee 69 = .ok (.aload_n 0, 1) := by decide +kernel
theorem dX4_committee_70 : decode cX4_committee 70 = .ok (.getfield 12, 3) := by decide +kernel
theorem dX4_committee_73 : decode cX4_committee 73 = .ok (.aload_n 0, 1) := by decide +kernel
theorem dX4_committee_74 : decode cX4_committee 74 = .ok (.getfield 12, 3) := by decide +kernel
theorem dX4_committee_77 : decode cX4_committee 77 = .ok (.invokevirtual 189, 3) := by decide +kernel
theorem dX4_committee_80 : decode cX4_committee 80 = .ok (.bipush 8, 2) := by decide +kernel
theorem dX4_committee_82 : decode cX4_committee 82 = .ok (.irem, 1) := by decide +kernel
theorem dX4_committee_83 : decode cX4_committee 83 = .ok (.invokevirtual 192, 3) := by decide +kernel
theorem dX4_committee_86 : decode cX4_committee 86 = .ok (.aload_n 0, 1) := by decide +kernel
theorem dX4_committee_87 : decode cX4_committee 87 = .ok (.getfield 12, 3) := by decide +kernel
theorem dX4_committee_90 : decode cX4_committee 90 = .ok (.iconst 1, 1) := by decide +kernel
theorem dX4_committee_91 : decode cX4_committee 91 = .ok (.bipush 63, 2) := by decide +kernel
theorem dX4_committee_93 : decode cX4_committee 93 = .ok (.invokevirtual 129, 3) := by decide +kernel
theorem dX4_committee_96 : decode cX4_committee 96 = .ok (.iinc 2 1, 3) := by decide +kernel
theorem dX4_committee_99 : decode cX4_committee 99 = .ok (.goto (-59), 3) := by decide +kernel
theorem dX4_committee_102 : decode cX4_committee 102 = .ok (.aload_n 0, 1) := by decide +kernel
theorem dX4_committee_103 : decode cX4_committee 103 = .ok (.getfield 12, 3) := by decide +kernel
theorem dX4_committee_106 : decode cX4_committee 106 = .ok (.invokevirtual 132, 3) := by decide +kernel
theorem dX4_committee_109 : decode cX4_committee 109 = .ok (.ireturn, 1) := by decide +kernel
set_option maxRecDepth 20000 in
theorem ggX4_odds_X0_hasShip : GoodIn wsX4_odds wsX0_hasShip := goodIn_r _ [9, 10, 11, 12, 13, 77, 78, 79, 80, 81, 82, 83, 84] (by decide +kernel) (by decide +kernel)
set_option maxRecDepth 20000 in
theorem gX4_odds_X0_hasShip : GoodIn wsX4_odds (wsV RX4 106 RX0 yX0_hasShip wsX0_hasShip) := goodIn_app (goodIn_of _ (by decide +kernel)) ggX4_odds_X0_hasShip
set_option maxRecDepth 20000 in
theorem ggX4_odds_X4_within : GoodIn wsX4_odds wsX4_within := goodIn_r _ [13] (by decide +kernel) (by decide +kernel)
set_option maxRecDepth 20000 in
theorem gX4_odds_X4_within : GoodIn wsX4_odds (va_wsS RX4 48 yX4_within wsX4_within) := goodIn_app (goodIn_of _ (by decide +kernel)) ggX4_odds_X4_within
set_option maxRecDepth 20000 in
theorem ggX4_odds_X4_finding : GoodIn wsX4_odds wsX4_finding := goodIn_r _ [18, 2, 19, 14, 11, 12, 13, 70, 71, 72, 73, 74, 75, 76] (by decide +kernel) (by decide +kernel)
set_option maxRecDepth 20000 in
theorem gX4_odds_X4_finding : GoodIn wsX4_odds (wsV RX4 53 RX4 yX4_finding wsX4_finding) := goodIn_app (goodIn_of _ (by decide +kernel)) ggX4_odds_X4_finding
set_option maxRecDepth 20000 in
theorem ggX4_odds_X0_cellsWhereGoesOn : GoodIn wsX4_odds wsX0_cellsWhereGoesOn := goodIn_r _ [23, 24, 25, 26, 8, 27, 28, 29, 30, 31, 32, 33, 12, 34, 35, 36, 37, 38, 39, 40, 41, 42, 43, 44, 45, 46, 47, 48, 49, 50, 51, 52, 53, 54, 55, 56, 57, 58, 59, 60, 61, 62, 63, 64, 65, 66, 67, 68, 69, 77, 78, 79, 80, 81, 82, 83, 84] (by decide +kernel) (by decide +kernel)
set_option maxRecDepth 20000 in
theorem gX4_odds_X0_cellsWhereGoesOn : GoodIn wsX4_odds (wsV RX4 196 RX0 yX0_cellsWhereGoesOn wsX0_cellsWhereGoesOn) := goodIn_app (goodIn_of _ (by decide +kernel)) ggX4_odds_X0_cellsWhereGoesOn
theorem dX4_odds_0 : decode cX4_odds 0 = .ok (.aload_n 0, 1) := by decide +kernel
theorem dX4_odds_1 : decode cX4_odds 1 = .ok (.getfield 12, 3) := by decide +kernel
theorem dX4_odds_4 : decode cX4_odds 4 = .ok (.iload_n 1, 1) := by decide +kernel
theorem dX4_odds_5 : decode cX4_odds 5 = .ok (.invokevirtual 106, 3) := by decide +kernel
theorem dX4_odds_8 : decode cX4_odds 8 = .ok (.ifCond .eq 22, 3) := by decide +kernel
theorem dX4_odds_11 : decode cX4_odds 11 = .ok (.iload_n 2, 1) := by decide +kernel
theorem dX4_odds_12 : decode cX4_odds 12 = .ok (.iconst 0, 1) := by decide +kernel
theorem dX4_odds_13 : decode cX4_odds 13 = .ok (.bipush 15, 2) := by decide +kernel
theorem dX4_odds_15 : decode cX4_odds 15 = .ok (.invokestatic 48, 3) := by decide +kernel
theorem dX4_odds_18 : decode cX4_odds 18 = .ok (.ifCond .eq 12, 3) := by decide +kernel
theorem dX4_odds_21 : decode cX4_odds 21 = .ok (.iload_n 3, 1) := by decide +kernel
theorem dX4_odds_22 : decode cX4_odds 22 = .ok (.iconst 0, 1) := by decide +kernel
theorem dX4_odds_23 : decode cX4_odds 23 = .ok (.iconst 1, 1) := by decide +kernel
theorem dX4_odds_24 : decode cX4_odds 24 = .ok (.invokestatic 48, 3) := by decide +kernel
theorem dX4_odds_27 : decode cX4_odds 27 = .ok (.ifCond .ne 11, 3) := by decide +kernel
theorem dX4_odds_30 : decode cX4_odds 30 = .ok (.aload_n 0, 1) := by decide +kernel
theorem dX4_odds_31 : decode cX4_odds 31 = .ok (.ldc 52, 2) := by decide +kernel
theorem dX4_odds_33 : decode cX4_odds 33 = .ok (.invokevirtual 53, 3) := by decide +kernel
theorem dX4_odds_36 : decode cX4_odds 36 = .ok (.i2l, 1) := by decide +kernel
theorem dX4_odds_37 : decode cX4_odds 37 = .ok (.lreturn, 1) := by decide +kernel
theorem dX4_odds_38 : decode cX4_odds 38 = .ok (.lconst 1, 1) := by decide +kernel
theorem dX4_odds_39 : decode cX4_odds 39 = .ok (.lstore 4, 2) := by decide +kernel
theorem dX4_odds_41 : decode cX4_odds 41 = .ok (.lconst 1, 1) := by decide +kernel
theorem dX4_odds_42 : decode cX4_odds 42 = .ok (.lstore 6, 2) := by decide +kernel
theorem dX4_odds_44 : decode cX4_odds 44 = .ok (.aload_n 0, 1) := by decide +kernel
theorem dX4_odds_45 : decode cX4_odds 45 = .ok (.getfield 12, 3) := by decide +kernel
theorem dX4_odds_48 : decode cX4_odds 48 = .ok (.iload_n 1, 1) := by decide +kernel
theorem dX4_odds_49 : decode cX4_odds 49 = .ok (.invokevirtual 196, 3) := by decide +kernel
theorem dX4_odds_52 : decode cX4_odds 52 = .ok (.istore 8, 2) := by decide +kernel
theorem dX4_odds_54 : decode cX4_odds 54 = .ok (.iconst 0, 1) := by decide +kernel
theorem dX4_odds_55 : decode cX4_odds 55 = .ok (.istore 9, 2) := by decide +kernel
theorem dX4_odds_57 : decode cX4_odds 57 = .ok (.iload 9, 2) := by decide +kernel
theorem dX4_odds_59 : decode cX4_odds 59 = .ok (.iload_n 2, 1) := by decide +kernel
theorem dX4_odds_60 : decode cX4_odds 60 = .ok (.if_icmp .ge 25, 3) := by decide +kernel
theorem dX4_odds_63 : decode cX4_odds 63 = .ok (.lload 4, 2) := by decide +kernel
theorem dX4_odds_65 : decode cX4_odds 65 = .ok (.iload 8, 2) := by decide +kernel
theorem dX4_odds_67 : decode cX4_odds 67 = .ok (.i2l, 1) := by decide +kernel
theorem dX4_odds_68 : decode cX4_odds 68 = .ok (.lmul, 1) := by decide +kernel
theorem dX4_odds_69 : decode cX4_odds 69 = .ok (.lstore 4, 2) := by decide +kernel
theorem dX4_odds_71 : decode cX4_odds 71 = .ok (.lload 6, 2) := by decide +kernel
theorem dX4_odds_73 : decode cX4_odds 73 = .ok (.ldc2_w 199, 3) := by decide +kernel
theorem dX4_odds_76 : decode cX4_odds 76 = .ok (.lmul, 1) := by decide +kernel
theorem dX4_odds_77 : decode cX4_odds 77 = .ok (.lstore 6, 2) := by decide +kernel
theorem dX4_odds_79 : decode cX4_odds 79 = .ok (.iinc 9 1, 3) := by decide +kernel
theorem dX4_odds_82 : decode cX4_odds 82 = .ok (.goto (-25), 3) := by decide +kernel
theorem dX4_odds_85 : decode cX4_odds 85 = .ok (.iconst 0, 1) := by decide +kernel
theorem dX4_odds_86 : decode cX4_odds 86 = .ok (.istore 9, 2) := by decide +kernel
theorem dX4_odds_88 : decode cX4_odds 88 = .ok (.iload 9, 2) := by decide +kernel
theorem dX4_odds_90 : decode cX4_odds 90 = .ok (.bipush 60, 2) := by decide +kernel
theorem dX4_odds_92 : decode cX4_odds 92 = .ok (.if_icmp .ge 43, 3) := by decide +kernel
theorem dX4_odds_95 : decode cX4_odds 95 = .ok (.lload 6, 2) := by decide +kernel
theorem dX4_odds_97 : decode cX4_odds 97 = .ok (.lconst 1, 1) := by decide +kernel
theorem dX4_odds_98 : decode cX4_odds 98 = .ok (.lcmp, 1) := by decide +kernel
theorem dX4_odds_99 : decode cX4_odds 99 = .ok (.ifCond .le 36, 3) := by decide +kernel
theorem dX4_odds_102 : decode cX4_odds 102 = .ok (.lload 4, 2) := by decide +kernel
theorem dX4_odds_104 : decode cX4_odds 104 = .ok (.ldc2_w 201, 3) := by decide +kernel
theorem dX4_odds_107 : decode cX4_odds 107 = .ok (.lrem, 1) := by decide +kernel
theorem dX4_odds_108 : decode cX4_odds 108 = .ok (.lconst 0, 1) := by decide +kernel
theorem dX4_odds_109 : decode cX4_odds 109 = .ok (.lcmp, 1) := by decide +kernel
theorem dX4_odds_110 : decode cX4_odds 110 = .ok (.ifCond .ne 25, 3) := by decide +kernel
theorem dX4_odds_113 : decode cX4_odds 113 = .ok (.lload 4, 2) := by decide +kernel
theorem dX4_odds_115 : decode cX4_odds 115 = .ok (.ldc2_w 201, 3) := by decide +kernel
theorem dX4_odds_118 : decode cX4_odds 118 = .ok (.ldiv, 1) := by decide +kernel
theorem dX4_odds_119 : decode cX4_odds 119 = .ok (.lstore 4, 2) := by decide +kernel
theorem dX4_odds_121 : decode cX4_odds 121 = .ok (.lload 6, 2) := by decide +kernel
theorem dX4_odds_123 : decode cX4_odds 123 = .ok (.ldc2_w 201, 3) := by decide +kernel
theorem dX4_odds_126 : decode cX4_odds 126 = .ok (.ldiv, 1) := by decide +kernel
theorem dX4_odds_127 : decode cX4_odds 127 = .ok (.lstore 6, 2) := by decide +kernel
theorem dX4_odds_129 : decode cX4_odds 129 = .ok (.iinc 9 1, 3) := by decide +kernel
theorem dX4_odds_132 : decode cX4_odds 132 = .ok (.goto (-44), 3) := by decide +kernel
theorem dX4_odds_135 : decode cX4_odds 135 = .ok (.iload_n 3, 1) := by decide +kernel
theorem dX4_odds_136 : decode cX4_odds 136 = .ok (.ifCond .ne 8, 3) := by decide +kernel
theorem dX4_odds_139 : decode cX4_odds 139 = .ok (.lload 4, 2) := by decide +kernel
theorem dX4_odds_141 : decode cX4_odds 141 = .ok (.goto 5, 3) := by decide +kernel
theorem dX4_odds_144 : decode cX4_odds 144 = .ok (.lload 6, 2) := by decide +kernel
theorem dX4_odds_146 : decode cX4_odds 146 = .ok (.lreturn, 1) := by decide +kernel
theorem dX4_seed_0 : decode cX4_seed 0 = .ok (.aload_n 0, 1) := by decide +kernel
theorem dX4_seed_1 : decode cX4_seed 1 = .ok (.getfield 12, 3) := by decide +kernel
theorem dX4_seed_4 : decode cX4_seed 4 = .ok (.getfield 203, 3) := by decide +kernel
theorem dX4_seed_7 : decode cX4_seed 7 = .ok (.istore_n 2, 1) := by decide +kernel
theorem dX4_seed_8 : decode cX4_seed 8 = .ok (.aload_n 0, 1) := by decide +kernel
theorem dX4_seed_9 : decode cX4_seed 9 = .ok (.getfield 12, 3) := by decide +kernel
theorem dX4_seed_12 : decode cX4_seed 12 = .ok (.iload_n 1, 1) := by decide +kernel
theorem dX4_seed_13 : decode cX4_seed 13 = .ok (.putfield 203, 3) := by decide +kernel
theorem dX4_seed_16 : decode cX4_seed 16 = .ok (.iload_n 2, 1) := by decide +kernel
theorem dX4_seed_17 : decode cX4_seed 17 = .ok (.ireturn, 1) := by decide +kernel
set_option maxRecDepth 20000 in
theorem ggX4_feed_X4_within : GoodIn wsX4_feed wsX4_within := goodIn_r _ [7] (by decide +kernel) (by decide +kernel)
set_option maxRecDepth 20000 in
theorem gX4_feed_X4_within : GoodIn wsX4_feed (va_wsS RX4 48 yX4_within wsX4_within) := goodIn_app (goodIn_of _ (by decide +kernel)) ggX4_feed_X4_within
set_option maxRecDepth 20000 in
theorem ggX4_feed_X4_finding : GoodIn wsX4_feed wsX4_finding := goodIn_r _ [11, 1, 12, 4, 5, 6, 7, 26, 27, 28, 29, 30, 31, 32] (by decide +kernel) (by decide +kernel)
set_option maxRecDepth 20000 in
theorem gX4_feed_X4_finding : GoodIn wsX4_feed (wsV RX4 53 RX4 yX4_finding wsX4_finding) := goodIn_app (goodIn_of _ (by decide +kernel)) ggX4_feed_X4_finding
set_option maxRecDepth 20000 in
theorem ggX4_feed_X3_add : GoodIn wsX4_feed wsX3_add := goodIn_r _ [17, 18, 19, 20, 21, 22, 23, 24, 6, 25, 33, 34, 35, 36, 37, 38] (by decide +kernel) (by decide +kernel)
set_option maxRecDepth 20000 in
theorem gX4_feed_X3_add : GoodIn wsX4_feed (wsV RX4 209 RX3 yX3_add wsX3_add) := goodIn_app (goodIn_of _ (by decide +kernel)) ggX4_feed_X3_add
theorem dX4_feed_0 : decode cX4_feed 0 = .ok (.iload_n 2, 1) := by decide +kernel
theorem dX4_feed_1 : decode cX4_feed 1 = .ok (.iconst 1, 1) := by decide +kernel
theorem dX4_feed_2 : decode cX4_feed 2 = .ok (.iconst 4, 1) := by decide +kernel
theorem dX4_feed_3 : decode cX4_feed 3 = .ok (.invokestatic 48, 3) := by decide +kernel
theorem dX4_feed_6 : decode cX4_feed 6 = .ok (.ifCond .ne 10, 3) := by decide +kernel
theorem dX4_feed_9 : decode cX4_feed 9 = .ok (.aload_n 0, 1) := by decide +kernel
theorem dX4_feed_10 : decode cX4_feed 10 = .ok (.ldc 52, 2) := by decide +kernel
theorem dX4_feed_12 : decode cX4_feed 12 = .ok (.invokevirtual 53, 3) := by decide +kernel
theorem dX4_feed_15 : decode cX4_feed 15 = .ok (.ireturn, 1) := by decide +kernel
theorem dX4_feed_16 : decode cX4_feed 16 = .ok (.aload_n 0, 1) := by decide +kernel
theorem dX4_feed_17 : decode cX4_feed 17 = .ok (.getfield 29, 3) := by decide +kernel
theorem dX4_feed_20 : decode cX4_feed 20 = .ok (.getfield 206, 3) := by decide +kernel
theorem dX4_feed_23 : decode cX4_feed 23 = .ok (.iload_n 2, 1) := by decide +kernel
theorem dX4_feed_24 : decode cX4_feed 24 = .ok (.iadd, 1) := by decide +kernel
theorem dX4_feed_25 : decode cX4_feed 25 = .ok (.bipush 120, 2) := by decide +kernel
theorem dX4_feed_27 : decode cX4_feed 27 = .ok (.if_icmp .le 10, 3) := by decide +kernel
theorem dX4_feed_30 : decode cX4_feed 30 = .ok (.aload_n 0, 1) := by decide +kernel
theorem dX4_feed_31 : decode cX4_feed 31 = .ok (.ldc 74, 2) := by decide +kernel
theorem dX4_feed_33 : decode cX4_feed 33 = .ok (.invokevirtual 53, 3) := by decide +kernel
theorem dX4_feed_36 : decode cX4_feed 36 = .ok (.ireturn, 1) := by decide +kernel
theorem dX4_feed_37 : decode cX4_feed 37 = .ok (.iload_n 2, 1) := by decide +kernel
theorem dX4_feed_38 : decode cX4_feed 38 = .ok (.iconst 1, 1) := by decide +kernel
theorem dX4_feed_39 : decode cX4_feed 39 = .ok (.isub, 1) := by decide +kernel
theorem dX4_feed_40 : decode cX4_feed 40 = .ok (.istore_n 3, 1) := by decide +kernel
