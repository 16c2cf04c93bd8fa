theorem dX4_feed_41 : decode cX4_feed 41 = .ok (.iload_n 3, 1) := by decide +kernel
theorem dX4_feed_42 : decode cX4_feed 42 = .ok (.ifCond .lt 26, 3) := by decide +kernel
theorem dX4_feed_45 : decode cX4_feed 45 = .ok (.aload_n 0, 1) := by decide +kernel
theorem dX4_feed_46 : decode cX4_feed 46 = .ok (.getfield 29, 3) := by decide +kernel
theorem dX4_feed_49 : decode cX4_feed 49 = .ok (.iload_n 1, 1) := by decide +kernel
theorem dX4_feed_50 : decode cX4_feed 50 = .ok (.bipush 8, 2) := by decide +kernel
theorem dX4_feed_52 : decode cX4_feed 52 = .ok (.iload_n 3, 1) := by decide +kernel
theorem dX4_feed_53 : decode cX4_feed 53 = .ok (.imul, 1) := by decide +kernel
theorem dX4_feed_54 : decode cX4_feed 54 = .ok (.ishr, 1) := by decide +kernel
theorem dX4_feed_55 : decode cX4_feed 55 = .ok (.sipush 255, 3) := by decide +kernel
theorem dX4_feed_58 : decode cX4_feed 58 = .ok (.iand, 1) := by decide +kernel
theorem dX4_feed_59 : decode cX4_feed 59 = .ok (.invokevirtual 209, 3) := by decide +kernel
theorem dX4_feed_62 : decode cX4_feed 62 = .ok (.iinc 3 (-1), 3) := by decide +kernel
theorem dX4_feed_65 : decode cX4_feed 65 = .ok (.goto (-24), 3) := by decide +kernel
theorem dX4_feed_68 : decode cX4_feed 68 = .ok (.aload_n 0, 1) := by decide +kernel
theorem dX4_feed_69 : decode cX4_feed 69 = .ok (.getfield 29, 3) := by decide +kernel
theorem dX4_feed_72 : decode cX4_feed 72 = .ok (.getfield 206, 3) := by decide +kernel
theorem dX4_feed_75 : decode cX4_feed 75 = .ok (.ireturn, 1) := by decide +kernel
theorem dX4_wipe_0 : decode cX4_wipe 0 = .ok (.aload_n 0, 1) := by decide +kernel
theorem dX4_wipe_1 : decode cX4_wipe 1 = .ok (.getfield 29, 3) := by decide +kernel
theorem dX4_wipe_4 : decode cX4_wipe 4 = .ok (.getfield 206, 3) := by decide +kernel
theorem dX4_wipe_7 : decode cX4_wipe 7 = .ok (.istore_n 1, 1) := by decide +kernel
theorem dX4_wipe_8 : decode cX4_wipe 8 = .ok (.aload_n 0, 1) := by decide +kernel
theorem dX4_wipe_9 : decode cX4_wipe 9 = .ok (.getfield 29, 3) := by decide +kernel
theorem dX4_wipe_12 : decode cX4_wipe 12 = .ok (.iconst 0, 1) := by decide +kernel
theorem dX4_wipe_13 : decode cX4_wipe 13 = .ok (.putfield 206, 3) := by decide +kernel
theorem dX4_wipe_16 : decode cX4_wipe 16 = .ok (.iload_n 1, 1) := by decide +kernel
theorem dX4_wipe_17 : decode cX4_wipe 17 = .ok (.ireturn, 1) := by decide +kernel
set_option maxRecDepth 20000 in
theorem ggX4_text_X0_become : GoodIn wsX4_text wsX0_become := goodIn_r _ [8, 9, 10, 11, 12, 13, 14, 15, 16, 17, 18, 19, 20, 166, 167, 168, 169, 170, 171, 172, 173] (by decide +kernel) (by decide +kernel)
set_option maxRecDepth 20000 in
theorem gX4_text_X0_become : GoodIn wsX4_text (wsV RX4 158 RX0 yX0_become wsX0_become) := goodIn_app (goodIn_of _ (by decide +kernel)) ggX4_text_X0_become
set_option maxRecDepth 20000 in
theorem ggX4_text_X3_readInto : GoodIn wsX4_text wsX3_readInto := goodIn_r _ [25, 26, 27, 28, 29, 30, 31, 24, 32, 33, 34, 35, 36, 37, 38, 39, 40, 41, 42, 43, 44, 45, 46, 47, 48, 49, 50, 51, 52, 53, 54, 55, 56, 57, 58, 59, 60, 61, 62, 63, 64, 65, 66, 67, 68, 69, 70, 71, 72, 73, 74, 75, 76, 77, 78, 79, 80, 81, 82, 83, 84, 85, 86, 87, 88, 89, 90, 91, 92, 93, 94, 95, 96, 97, 98, 99, 100, 101, 102, 103, 104, 105, 106, 107, 108, 109, 110, 111, 112, 113, 114, 115, 116, 117, 118, 119, 120, 121, 122, 123, 124, 7, 125, 17, 126, 127, 128, 129, 15, 130, 131, 132, 133, 134, 135, 136, 137, 138, 139, 140, 18, 141, 142, 143, 144, 16, 145, 146, 147, 148, 149, 150, 151, 152, 9, 160, 161, 162, 163, 164, 165, 166, 167, 168, 169, 170, 171, 172, 173] (by decide +kernel) (by decide +kernel)
set_option maxRecDepth 20000 in
theorem gX4_text_X3_readInto : GoodIn wsX4_text (wsV RX4 212 RX3 yX3_readInto wsX3_readInto) := goodIn_app (goodIn_of _ (by decide +kernel)) ggX4_text_X3_readInto
theorem dX4_text_0 : decode cX4_text 0 = .ok (.aload_n 0, 1) := by decide +kernel
theorem dX4_text_1 : decode cX4_text 1 = .ok (.getfield 16, 3) := by decide +kernel
theorem dX4_text_4 : decode cX4_text 4 = .ok (.aload_n 0, 1) := by decide +kernel
theorem dX4_text_5 : decode cX4_text 5 = .ok (.getfield 12, 3) := by decide +kernel
theorem dX4_text_8 : decode cX4_text 8 = .ok (.invokevirtual 158, 3) := by decide +kernel
theorem dX4_text_11 : decode cX4_text 11 = .ok (.aload_n 0, 1) := by decide +kernel
theorem dX4_text_12 : decode cX4_text 12 = .ok (.getfield 29, 3) := by decide +kernel
theorem dX4_text_15 : decode cX4_text 15 = .ok (.aload_n 0, 1) := by decide +kernel
theorem dX4_text_16 : decode cX4_text 16 = .ok (.getfield 16, 3) := by decide +kernel
theorem dX4_text_19 : decode cX4_text 19 = .ok (.invokevirtual 212, 3) := by decide +kernel
theorem dX4_text_22 : decode cX4_text 22 = .ok (.istore_n 1, 1) := by decide +kernel
theorem dX4_text_23 : decode cX4_text 23 = .ok (.iload_n 1, 1) := by decide +kernel
theorem dX4_text_24 : decode cX4_text 24 = .ok (.ifCond .lt 14, 3) := by decide +kernel
theorem dX4_text_27 : decode cX4_text 27 = .ok (.aload_n 0, 1) := by decide +kernel
theorem dX4_text_28 : decode cX4_text 28 = .ok (.getfield 12, 3) := by decide +kernel
theorem dX4_text_31 : decode cX4_text 31 = .ok (.aload_n 0, 1) := by decide +kernel
theorem dX4_text_32 : decode cX4_text 32 = .ok (.getfield 16, 3) := by decide +kernel
theorem dX4_text_35 : decode cX4_text 35 = .ok (.invokevirtual 158, 3) := by decide +kernel
theorem dX4_text_38 : decode cX4_text 38 = .ok (.aload_n 0, 1) := by decide +kernel
theorem dX4_text_39 : decode cX4_text 39 = .ok (.getfield 29, 3) := by decide +kernel
theorem dX4_text_42 : decode cX4_text 42 = .ok (.iconst 0, 1) := by decide +kernel
theorem dX4_text_43 : decode cX4_text 43 = .ok (.putfield 206, 3) := by decide +kernel
theorem dX4_text_46 : decode cX4_text 46 = .ok (.iload_n 1, 1) := by decide +kernel
theorem dX4_text_47 : decode cX4_text 47 = .ok (.ireturn, 1) := by decide +kernel
set_option maxRecDepth 20000 in
theorem ggX4_hold_X4_within : GoodIn wsX4_hold wsX4_within := goodIn_r _ [6] (by decide +kernel) (by decide +kernel)
set_option maxRecDepth 20000 in
theorem gX4_hold_X4_within : GoodIn wsX4_hold (va_wsS RX4 48 yX4_within wsX4_within) := goodIn_app (goodIn_of _ (by decide +kernel)) ggX4_hold_X4_within
set_option maxRecDepth 20000 in
theorem ggX4_hold_X0_hasSaying : GoodIn wsX4_hold wsX0_hasSaying := goodIn_r _ [11, 12, 4, 5, 6, 32, 33, 34, 35, 36, 37, 38, 39] (by decide +kernel) (by decide +kernel)
set_option maxRecDepth 20000 in
theorem gX4_hold_X0_hasSaying : GoodIn wsX4_hold (wsV RX4 85 RX0 yX0_hasSaying wsX0_hasSaying) := goodIn_app (goodIn_of _ (by decide +kernel)) ggX4_hold_X0_hasSaying
set_option maxRecDepth 20000 in
theorem ggX4_hold_X4_finding : GoodIn wsX4_hold wsX4_finding := goodIn_r _ [16, 2, 17, 3, 4, 5, 6, 25, 26, 27, 28, 29, 30, 31] (by decide +kernel) (by decide +kernel)
set_option maxRecDepth 20000 in
theorem gX4_hold_X4_finding : GoodIn wsX4_hold (wsV RX4 53 RX4 yX4_finding wsX4_finding) := goodIn_app (goodIn_of _ (by decide +kernel)) ggX4_hold_X4_finding
set_option maxRecDepth 20000 in
theorem ggX4_hold_X0_setHeld : GoodIn wsX4_hold wsX0_setHeld := goodIn_r _ [21, 22, 23, 5, 24, 32, 33, 34, 35, 36, 37, 38, 39] (by decide +kernel) (by decide +kernel)
set_option maxRecDepth 20000 in
theorem gX4_hold_X0_setHeld : GoodIn wsX4_hold (wsV RX4 216 RX0 yX0_setHeld wsX0_setHeld) := goodIn_app (goodIn_of _ (by decide +kernel)) ggX4_hold_X0_setHeld
theorem dX4_hold_0 : decode cX4_hold 0 = .ok (.iload_n 1, 1) := by decide +kernel
theorem dX4_hold_1 : decode cX4_hold 1 = .ok (.iconst 0, 1) := by decide +kernel
theorem dX4_hold_2 : decode cX4_hold 2 = .ok (.bipush 9, 2) := by decide +kernel
theorem dX4_hold_4 : decode cX4_hold 4 = .ok (.invokestatic 48, 3) := by decide +kernel
theorem dX4_hold_7 : decode cX4_hold 7 = .ok (.ifCond .eq 19, 3) := by decide +kernel
theorem dX4_hold_10 : decode cX4_hold 10 = .ok (.iload_n 2, 1) := by decide +kernel
theorem dX4_hold_11 : decode cX4_hold 11 = .ok (.iconst (-1), 1) := by decide +kernel
theorem dX4_hold_12 : decode cX4_hold 12 = .ok (.if_icmp .eq 21, 3) := by decide +kernel
theorem dX4_hold_15 : decode cX4_hold 15 = .ok (.aload_n 0, 1) := by decide +kernel
theorem dX4_hold_16 : decode cX4_hold 16 = .ok (.getfield 12, 3) := by decide +kernel
theorem dX4_hold_19 : decode cX4_hold 19 = .ok (.iload_n 2, 1) := by decide +kernel
theorem dX4_hold_20 : decode cX4_hold 20 = .ok (.invokevirtual 85, 3) := by decide +kernel
theorem dX4_hold_23 : decode cX4_hold 23 = .ok (.ifCond .ne 10, 3) := by decide +kernel
theorem dX4_hold_26 : decode cX4_hold 26 = .ok (.aload_n 0, 1) := by decide +kernel
theorem dX4_hold_27 : decode cX4_hold 27 = .ok (.ldc 52, 2) := by decide +kernel
theorem dX4_hold_29 : decode cX4_hold 29 = .ok (.invokevirtual 53, 3) := by decide +kernel
theorem dX4_hold_32 : decode cX4_hold 32 = .ok (.ireturn, 1) := by decide +kernel
theorem dX4_hold_33 : decode cX4_hold 33 = .ok (.aload_n 0, 1) := by decide +kernel
theorem dX4_hold_34 : decode cX4_hold 34 = .ok (.getfield 12, 3) := by decide +kernel
theorem dX4_hold_37 : decode cX4_hold 37 = .ok (.iload_n 1, 1) := by decide +kernel
theorem dX4_hold_38 : decode cX4_hold 38 = .ok (.iload_n 2, 1) := by decide +kernel
theorem dX4_hold_39 : decode cX4_hold 39 = .ok (.invokevirtual 216, 3) := by decide +kernel
theorem dX4_hold_42 : decode cX4_hold 42 = .ok (.iconst 1, 1) := by decide +kernel
theorem dX4_hold_43 : decode cX4_hold 43 = .ok (.ireturn, 1) := by decide +kernel
set_option maxRecDepth 20000 in
theorem ggX4_as_X4_within : GoodIn wsX4_as wsX4_within := goodIn_r _ [8] (by decide +kernel) (by decide +kernel)
set_option maxRecDepth 20000 in
theorem gX4_as_X4_within : GoodIn wsX4_as (va_wsS RX4 48 yX4_within wsX4_within) := goodIn_app (goodIn_of _ (by decide +kernel)) ggX4_as_X4_within
set_option maxRecDepth 20000 in
theorem ggX4_as_X4_isKind : GoodIn wsX4_as wsX4_isKind := goodIn_r _ [11, 5, 6, 7, 8] (by decide +kernel) (by decide +kernel)
set_option maxRecDepth 20000 in
theorem gX4_as_X4_isKind : GoodIn wsX4_as (va_wsS RX4 64 yX4_isKind wsX4_isKind) := goodIn_app (goodIn_of _ (by decide +kernel)) ggX4_as_X4_isKind
set_option maxRecDepth 20000 in
theorem ggX4_as_X4_finding : GoodIn wsX4_as wsX4_finding := goodIn_r _ [15, 1, 16, 5, 6, 7, 8, 37, 38, 39, 40, 41, 42, 43] (by decide +kernel) (by decide +kernel)
set_option maxRecDepth 20000 in
theorem gX4_as_X4_finding : GoodIn wsX4_as (wsV RX4 53 RX4 yX4_finding wsX4_finding) := goodIn_app (goodIn_of _ (by decide +kernel)) ggX4_as_X4_finding
set_option maxRecDepth 20000 in
theorem ggX4_as_X0_heldIn : GoodIn wsX4_as wsX0_heldIn := goodIn_r _ [21, 22, 23, 7, 24, 44, 45, 46, 47, 48, 49, 50, 51] (by decide +kernel) (by decide +kernel)
set_option maxRecDepth 20000 in
theorem gX4_as_X0_heldIn : GoodIn wsX4_as (wsV RX4 219 RX0 yX0_heldIn wsX0_heldIn) := goodIn_app (goodIn_of _ (by decide +kernel)) ggX4_as_X0_heldIn
set_option maxRecDepth 20000 in
theorem ggX4_as_X0_sayingHas : GoodIn wsX4_as wsX0_sayingHas := goodIn_r _ [28, 29, 44, 45, 46, 47, 48, 49, 50, 51] (by decide +kernel) (by decide +kernel)
set_option maxRecDepth 20000 in
theorem gX4_as_X0_sayingHas : GoodIn wsX4_as (wsV RX4 99 RX0 yX0_sayingHas wsX0_sayingHas) := goodIn_app (goodIn_of _ (by decide +kernel)) ggX4_as_X0_sayingHas
set_option maxRecDepth 20000 in
theorem ggX4_as_X1_isOrIsUnder : GoodIn wsX4_as wsX1_isOrIsUnder := goodIn_r _ [33, 34, 35, 32, 36] (by decide +kernel) (by decide +kernel)
set_option maxRecDepth 20000 in
theorem gX4_as_X1_isOrIsUnder : GoodIn wsX4_as (va_wsS RX4 223 yX1_isOrIsUnder wsX1_isOrIsUnder) := goodIn_app (goodIn_of _ (by decide +kernel)) ggX4_as_X1_isOrIsUnder
theorem dX4_as_0 : decode cX4_as 0 = .ok (.iload_n 1, 1) := by decide +kernel
theorem dX4_as_1 : decode cX4_as 1 = .ok (.iconst 0, 1) := by decide +kernel
theorem dX4_as_2 : decode cX4_as 2 = .ok (.bipush 9, 2) := by decide +kernel
theorem dX4_as_4 : decode cX4_as 4 = .ok (.invokestatic 48, 3) := by decide +kernel
theorem dX4_as_7 : decode cX4_as 7 = .ok (.ifCond .eq 10, 3) := by decide +kernel
theorem dX4_as_10 : decode cX4_as 10 = .ok (.iload_n 2, 1) := by decide +kernel
theorem dX4_as_11 : decode cX4_as 11 = .ok (.invokestatic 64, 3) := by decide +kernel
theorem dX4_as_14 : decode cX4_as 14 = .ok (.ifCond .ne 10, 3) := by decide +kernel
theorem dX4_as_17 : decode cX4_as 17 = .ok (.aload_n 0, 1) := by decide +kernel
theorem dX4_as_18 : decode cX4_as 18 = .ok (.ldc 52, 2) := by decide +kernel
theorem dX4_as_20 : decode cX4_as 20 = .ok (.invokevirtual 53, 3) := by decide +kernel
theorem dX4_as_23 : decode cX4_as 23 = .ok (.ireturn, 1) := by decide +kernel
theorem dX4_as_24 : decode cX4_as 24 = .ok (.aload_n 0, 1) := by decide +kernel
theorem dX4_as_25 : decode cX4_as 25 = .ok (.getfield 12, 3) := by decide +kernel
theorem dX4_as_28 : decode cX4_as 28 = .ok (.iload_n 1, 1) := by decide +kernel
theorem dX4_as_29 : decode cX4_as 29 = .ok (.invokevirtual 219, 3) := by decide +kernel
theorem dX4_as_32 : decode cX4_as 32 = .ok (.istore_n 3, 1) := by decide +kernel
theorem dX4_as_33 : decode cX4_as 33 = .ok (.iload_n 3, 1) := by decide +kernel
theorem dX4_as_34 : decode cX4_as 34 = .ok (.iconst (-1), 1) := by decide +kernel
theorem dX4_as_35 : decode cX4_as 35 = .ok (.if_icmp .ne 10, 3) := by decide +kernel
theorem dX4_as_38 : decode cX4_as 38 = .ok (.aload_n 0, 1) := by decide +kernel
theorem dX4_as_39 : decode cX4_as 39 = .ok (.ldc 222, 2) := by decide +kernel
theorem dX4_as_41 : decode cX4_as 41 = .ok (.invokevirtual 53, 3) := by decide +kernel
theorem dX4_as_44 : decode cX4_as 44 = .ok (.ireturn, 1) := by decide +kernel
theorem dX4_as_45 : decode cX4_as 45 = .ok (.aload_n 0, 1) := by decide +kernel
theorem dX4_as_46 : decode cX4_as 46 = .ok (.getfield 12, 3) := by decide +kernel
theorem dX4_as_49 : decode cX4_as 49 = .ok (.iload_n 3, 1) := by decide +kernel
theorem dX4_as_50 : decode cX4_as 50 = .ok (.iconst 0, 1) := by decide +kernel
theorem dX4_as_51 : decode cX4_as 51 = .ok (.invokevirtual 99, 3) := by decide +kernel
theorem dX4_as_54 : decode cX4_as 54 = .ok (.iload_n 2, 1) := by decide +kernel
theorem dX4_as_55 : decode cX4_as 55 = .ok (.invokestatic 223, 3) := by decide +kernel
theorem dX4_as_58 : decode cX4_as 58 = .ok (.istore 4, 2) := by decide +kernel
theorem dX4_as_60 : decode cX4_as 60 = .ok (.iload 4, 2) := by decide +kernel
theorem dX4_as_62 : decode cX4_as 62 = .ok (.ifCond .eq 7, 3) := by decide +kernel
theorem dX4_as_65 : decode cX4_as 65 = .ok (.iload_n 3, 1) := by decide +kernel
theorem dX4_as_66 : decode cX4_as 66 = .ok (.goto 9, 3) := by decide +kernel
theorem dX4_as_69 : decode cX4_as 69 = .ok (.aload_n 0, 1) := by decide +kernel
theorem dX4_as_70 : decode cX4_as 70 = .ok (.ldc 228, 2) := by decide +kernel
theorem dX4_as_72 : decode cX4_as 72 = .ok (.invokevirtual 53, 3) := by decide +kernel
theorem dX4_as_75 : decode cX4_as 75 = .ok (.ireturn, 1) := by decide +kernel
set_option maxRecDepth 20000 in
theorem ggX4_sheet_X4_isSheet : GoodIn wsX4_sheet wsX4_isSheet := goodIn_r _ [7, 8, 9, 6, 10] (by decide +kernel) (by decide +kernel)
set_option maxRecDepth 20000 in
theorem gX4_sheet_X4_isSheet : GoodIn wsX4_sheet (va_wsS RX4 229 yX4_isSheet wsX4_isSheet) := goodIn_app (goodIn_of _ (by decide +kernel)) ggX4_sheet_X4_isSheet
set_option maxRecDepth 20000 in
theorem ggX4_sheet_X4_finding : GoodIn wsX4_sheet wsX4_finding := goodIn_r _ [14, 1, 15, 8, 9, 6, 10, 26, 27, 28, 29, 30, 31, 32] (by decide +kernel) (by decide +kernel)
set_option maxRecDepth 20000 in
theorem gX4_sheet_X4_finding : GoodIn wsX4_sheet (wsV RX4 53 RX4 yX4_finding wsX4_finding) := goodIn_app (goodIn_of _ (by decide +kernel)) ggX4_sheet_X4_finding
set_option maxRecDepth 20000 in
theorem ggX4_sheet_X2_lay : GoodIn wsX4_sheet wsX2_lay := goodIn_r _ [20, 21, 22, 23, 24, 6, 25, 33, 34, 35] (by decide +kernel) (by decide +kernel)
set_option maxRecDepth 20000 in
theorem gX4_sheet_X2_lay : GoodIn wsX4_sheet (wsV RX4 233 RX2 yX2_lay wsX2_lay) := goodIn_app (goodIn_of _ (by decide +kernel)) ggX4_sheet_X2_lay
theorem dX4_sheet_0 : decode cX4_sheet 0 = .ok (.iload_n 1, 1) := by decide +kernel
theorem dX4_sheet_1 : decode cX4_sheet 1 = .ok (.invokestatic 229, 3) := by decide +kernel
theorem dX4_sheet_4 : decode cX4_sheet 4 = .ok (.ifCond .eq 25, 3) := by decide +kernel
theorem dX4_sheet_7 : decode cX4_sheet 7 = .ok (.iload_n 2, 1) := by decide +kernel
theorem dX4_sheet_8 : decode cX4_sheet 8 = .ok (.ifCond .eq 28, 3) := by decide +kernel
theorem dX4_sheet_11 : decode cX4_sheet 11 = .ok (.iload_n 2, 1) := by decide +kernel
theorem dX4_sheet_12 : decode cX4_sheet 12 = .ok (.bipush 8, 2) := by decide +kernel
theorem dX4_sheet_14 : decode cX4_sheet 14 = .ok (.if_icmp .eq 22, 3) := by decide +kernel
theorem dX4_sheet_17 : decode cX4_sheet 17 = .ok (.iload_n 2, 1) := by decide +kernel
theorem dX4_sheet_18 : decode cX4_sheet 18 = .ok (.bipush 16, 2) := by decide +kernel
theorem dX4_sheet_20 : decode cX4_sheet 20 = .ok (.if_icmp .eq 16, 3) := by decide +kernel
theorem dX4_sheet_23 : decode cX4_sheet 23 = .ok (.iload_n 2, 1) := by decide +kernel
theorem dX4_sheet_24 : decode cX4_sheet 24 = .ok (.bipush 32, 2) := by decide +kernel
theorem dX4_sheet_26 : decode cX4_sheet 26 = .ok (.if_icmp .eq 10, 3) := by decide +kernel
theorem dX4_sheet_29 : decode cX4_sheet 29 = .ok (.aload_n 0, 1) := by decide +kernel
theorem dX4_sheet_30 : decode cX4_sheet 30 = .ok (.ldc 52, 2) := by decide +kernel
theorem dX4_sheet_32 : decode cX4_sheet 32 = .ok (.invokevirtual 53, 3) := by decide +kernel
theorem dX4_sheet_35 : decode cX4_sheet 35 = .ok (.ireturn, 1) := by decide +kernel
theorem dX4_sheet_36 : decode cX4_sheet 36 = .ok (.iload_n 3, 1) := by decide +kernel
theorem dX4_sheet_37 : decode cX4_sheet 37 = .ok (.ifCond .ge 10, 3) := by decide +kernel
theorem dX4_sheet_40 : decode cX4_sheet 40 = .ok (.aload_n 0, 1) := by decide +kernel
theorem dX4_sheet_41 : decode cX4_sheet 41 = .ok (.ldc 232, 2) := by decide +kernel
theorem dX4_sheet_43 : decode cX4_sheet 43 = .ok (.invokevirtual 53, 3) := by decide +kernel
theorem dX4_sheet_46 : decode cX4_sheet 46 = .ok (.ireturn, 1) := by decide +kernel
theorem dX4_sheet_47 : decode cX4_sheet 47 = .ok (.iload_n 3, 1) := by decide +kernel
theorem dX4_sheet_48 : decode cX4_sheet 48 = .ok (.bipush 40, 2) := by decide +kernel
theorem dX4_sheet_50 : decode cX4_sheet 50 = .ok (.if_icmp .le 10, 3) := by decide +kernel
theorem dX4_sheet_53 : decode cX4_sheet 53 = .ok (.aload_n 0, 1) := by decide +kernel
theorem dX4_sheet_54 : decode cX4_sheet 54 = .ok (.ldc 52, 2) := by decide +kernel
theorem dX4_sheet_56 : decode cX4_sheet 56 = .ok (.invokevirtual 53, 3) := by decide +kernel
theorem dX4_sheet_59 : decode cX4_sheet 59 = .ok (.ireturn, 1) := by decide +kernel
theorem dX4_sheet_60 : decode cX4_sheet 60 = .ok (.aload_n 0, 1) := by decide +kernel
theorem dX4_sheet_61 : decode cX4_sheet 61 = .ok (.getfield 36, 3) := by decide +kernel
theorem dX4_sheet_64 : decode cX4_sheet 64 = .ok (.iload_n 1, 1) := by decide +kernel
theorem dX4_sheet_65 : decode cX4_sheet 65 = .ok (.iload_n 2, 1) := by decide +kernel
theorem dX4_sheet_66 : decode cX4_sheet 66 = .ok (.iload_n 3, 1) := by decide +kernel
theorem dX4_sheet_67 : decode cX4_sheet 67 = .ok (.invokevirtual 233, 3) := by decide +kernel
theorem dX4_sheet_70 : decode cX4_sheet 70 = .ok (.ireturn, 1) := by decide +kernel
set_option maxRecDepth 20000 in
theorem ggX4_write_X4_faultOfSheet : GoodIn wsX4_write wsX4_faultOfSheet := goodIn_r _ [7, 2, 1, 8, 9, 10, 6, 11, 12, 13, 14, 15, 16, 17, 18, 19, 20, 21, 22, 23, 24, 25, 26, 44, 45, 46, 47, 48, 49, 50, 51, 52, 53] (by decide +kernel) (by decide +kernel)
set_option maxRecDepth 20000 in
theorem gX4_write_X4_faultOfSheet : GoodIn wsX4_write (wsV RX4 236 RX4 yX4_faultOfSheet wsX4_faultOfSheet) := goodIn_app (goodIn_of _ (by decide +kernel)) ggX4_write_X4_faultOfSheet
set_option maxRecDepth 20000 in
theorem ggX4_write_X4_finding : GoodIn wsX4_write wsX4_finding := goodIn_r _ [30, 2, 31, 12, 13, 6, 14, 44, 45, 46, 47, 48, 49, 50] (by decide +kernel) (by decide +kernel)
set_option maxRecDepth 20000 in
theorem gX4_write_X4_finding : GoodIn wsX4_write (wsV RX4 53 RX4 yX4_finding wsX4_finding) := goodIn_app (goodIn_of _ (by decide +kernel)) ggX4_write_X4_finding
set_option maxRecDepth 20000 in
theorem ggX4_write_X2_sizeOf : GoodIn wsX4_write wsX2_sizeOf := goodIn_r _ [35, 36, 25, 6, 26, 51, 52, 53] (by decide +kernel) (by decide +kernel)
set_option maxRecDepth 20000 in
theorem gX4_write_X2_sizeOf : GoodIn wsX4_write (wsV RX4 239 RX2 yX2_sizeOf wsX2_sizeOf) := goodIn_app (goodIn_of _ (by decide +kernel)) ggX4_write_X2_sizeOf
set_option maxRecDepth 20000 in
theorem ggX4_write_X4_within : GoodIn wsX4_write wsX4_within := goodIn_r _ [14] (by decide +kernel) (by decide +kernel)
set_option maxRecDepth 20000 in
theorem gX4_write_X4_within : GoodIn wsX4_write (va_wsS RX4 48 yX4_within wsX4_within) := goodIn_app (goodIn_of _ (by decide +kernel)) ggX4_write_X4_within
set_option maxRecDepth 20000 in
theorem ggX4_write_X2_put : GoodIn wsX4_write wsX2_put := goodIn_r _ [40, 41, 20, 21, 22, 18, 23, 24, 25, 6, 26, 42, 43, 51, 52, 53] (by decide +kernel) (by decide +kernel)
set_option maxRecDepth 20000 in
theorem gX4_write_X2_put : GoodIn wsX4_write (wsV RX4 242 RX2 yX2_put wsX2_put) := goodIn_app (goodIn_of _ (by decide +kernel)) ggX4_write_X2_put
theorem dX4_write_0 : decode cX4_write 0 = .ok (.aload_n 0, 1) := by decide +kernel
theorem dX4_write_1 : decode cX4_write 1 = .ok (.iload_n 1, 1) := by decide +kernel
theorem dX4_write_2 : decode cX4_write 2 = .ok (.invokevirtual 236, 3) := by decide +kernel
theorem dX4_write_5 : decode cX4_write 5 = .ok (.istore 4, 2) := by decide +kernel
theorem dX4_write_7 : decode cX4_write 7 = .ok (.iload 4, 2) := by decide +kernel
theorem dX4_write_9 : decode cX4_write 9 = .ok (.ifCond .eq 10, 3) := by decide +kernel
theorem dX4_write_12 : decode cX4_write 12 = .ok (.aload_n 0, 1) := by decide +kernel
theorem dX4_write_13 : decode cX4_write 13 = .ok (.iload 4, 2) := by decide +kernel
theorem dX4_write_15 : decode cX4_write 15 = .ok (.invokevirtual 53, 3) := by decide +kernel
theorem dX4_write_18 : decode cX4_write 18 = .ok (.ireturn, 1) := by decide +kernel
theorem dX4_write_19 : decode cX4_write 19 = .ok (.iload_n 2, 1) := by decide +kernel
theorem dX4_write_20 : decode cX4_write 20 = .ok (.iconst 0, 1) := by decide +kernel
theorem dX4_write_21 : decode cX4_write 21 = .ok (.aload_n 0, 1) := by decide +kernel
theorem dX4_write_22 : decode cX4_write 22 = .ok (.getfield 36, 3) := by decide +kernel
theorem dX4_write_25 : decode cX4_write 25 = .ok (.iload_n 1, 1) := by decide +kernel
theorem dX4_write_26 : decode cX4_write 26 = .ok (.invokevirtual 239, 3) := by decide +kernel
theorem dX4_write_29 : decode cX4_write 29 = .ok (.iconst 1, 1) := by decide +kernel
theorem dX4_write_30 : decode cX4_write 30 = .ok (.isub, 1) := by decide +kernel
theorem dX4_write_31 : decode cX4_write 31 = .ok (.invokestatic 48, 3) := by decide +kernel
theorem dX4_write_34 : decode cX4_write 34 = .ok (.ifCond .ne 10, 3) := by decide +kernel
theorem dX4_write_37 : decode cX4_write 37 = .ok (.aload_n 0, 1) := by decide +kernel
theorem dX4_write_38 : decode cX4_write 38 = .ok (.ldc 52, 2) := by decide +kernel
theorem dX4_write_40 : decode cX4_write 40 = .ok (.invokevirtual 53, 3) := by decide +kernel
theorem dX4_write_43 : decode cX4_write 43 = .ok (.ireturn, 1) := by decide +kernel
theorem dX4_write_44 : decode cX4_write 44 = .ok (.aload_n 0, 1) := by decide +kernel
theorem dX4_write_45 : decode cX4_write 45 = .ok (.getfield 36, 3) := by decide +kernel
theorem dX4_write_48 : decode cX4_write 48 = .ok (.iload_n 1, 1) := by decide +kernel
theorem dX4_write_49 : decode cX4_write 49 = .ok (.iload_n 2, 1) := by decide +kernel
theorem dX4_write_50 : decode cX4_write 50 = .ok (.iload_n 3, 1) := by decide +kernel
theorem dX4_write_51 : decode cX4_write 51 = .ok (.invokevirtual 242, 3) := by decide +kernel
theorem dX4_write_54 : decode cX4_write 54 = .ok (.iconst 1, 1) := by decide +kernel
theorem dX4_write_55 : decode cX4_write 55 = .ok (.ireturn, 1) := by decide +kernel
set_option maxRecDepth 20000 in
theorem ggX4_copy_X4_isSheet : GoodIn wsX4_copy wsX4_isSheet := goodIn_r _ [8, 9, 10, 7, 11] (by decide +kernel) (by decide +kernel)
set_option maxRecDepth 20000 in
theorem gX4_copy_X4_isSheet : GoodIn wsX4_copy (va_wsS RX4 229 yX4_isSheet wsX4_isSheet) := goodIn_app (goodIn_of _ (by decide +kernel)) ggX4_copy_X4_isSheet
set_option maxRecDepth 20000 in
theorem ggX4_copy_X4_finding : GoodIn wsX4_copy wsX4_finding := goodIn_r _ [15, 1, 16, 9, 10, 7, 11, 49, 50, 51, 52, 53, 54, 55] (by decide +kernel) (by decide +kernel)
set_option maxRecDepth 20000 in
theorem gX4_copy_X4_finding : GoodIn wsX4_copy (wsV RX4 53 RX4 yX4_finding wsX4_finding) := goodIn_app (goodIn_of _ (by decide +kernel)) ggX4_copy_X4_finding
set_option maxRecDepth 20000 in
theorem ggX4_copy_X2_isMissing : GoodIn wsX4_copy wsX2_isMissing := goodIn_r _ [21, 22, 23, 24, 20, 25, 26, 27, 7, 28, 56, 57, 58] (by decide +kernel) (by decide +kernel)
set_option maxRecDepth 20000 in
theorem gX4_copy_X2_isMissing : GoodIn wsX4_copy (wsV RX4 245 RX2 yX2_isMissing wsX2_isMissing) := goodIn_app (goodIn_of _ (by decide +kernel)) ggX4_copy_X2_isMissing
set_option maxRecDepth 20000 in
theorem ggX4_copy_X2_bitsOf : GoodIn wsX4_copy wsX2_bitsOf := goodIn_r _ [25, 26, 27, 7, 28, 56, 57, 58] (by decide +kernel) (by decide +kernel)
set_option maxRecDepth 20000 in
theorem gX4_copy_X2_bitsOf : GoodIn wsX4_copy (wsV RX4 248 RX2 yX2_bitsOf wsX2_bitsOf) := goodIn_app (goodIn_of _ (by decide +kernel)) ggX4_copy_X2_bitsOf
set_option maxRecDepth 20000 in
theorem ggX4_copy_X2_hasSoMany : GoodIn wsX4_copy wsX2_hasSoMany := goodIn_r _ [33, 34, 35, 36, 20, 37, 38, 27, 7, 28, 56, 57, 58] (by decide +kernel) (by decide +kernel)
set_option maxRecDepth 20000 in
theorem gX4_copy_X2_hasSoMany : GoodIn wsX4_copy (wsV RX4 251 RX2 yX2_hasSoMany wsX2_hasSoMany) := goodIn_app (goodIn_of _ (by decide +kernel)) ggX4_copy_X2_hasSoMany
set_option maxRecDepth 20000 in
theorem ggX4_copy_X2_carry : GoodIn wsX4_copy wsX2_carry := goodIn_r _ [42, 43, 44, 45, 46, 47, 6, 7, 8, 9, 10, 11, 48, 31, 32, 20, 33, 34, 35, 36, 37, 38, 27, 28, 56, 57, 58] (by decide +kernel) (by decide +kernel)
set_option maxRecDepth 20000 in
theorem gX4_copy_X2_carry : GoodIn wsX4_copy (wsV RX4 254 RX2 yX2_carry wsX2_carry) := goodIn_app (goodIn_of _ (by decide +kernel)) ggX4_copy_X2_carry
theorem dX4_copy_0 : decode cX4_copy 0 = .ok (.iload_n 1, 1) := by decide +kernel
theorem dX4_copy_1 : decode cX4_copy 1 = .ok (.invokestatic 229, 3) := by decide +kernel
theorem dX4_copy_4 : decode cX4_copy 4 = .ok (.ifCond .eq 10, 3) := by decide +kernel
theorem dX4_copy_7 : decode cX4_copy 7 = .ok (.iload_n 3, 1) := by decide +kernel
theorem dX4_copy_8 : decode cX4_copy 8 = .ok (.invokestatic 229, 3) := by decide +kernel
theorem dX4_copy_11 : decode cX4_copy 11 = .ok (.ifCond .ne 10, 3) := by decide +kernel
theorem dX4_copy_14 : decode cX4_copy 14 = .ok (.aload_n 0, 1) := by decide +kernel
theorem dX4_copy_15 : decode cX4_copy 15 = .ok (.ldc 52, 2) := by decide +kernel
theorem dX4_copy_17 : decode cX4_copy 17 = .ok (.invokevirtual 53, 3) := by decide +kernel
theorem dX4_copy_20 : decode cX4_copy 20 = .ok (.ireturn, 1) := by decide +kernel
theorem dX4_copy_21 : decode cX4_copy 21 = .ok (.aload_n 0, 1) := by decide +kernel
theorem dX4_copy_22 : decode cX4_copy 22 = .ok (.getfield 36, 3) := by decide +kernel
theorem dX4_copy_25 : decode cX4_copy 25 = .ok (.iload_n 1, 1) := by decide +kernel
theorem dX4_copy_26 : decode cX4_copy 26 = .ok (.invokevirtual 245, 3) := by decide +kernel
theorem dX4_copy_29 : decode cX4_copy 29 = .ok (.ifCond .ne 14, 3) := by decide +kernel
theorem dX4_copy_32 : decode cX4_copy 32 = .ok (.aload_n 0, 1) := by decide +kernel
theorem dX4_copy_33 : decode cX4_copy 33 = .ok (.getfield 36, 3) := by decide +kernel
theorem dX4_copy_36 : decode cX4_copy 36 = .ok (.iload_n 3, 1) := by decide +kernel
theorem dX4_copy_37 : decode cX4_copy 37 = .ok (.invokevirtual 245, 3) := by decide +kernel
theorem dX4_copy_40 : decode cX4_copy 40 = .ok (.ifCond .eq 10, 3) := by decide +kernel
theorem dX4_copy_43 : decode cX4_copy 43 = .ok (.aload_n 0, 1) := by decide +kernel
theorem dX4_copy_44 : decode cX4_copy 44 = .ok (.ldc 222, 2) := by decide +kernel
theorem dX4_copy_46 : decode cX4_copy 46 = .ok (.invokevirtual 53, 3) := by decide +kernel
theorem dX4_copy_49 : decode cX4_copy 49 = .ok (.ireturn, 1) := by decide +kernel
theorem dX4_copy_50 : decode cX4_copy 50 = .ok (.aload_n 0, 1) := by decide +kernel
theorem dX4_copy_51 : decode cX4_copy 51 = .ok (.getfield 36, 3) := by decide +kernel
theorem dX4_copy_54 : decode cX4_copy 54 = .ok (.iload_n 1, 1) := by decide +kernel
theorem dX4_copy_55 : decode cX4_copy 55 = .ok (.invokevirtual 248, 3) := by decide +kernel
theorem dX4_copy_58 : decode cX4_copy 58 = .ok (.aload_n 0, 1) := by decide +kernel
theorem dX4_copy_59 : decode cX4_copy 59 = .ok (.getfield 36, 3) := by decide +kernel
theorem dX4_copy_62 : decode cX4_copy 62 = .ok (.iload_n 3, 1) := by decide +kernel
theorem dX4_copy_63 : decode cX4_copy 63 = .ok (.invokevirtual 248, 3) := by decide +kernel
theorem dX4_copy_66 : decode cX4_copy 66 = .ok (.if_icmp .eq 10, 3) := by decide +kernel
theorem dX4_copy_69 : decode cX4_copy 69 = .ok (.aload_n 0, 1) := by decide +kernel
theorem dX4_copy_70 : decode cX4_copy 70 = .ok (.ldc 228, 2) := by decide +kernel
theorem dX4_copy_72 : decode cX4_copy 72 = .ok (.invokevirtual 53, 3) := by decide +kernel
theorem dX4_copy_75 : decode cX4_copy 75 = .ok (.ireturn, 1) := by decide +kernel
theorem dX4_copy_76 : decode cX4_copy 76 = .ok (.aload_n 0, 1) := by decide +kernel
theorem dX4_copy_77 : decode cX4_copy 77 = .ok (.getfield 36, 3) := by decide +kernel
theorem dX4_copy_80 : decode cX4_copy 80 = .ok (.iload_n 1, 1) := by decide +kernel
theorem dX4_copy_81 : decode cX4_copy 81 = .ok (.iload_n 2, 1) := by decide +kernel
theorem dX4_copy_82 : decode cX4_copy 82 = .ok (.iload 5, 2) := by decide +kernel
theorem dX4_copy_84 : decode cX4_copy 84 = .ok (.invokevirtual 251, 3) := by decide +kernel
theorem dX4_copy_87 : decode cX4_copy 87 = .ok (.ifCond .eq 18, 3) := by decide +kernel
theorem dX4_copy_90 : decode cX4_copy 90 = .ok (.aload_n 0, 1) := by decide +kernel
theorem dX4_copy_91 : decode cX4_copy 91 = .ok (.getfield 36, 3) := by decide +kernel
theorem dX4_copy_94 : decode cX4_copy 94 = .ok (.iload_n 3, 1) := by decide +kernel
theorem dX4_copy_95 : decode cX4_copy 95 = .ok (.iload 4, 2) := by decide +kernel
theorem dX4_copy_97 : decode cX4_copy 97 = .ok (.iload 5, 2) := by decide +kernel
theorem dX4_copy_99 : decode cX4_copy 99 = .ok (.invokevirtual 251, 3) := by decide +kernel
theorem dX4_copy_102 : decode cX4_copy 102 = .ok (.ifCond .ne 10, 3) := by decide +kernel
theorem dX4_copy_105 : decode cX4_copy 105 = .ok (.aload_n 0, 1) := by decide +kernel
theorem dX4_copy_106 : decode cX4_copy 106 = .ok (.ldc 52, 2) := by decide +kernel
theorem dX4_copy_108 : decode cX4_copy 108 = .ok (.invokevirtual 53, 3) := by decide +kernel
theorem dX4_copy_111 : decode cX4_copy 111 = .ok (.ireturn, 1) := by decide +kernel
theorem dX4_copy_112 : decode cX4_copy 112 = .ok (.aload_n 0, 1) := by decide +kernel
theorem dX4_copy_113 : decode cX4_copy 113 = .ok (.getfield 36, 3) := by decide +kernel
theorem dX4_copy_116 : decode cX4_copy 116 = .ok (.iload_n 1, 1) := by decide +kernel
theorem dX4_copy_117 : decode cX4_copy 117 = .ok (.iload_n 2, 1) := by decide +kernel
theorem dX4_copy_118 : decode cX4_copy 118 = .ok (.iload_n 3, 1) := by decide +kernel
theorem dX4_copy_119 : decode cX4_copy 119 = .ok (.iload 4, 2) := by decide +kernel
theorem dX4_copy_121 : decode cX4_copy 121 = .ok (.iload 5, 2) := by decide +kernel
theorem dX4_copy_123 : decode cX4_copy 123 = .ok (.invokevirtual 254, 3) := by decide +kernel
theorem dX4_copy_126 : decode cX4_copy 126 = .ok (.iload 5, 2) := by decide +kernel
theorem dX4_copy_128 : decode cX4_copy 128 = .ok (.ireturn, 1) := by decide +kernel
set_option maxRecDepth 20000 in
theorem ggX4_load_X4_faultOfSheet : GoodIn wsX4_load wsX4_faultOfSheet := goodIn_r _ [11, 12, 1, 13, 14, 15, 10, 16, 17, 18, 19, 20, 21, 22, 23, 24, 25, 26, 27, 28, 29, 30, 31, 55, 56, 57, 58, 59, 60, 61, 70, 71, 72] (by decide +kernel) (by decide +kernel)
set_option maxRecDepth 20000 in
theorem gX4_load_X4_faultOfSheet : GoodIn wsX4_load (wsV RX4 236 RX4 yX4_faultOfSheet wsX4_faultOfSheet) := goodIn_app (goodIn_of _ (by decide +kernel)) ggX4_load_X4_faultOfSheet
set_option maxRecDepth 20000 in
theorem ggX4_load_X4_finding : GoodIn wsX4_load wsX4_finding := goodIn_r _ [35, 12, 36, 17, 18, 10, 19, 55, 56, 57, 58, 59, 60, 61] (by decide +kernel) (by decide +kernel)
set_option maxRecDepth 20000 in
theorem gX4_load_X4_finding : GoodIn wsX4_load (wsV RX4 53 RX4 yX4_finding wsX4_finding) := goodIn_app (goodIn_of _ (by decide +kernel)) ggX4_load_X4_finding
set_option maxRecDepth 20000 in
theorem ggX4_load_X2_sizeOf : GoodIn wsX4_load wsX2_sizeOf := goodIn_r _ [40, 41, 30, 10, 31, 70, 71, 72] (by decide +kernel) (by decide +kernel)
set_option maxRecDepth 20000 in
theorem gX4_load_X2_sizeOf : GoodIn wsX4_load (wsV RX4 239 RX2 yX2_sizeOf wsX2_sizeOf) := goodIn_app (goodIn_of _ (by decide +kernel)) ggX4_load_X2_sizeOf
set_option maxRecDepth 20000 in
theorem ggX4_load_X2_numberOf : GoodIn wsX4_load wsX2_numberOf := goodIn_r _ [45, 46, 30, 10, 31, 70, 71, 72] (by decide +kernel) (by decide +kernel)
set_option maxRecDepth 20000 in
theorem gX4_load_X2_numberOf : GoodIn wsX4_load (wsV RX4 263 RX2 yX2_numberOf wsX2_numberOf) := goodIn_app (goodIn_of _ (by decide +kernel)) ggX4_load_X2_numberOf
set_option maxRecDepth 20000 in
theorem ggX4_load_X4_within : GoodIn wsX4_load wsX4_within := goodIn_r _ [19] (by decide +kernel) (by decide +kernel)
set_option maxRecDepth 20000 in
theorem gX4_load_X4_within : GoodIn wsX4_load (va_wsS RX4 48 yX4_within wsX4_within) := goodIn_app (goodIn_of _ (by decide +kernel)) ggX4_load_X4_within
set_option maxRecDepth 20000 in
theorem ggX4_load_X0_setOfSaying : GoodIn wsX4_load wsX0_setOfSaying := goodIn_r _ [51, 52, 53, 10, 54, 62, 63, 64, 65, 66, 67, 68, 69] (by decide +kernel) (by decide +kernel)
set_option maxRecDepth 20000 in
theorem gX4_load_X0_setOfSaying : GoodIn wsX4_load (wsV RX4 102 RX0 yX0_setOfSaying wsX0_setOfSaying) := goodIn_app (goodIn_of _ (by decide +kernel)) ggX4_load_X0_setOfSaying
theorem dX4_load_0 : decode cX4_load 0 = .ok (.aload_n 0, 1) := by decide +kernel
theorem dX4_load_1 : decode cX4_load 1 = .ok (.iload_n 1, 1) := by decide +kernel
theorem dX4_load_2 : decode cX4_load 2 = .ok (.invokevirtual 236, 3) := by decide +kernel
theorem dX4_load_5 : decode cX4_load 5 = .ok (.istore_n 2, 1) := by decide +kernel
theorem dX4_load_6 : decode cX4_load 6 = .ok (.iload_n 2, 1) := by decide +kernel
theorem dX4_load_7 : decode cX4_load 7 = .ok (.ifCond .eq 9, 3) := by decide +kernel
theorem dX4_load_10 : decode cX4_load 10 = .ok (.aload_n 0, 1) := by decide +kernel
theorem dX4_load_11 : decode cX4_load 11 = .ok (.iload_n 2, 1) := by decide +kernel
theorem dX4_load_12 : decode cX4_load 12 = .ok (.invokevirtual 53, 3) := by decide +kernel
theorem dX4_load_15 : decode cX4_load 15 = .ok (.ireturn, 1) := by decide +kernel
theorem dX4_load_16 : decode cX4_load 16 = .ok (.aload_n 0, 1) := by decide +kernel
theorem dX4_load_17 : decode cX4_load 17 = .ok (.getfield 36, 3) := by decide +kernel
theorem dX4_load_20 : decode cX4_load 20 = .ok (.iload_n 1, 1) := by decide +kernel
theorem dX4_load_21 : decode cX4_load 21 = .ok (.invokevirtual 239, 3) := by decide +kernel
theorem dX4_load_24 : decode cX4_load 24 = .ok (.aload_n 0, 1) := by decide +kernel
theorem dX4_load_25 : decode cX4_load 25 = .ok (.getfield 12, 3) := by decide +kernel
theorem dX4_load_28 : decode cX4_load 28 = .ok (.getfield 70, 3) := by decide +kernel
theorem dX4_load_31 : decode cX4_load 31 = .ok (.invokestatic 258, 3) := by decide +kernel
theorem dX4_load_34 : decode cX4_load 34 = .ok (.istore_n 3, 1) := by decide +kernel
theorem dX4_load_35 : decode cX4_load 35 = .ok (.iconst 0, 1) := by decide +kernel
theorem dX4_load_36 : decode cX4_load 36 = .ok (.istore 4, 2) := by decide +kernel
theorem dX4_load_38 : decode cX4_load 38 = .ok (.iload 4, 2) := by decide +kernel
theorem dX4_load_40 : decode cX4_load 40 = .ok (.iload_n 3, 1) := by decide +kernel
theorem dX4_load_41 : decode cX4_load 41 = .ok (.if_icmp .ge 47, 3) := by decide +kernel
theorem dX4_load_44 : decode cX4_load 44 = .ok (.aload_n 0, 1) := by decide +kernel
theorem dX4_load_45 : decode cX4_load 45 = .ok (.getfield 36, 3) := by decide +kernel
theorem dX4_load_48 : decode cX4_load 48 = .ok (.iload_n 1, 1) := by decide +kernel
theorem dX4_load_49 : decode cX4_load 49 = .ok (.iload 4, 2) := by decide +kernel
theorem dX4_load_51 : decode cX4_load 51 = .ok (.invokevirtual 263, 3) := by decide +kernel
theorem dX4_load_54 : decode cX4_load 54 = .ok (.istore 5, 2) := by decide +kernel
theorem dX4_load_56 : decode cX4_load 56 = .ok (.iload 5, 2) := by decide +kernel
theorem dX4_load_58 : decode cX4_load 58 = .ok (.iconst 0, 1) := by decide +kernel
theorem dX4_load_59 : decode cX4_load 59 = .ok (.bipush 99, 2) := by decide +kernel
theorem dX4_load_61 : decode cX4_load 61 = .ok (.invokestatic 48, 3) := by decide +kernel
theorem dX4_load_64 : decode cX4_load 64 = .ok (.ifCond .ne 6, 3) := by decide +kernel
theorem dX4_load_67 : decode cX4_load 67 = .ok (.iload 4, 2) := by decide +kernel
theorem dX4_load_69 : decode cX4_load 69 = .ok (.ireturn, 1) := by decide +kernel
theorem dX4_load_70 : decode cX4_load 70 = .ok (.aload_n 0, 1) := by decide +kernel
theorem dX4_load_71 : decode cX4_load 71 = .ok (.getfield 12, 3) := by decide +kernel
theorem dX4_load_74 : decode cX4_load 74 = .ok (.iload 4, 2) := by decide +kernel
theorem dX4_load_76 : decode cX4_load 76 = .ok (.iconst 2, 1) := by decide +kernel
theorem dX4_load_77 : decode cX4_load 77 = .ok (.iload 5, 2) := by decide +kernel
theorem dX4_load_79 : decode cX4_load 79 = .ok (.invokevirtual 102, 3) := by decide +kernel
theorem dX4_load_82 : decode cX4_load 82 = .ok (.iinc 4 1, 3) := by decide +kernel
theorem dX4_load_85 : decode cX4_load 85 = .ok (.goto (-47), 3) := by decide +kernel
theorem dX4_load_88 : decode cX4_load 88 = .ok (.iload_n 3, 1) := by decide +kernel
theorem dX4_load_89 : decode cX4_load 89 = .ok (.ireturn, 1) := by decide +kernel
set_option maxRecDepth 20000 in
theorem ggX4_judge_X4_faultOfSheet : GoodIn wsX4_judge wsX4_faultOfSheet := goodIn_r _ [7, 8, 1, 9, 10, 11, 6, 12, 13, 14, 15, 16, 17, 18, 19, 20, 21, 22, 23, 24, 25, 26, 27, 54, 55, 56, 57, 58, 59, 60, 61, 62, 63] (by decide +kernel) (by decide +kernel)
set_option maxRecDepth 20000 in
theorem gX4_judge_X4_faultOfSheet : GoodIn wsX4_judge (wsV RX4 236 RX4 yX4_faultOfSheet wsX4_faultOfSheet) := goodIn_app (goodIn_of _ (by decide +kernel)) ggX4_judge_X4_faultOfSheet
set_option maxRecDepth 20000 in
theorem ggX4_judge_X4_finding : GoodIn wsX4_judge wsX4_finding := goodIn_r _ [31, 8, 32, 13, 14, 6, 15, 54, 55, 56, 57, 58, 59, 60] (by decide +kernel) (by decide +kernel)
set_option maxRecDepth 20000 in
theorem gX4_judge_X4_finding : GoodIn wsX4_judge (wsV RX4 53 RX4 yX4_finding wsX4_finding) := goodIn_app (goodIn_of _ (by decide +kernel)) ggX4_judge_X4_finding
set_option maxRecDepth 20000 in
theorem ggX4_judge_X2_sizeOf : GoodIn wsX4_judge wsX2_sizeOf := goodIn_r _ [36, 37, 26, 6, 27, 61, 62, 63] (by decide +kernel) (by decide +kernel)
set_option maxRecDepth 20000 in
theorem gX4_judge_X2_sizeOf : GoodIn wsX4_judge (wsV RX4 239 RX2 yX2_sizeOf wsX2_sizeOf) := goodIn_app (goodIn_of _ (by decide +kernel)) ggX4_judge_X2_sizeOf
set_option maxRecDepth 20000 in
theorem ggX4_judge_X0_hasShip : GoodIn wsX4_judge wsX0_hasShip := goodIn_r _ [42, 43, 14, 6, 15, 64, 65, 66, 67, 68, 69, 70, 71] (by decide +kernel) (by decide +kernel)
set_option maxRecDepth 20000 in
theorem gX4_judge_X0_hasShip : GoodIn wsX4_judge (wsV RX4 106 RX0 yX0_hasShip wsX0_hasShip) := goodIn_app (goodIn_of _ (by decide +kernel)) ggX4_judge_X0_hasShip
set_option maxRecDepth 20000 in
theorem ggX4_judge_X0_shipHas : GoodIn wsX4_judge wsX0_shipHas := goodIn_r _ [47, 48, 26, 6, 27, 64, 65, 66, 67, 68, 69, 70, 71] (by decide +kernel) (by decide +kernel)
set_option maxRecDepth 20000 in
theorem gX4_judge_X0_shipHas : GoodIn wsX4_judge (wsV RX4 109 RX0 yX0_shipHas wsX0_shipHas) := goodIn_app (goodIn_of _ (by decide +kernel)) ggX4_judge_X0_shipHas
set_option maxRecDepth 20000 in
theorem ggX4_judge_X2_numberOf : GoodIn wsX4_judge wsX2_numberOf := goodIn_r _ [52, 53, 26, 6, 27, 61, 62, 63] (by decide +kernel) (by decide +kernel)
set_option maxRecDepth 20000 in
theorem gX4_judge_X2_numberOf : GoodIn wsX4_judge (wsV RX4 263 RX2 yX2_numberOf wsX2_numberOf) := goodIn_app (goodIn_of _ (by decide +kernel)) ggX4_judge_X2_numberOf
theorem dX4_judge_0 : decode cX4_judge 0 = .ok (.aload_n 0, 1) := by decide +kernel
theorem dX4_judge_1 : decode cX4_judge 1 = .ok (.iload_n 1, 1) := by decide +kernel
theorem dX4_judge_2 : decode cX4_judge 2 = .ok (.invokevirtual 236, 3) := by decide +kernel
theorem dX4_judge_5 : decode cX4_judge 5 = .ok (.istore_n 2, 1) := by decide +kernel
theorem dX4_judge_6 : decode cX4_judge 6 = .ok (.iload_n 2, 1) := by decide +kernel
theorem dX4_judge_7 : decode cX4_judge 7 = .ok (.ifCond .eq 9, 3) := by decide +kernel
theorem dX4_judge_10 : decode cX4_judge 10 = .ok (.aload_n 0, 1) := by decide +kernel
theorem dX4_judge_11 : decode cX4_judge 11 = .ok (.iload_n 2, 1) := by decide +kernel
theorem dX4_judge_12 : decode cX4_judge 12 = .ok (.invokevirtual 53, 3) := by decide +kernel
theorem dX4_judge_15 : decode cX4_judge 15 = .ok (.ireturn, 1) := by decide +kernel
theorem dX4_judge_16 : decode cX4_judge 16 = .ok (.iconst 0, 1) := by decide +kernel
theorem dX4_judge_17 : decode cX4_judge 17 = .ok (.istore_n 3, 1) := by decide +kernel
theorem dX4_judge_18 : decode cX4_judge 18 = .ok (.iload_n 3, 1) := by decide +kernel
theorem dX4_judge_19 : decode cX4_judge 19 = .ok (.aload_n 0, 1) := by decide +kernel
theorem dX4_judge_20 : decode cX4_judge 20 = .ok (.getfield 36, 3) := by decide +kernel
theorem dX4_judge_23 : decode cX4_judge 23 = .ok (.iload_n 1, 1) := by decide +kernel
theorem dX4_judge_24 : decode cX4_judge 24 = .ok (.invokevirtual 239, 3) := by decide +kernel
theorem dX4_judge_27 : decode cX4_judge 27 = .ok (.if_icmp .ge 45, 3) := by decide +kernel
theorem dX4_judge_30 : decode cX4_judge 30 = .ok (.aload_n 0, 1) := by decide +kernel
theorem dX4_judge_31 : decode cX4_judge 31 = .ok (.getfield 12, 3) := by decide +kernel
theorem dX4_judge_34 : decode cX4_judge 34 = .ok (.iload_n 3, 1) := by decide +kernel
theorem dX4_judge_35 : decode cX4_judge 35 = .ok (.invokevirtual 106, 3) := by decide +kernel
theorem dX4_judge_38 : decode cX4_judge 38 = .ok (.ifCond .eq 24, 3) := by decide +kernel
theorem dX4_judge_41 : decode cX4_judge 41 = .ok (.aload_n 0, 1) := by decide +kernel
theorem dX4_judge_42 : decode cX4_judge 42 = .ok (.getfield 12, 3) := by decide +kernel
theorem dX4_judge_45 : decode cX4_judge 45 = .ok (.iload_n 3, 1) := by decide +kernel
theorem dX4_judge_46 : decode cX4_judge 46 = .ok (.iconst 0, 1) := by decide +kernel
theorem dX4_judge_47 : decode cX4_judge 47 = .ok (.invokevirtual 109, 3) := by decide +kernel
theorem dX4_judge_50 : decode cX4_judge 50 = .ok (.aload_n 0, 1) := by decide +kernel
theorem dX4_judge_51 : decode cX4_judge 51 = .ok (.getfield 36, 3) := by decide +kernel
theorem dX4_judge_54 : decode cX4_judge 54 = .ok (.iload_n 1, 1) := by decide +kernel
theorem dX4_judge_55 : decode cX4_judge 55 = .ok (.iload_n 3, 1) := by decide +kernel
theorem dX4_judge_56 : decode cX4_judge 56 = .ok (.invokevirtual 263, 3) := by decide +kernel
theorem dX4_judge_59 : decode cX4_judge 59 = .ok (.if_icmp .eq 7, 3) := by decide +kernel
theorem dX4_judge_62 : decode cX4_judge 62 = .ok (.iconst 1, 1) := by decide +kernel
theorem dX4_judge_63 : decode cX4_judge 63 = .ok (.iload_n 3, 1) := by decide +kernel
theorem dX4_judge_64 : decode cX4_judge 64 = .ok (.iadd, 1) := by decide +kernel
theorem dX4_judge_65 : decode cX4_judge 65 = .ok (.ireturn, 1) := by decide +kernel
theorem dX4_judge_66 : decode cX4_judge 66 = .ok (.iinc 3 1, 3) := by decide +kernel
theorem dX4_judge_69 : decode cX4_judge 69 = .ok (.goto (-51), 3) := by decide +kernel
theorem dX4_judge_72 : decode cX4_judge 72 = .ok (.iconst 0, 1) := by decide +kernel
theorem dX4_judge_73 : decode cX4_judge 73 = .ok (.ireturn, 1) := by decide +kernel
set_option maxRecDepth 20000 in
theorem ggX4_image_X0_become : GoodIn wsX4_image wsX0_become := goodIn_r _ [8, 9, 10, 11, 12, 13, 14, 15, 16, 17, 18, 19, 20, 28, 29, 30, 31, 32, 33, 34, 35] (by decide +kernel) (by decide +kernel)
set_option maxRecDepth 20000 in
theorem gX4_image_X0_become : GoodIn wsX4_image (wsV RX4 158 RX0 yX0_become wsX0_become) := goodIn_app (goodIn_of _ (by decide +kernel)) ggX4_image_X0_become
theorem dX4_image_0 : decode cX4_image 0 = .ok (.aload_n 0, 1) := by decide +kernel
theorem dX4_image_1 : decode cX4_image 1 = .ok (.getfield 19, 3) := by decide +kernel
theorem dX4_image_4 : decode cX4_image 4 = .ok (.aload_n 0, 1) := by decide +kernel
theorem dX4_image_5 : decode cX4_image 5 = .ok (.getfield 12, 3) := by decide +kernel
theorem dX4_image_8 : decode cX4_image 8 = .ok (.invokevirtual 158, 3) := by decide +kernel
theorem dX4_image_11 : decode cX4_image 11 = .ok (.aload_n 0, 1) := by decide +kernel
theorem dX4_image_12 : decode cX4_image 12 = .ok (.iconst 1, 1) := by decide +kernel
theorem dX4_image_13 : decode cX4_image 13 = .ok (.putfield 22, 3) := by decide +kernel
theorem dX4_image_16 : decode cX4_image 16 = .ok (.iconst 1, 1) := by decide +kernel
theorem dX4_image_17 : decode cX4_image 17 = .ok (.ireturn, 1) := by decide +kernel
set_option maxRecDepth 20000 in
theorem ggX4_undo_X4_finding : GoodIn wsX4_undo wsX4_finding := goodIn_r _ [9, 10, 11, 12, 13, 8, 14, 32, 33, 34, 35, 36, 37, 38] (by decide +kernel) (by decide +kernel)
set_option maxRecDepth 20000 in
theorem gX4_undo_X4_finding : GoodIn wsX4_undo (wsV RX4 53 RX4 yX4_finding wsX4_finding) := goodIn_app (goodIn_of _ (by decide +kernel)) ggX4_undo_X4_finding
set_option maxRecDepth 20000 in
theorem ggX4_undo_X0_become : GoodIn wsX4_undo wsX0_become := goodIn_r _ [19, 20, 21, 22, 23, 24, 25, 26, 27, 28, 29, 30, 31, 39, 40, 41, 42, 43, 44, 45, 46] (by decide +kernel) (by decide +kernel)
set_option maxRecDepth 20000 in
theorem gX4_undo_X0_become : GoodIn wsX4_undo (wsV RX4 158 RX0 yX0_become wsX0_become) := goodIn_app (goodIn_of _ (by decide +kernel)) ggX4_undo_X0_become
theorem dX4_undo_0 : decode cX4_undo 0 = .ok (.aload_n 0, 1) := by decide +kernel
theorem dX4_undo_1 : decode cX4_undo 1 = .ok (.getfield 22, 3) := by decide +kernel
theorem dX4_undo_4 : decode cX4_undo 4 = .ok (.ifCond .ne 10, 3) := by decide +kernel
theorem dX4_undo_7 : decode cX4_undo 7 = .ok (.aload_n 0, 1) := by decide +kernel
theorem dX4_undo_8 : decode cX4_undo 8 = .ok (.ldc 165, 2) := by decide +kernel
theorem dX4_undo_10 : decode cX4_undo 10 = .ok (.invokevirtual 53, 3) := by decide +kernel
theorem dX4_undo_13 : decode cX4_undo 13 = .ok (.ireturn, 1) := by decide +kernel
theorem dX4_undo_14 : decode cX4_undo 14 = .ok (.aload_n 0, 1) := by decide +kernel
theorem dX4_undo_15 : decode cX4_undo 15 = .ok (.getfield 12, 3) := by decide +kernel
theorem dX4_undo_18 : decode cX4_undo 18 = .ok (.aload_n 0, 1) := by decide +kernel
theorem dX4_undo_19 : decode cX4_undo 19 = .ok (.getfield 19, 3) := by decide +kernel
theorem dX4_undo_22 : decode cX4_undo 22 = .ok (.invokevirtual 158, 3) := by decide +kernel
theorem dX4_undo_25 : decode cX4_undo 25 = .ok (.aload_n 0, 1) := by decide +kernel
theorem dX4_undo_26 : decode cX4_undo 26 = .ok (.getfield 12, 3) := by decide +kernel
theorem dX4_undo_29 : decode cX4_undo 29 = .ok (.getfield 124, 3) := by decide +kernel
theorem dX4_undo_32 : decode cX4_undo 32 = .ok (.ireturn, 1) := by decide +kernel
theorem dX4_tear_0 : decode cX4_tear 0 = .ok (.aload_n 0, 1) := by decide +kernel
theorem dX4_tear_1 : decode cX4_tear 1 = .ok (.getfield 22, 3) := by decide +kernel
theorem dX4_tear_4 : decode cX4_tear 4 = .ok (.ifCond .eq 7, 3) := by decide +kernel
theorem dX4_tear_7 : decode cX4_tear 7 = .ok (.iconst 1, 1) := by decide +kernel
theorem dX4_tear_8 : decode cX4_tear 8 = .ok (.goto 4, 3) := by decide +kernel
theorem dX4_tear_11 : decode cX4_tear 11 = .ok (.iconst 0, 1) := by decide +kernel
theorem dX4_tear_12 : decode cX4_tear 12 = .ok (.istore_n 1, 1) := by decide +kernel
theorem dX4_tear_13 : decode cX4_tear 13 = .ok (.aload_n 0, 1) := by decide +kernel
theorem dX4_tear_14 : decode cX4_tear 14 = .ok (.iconst 0, 1) := by decide +kernel
theorem dX4_tear_15 : decode cX4_tear 15 = .ok (.putfield 22, 3) := by decide +kernel
theorem dX4_tear_18 : decode cX4_tear 18 = .ok (.iload_n 1, 1) := by decide +kernel
theorem dX4_tear_19 : decode cX4_tear 19 = .ok (.ireturn, 1) := by decide +kernel
set_option maxRecDepth 20000 in
theorem ggX4_count_X0_waitedTogether : GoodIn wsX4_count wsX0_waitedTogether := goodIn_r _ [8, 9, 10, 11, 12, 7, 13, 14, 15, 16, 17, 59, 60, 61, 62, 63, 64, 65, 66] (by decide +kernel) (by decide +kernel)
set_option maxRecDepth 20000 in
theorem gX4_count_X0_waitedTogether : GoodIn wsX4_count (wsV RX4 142 RX0 yX0_waitedTogether wsX0_waitedTogether) := goodIn_app (goodIn_of _ (by decide +kernel)) ggX4_count_X0_waitedTogether
set_option maxRecDepth 20000 in
theorem ggX4_count_X0_finishedSayings : GoodIn wsX4_count wsX0_finishedSayings := goodIn_r _ [21, 22, 23, 24, 25, 7, 26, 27, 28, 29, 30, 31, 59, 60, 61, 62, 63, 64, 65, 66] (by decide +kernel) (by decide +kernel)
set_option maxRecDepth 20000 in
theorem gX4_count_X0_finishedSayings : GoodIn wsX4_count (wsV RX4 136 RX0 yX0_finishedSayings wsX0_finishedSayings) := goodIn_app (goodIn_of _ (by decide +kernel)) ggX4_count_X0_finishedSayings
set_option maxRecDepth 20000 in
theorem ggX4_count_J6_bitCount_0f7a4 : GoodIn wsX4_count wsJ6_bitCount_0f7a4 := goodIn_r _ [35, 36, 37, 38] (by decide +kernel) (by decide +kernel)
set_option maxRecDepth 20000 in
theorem gX4_count_J6_bitCount_0f7a4 : GoodIn wsX4_count (va_wsS RX4 166 yJ6_bitCount_0f7a4 wsJ6_bitCount_0f7a4) := goodIn_app (goodIn_of _ (by decide +kernel)) ggX4_count_J6_bitCount_0f7a4
set_option maxRecDepth 20000 in
theorem ggX4_count_X0_spotsThatHold : GoodIn wsX4_count wsX0_spotsThatHold := goodIn_r _ [42, 43, 59, 60, 61, 62, 63, 64, 65, 66] (by decide +kernel) (by decide +kernel)
set_option maxRecDepth 20000 in
theorem gX4_count_X0_spotsThatHold : GoodIn wsX4_count (wsV RX4 266 RX0 yX0_spotsThatHold wsX0_spotsThatHold) := goodIn_app (goodIn_of _ (by decide +kernel)) ggX4_count_X0_spotsThatHold
set_option maxRecDepth 20000 in
theorem ggX4_count_X4_finding : GoodIn wsX4_count wsX4_finding := goodIn_r _ [47, 3, 48, 49, 50, 16, 51, 52, 53, 54, 55, 56, 57, 58] (by decide +kernel) (by decide +kernel)
set_option maxRecDepth 20000 in
theorem gX4_count_X4_finding : GoodIn wsX4_count (wsV RX4 53 RX4 yX4_finding wsX4_finding) := goodIn_app (goodIn_of _ (by decide +kernel)) ggX4_count_X4_finding
theorem dX4_count_0 : decode cX4_count 0 = .ok (.iload_n 1, 1) := by decide +kernel
theorem dX4_count_1 : decode cX4_count 1 = .ok (.tableswitch 114 0 7 #[47, 55, 63, 71, 79, 90, 98, 106], 47) := by decide +kernel
theorem dX4_count_48 : decode cX4_count 48 = .ok (.aload_n 0, 1) := by decide +kernel
theorem dX4_count_49 : decode cX4_count 49 = .ok (.getfield 12, 3) := by decide +kernel
theorem dX4_count_52 : decode cX4_count 52 = .ok (.getfield 124, 3) := by decide +kernel
theorem dX4_count_55 : decode cX4_count 55 = .ok (.ireturn, 1) := by decide +kernel
theorem dX4_count_56 : decode cX4_count 56 = .ok (.aload_n 0, 1) := by decide +kernel
theorem dX4_count_57 : decode cX4_count 57 = .ok (.getfield 12, 3) := by decide +kernel
theorem dX4_count_60 : decode cX4_count 60 = .ok (.getfield 70, 3) := by decide +kernel
theorem dX4_count_63 : decode cX4_count 63 = .ok (.ireturn, 1) := by decide +kernel
theorem dX4_count_64 : decode cX4_count 64 = .ok (.aload_n 0, 1) := by decide +kernel
theorem dX4_count_65 : decode cX4_count 65 = .ok (.getfield 12, 3) := by decide +kernel
theorem dX4_count_68 : decode cX4_count 68 = .ok (.getfield 79, 3) := by decide +kernel
theorem dX4_count_71 : decode cX4_count 71 = .ok (.ireturn, 1) := by decide +kernel
theorem dX4_count_72 : decode cX4_count 72 = .ok (.aload_n 0, 1) := by decide +kernel
theorem dX4_count_73 : decode cX4_count 73 = .ok (.getfield 12, 3) := by decide +kernel
theorem dX4_count_76 : decode cX4_count 76 = .ok (.invokevirtual 142, 3) := by decide +kernel
theorem dX4_count_79 : decode cX4_count 79 = .ok (.ireturn, 1) := by decide +kernel
theorem dX4_count_80 : decode cX4_count 80 = .ok (.aload_n 0, 1) := by decide +kernel
theorem dX4_count_81 : decode cX4_count 81 = .ok (.getfield 12, 3) := by decide +kernel
theorem dX4_count_84 : decode cX4_count 84 = .ok (.invokevirtual 136, 3) := by decide +kernel
theorem dX4_count_87 : decode cX4_count 87 = .ok (.invokestatic 166, 3) := by decide +kernel
theorem dX4_count_90 : decode cX4_count 90 = .ok (.ireturn, 1) := by decide +kernel
theorem dX4_count_91 : decode cX4_count 91 = .ok (.aload_n 0, 1) := by decide +kernel
theorem dX4_count_92 : decode cX4_count 92 = .ok (.getfield 29, 3) := by decide +kernel
theorem dX4_count_95 : decode cX4_count 95 = .ok (.getfield 206, 3) := by decide +kernel
theorem dX4_count_98 : decode cX4_count 98 = .ok (.ireturn, 1) := by decide +kernel
theorem dX4_count_99 : decode cX4_count 99 = .ok (.aload_n 0, 1) := by decide +kernel
theorem dX4_count_100 : decode cX4_count 100 = .ok (.getfield 12, 3) := by decide +kernel
theorem dX4_count_103 : decode cX4_count 103 = .ok (.getfield 203, 3) := by decide +kernel
theorem dX4_count_106 : decode cX4_count 106 = .ok (.ireturn, 1) := by decide +kernel
theorem dX4_count_107 : decode cX4_count 107 = .ok (.aload_n 0, 1) := by decide +kernel
theorem dX4_count_108 : decode cX4_count 108 = .ok (.getfield 12, 3) := by decide +kernel
theorem dX4_count_111 : decode cX4_count 111 = .ok (.invokevirtual 266, 3) := by decide +kernel
theorem dX4_count_114 : decode cX4_count 114 = .ok (.ireturn, 1) := by decide +kernel
theorem dX4_count_115 : decode cX4_count 115 = .ok (.aload_n 0, 1) := by decide +kernel
theorem dX4_count_116 : decode cX4_count 116 = .ok (.ldc 52, 2) := by decide +kernel
theorem dX4_count_118 : decode cX4_count 118 = .ok (.invokevirtual 53, 3) := by decide +kernel
theorem dX4_count_121 : decode cX4_count 121 = .ok (.ireturn, 1) := by decide +kernel
set_option maxRecDepth 20000 in
theorem ggX4_status_X4_within : GoodIn wsX4_status wsX4_within := goodIn_r _ [6] (by decide +kernel) (by decide +kernel)
set_option maxRecDepth 20000 in
theorem gX4_status_X4_within : GoodIn wsX4_status (va_wsS RX4 48 yX4_within wsX4_within) := goodIn_app (goodIn_of _ (by decide +kernel)) ggX4_status_X4_within
set_option maxRecDepth 20000 in
theorem ggX4_status_X4_finding : GoodIn wsX4_status wsX4_finding := goodIn_r _ [10, 1, 2, 3, 4, 5, 6, 14, 15, 16, 17, 18, 19, 20] (by decide +kernel) (by decide +kernel)
set_option maxRecDepth 20000 in
theorem gX4_status_X4_finding : GoodIn wsX4_status (wsV RX4 53 RX4 yX4_finding wsX4_finding) := goodIn_app (goodIn_of _ (by decide +kernel)) ggX4_status_X4_finding
set_option maxRecDepth 20000 in
theorem ggX4_status_X4_numberAt : GoodIn wsX4_status wsX4_numberAt := goodIn_r _ [13] (by decide +kernel) (by decide +kernel)
set_option maxRecDepth 20000 in
theorem gX4_status_X4_numberAt : GoodIn wsX4_status (va_wsS RX4 95 yX4_numberAt wsX4_numberAt) := goodIn_app (goodIn_of _ (by decide +kernel)) ggX4_status_X4_numberAt
theorem dX4_status_0 : decode cX4_status 0 = .ok (.iload_n 1, 1) := by decide +kernel
theorem dX4_status_1 : decode cX4_status 1 = .ok (.iconst (-1), 1) := by decide +kernel
theorem dX4_status_2 : decode cX4_status 2 = .ok (.bipush 6, 2) := by decide +kernel
theorem dX4_status_4 : decode cX4_status 4 = .ok (.invokestatic 48, 3) := by decide +kernel
theorem dX4_status_7 : decode cX4_status 7 = .ok (.ifCond .ne 10, 3) := by decide +kernel
theorem dX4_status_10 : decode cX4_status 10 = .ok (.aload_n 0, 1) := by decide +kernel
theorem dX4_status_11 : decode cX4_status 11 = .ok (.ldc 52, 2) := by decide +kernel
theorem dX4_status_13 : decode cX4_status 13 = .ok (.invokevirtual 53, 3) := by decide +kernel
theorem dX4_status_16 : decode cX4_status 16 = .ok (.ireturn, 1) := by decide +kernel
theorem dX4_status_17 : decode cX4_status 17 = .ok (.iload_n 1, 1) := by decide +kernel
theorem dX4_status_18 : decode cX4_status 18 = .ok (.ifCond .lt 12, 3) := by decide +kernel
theorem dX4_status_21 : decode cX4_status 21 = .ok (.aload_n 0, 1) := by decide +kernel
theorem dX4_status_22 : decode cX4_status 22 = .ok (.getfield 40, 3) := by decide +kernel
theorem dX4_status_25 : decode cX4_status 25 = .ok (.iload_n 1, 1) := by decide +kernel
theorem dX4_status_26 : decode cX4_status 26 = .ok (.invokestatic 95, 3) := by decide +kernel
theorem dX4_status_29 : decode cX4_status 29 = .ok (.ireturn, 1) := by decide +kernel
theorem dX4_status_30 : decode cX4_status 30 = .ok (.iconst 0, 1) := by decide +kernel
theorem dX4_status_31 : decode cX4_status 31 = .ok (.istore_n 2, 1) := by decide +kernel
theorem dX4_status_32 : decode cX4_status 32 = .ok (.aload_n 0, 1) := by decide +kernel
theorem dX4_status_33 : decode cX4_status 33 = .ok (.getfield 40, 3) := by decide +kernel
theorem dX4_status_36 : decode cX4_status 36 = .ok (.astore_n 3, 1) := by decide +kernel
theorem dX4_status_37 : decode cX4_status 37 = .ok (.aload_n 3, 1) := by decide +kernel
theorem dX4_status_38 : decode cX4_status 38 = .ok (.arraylength, 1) := by decide +kernel
theorem dX4_status_39 : decode cX4_status 39 = .ok (.istore 4, 2) := by decide +kernel
theorem dX4_status_41 : decode cX4_status 41 = .ok (.iconst 0, 1) := by decide +kernel
theorem dX4_status_42 : decode cX4_status 42 = .ok (.istore 5, 2) := by decide +kernel
theorem dX4_status_44 : decode cX4_status 44 = .ok (.iload 5, 2) := by decide +kernel
theorem dX4_status_46 : decode cX4_status 46 = .ok (.iload 4, 2) := by decide +kernel
theorem dX4_status_48 : decode cX4_status 48 = .ok (.if_icmp .ge 20, 3) := by decide +kernel
theorem dX4_status_51 : decode cX4_status 51 = .ok (.aload_n 3, 1) := by decide +kernel
theorem dX4_status_52 : decode cX4_status 52 = .ok (.iload 5, 2) := by decide +kernel
theorem dX4_status_54 : decode cX4_status 54 = .ok (.iaload, 1) := by decide +kernel
theorem dX4_status_55 : decode cX4_status 55 = .ok (.istore 6, 2) := by decide +kernel
theorem dX4_status_57 : decode cX4_status 57 = .ok (.iload_n 2, 1) := by decide +kernel
theorem dX4_status_58 : decode cX4_status 58 = .ok (.iload 6, 2) := by decide +kernel
theorem dX4_status_60 : decode cX4_status 60 = .ok (.iadd, 1) := by decide +kernel
theorem dX4_status_61 : decode cX4_status 61 = .ok (.istore_n 2, 1) := by decide +kernel
theorem dX4_status_62 : decode cX4_status 62 = .ok (.iinc 5 1, 3) := by decide +kernel
theorem dX4_status_65 : decode cX4_status 65 = .ok (.goto (-21), 3) := by decide +kernel
theorem dX4_status_68 : decode cX4_status 68 = .ok (.iload_n 2, 1) := by decide +kernel
theorem dX4_status_69 : decode cX4_status 69 = .ok (.ireturn, 1) := by decide +kernel
set_option maxRecDepth 20000 in
theorem ggX4_finding_X4_within : GoodIn wsX4_finding wsX4_within := goodIn_r _ [6] (by decide +kernel) (by decide +kernel)
set_option maxRecDepth 20000 in
theorem gX4_finding_X4_within : GoodIn wsX4_finding (va_wsS RX4 48 yX4_within wsX4_within) := goodIn_app (goodIn_of _ (by decide +kernel)) ggX4_finding_X4_within
theorem dX4_finding_0 : decode cX4_finding 0 = .ok (.ldc 52, 2) := by decide +kernel
theorem dX4_finding_2 : decode cX4_finding 2 = .ok (.iload_n 1, 1) := by decide +kernel
theorem dX4_finding_3 : decode cX4_finding 3 = .ok (.isub, 1) := by decide +kernel
theorem dX4_finding_4 : decode cX4_finding 4 = .ok (.istore_n 2, 1) := by decide +kernel
theorem dX4_finding_5 : decode cX4_finding 5 = .ok (.iload_n 2, 1) := by decide +kernel
theorem dX4_finding_6 : decode cX4_finding 6 = .ok (.iconst 0, 1) := by decide +kernel
theorem dX4_finding_7 : decode cX4_finding 7 = .ok (.aload_n 0, 1) := by decide +kernel
theorem dX4_finding_8 : decode cX4_finding 8 = .ok (.getfield 40, 3) := by decide +kernel
theorem dX4_finding_11 : decode cX4_finding 11 = .ok (.arraylength, 1) := by decide +kernel
theorem dX4_finding_12 : decode cX4_finding 12 = .ok (.iconst 1, 1) := by decide +kernel
theorem dX4_finding_13 : decode cX4_finding 13 = .ok (.isub, 1) := by decide +kernel
theorem dX4_finding_14 : decode cX4_finding 14 = .ok (.invokestatic 48, 3) := by decide +kernel
theorem dX4_finding_17 : decode cX4_finding 17 = .ok (.ifCond .eq 13, 3) := by decide +kernel
theorem dX4_finding_20 : decode cX4_finding 20 = .ok (.aload_n 0, 1) := by decide +kernel
theorem dX4_finding_21 : decode cX4_finding 21 = .ok (.getfield 40, 3) := by decide +kernel
theorem dX4_finding_24 : decode cX4_finding 24 = .ok (.iload_n 2, 1) := by decide +kernel
theorem dX4_finding_25 : decode cX4_finding 25 = .ok (.dup2, 1) := by decide +kernel
theorem dX4_finding_26 : decode cX4_finding 26 = .ok (.iaload, 1) := by decide +kernel
theorem dX4_finding_27 : decode cX4_finding 27 = .ok (.iconst 1, 1) := by decide +kernel
theorem dX4_finding_28 : decode cX4_finding 28 = .ok (.iadd, 1) := by decide +kernel
theorem dX4_finding_29 : decode cX4_finding 29 = .ok (.iastore, 1) := by decide +kernel
theorem dX4_finding_30 : decode cX4_finding 30 = .ok (.iload_n 1, 1) := by decide +kernel
theorem dX4_finding_31 : decode cX4_finding 31 = .ok (.ireturn, 1) := by decide +kernel
set_option maxRecDepth 20000 in
theorem ggX4_behindDays_X0_become : GoodIn wsX4_behindDays wsX0_become := goodIn_r _ [7, 8, 9, 10, 11, 12, 13, 14, 15, 16, 17, 18, 19, 121, 122, 123, 124, 125, 126, 127, 128] (by decide +kernel) (by decide +kernel)
set_option maxRecDepth 20000 in
theorem gX4_behindDays_X0_become : GoodIn wsX4_behindDays (wsV RX4 158 RX0 yX0_become wsX0_become) := goodIn_app (goodIn_of _ (by decide +kernel)) ggX4_behindDays_X0_become
set_option maxRecDepth 20000 in
theorem ggX4_behindDays_X0_passDays : GoodIn wsX4_behindDays wsX0_passDays := goodIn_r _ [23, 17, 16, 24, 18, 25, 26, 27, 28, 29, 30, 31, 6, 32, 33, 34, 35, 36, 15, 37, 38, 39, 40, 41, 42, 43, 44, 45, 46, 47, 48, 49, 50, 51, 52, 53, 54, 55, 56, 57, 58, 14, 59, 60, 61, 62, 63, 64, 65, 66, 67, 68, 69, 70, 71, 72, 73, 74, 75, 76, 77, 78, 79, 80, 81, 82, 83, 84, 85, 86, 87, 88, 89, 8, 90, 91, 92, 93, 94, 95, 96, 97, 98, 99, 100, 101, 102, 103, 104, 105, 106, 107, 108, 109, 110, 111, 112, 113, 121, 122, 123, 124, 125, 126, 127, 128] (by decide +kernel) (by decide +kernel)
set_option maxRecDepth 20000 in
theorem gX4_behindDays_X0_passDays : GoodIn wsX4_behindDays (wsV RX4 129 RX0 yX0_passDays wsX0_passDays) := goodIn_app (goodIn_of _ (by decide +kernel)) ggX4_behindDays_X0_passDays
theorem dX4_behindDays_0 : decode cX4_behindDays 0 = .ok (.aload_n 0, 1) := by decide +kernel
theorem dX4_behindDays_1 : decode cX4_behindDays 1 = .ok (.getfield 16, 3) := by decide +kernel
theorem dX4_behindDays_4 : decode cX4_behindDays 4 = .ok (.aload_n 0, 1) := by decide +kernel
theorem dX4_behindDays_5 : decode cX4_behindDays 5 = .ok (.getfield 12, 3) := by decide +kernel
theorem dX4_behindDays_8 : decode cX4_behindDays 8 = .ok (.invokevirtual 158, 3) := by decide +kernel
theorem dX4_behindDays_11 : decode cX4_behindDays 11 = .ok (.aload_n 0, 1) := by decide +kernel
theorem dX4_behindDays_12 : decode cX4_behindDays 12 = .ok (.getfield 16, 3) := by decide +kernel
theorem dX4_behindDays_15 : decode cX4_behindDays 15 = .ok (.iload_n 1, 1) := by decide +kernel
theorem dX4_behindDays_16 : decode cX4_behindDays 16 = .ok (.iload_n 2, 1) := by decide +kernel
theorem dX4_behindDays_17 : decode cX4_behindDays 17 = .ok (.invokevirtual 129, 3) := by decide +kernel
theorem dX4_behindDays_20 : decode cX4_behindDays 20 = .ok (.aload_n 0, 1) := by decide +kernel
theorem dX4_behindDays_21 : decode cX4_behindDays 21 = .ok (.getfield 16, 3) := by decide +kernel
theorem dX4_behindDays_24 : decode cX4_behindDays 24 = .ok (.areturn, 1) := by decide +kernel
set_option maxRecDepth 20000 in
theorem ggX4_leastToLand_X0_hasShip : GoodIn wsX4_leastToLand wsX0_hasShip := goodIn_r _ [11, 12, 13, 14, 15, 138, 139, 140, 141, 142, 143, 144, 145] (by decide +kernel) (by decide +kernel)
set_option maxRecDepth 20000 in
theorem gX4_leastToLand_X0_hasShip : GoodIn wsX4_leastToLand (wsV RX4 106 RX0 yX0_hasShip wsX0_hasShip) := goodIn_app (goodIn_of _ (by decide +kernel)) ggX4_leastToLand_X0_hasShip
set_option maxRecDepth 20000 in
theorem ggX4_leastToLand_X4_within : GoodIn wsX4_leastToLand wsX4_within := goodIn_r _ [15] (by decide +kernel) (by decide +kernel)
set_option maxRecDepth 20000 in
theorem gX4_leastToLand_X4_within : GoodIn wsX4_leastToLand (va_wsS RX4 48 yX4_within wsX4_within) := goodIn_app (goodIn_of _ (by decide +kernel)) ggX4_leastToLand_X4_within
set_option maxRecDepth 20000 in
theorem ggX4_leastToLand_X4_finding : GoodIn wsX4_leastToLand wsX4_finding := goodIn_r _ [20, 2, 21, 16, 13, 14, 15, 131, 132, 133, 134, 135, 136, 137] (by decide +kernel) (by decide +kernel)
set_option maxRecDepth 20000 in
theorem gX4_leastToLand_X4_finding : GoodIn wsX4_leastToLand (wsV RX4 53 RX4 yX4_finding wsX4_finding) := goodIn_app (goodIn_of _ (by decide +kernel)) ggX4_leastToLand_X4_finding
set_option maxRecDepth 20000 in
theorem ggX4_leastToLand_X4_numberAt : GoodIn wsX4_leastToLand wsX4_numberAt := goodIn_r _ [24] (by decide +kernel) (by decide +kernel)
set_option maxRecDepth 20000 in
theorem gX4_leastToLand_X4_numberAt : GoodIn wsX4_leastToLand (va_wsS RX4 95 yX4_numberAt wsX4_numberAt) := goodIn_app (goodIn_of _ (by decide +kernel)) ggX4_leastToLand_X4_numberAt
set_option maxRecDepth 20000 in
theorem ggX4_leastToLand_X0_become : GoodIn wsX4_leastToLand wsX0_become := goodIn_r _ [28, 29, 30, 31, 32, 33, 34, 35, 36, 37, 12, 38, 39, 138, 139, 140, 141, 142, 143, 144, 145] (by decide +kernel) (by decide +kernel)
set_option maxRecDepth 20000 in
theorem gX4_leastToLand_X0_become : GoodIn wsX4_leastToLand (wsV RX4 158 RX0 yX0_become wsX0_become) := goodIn_app (goodIn_of _ (by decide +kernel)) ggX4_leastToLand_X0_become
set_option maxRecDepth 20000 in
theorem ggX4_leastToLand_X0_setOfShip : GoodIn wsX4_leastToLand wsX0_setOfShip := goodIn_r _ [43, 36, 44, 14, 45, 138, 139, 140, 141, 142, 143, 144, 145] (by decide +kernel) (by decide +kernel)
set_option maxRecDepth 20000 in
theorem gX4_leastToLand_X0_setOfShip : GoodIn wsX4_leastToLand (wsV RX4 118 RX0 yX0_setOfShip wsX0_setOfShip) := goodIn_app (goodIn_of _ (by decide +kernel)) ggX4_leastToLand_X0_setOfShip
set_option maxRecDepth 20000 in
theorem ggX4_leastToLand_X0_passDays : GoodIn wsX4_leastToLand wsX0_passDays := goodIn_r _ [49, 12, 37, 50, 38, 51, 52, 53, 54, 55, 56, 57, 10, 58, 59, 60, 61, 62, 36, 23, 14, 24, 63, 64, 65, 66, 67, 68, 69, 70, 71, 72, 73, 74, 75, 76, 77, 78, 79, 80, 81, 35, 82, 83, 84, 85, 86, 87, 88, 89, 90, 91, 92, 93, 94, 95, 96, 97, 98, 99, 41, 42, 43, 44, 45, 100, 101, 102, 103, 104, 105, 106, 107, 29, 108, 109, 110, 111, 112, 113, 114, 115, 13, 15, 116, 117, 118, 119, 120, 121, 122, 123, 124, 125, 126, 127, 128, 129, 138, 139, 140, 141, 142, 143, 144, 145] (by decide +kernel) (by decide +kernel)
set_option maxRecDepth 20000 in
theorem gX4_leastToLand_X0_passDays : GoodIn wsX4_leastToLand (wsV RX4 129 RX0 yX0_passDays wsX0_passDays) := goodIn_app (goodIn_of _ (by decide +kernel)) ggX4_leastToLand_X0_passDays
set_option maxRecDepth 20000 in
theorem ggX4_leastToLand_X0_isInPort : GoodIn wsX4_leastToLand wsX0_isInPort := goodIn_r _ [58, 59, 60, 61, 10, 62, 36, 23, 14, 24, 138, 139, 140, 141, 142, 143, 144, 145] (by decide +kernel) (by decide +kernel)
set_option maxRecDepth 20000 in
theorem gX4_leastToLand_X0_isInPort : GoodIn wsX4_leastToLand (wsV RX4 162 RX0 yX0_isInPort wsX0_isInPort) := goodIn_app (goodIn_of _ (by decide +kernel)) ggX4_leastToLand_X0_isInPort
theorem dX4_leastToLand_0 : decode cX4_leastToLand 0 = .ok (.aload_n 0, 1) := by decide +kernel
theorem dX4_leastToLand_1 : decode cX4_leastToLand 1 = .ok (.getfield 12, 3) := by decide +kernel
theorem dX4_leastToLand_4 : decode cX4_leastToLand 4 = .ok (.iload_n 1, 1) := by decide +kernel
theorem dX4_leastToLand_5 : decode cX4_leastToLand 5 = .ok (.invokevirtual 106, 3) := by decide +kernel
theorem dX4_leastToLand_8 : decode cX4_leastToLand 8 = .ok (.ifCond .eq 13, 3) := by decide +kernel
theorem dX4_leastToLand_11 : decode cX4_leastToLand 11 = .ok (.iload_n 2, 1) := by decide +kernel
theorem dX4_leastToLand_12 : decode cX4_leastToLand 12 = .ok (.iconst 0, 1) := by decide +kernel
theorem dX4_leastToLand_13 : decode cX4_leastToLand 13 = .ok (.bipush 40, 2) := by decide +kernel
theorem dX4_leastToLand_15 : decode cX4_leastToLand 15 = .ok (.invokestatic 48, 3) := by decide +kernel
theorem dX4_leastToLand_18 : decode cX4_leastToLand 18 = .ok (.ifCond .ne 10, 3) := by decide +kernel
theorem dX4_leastToLand_21 : decode cX4_leastToLand 21 = .ok (.aload_n 0, 1) := by decide +kernel
theorem dX4_leastToLand_22 : decode cX4_leastToLand 22 = .ok (.ldc 52, 2) := by decide +kernel
theorem dX4_leastToLand_24 : decode cX4_leastToLand 24 = .ok (.invokevirtual 53, 3) := by decide +kernel
theorem dX4_leastToLand_27 : decode cX4_leastToLand 27 = .ok (.ireturn, 1) := by decide +kernel
theorem dX4_leastToLand_28 : decode cX4_leastToLand 28 = .ok (.getstatic 115, 3) := by decide +kernel
theorem dX4_leastToLand_31 : decode cX4_leastToLand 31 = .ok (.iload_n 3, 1) := by decide +kernel
theorem dX4_leastToLand_32 : decode cX4_leastToLand 32 = .ok (.invokestatic 95, 3) := by decide +kernel
theorem dX4_leastToLand_35 : decode cX4_leastToLand 35 = .ok (.istore 4, 2) := by decide +kernel
theorem dX4_leastToLand_37 : decode cX4_leastToLand 37 = .ok (.getstatic 112, 3) := by decide +kernel
theorem dX4_leastToLand_40 : decode cX4_leastToLand 40 = .ok (.iload_n 3, 1) := by decide +kernel
theorem dX4_leastToLand_41 : decode cX4_leastToLand 41 = .ok (.invokestatic 95, 3) := by decide +kernel
theorem dX4_leastToLand_44 : decode cX4_leastToLand 44 = .ok (.istore 5, 2) := by decide +kernel
theorem dX4_leastToLand_46 : decode cX4_leastToLand 46 = .ok (.iload 5, 2) := by decide +kernel
theorem dX4_leastToLand_48 : decode cX4_leastToLand 48 = .ok (.iload 4, 2) := by decide +kernel
theorem dX4_leastToLand_50 : decode cX4_leastToLand 50 = .ok (.if_icmp .gt 56, 3) := by decide +kernel
theorem dX4_leastToLand_53 : decode cX4_leastToLand 53 = .ok (.aload_n 0, 1) := by decide +kernel
theorem dX4_leastToLand_54 : decode cX4_leastToLand 54 = .ok (.getfield 16, 3) := by decide +kernel
theorem dX4_leastToLand_57 : decode cX4_leastToLand 57 = .ok (.aload_n 0, 1) := by decide +kernel
theorem dX4_leastToLand_58 : decode cX4_leastToLand 58 = .ok (.getfield 12, 3) := by decide +kernel
theorem dX4_leastToLand_61 : decode cX4_leastToLand 61 = .ok (.invokevirtual 158, 3) := by decide +kernel
theorem dX4_leastToLand_64 : decode cX4_leastToLand 64 = .ok (.aload_n 0, 1) := by decide +kernel
theorem dX4_leastToLand_65 : decode cX4_leastToLand 65 = .ok (.getfield 16, 3) := by decide +kernel
theorem dX4_leastToLand_68 : decode cX4_leastToLand 68 = .ok (.iload_n 1, 1) := by decide +kernel
theorem dX4_leastToLand_69 : decode cX4_leastToLand 69 = .ok (.iload_n 3, 1) := by decide +kernel
theorem dX4_leastToLand_70 : decode cX4_leastToLand 70 = .ok (.iload 5, 2) := by decide +kernel
theorem dX4_leastToLand_72 : decode cX4_leastToLand 72 = .ok (.invokevirtual 118, 3) := by decide +kernel
theorem dX4_leastToLand_75 : decode cX4_leastToLand 75 = .ok (.aload_n 0, 1) := by decide +kernel
theorem dX4_leastToLand_76 : decode cX4_leastToLand 76 = .ok (.getfield 16, 3) := by decide +kernel
theorem dX4_leastToLand_79 : decode cX4_leastToLand 79 = .ok (.iload_n 2, 1) := by decide +kernel
theorem dX4_leastToLand_80 : decode cX4_leastToLand 80 = .ok (.iconst 1, 1) := by decide +kernel
theorem dX4_leastToLand_81 : decode cX4_leastToLand 81 = .ok (.iload_n 1, 1) := by decide +kernel
theorem dX4_leastToLand_82 : decode cX4_leastToLand 82 = .ok (.ishl, 1) := by decide +kernel
theorem dX4_leastToLand_83 : decode cX4_leastToLand 83 = .ok (.invokevirtual 129, 3) := by decide +kernel
theorem dX4_leastToLand_86 : decode cX4_leastToLand 86 = .ok (.aload_n 0, 1) := by decide +kernel
theorem dX4_leastToLand_87 : decode cX4_leastToLand 87 = .ok (.getfield 16, 3) := by decide +kernel
theorem dX4_leastToLand_90 : decode cX4_leastToLand 90 = .ok (.iload_n 1, 1) := by decide +kernel
theorem dX4_leastToLand_91 : decode cX4_leastToLand 91 = .ok (.invokevirtual 162, 3) := by decide +kernel
theorem dX4_leastToLand_94 : decode cX4_leastToLand 94 = .ok (.ifCond .eq 6, 3) := by decide +kernel
theorem dX4_leastToLand_97 : decode cX4_leastToLand 97 = .ok (.iload 5, 2) := by decide +kernel
theorem dX4_leastToLand_99 : decode cX4_leastToLand 99 = .ok (.ireturn, 1) := by decide +kernel
theorem dX4_leastToLand_100 : decode cX4_leastToLand 100 = .ok (.iinc 5 1, 3) := by decide +kernel
theorem dX4_leastToLand_103 : decode cX4_leastToLand 103 = .ok (.goto (-57), 3) := by decide +kernel
theorem dX4_leastToLand_106 : decode cX4_leastToLand 106 = .ok (.aload_n 0, 1) := by decide +kernel
theorem dX4_leastToLand_107 : decode cX4_leastToLand 107 = .ok (.ldc 165, 2) := by decide +kernel
theorem dX4_leastToLand_109 : decode cX4_leastToLand 109 = .ok (.invokevirtual 53, 3) := by decide +kernel
theorem dX4_leastToLand_112 : decode cX4_leastToLand 112 = .ok (.ireturn, 1) := by decide +kernel
set_option maxRecDepth 20000 in
theorem ggX4_allLandIfFinished_X0_become : GoodIn wsX4_allLandIfFinished wsX0_become := goodIn_r _ [7, 8, 9, 10, 11, 12, 13, 14, 15, 16, 17, 18, 19, 126, 127, 128, 129, 130, 131, 132, 133] (by decide +kernel) (by decide +kernel)
set_option maxRecDepth 20000 in
theorem gX4_allLandIfFinished_X0_become : GoodIn wsX4_allLandIfFinished (wsV RX4 158 RX0 yX0_become wsX0_become) := goodIn_app (goodIn_of _ (by decide +kernel)) ggX4_allLandIfFinished_X0_become
set_option maxRecDepth 20000 in
theorem ggX4_allLandIfFinished_X0_setOfSaying : GoodIn wsX4_allLandIfFinished wsX0_setOfSaying := goodIn_r _ [23, 14, 24, 25, 26, 126, 127, 128, 129, 130, 131, 132, 133] (by decide +kernel) (by decide +kernel)
set_option maxRecDepth 20000 in
theorem gX4_allLandIfFinished_X0_setOfSaying : GoodIn wsX4_allLandIfFinished (wsV RX4 102 RX0 yX0_setOfSaying wsX0_setOfSaying) := goodIn_app (goodIn_of _ (by decide +kernel)) ggX4_allLandIfFinished_X0_setOfSaying
set_option maxRecDepth 20000 in
theorem ggX4_allLandIfFinished_X0_couldAllLand : GoodIn wsX4_allLandIfFinished wsX0_couldAllLand := goodIn_r _ [30, 17, 31, 32, 33, 6, 34, 15, 35, 25, 36, 126, 127, 128, 129, 130, 131, 132, 133] (by decide +kernel) (by decide +kernel)
set_option maxRecDepth 20000 in
theorem gX4_allLandIfFinished_X0_couldAllLand : GoodIn wsX4_allLandIfFinished (wsV RX4 269 RX0 yX0_couldAllLand wsX0_couldAllLand) := goodIn_app (goodIn_of _ (by decide +kernel)) ggX4_allLandIfFinished_X0_couldAllLand
set_option maxRecDepth 20000 in
theorem ggX4_allLandIfFinished_X0_passDays : GoodIn wsX4_allLandIfFinished wsX0_passDays := goodIn_r _ [40, 17, 16, 41, 18, 42, 43, 44, 45, 46, 47, 48, 6, 49, 31, 32, 33, 34, 15, 35, 25, 36, 50, 51, 52, 53, 54, 55, 56, 57, 58, 59, 60, 61, 62, 63, 64, 65, 66, 67, 68, 14, 69, 70, 71, 72, 73, 74, 75, 76, 77, 78, 79, 80, 81, 82, 83, 84, 85, 86, 87, 88, 89, 24, 26, 90, 91, 92, 93, 94, 95, 96, 97, 8, 98, 99, 100, 101, 102, 103, 104, 105, 106, 107, 108, 109, 110, 111, 21, 22, 23, 112, 113, 114, 115, 116, 117, 118, 126, 127, 128, 129, 130, 131, 132, 133] (by decide +kernel) (by decide +kernel)
set_option maxRecDepth 20000 in
theorem gX4_allLandIfFinished_X0_passDays : GoodIn wsX4_allLandIfFinished (wsV RX4 129 RX0 yX0_passDays wsX0_passDays) := goodIn_app (goodIn_of _ (by decide +kernel)) ggX4_allLandIfFinished_X0_passDays
theorem dX4_allLandIfFinished_0 : decode cX4_allLandIfFinished 0 = .ok (.aload_n 0, 1) := by decide +kernel
theorem dX4_allLandIfFinished_1 : decode cX4_allLandIfFinished 1 = .ok (.getfield 16, 3) := by decide +kernel
theorem dX4_allLandIfFinished_4 : decode cX4_allLandIfFinished 4 = .ok (.aload_n 0, 1) := by decide +kernel
theorem dX4_allLandIfFinished_5 : decode cX4_allLandIfFinished 5 = .ok (.getfield 12, 3) := by decide +kernel
theorem dX4_allLandIfFinished_8 : decode cX4_allLandIfFinished 8 = .ok (.invokevirtual 158, 3) := by decide +kernel
theorem dX4_allLandIfFinished_11 : decode cX4_allLandIfFinished 11 = .ok (.iconst 0, 1) := by decide +kernel
theorem dX4_allLandIfFinished_12 : decode cX4_allLandIfFinished 12 = .ok (.istore_n 3, 1) := by decide +kernel
theorem dX4_allLandIfFinished_13 : decode cX4_allLandIfFinished 13 = .ok (.iload_n 3, 1) := by decide +kernel
theorem dX4_allLandIfFinished_14 : decode cX4_allLandIfFinished 14 = .ok (.aload_n 0, 1) := by decide +kernel
theorem dX4_allLandIfFinished_15 : decode cX4_allLandIfFinished 15 = .ok (.getfield 16, 3) := by decide +kernel
theorem dX4_allLandIfFinished_18 : decode cX4_allLandIfFinished 18 = .ok (.getfield 70, 3) := by decide +kernel
theorem dX4_allLandIfFinished_21 : decode cX4_allLandIfFinished 21 = .ok (.if_icmp .ge 28, 3) := by decide +kernel
theorem dX4_allLandIfFinished_24 : decode cX4_allLandIfFinished 24 = .ok (.iload_n 1, 1) := by decide +kernel
theorem dX4_allLandIfFinished_25 : decode cX4_allLandIfFinished 25 = .ok (.iload_n 3, 1) := by decide +kernel
theorem dX4_allLandIfFinished_26 : decode cX4_allLandIfFinished 26 = .ok (.ishr, 1) := by decide +kernel
theorem dX4_allLandIfFinished_27 : decode cX4_allLandIfFinished 27 = .ok (.iconst 1, 1) := by decide +kernel
theorem dX4_allLandIfFinished_28 : decode cX4_allLandIfFinished 28 = .ok (.iand, 1) := by decide +kernel
theorem dX4_allLandIfFinished_29 : decode cX4_allLandIfFinished 29 = .ok (.iconst 1, 1) := by decide +kernel
theorem dX4_allLandIfFinished_30 : decode cX4_allLandIfFinished 30 = .ok (.if_icmp .ne 13, 3) := by decide +kernel
theorem dX4_allLandIfFinished_33 : decode cX4_allLandIfFinished 33 = .ok (.aload_n 0, 1) := by decide +kernel
theorem dX4_allLandIfFinished_34 : decode cX4_allLandIfFinished 34 = .ok (.getfield 16, 3) := by decide +kernel
theorem dX4_allLandIfFinished_37 : decode cX4_allLandIfFinished 37 = .ok (.iload_n 3, 1) := by decide +kernel
theorem dX4_allLandIfFinished_38 : decode cX4_allLandIfFinished 38 = .ok (.iconst 3, 1) := by decide +kernel
theorem dX4_allLandIfFinished_39 : decode cX4_allLandIfFinished 39 = .ok (.iconst 1, 1) := by decide +kernel
theorem dX4_allLandIfFinished_40 : decode cX4_allLandIfFinished 40 = .ok (.invokevirtual 102, 3) := by decide +kernel
theorem dX4_allLandIfFinished_43 : decode cX4_allLandIfFinished 43 = .ok (.iinc 3 1, 3) := by decide +kernel
theorem dX4_allLandIfFinished_46 : decode cX4_allLandIfFinished 46 = .ok (.goto (-33), 3) := by decide +kernel
theorem dX4_allLandIfFinished_49 : decode cX4_allLandIfFinished 49 = .ok (.iload_n 2, 1) := by decide +kernel
theorem dX4_allLandIfFinished_50 : decode cX4_allLandIfFinished 50 = .ok (.istore_n 3, 1) := by decide +kernel
theorem dX4_allLandIfFinished_51 : decode cX4_allLandIfFinished 51 = .ok (.iload_n 3, 1) := by decide +kernel
theorem dX4_allLandIfFinished_52 : decode cX4_allLandIfFinished 52 = .ok (.ifCond .le 32, 3) := by decide +kernel
theorem dX4_allLandIfFinished_55 : decode cX4_allLandIfFinished 55 = .ok (.aload_n 0, 1) := by decide +kernel
theorem dX4_allLandIfFinished_56 : decode cX4_allLandIfFinished 56 = .ok (.getfield 16, 3) := by decide +kernel
theorem dX4_allLandIfFinished_59 : decode cX4_allLandIfFinished 59 = .ok (.iload_n 3, 1) := by decide +kernel
theorem dX4_allLandIfFinished_60 : decode cX4_allLandIfFinished 60 = .ok (.invokevirtual 269, 3) := by decide +kernel
theorem dX4_allLandIfFinished_63 : decode cX4_allLandIfFinished 63 = .ok (.ifCond .ne 5, 3) := by decide +kernel
theorem dX4_allLandIfFinished_66 : decode cX4_allLandIfFinished 66 = .ok (.iconst 0, 1) := by decide +kernel
theorem dX4_allLandIfFinished_67 : decode cX4_allLandIfFinished 67 = .ok (.ireturn, 1) := by decide +kernel
theorem dX4_allLandIfFinished_68 : decode cX4_allLandIfFinished 68 = .ok (.aload_n 0, 1) := by decide +kernel
theorem dX4_allLandIfFinished_69 : decode cX4_allLandIfFinished 69 = .ok (.getfield 16, 3) := by decide +kernel
theorem dX4_allLandIfFinished_72 : decode cX4_allLandIfFinished 72 = .ok (.iconst 1, 1) := by decide +kernel
theorem dX4_allLandIfFinished_73 : decode cX4_allLandIfFinished 73 = .ok (.bipush 63, 2) := by decide +kernel
theorem dX4_allLandIfFinished_75 : decode cX4_allLandIfFinished 75 = .ok (.invokevirtual 129, 3) := by decide +kernel
theorem dX4_allLandIfFinished_78 : decode cX4_allLandIfFinished 78 = .ok (.iinc 3 (-1), 3) := by decide +kernel
theorem dX4_allLandIfFinished_81 : decode cX4_allLandIfFinished 81 = .ok (.goto (-30), 3) := by decide +kernel
theorem dX4_allLandIfFinished_84 : decode cX4_allLandIfFinished 84 = .ok (.aload_n 0, 1) := by decide +kernel
theorem dX4_allLandIfFinished_85 : decode cX4_allLandIfFinished 85 = .ok (.getfield 16, 3) := by decide +kernel
theorem dX4_allLandIfFinished_88 : decode cX4_allLandIfFinished 88 = .ok (.iconst 0, 1) := by decide +kernel
theorem dX4_allLandIfFinished_89 : decode cX4_allLandIfFinished 89 = .ok (.invokevirtual 269, 3) := by decide +kernel
theorem dX4_allLandIfFinished_92 : decode cX4_allLandIfFinished 92 = .ok (.ireturn, 1) := by decide +kernel
set_option maxRecDepth 20000 in
theorem ggX4_faultOfSheet_X4_isSheet : GoodIn wsX4_faultOfSheet wsX4_isSheet := goodIn_r _ [7, 8, 9, 6, 10] (by decide +kernel) (by decide +kernel)
set_option maxRecDepth 20000 in
theorem gX4_faultOfSheet_X4_isSheet : GoodIn wsX4_faultOfSheet (va_wsS RX4 229 yX4_isSheet wsX4_isSheet) := goodIn_app (goodIn_of _ (by decide +kernel)) ggX4_faultOfSheet_X4_isSheet
set_option maxRecDepth 20000 in
theorem ggX4_faultOfSheet_X2_isMissing : GoodIn wsX4_faultOfSheet wsX2_isMissing := goodIn_r _ [15, 16, 17, 18, 14, 19, 20, 21, 6, 22, 30, 31, 32] (by decide +kernel) (by decide +kernel)
set_option maxRecDepth 20000 in
theorem gX4_faultOfSheet_X2_isMissing : GoodIn wsX4_faultOfSheet (wsV RX4 245 RX2 yX2_isMissing wsX2_isMissing) := goodIn_app (goodIn_of _ (by decide +kernel)) ggX4_faultOfSheet_X2_isMissing
theorem dX4_faultOfSheet_0 : decode cX4_faultOfSheet 0 = .ok (.iload_n 1, 1) := by decide +kernel
theorem dX4_faultOfSheet_1 : decode cX4_faultOfSheet 1 = .ok (.invokestatic 229, 3) := by decide +kernel
theorem dX4_faultOfSheet_4 : decode cX4_faultOfSheet 4 = .ok (.ifCond .ne 6, 3) := by decide +kernel
theorem dX4_faultOfSheet_7 : decode cX4_faultOfSheet 7 = .ok (.ldc 52, 2) := by decide +kernel
theorem dX4_faultOfSheet_9 : decode cX4_faultOfSheet 9 = .ok (.ireturn, 1) := by decide +kernel
theorem dX4_faultOfSheet_10 : decode cX4_faultOfSheet 10 = .ok (.aload_n 0, 1) := by decide +kernel
theorem dX4_faultOfSheet_11 : decode cX4_faultOfSheet 11 = .ok (.getfield 36, 3) := by decide +kernel
theorem dX4_faultOfSheet_14 : decode cX4_faultOfSheet 14 = .ok (.iload_n 1, 1) := by decide +kernel
theorem dX4_faultOfSheet_15 : decode cX4_faultOfSheet 15 = .ok (.invokevirtual 245, 3) := by decide +kernel
theorem dX4_faultOfSheet_18 : decode cX4_faultOfSheet 18 = .ok (.ifCond .eq 8, 3) := by decide +kernel
theorem dX4_faultOfSheet_21 : decode cX4_faultOfSheet 21 = .ok (.ldc 222, 2) := by decide +kernel
theorem dX4_faultOfSheet_23 : decode cX4_faultOfSheet 23 = .ok (.goto 4, 3) := by decide +kernel
theorem dX4_faultOfSheet_26 : decode cX4_faultOfSheet 26 = .ok (.iconst 0, 1) := by decide +kernel
theorem dX4_faultOfSheet_27 : decode cX4_faultOfSheet 27 = .ok (.ireturn, 1) := by decide +kernel
set_option maxRecDepth 20000 in
theorem ggX4_faultOfTold_X4_faultOfSheet : GoodIn wsX4_faultOfTold wsX4_faultOfSheet := goodIn_r _ [7, 2, 8, 9, 10, 11, 6, 12, 13, 14, 15, 16, 17, 18, 19, 20, 21, 22, 23, 24, 25, 26, 27, 34, 35, 36, 37, 38, 39, 40, 41, 42, 43] (by decide +kernel) (by decide +kernel)
set_option maxRecDepth 20000 in
theorem gX4_faultOfTold_X4_faultOfSheet : GoodIn wsX4_faultOfTold (wsV RX4 236 RX4 yX4_faultOfSheet wsX4_faultOfSheet) := goodIn_app (goodIn_of _ (by decide +kernel)) ggX4_faultOfTold_X4_faultOfSheet
set_option maxRecDepth 20000 in
theorem ggX4_faultOfTold_X0_hasSaying : GoodIn wsX4_faultOfTold wsX0_hasSaying := goodIn_r _ [32, 33, 14, 6, 15, 44, 45, 46, 47, 48, 49, 50, 51] (by decide +kernel) (by decide +kernel)
set_option maxRecDepth 20000 in
theorem gX4_faultOfTold_X0_hasSaying : GoodIn wsX4_faultOfTold (wsV RX4 85 RX0 yX0_hasSaying wsX0_hasSaying) := goodIn_app (goodIn_of _ (by decide +kernel)) ggX4_faultOfTold_X0_hasSaying
theorem dX4_faultOfTold_0 : decode cX4_faultOfTold 0 = .ok (.aload_n 0, 1) := by decide +kernel
theorem dX4_faultOfTold_1 : decode cX4_faultOfTold 1 = .ok (.iload_n 1, 1) := by decide +kernel
theorem dX4_faultOfTold_2 : decode cX4_faultOfTold 2 = .ok (.invokevirtual 236, 3) := by decide +kernel
theorem dX4_faultOfTold_5 : decode cX4_faultOfTold 5 = .ok (.istore_n 3, 1) := by decide +kernel
theorem dX4_faultOfTold_6 : decode cX4_faultOfTold 6 = .ok (.iload_n 3, 1) := by decide +kernel
theorem dX4_faultOfTold_7 : decode cX4_faultOfTold 7 = .ok (.ifCond .eq 5, 3) := by decide +kernel
theorem dX4_faultOfTold_10 : decode cX4_faultOfTold 10 = .ok (.iload_n 3, 1) := by decide +kernel
theorem dX4_faultOfTold_11 : decode cX4_faultOfTold 11 = .ok (.ireturn, 1) := by decide +kernel
theorem dX4_faultOfTold_12 : decode cX4_faultOfTold 12 = .ok (.aload_n 0, 1) := by decide +kernel
theorem dX4_faultOfTold_13 : decode cX4_faultOfTold 13 = .ok (.getfield 12, 3) := by decide +kernel
theorem dX4_faultOfTold_16 : decode cX4_faultOfTold 16 = .ok (.iload_n 2, 1) := by decide +kernel
theorem dX4_faultOfTold_17 : decode cX4_faultOfTold 17 = .ok (.invokevirtual 85, 3) := by decide +kernel
theorem dX4_faultOfTold_20 : decode cX4_faultOfTold 20 = .ok (.ifCond .eq 7, 3) := by decide +kernel
theorem dX4_faultOfTold_23 : decode cX4_faultOfTold 23 = .ok (.iconst 0, 1) := by decide +kernel
theorem dX4_faultOfTold_24 : decode cX4_faultOfTold 24 = .ok (.goto 5, 3) := by decide +kernel
theorem dX4_faultOfTold_27 : decode cX4_faultOfTold 27 = .ok (.ldc 52, 2) := by decide +kernel
theorem dX4_faultOfTold_29 : decode cX4_faultOfTold 29 = .ok (.ireturn, 1) := by decide +kernel
set_option maxRecDepth 20000 in
theorem ggX4_isAsTold_X0_become : GoodIn wsX4_isAsTold wsX0_become := goodIn_r _ [12, 13, 14, 15, 16, 17, 18, 19, 20, 21, 22, 23, 24, 137, 138, 139, 140, 141, 142, 143, 144] (by decide +kernel) (by decide +kernel)
set_option maxRecDepth 20000 in
theorem gX4_isAsTold_X0_become : GoodIn wsX4_isAsTold (wsV RX4 158 RX0 yX0_become wsX0_become) := goodIn_app (goodIn_of _ (by decide +kernel)) ggX4_isAsTold_X0_become
set_option maxRecDepth 20000 in
theorem ggX4_isAsTold_X0_setOfSaying : GoodIn wsX4_isAsTold wsX0_setOfSaying := goodIn_r _ [28, 19, 29, 30, 31, 137, 138, 139, 140, 141, 142, 143, 144] (by decide +kernel) (by decide +kernel)
set_option maxRecDepth 20000 in
theorem gX4_isAsTold_X0_setOfSaying : GoodIn wsX4_isAsTold (wsV RX4 102 RX0 yX0_setOfSaying wsX0_setOfSaying) := goodIn_app (goodIn_of _ (by decide +kernel)) ggX4_isAsTold_X0_setOfSaying
set_option maxRecDepth 20000 in
theorem ggX4_isAsTold_X0_sayingHas : GoodIn wsX4_isAsTold wsX0_sayingHas := goodIn_r _ [35, 19, 137, 138, 139, 140, 141, 142, 143, 144] (by decide +kernel) (by decide +kernel)
set_option maxRecDepth 20000 in
theorem gX4_isAsTold_X0_sayingHas : GoodIn wsX4_isAsTold (wsV RX4 99 RX0 yX0_sayingHas wsX0_sayingHas) := goodIn_app (goodIn_of _ (by decide +kernel)) ggX4_isAsTold_X0_sayingHas
set_option maxRecDepth 20000 in
theorem ggX4_isAsTold_X2_sizeOf : GoodIn wsX4_isAsTold wsX2_sizeOf := goodIn_r _ [40, 41, 42, 30, 43, 145, 146, 147] (by decide +kernel) (by decide +kernel)
set_option maxRecDepth 20000 in
theorem gX4_isAsTold_X2_sizeOf : GoodIn wsX4_isAsTold (wsV RX4 239 RX2 yX2_sizeOf wsX2_sizeOf) := goodIn_app (goodIn_of _ (by decide +kernel)) ggX4_isAsTold_X2_sizeOf
set_option maxRecDepth 20000 in
theorem ggX4_isAsTold_X2_numberOf : GoodIn wsX4_isAsTold wsX2_numberOf := goodIn_r _ [47, 48, 42, 30, 43, 145, 146, 147] (by decide +kernel) (by decide +kernel)
set_option maxRecDepth 20000 in
theorem gX4_isAsTold_X2_numberOf : GoodIn wsX4_isAsTold (wsV RX4 263 RX2 yX2_numberOf wsX2_numberOf) := goodIn_app (goodIn_of _ (by decide +kernel)) ggX4_isAsTold_X2_numberOf
set_option maxRecDepth 20000 in
theorem ggX4_isAsTold_X0_thickAt : GoodIn wsX4_isAsTold wsX0_thickAt := goodIn_r _ [52, 21, 53, 54, 6, 55, 56, 57, 58, 11, 59, 60, 33, 34, 35, 19, 61, 62, 63, 64, 65, 66, 67, 68, 69, 70, 71, 72, 73, 74, 75, 76, 77, 137, 138, 139, 140, 141, 142, 143, 144] (by decide +kernel) (by decide +kernel)
set_option maxRecDepth 20000 in
theorem gX4_isAsTold_X0_thickAt : GoodIn wsX4_isAsTold (wsV RX4 121 RX0 yX0_thickAt wsX0_thickAt) := goodIn_app (goodIn_of _ (by decide +kernel)) ggX4_isAsTold_X0_thickAt
set_option maxRecDepth 20000 in
theorem ggX4_isAsTold_X0_passDays : GoodIn wsX4_isAsTold wsX0_passDays := goodIn_r _ [81, 22, 21, 82, 23, 83, 5, 6, 7, 84, 85, 86, 11, 87, 88, 89, 90, 91, 20, 42, 30, 43, 92, 93, 94, 95, 96, 50, 51, 52, 53, 54, 55, 56, 57, 58, 59, 60, 33, 34, 35, 19, 61, 62, 63, 64, 65, 66, 67, 68, 69, 70, 71, 72, 73, 74, 75, 76, 77, 97, 98, 99, 100, 29, 31, 101, 102, 103, 104, 105, 106, 107, 108, 13, 109, 110, 111, 112, 113, 114, 115, 116, 117, 118, 119, 120, 121, 122, 26, 27, 28, 123, 124, 125, 126, 127, 128, 129, 137, 138, 139, 140, 141, 142, 143, 144] (by decide +kernel) (by decide +kernel)
set_option maxRecDepth 20000 in
theorem gX4_isAsTold_X0_passDays : GoodIn wsX4_isAsTold (wsV RX4 129 RX0 yX0_passDays wsX0_passDays) := goodIn_app (goodIn_of _ (by decide +kernel)) ggX4_isAsTold_X0_passDays
theorem dX4_isAsTold_0 : decode cX4_isAsTold 0 = .ok (.aload_n 0, 1) := by decide +kernel
theorem dX4_isAsTold_1 : decode cX4_isAsTold 1 = .ok (.getfield 16, 3) := by decide +kernel
theorem dX4_isAsTold_4 : decode cX4_isAsTold 4 = .ok (.aload_n 0, 1) := by decide +kernel
theorem dX4_isAsTold_5 : decode cX4_isAsTold 5 = .ok (.getfield 12, 3) := by decide +kernel
theorem dX4_isAsTold_8 : decode cX4_isAsTold 8 = .ok (.invokevirtual 158, 3) := by decide +kernel
theorem dX4_isAsTold_11 : decode cX4_isAsTold 11 = .ok (.aload_n 0, 1) := by decide +kernel
theorem dX4_isAsTold_12 : decode cX4_isAsTold 12 = .ok (.getfield 16, 3) := by decide +kernel
theorem dX4_isAsTold_15 : decode cX4_isAsTold 15 = .ok (.iload_n 2, 1) := by decide +kernel
theorem dX4_isAsTold_16 : decode cX4_isAsTold 16 = .ok (.iload_n 3, 1) := by decide +kernel
theorem dX4_isAsTold_17 : decode cX4_isAsTold 17 = .ok (.iload 4, 2) := by decide +kernel
theorem dX4_isAsTold_19 : decode cX4_isAsTold 19 = .ok (.invokevirtual 102, 3) := by decide +kernel
theorem dX4_isAsTold_22 : decode cX4_isAsTold 22 = .ok (.aload_n 0, 1) := by decide +kernel
theorem dX4_isAsTold_23 : decode cX4_isAsTold 23 = .ok (.getfield 16, 3) := by decide +kernel
theorem dX4_isAsTold_26 : decode cX4_isAsTold 26 = .ok (.iload_n 2, 1) := by decide +kernel
theorem dX4_isAsTold_27 : decode cX4_isAsTold 27 = .ok (.iconst 1, 1) := by decide +kernel
theorem dX4_isAsTold_28 : decode cX4_isAsTold 28 = .ok (.invokevirtual 99, 3) := by decide +kernel
theorem dX4_isAsTold_31 : decode cX4_isAsTold 31 = .ok (.istore 5, 2) := by decide +kernel
theorem dX4_isAsTold_33 : decode cX4_isAsTold 33 = .ok (.aload_n 0, 1) := by decide +kernel
theorem dX4_isAsTold_34 : decode cX4_isAsTold 34 = .ok (.getfield 36, 3) := by decide +kernel
theorem dX4_isAsTold_37 : decode cX4_isAsTold 37 = .ok (.iload_n 1, 1) := by decide +kernel
theorem dX4_isAsTold_38 : decode cX4_isAsTold 38 = .ok (.invokevirtual 239, 3) := by decide +kernel
theorem dX4_isAsTold_41 : decode cX4_isAsTold 41 = .ok (.bipush 8, 2) := by decide +kernel
theorem dX4_isAsTold_43 : decode cX4_isAsTold 43 = .ok (.invokestatic 258, 3) := by decide +kernel
theorem dX4_isAsTold_46 : decode cX4_isAsTold 46 = .ok (.istore 6, 2) := by decide +kernel
theorem dX4_isAsTold_48 : decode cX4_isAsTold 48 = .ok (.iconst 0, 1) := by decide +kernel
theorem dX4_isAsTold_49 : decode cX4_isAsTold 49 = .ok (.istore 7, 2) := by decide +kernel
theorem dX4_isAsTold_51 : decode cX4_isAsTold 51 = .ok (.iload 7, 2) := by decide +kernel
theorem dX4_isAsTold_53 : decode cX4_isAsTold 53 = .ok (.iload 6, 2) := by decide +kernel
theorem dX4_isAsTold_55 : decode cX4_isAsTold 55 = .ok (.if_icmp .ge 52, 3) := by decide +kernel
theorem dX4_isAsTold_58 : decode cX4_isAsTold 58 = .ok (.aload_n 0, 1) := by decide +kernel
theorem dX4_isAsTold_59 : decode cX4_isAsTold 59 = .ok (.getfield 36, 3) := by decide +kernel
theorem dX4_isAsTold_62 : decode cX4_isAsTold 62 = .ok (.iload_n 1, 1) := by decide +kernel
theorem dX4_isAsTold_63 : decode cX4_isAsTold 63 = .ok (.iload 7, 2) := by decide +kernel
theorem dX4_isAsTold_65 : decode cX4_isAsTold 65 = .ok (.invokevirtual 263, 3) := by decide +kernel
theorem dX4_isAsTold_68 : decode cX4_isAsTold 68 = .ok (.istore 8, 2) := by decide +kernel
theorem dX4_isAsTold_70 : decode cX4_isAsTold 70 = .ok (.iload 8, 2) := by decide +kernel
theorem dX4_isAsTold_72 : decode cX4_isAsTold 72 = .ok (.iconst (-1), 1) := by decide +kernel
theorem dX4_isAsTold_73 : decode cX4_isAsTold 73 = .ok (.if_icmp .eq 19, 3) := by decide +kernel
theorem dX4_isAsTold_76 : decode cX4_isAsTold 76 = .ok (.iload 8, 2) := by decide +kernel
theorem dX4_isAsTold_78 : decode cX4_isAsTold 78 = .ok (.aload_n 0, 1) := by decide +kernel
theorem dX4_isAsTold_79 : decode cX4_isAsTold 79 = .ok (.getfield 16, 3) := by decide +kernel
theorem dX4_isAsTold_82 : decode cX4_isAsTold 82 = .ok (.iload 5, 2) := by decide +kernel
theorem dX4_isAsTold_84 : decode cX4_isAsTold 84 = .ok (.invokevirtual 121, 3) := by decide +kernel
theorem dX4_isAsTold_87 : decode cX4_isAsTold 87 = .ok (.if_icmp .eq 5, 3) := by decide +kernel
theorem dX4_isAsTold_90 : decode cX4_isAsTold 90 = .ok (.iconst 0, 1) := by decide +kernel
theorem dX4_isAsTold_91 : decode cX4_isAsTold 91 = .ok (.ireturn, 1) := by decide +kernel
theorem dX4_isAsTold_92 : decode cX4_isAsTold 92 = .ok (.aload_n 0, 1) := by decide +kernel
theorem dX4_isAsTold_93 : decode cX4_isAsTold 93 = .ok (.getfield 16, 3) := by decide +kernel
theorem dX4_isAsTold_96 : decode cX4_isAsTold 96 = .ok (.iconst 1, 1) := by decide +kernel
theorem dX4_isAsTold_97 : decode cX4_isAsTold 97 = .ok (.iconst 0, 1) := by decide +kernel
theorem dX4_isAsTold_98 : decode cX4_isAsTold 98 = .ok (.invokevirtual 129, 3) := by decide +kernel
theorem dX4_isAsTold_101 : decode cX4_isAsTold 101 = .ok (.iinc 7 1, 3) := by decide +kernel
theorem dX4_isAsTold_104 : decode cX4_isAsTold 104 = .ok (.goto (-53), 3) := by decide +kernel
theorem dX4_isAsTold_107 : decode cX4_isAsTold 107 = .ok (.iconst 1, 1) := by decide +kernel
theorem dX4_isAsTold_108 : decode cX4_isAsTold 108 = .ok (.ireturn, 1) := by decide +kernel
theorem dX5_init_0 : decode cX5_init 0 = .ok (.aload_n 0, 1) := by decide +kernel
theorem dX5_init_1 : decode cX5_init 1 = .ok (.invokespecial 1, 3) := by decide +kernel
theorem dX5_init_4 : decode cX5_init 4 = .ok (.aload_n 0, 1) := by decide +kernel
theorem dX5_init_5 : decode cX5_init 5 = .ok (.bipush 84, 2) := by decide +kernel
theorem dX5_init_7 : decode cX5_init 7 = .ok (.newarray .int, 2) := by decide +kernel
theorem dX5_init_9 : decode cX5_init 9 = .ok (.putfield 9, 3) := by decide +kernel
theorem dX5_init_12 : decode cX5_init 12 = .ok (.aload_n 0, 1) := by decide +kernel
theorem dX5_init_13 : decode cX5_init 13 = .ok (.bipush 84, 2) := by decide +kernel
theorem dX5_init_15 : decode cX5_init 15 = .ok (.newarray .int, 2) := by decide +kernel
theorem dX5_init_17 : decode cX5_init 17 = .ok (.putfield 13, 3) := by decide +kernel
theorem dX5_init_20 : decode cX5_init 20 = .ok (.aload_n 0, 1) := by decide +kernel
theorem dX5_init_21 : decode cX5_init 21 = .ok (.bipush 84, 2) := by decide +kernel
theorem dX5_init_23 : decode cX5_init 23 = .ok (.newarray .int, 2) := by decide +kernel
theorem dX5_init_25 : decode cX5_init 25 = .ok (.putfield 16, 3) := by decide +kernel
theorem dX5_init_28 : decode cX5_init 28 = .ok (.aload_n 0, 1) := by decide +kernel
theorem dX5_init_29 : decode cX5_init 29 = .ok (.bipush 8, 2) := by decide +kernel
theorem dX5_init_31 : decode cX5_init 31 = .ok (.newarray .int, 2) := by decide +kernel
theorem dX5_init_33 : decode cX5_init 33 = .ok (.putfield 19, 3) := by decide +kernel
theorem dX5_init_36 : decode cX5_init 36 = .ok (.aload_n 0, 1) := by decide +kernel
theorem dX5_init_37 : decode cX5_init 37 = .ok (.bipush 120, 2) := by decide +kernel
theorem dX5_init_39 : decode cX5_init 39 = .ok (.newarray .int, 2) := by decide +kernel
theorem dX5_init_41 : decode cX5_init 41 = .ok (.putfield 22, 3) := by decide +kernel
theorem dX5_init_44 : decode cX5_init 44 = .ok (.aload_n 0, 1) := by decide +kernel
theorem dX5_init_45 : decode cX5_init 45 = .ok (.bipush 7, 2) := by decide +kernel
theorem dX5_init_47 : decode cX5_init 47 = .ok (.anewarray 25, 3) := by decide +kernel
theorem dX5_init_50 : decode cX5_init 50 = .ok (.dup, 1) := by decide +kernel
theorem dX5_init_51 : decode cX5_init 51 = .ok (.iconst 0, 1) := by decide +kernel
theorem dX5_init_52 : decode cX5_init 52 = .ok (.ldc 27, 2) := by decide +kernel
theorem dX5_init_54 : decode cX5_init 54 = .ok (.aastore, 1) := by decide +kernel
theorem dX5_init_55 : decode cX5_init 55 = .ok (.dup, 1) := by decide +kernel
theorem dX5_init_56 : decode cX5_init 56 = .ok (.iconst 1, 1) := by decide +kernel
theorem dX5_init_57 : decode cX5_init 57 = .ok (.ldc 29, 2) := by decide +kernel
theorem dX5_init_59 : decode cX5_init 59 = .ok (.aastore, 1) := by decide +kernel
theorem dX5_init_60 : decode cX5_init 60 = .ok (.dup, 1) := by decide +kernel
theorem dX5_init_61 : decode cX5_init 61 = .ok (.iconst 2, 1) := by decide +kernel
theorem dX5_init_62 : decode cX5_init 62 = .ok (.ldc 31, 2) := by decide +kernel
theorem dX5_init_64 : decode cX5_init 64 = .ok (.aastore, 1) := by decide +kernel
theorem dX5_init_65 : decode cX5_init 65 = .ok (.dup, 1) := by decide +kernel
theorem dX5_init_66 : decode cX5_init 66 = .ok (.iconst 3, 1) := by decide +kernel
theorem dX5_init_67 : decode cX5_init 67 = .ok (.ldc 33, 2) := by decide +kernel
theorem dX5_init_69 : decode cX5_init 69 = .ok (.aastore, 1) := by decide +kernel
theorem dX5_init_70 : decode cX5_init 70 = .ok (.dup, 1) := by decide +kernel
theorem dX5_init_71 : decode cX5_init 71 = .ok (.iconst 4, 1) := by decide +kernel
theorem dX5_init_72 : decode cX5_init 72 = .ok (.ldc 35, 2) := by decide +kernel
theorem dX5_init_74 : decode cX5_init 74 = .ok (.aastore, 1) := by decide +kernel
theorem dX5_init_75 : decode cX5_init 75 = .ok (.dup, 1) := by decide +kernel
theorem dX5_init_76 : decode cX5_init 76 = .ok (.iconst 5, 1) := by decide +kernel
theorem dX5_init_77 : decode cX5_init 77 = .ok (.ldc 37, 2) := by decide +kernel
theorem dX5_init_79 : decode cX5_init 79 = .ok (.aastore, 1) := by decide +kernel
theorem dX5_init_80 : decode cX5_init 80 = .ok (.dup, 1) := by decide +kernel
theorem dX5_init_81 : decode cX5_init 81 = .ok (.bipush 6, 2) := by decide +kernel
theorem dX5_init_83 : decode cX5_init 83 = .ok (.ldc 39, 2) := by decide +kernel
theorem dX5_init_85 : decode cX5_init 85 = .ok (.aastore, 1) := by decide +kernel
theorem dX5_init_86 : decode cX5_init 86 = .ok (.putfield 41, 3) := by decide +kernel
theorem dX5_init_89 : decode cX5_init 89 = .ok (.aload_n 0, 1) := by decide +kernel
theorem dX5_init_90 : decode cX5_init 90 = .ok (.sipush 600, 3) := by decide +kernel
theorem dX5_init_93 : decode cX5_init 93 = .ok (.newarray .int, 2) := by decide +kernel
theorem dX5_init_95 : decode cX5_init 95 = .ok (.putfield 45, 3) := by decide +kernel
theorem dX5_init_98 : decode cX5_init 98 = .ok (.aload_n 0, 1) := by decide +kernel
theorem dX5_init_99 : decode cX5_init 99 = .ok (.iconst 4, 1) := by decide +kernel
theorem dX5_init_100 : decode cX5_init 100 = .ok (.newarray .int, 2) := by decide +kernel
theorem dX5_init_102 : decode cX5_init 102 = .ok (.putfield 48, 3) := by decide +kernel
theorem dX5_init_105 : decode cX5_init 105 = .ok (.aload_n 0, 1) := by decide +kernel
theorem dX5_init_106 : decode cX5_init 106 = .ok (.iconst 4, 1) := by decide +kernel
theorem dX5_init_107 : decode cX5_init 107 = .ok (.newarray .int, 2) := by decide +kernel
theorem dX5_init_109 : decode cX5_init 109 = .ok (.putfield 51, 3) := by decide +kernel
theorem dX5_init_112 : decode cX5_init 112 = .ok (.aload_n 0, 1) := by decide +kernel
theorem dX5_init_113 : decode cX5_init 113 = .ok (.sipush 160, 3) := by decide +kernel
theorem dX5_init_116 : decode cX5_init 116 = .ok (.newarray .int, 2) := by decide +kernel
theorem dX5_init_118 : decode cX5_init 118 = .ok (.putfield 54, 3) := by decide +kernel
theorem dX5_init_121 : decode cX5_init 121 = .ok (.aload_n 0, 1) := by decide +kernel
theorem dX5_init_122 : decode cX5_init 122 = .ok (.bipush 40, 2) := by decide +kernel
theorem dX5_init_124 : decode cX5_init 124 = .ok (.newarray .int, 2) := by decide +kernel
theorem dX5_init_126 : decode cX5_init 126 = .ok (.putfield 57, 3) := by decide +kernel
theorem dX5_init_129 : decode cX5_init 129 = .ok (.aload_n 0, 1) := by decide +kernel
theorem dX5_init_130 : decode cX5_init 130 = .ok (.getfield 9, 3) := by decide +kernel
theorem dX5_init_133 : decode cX5_init 133 = .ok (.iconst 2, 1) := by decide +kernel
theorem dX5_init_134 : decode cX5_init 134 = .ok (.iconst 1, 1) := by decide +kernel
theorem dX5_init_135 : decode cX5_init 135 = .ok (.iastore, 1) := by decide +kernel
theorem dX5_init_136 : decode cX5_init 136 = .ok (.iconst 0, 1) := by decide +kernel
theorem dX5_init_137 : decode cX5_init 137 = .ok (.istore_n 1, 1) := by decide +kernel
theorem dX5_init_138 : decode cX5_init 138 = .ok (.iload_n 1, 1) := by decide +kernel
theorem dX5_init_139 : decode cX5_init 139 = .ok (.bipush 6, 2) := by decide +kernel
theorem dX5_init_141 : decode cX5_init 141 = .ok (.if_icmp .ge 19, 3) := by decide +kernel
theorem dX5_init_144 : decode cX5_init 144 = .ok (.aload_n 0, 1) := by decide +kernel
theorem dX5_init_145 : decode cX5_init 145 = .ok (.getfield 9, 3) := by decide +kernel
theorem dX5_init_148 : decode cX5_init 148 = .ok (.iconst 4, 1) := by decide +kernel
theorem dX5_init_149 : decode cX5_init 149 = .ok (.iload_n 1, 1) := by decide +kernel
theorem dX5_init_150 : decode cX5_init 150 = .ok (.iadd, 1) := by decide +kernel
theorem dX5_init_151 : decode cX5_init 151 = .ok (.bipush 8, 2) := by decide +kernel
theorem dX5_init_153 : decode cX5_init 153 = .ok (.iastore, 1) := by decide +kernel
theorem dX5_init_154 : decode cX5_init 154 = .ok (.iinc 1 1, 3) := by decide +kernel
theorem dX5_init_157 : decode cX5_init 157 = .ok (.goto (-19), 3) := by decide +kernel
theorem dX5_init_160 : decode cX5_init 160 = .ok (.iconst 0, 1) := by decide +kernel
theorem dX5_init_161 : decode cX5_init 161 = .ok (.istore_n 1, 1) := by decide +kernel
theorem dX5_init_162 : decode cX5_init 162 = .ok (.iload_n 1, 1) := by decide +kernel
theorem dX5_init_163 : decode cX5_init 163 = .ok (.bipush 10, 2) := by decide +kernel
theorem dX5_init_165 : decode cX5_init 165 = .ok (.if_icmp .ge 19, 3) := by decide +kernel
theorem dX5_init_168 : decode cX5_init 168 = .ok (.aload_n 0, 1) := by decide +kernel
theorem dX5_init_169 : decode cX5_init 169 = .ok (.getfield 9, 3) := by decide +kernel
theorem dX5_init_172 : decode cX5_init 172 = .ok (.bipush 10, 2) := by decide +kernel
theorem dX5_init_174 : decode cX5_init 174 = .ok (.iload_n 1, 1) := by decide +kernel
theorem dX5_init_175 : decode cX5_init 175 = .ok (.iadd, 1) := by decide +kernel
theorem dX5_init_176 : decode cX5_init 176 = .ok (.iconst (-1), 1) := by decide +kernel
theorem dX5_init_177 : decode cX5_init 177 = .ok (.iastore, 1) := by decide +kernel
theorem dX5_init_178 : decode cX5_init 178 = .ok (.iinc 1 1, 3) := by decide +kernel
theorem dX5_init_181 : decode cX5_init 181 = .ok (.goto (-19), 3) := by decide +kernel
theorem dX5_init_184 : decode cX5_init 184 = .ok (.return_, 1) := by decide +kernel
theorem dX5_finding_0 : decode cX5_finding 0 = .ok (.aload_n 0, 1) := by decide +kernel
theorem dX5_finding_1 : decode cX5_finding 1 = .ok (.getfield 19, 3) := by decide +kernel
theorem dX5_finding_4 : decode cX5_finding 4 = .ok (.ldc 60, 2) := by decide +kernel
theorem dX5_finding_6 : decode cX5_finding 6 = .ok (.iload_n 1, 1) := by decide +kernel
theorem dX5_finding_7 : decode cX5_finding 7 = .ok (.isub, 1) := by decide +kernel
theorem dX5_finding_8 : decode cX5_finding 8 = .ok (.iconst 1, 1) := by decide +kernel
theorem dX5_finding_9 : decode cX5_finding 9 = .ok (.iadd, 1) := by decide +kernel
theorem dX5_finding_10 : decode cX5_finding 10 = .ok (.dup2, 1) := by decide +kernel
theorem dX5_finding_11 : decode cX5_finding 11 = .ok (.iaload, 1) := by decide +kernel
theorem dX5_finding_12 : decode cX5_finding 12 = .ok (.iconst 1, 1) := by decide +kernel
theorem dX5_finding_13 : decode cX5_finding 13 = .ok (.iadd, 1) := by decide +kernel
theorem dX5_finding_14 : decode cX5_finding 14 = .ok (.iastore, 1) := by decide +kernel
theorem dX5_finding_15 : decode cX5_finding 15 = .ok (.aload_n 0, 1) := by decide +kernel
theorem dX5_finding_16 : decode cX5_finding 16 = .ok (.getfield 19, 3) := by decide +kernel
theorem dX5_finding_19 : decode cX5_finding 19 = .ok (.iconst 0, 1) := by decide +kernel
theorem dX5_finding_20 : decode cX5_finding 20 = .ok (.dup2, 1) := by decide +kernel
theorem dX5_finding_21 : decode cX5_finding 21 = .ok (.iaload, 1) := by decide +kernel
theorem dX5_finding_22 : decode cX5_finding 22 = .ok (.iconst 1, 1) := by decide +kernel
theorem dX5_finding_23 : decode cX5_finding 23 = .ok (.iadd, 1) := by decide +kernel
theorem dX5_finding_24 : decode cX5_finding 24 = .ok (.iastore, 1) := by decide +kernel
theorem dX5_finding_25 : decode cX5_finding 25 = .ok (.iload_n 1, 1) := by decide +kernel
theorem dX5_finding_26 : decode cX5_finding 26 = .ok (.ireturn, 1) := by decide +kernel
theorem dX5_within_0 : decode cX5_within 0 = .ok (.iload_n 0, 1) := by decide +kernel
theorem dX5_within_1 : decode cX5_within 1 = .ok (.iload_n 1, 1) := by decide +kernel
theorem dX5_within_2 : decode cX5_within 2 = .ok (.if_icmp .lt 12, 3) := by decide +kernel
theorem dX5_within_5 : decode cX5_within 5 = .ok (.iload_n 0, 1) := by decide +kernel
theorem dX5_within_6 : decode cX5_within 6 = .ok (.iload_n 2, 1) := by decide +kernel
theorem dX5_within_7 : decode cX5_within 7 = .ok (.if_icmp .gt 7, 3) := by decide +kernel
theorem dX5_within_10 : decode cX5_within 10 = .ok (.iconst 1, 1) := by decide +kernel
theorem dX5_within_11 : decode cX5_within 11 = .ok (.goto 4, 3) := by decide +kernel
theorem dX5_within_14 : decode cX5_within 14 = .ok (.iconst 0, 1) := by decide +kernel
theorem dX5_within_15 : decode cX5_within 15 = .ok (.ireturn, 1) := by decide +kernel
theorem dX5_become_0 : decode cX5_become 0 = .ok (.aload_n 0, 1) := by decide +kernel
theorem dX5_become_1 : decode cX5_become 1 = .ok (.getfield 9, 3) := by decide +kernel
theorem dX5_become_4 : decode cX5_become 4 = .ok (.iload_n 1, 1) := by decide +kernel
theorem dX5_become_5 : decode cX5_become 5 = .ok (.iaload, 1) := by decide +kernel
theorem dX5_become_6 : decode cX5_become 6 = .ok (.istore_n 3, 1) := by decide +kernel
theorem dX5_become_7 : decode cX5_become 7 = .ok (.aload_n 0, 1) := by decide +kernel
theorem dX5_become_8 : decode cX5_become 8 = .ok (.getfield 9, 3) := by decide +kernel
theorem dX5_become_11 : decode cX5_become 11 = .ok (.iload_n 1, 1) := by decide +kernel
theorem dX5_become_12 : decode cX5_become 12 = .ok (.iload_n 2, 1) := by decide +kernel
theorem dX5_become_13 : decode cX5_become 13 = .ok (.iastore, 1) := by decide +kernel
theorem dX5_become_14 : decode cX5_become 14 = .ok (.iload_n 3, 1) := by decide +kernel
theorem dX5_become_15 : decode cX5_become 15 = .ok (.ireturn, 1) := by decide +kernel
theorem dX5_copyRow_0 : decode cX5_copyRow 0 = .ok (.iconst 0, 1) := by decide +kernel
theorem dX5_copyRow_1 : decode cX5_copyRow 1 = .ok (.istore_n 2, 1) := by decide +kernel
theorem dX5_copyRow_2 : decode cX5_copyRow 2 = .ok (.iload_n 2, 1) := by decide +kernel
theorem dX5_copyRow_3 : decode cX5_copyRow 3 = .ok (.bipush 84, 2) := by decide +kernel
theorem dX5_copyRow_5 : decode cX5_copyRow 5 = .ok (.if_icmp .ge 15, 3) := by decide +kernel
theorem dX5_copyRow_8 : decode cX5_copyRow 8 = .ok (.aload_n 1, 1) := by decide +kernel
theorem dX5_copyRow_9 : decode cX5_copyRow 9 = .ok (.iload_n 2, 1) := by decide +kernel
theorem dX5_copyRow_10 : decode cX5_copyRow 10 = .ok (.aload_n 0, 1) := by decide +kernel
theorem dX5_copyRow_11 : decode cX5_copyRow 11 = .ok (.iload_n 2, 1) := by decide +kernel
theorem dX5_copyRow_12 : decode cX5_copyRow 12 = .ok (.iaload, 1) := by decide +kernel
theorem dX5_copyRow_13 : decode cX5_copyRow 13 = .ok (.iastore, 1) := by decide +kernel
theorem dX5_copyRow_14 : decode cX5_copyRow 14 = .ok (.iinc 2 1, 3) := by decide +kernel
theorem dX5_copyRow_17 : decode cX5_copyRow 17 = .ok (.goto (-15), 3) := by decide +kernel
theorem dX5_copyRow_20 : decode cX5_copyRow 20 = .ok (.return_, 1) := by decide +kernel
set_option maxRecDepth 20000 in
theorem ggX5_putBack_X5_copyRow : GoodIn wsX5_putBack wsX5_copyRow := goodIn_r _ [6] (by decide +kernel) (by decide +kernel)
set_option maxRecDepth 20000 in
theorem gX5_putBack_X5_copyRow : GoodIn wsX5_putBack (va_wsS RX5 61 yX5_copyRow wsX5_copyRow) := goodIn_app (goodIn_of _ (by decide +kernel)) ggX5_putBack_X5_copyRow
theorem dX5_putBack_0 : decode cX5_putBack 0 = .ok (.aload_n 0, 1) := by decide +kernel
theorem dX5_putBack_1 : decode cX5_putBack 1 = .ok (.getfield 16, 3) := by decide +kernel
theorem dX5_putBack_4 : decode cX5_putBack 4 = .ok (.aload_n 0, 1) := by decide +kernel
theorem dX5_putBack_5 : decode cX5_putBack 5 = .ok (.getfield 9, 3) := by decide +kernel
theorem dX5_putBack_8 : decode cX5_putBack 8 = .ok (.invokestatic 61, 3) := by decide +kernel
theorem dX5_putBack_11 : decode cX5_putBack 11 = .ok (.iload_n 1, 1) := by decide +kernel
theorem dX5_putBack_12 : decode cX5_putBack 12 = .ok (.ireturn, 1) := by decide +kernel
set_option maxRecDepth 20000 in
theorem ggX5_orNone_X5_finding : GoodIn wsX5_orNone wsX5_finding := goodIn_r _ [6, 7, 8, 9, 10, 11, 12, 13, 14, 15, 16, 17, 18, 19, 20, 21, 22, 23, 24, 25, 26, 27, 28, 29] (by decide +kernel) (by decide +kernel)
set_option maxRecDepth 20000 in
theorem gX5_orNone_X5_finding : GoodIn wsX5_orNone (wsV RX5 66 RX5 yX5_finding wsX5_finding) := goodIn_app (goodIn_of _ (by decide +kernel)) ggX5_orNone_X5_finding
theorem dX5_orNone_0 : decode cX5_orNone 0 = .ok (.iload_n 1, 1) := by decide +kernel
theorem dX5_orNone_1 : decode cX5_orNone 1 = .ok (.ifCond .ge 12, 3) := by decide +kernel
theorem dX5_orNone_4 : decode cX5_orNone 4 = .ok (.aload_n 0, 1) := by decide +kernel
theorem dX5_orNone_5 : decode cX5_orNone 5 = .ok (.ldc 65, 2) := by decide +kernel
theorem dX5_orNone_7 : decode cX5_orNone 7 = .ok (.invokevirtual 66, 3) := by decide +kernel
theorem dX5_orNone_10 : decode cX5_orNone 10 = .ok (.goto 4, 3) := by decide +kernel
theorem dX5_orNone_13 : decode cX5_orNone 13 = .ok (.iload_n 1, 1) := by decide +kernel
theorem dX5_orNone_14 : decode cX5_orNone 14 = .ok (.ireturn, 1) := by decide +kernel
theorem dX5_bits_0 : decode cX5_bits 0 = .ok (.iconst 0, 1) := by decide +kernel
theorem dX5_bits_1 : decode cX5_bits 1 = .ok (.istore_n 1, 1) := by decide +kernel
theorem dX5_bits_2 : decode cX5_bits 2 = .ok (.iload_n 0, 1) := by decide +kernel
theorem dX5_bits_3 : decode cX5_bits 3 = .ok (.istore_n 2, 1) := by decide +kernel
theorem dX5_bits_4 : decode cX5_bits 4 = .ok (.iload_n 2, 1) := by decide +kernel
theorem dX5_bits_5 : decode cX5_bits 5 = .ok (.ifCond .eq 15, 3) := by decide +kernel
theorem dX5_bits_8 : decode cX5_bits 8 = .ok (.iinc 1 1, 3) := by decide +kernel
theorem dX5_bits_11 : decode cX5_bits 11 = .ok (.iload_n 2, 1) := by decide +kernel
theorem dX5_bits_12 : decode cX5_bits 12 = .ok (.iload_n 2, 1) := by decide +kernel
theorem dX5_bits_13 : decode cX5_bits 13 = .ok (.iconst 1, 1) := by decide +kernel
theorem dX5_bits_14 : decode cX5_bits 14 = .ok (.isub, 1) := by decide +kernel
theorem dX5_bits_15 : decode cX5_bits 15 = .ok (.iand, 1) := by decide +kernel
theorem dX5_bits_16 : decode cX5_bits 16 = .ok (.istore_n 2, 1) := by decide +kernel
theorem dX5_bits_17 : decode cX5_bits 17 = .ok (.goto (-13), 3) := by decide +kernel
theorem dX5_bits_20 : decode cX5_bits 20 = .ok (.iload_n 1, 1) := by decide +kernel
theorem dX5_bits_21 : decode cX5_bits 21 = .ok (.ireturn, 1) := by decide +kernel
set_option maxRecDepth 20000 in
theorem ggX5_isCell_X5_within : GoodIn wsX5_isCell wsX5_within := goodIn_r _ [4] (by decide +kernel) (by decide +kernel)
set_option maxRecDepth 20000 in
theorem gX5_isCell_X5_within : GoodIn wsX5_isCell (va_wsS RX5 70 yX5_within wsX5_within) := goodIn_app (goodIn_of _ (by decide +kernel)) ggX5_isCell_X5_within
theorem dX5_isCell_0 : decode cX5_isCell 0 = .ok (.iload_n 0, 1) := by decide +kernel
theorem dX5_isCell_1 : decode cX5_isCell 1 = .ok (.iconst 0, 1) := by decide +kernel
theorem dX5_isCell_2 : decode cX5_isCell 2 = .ok (.bipush 15, 2) := by decide +kernel
theorem dX5_isCell_4 : decode cX5_isCell 4 = .ok (.invokestatic 70, 3) := by decide +kernel
theorem dX5_isCell_7 : decode cX5_isCell 7 = .ok (.ireturn, 1) := by decide +kernel
set_option maxRecDepth 20000 in
theorem ggX5_isMany_X5_within : GoodIn wsX5_isMany wsX5_within := goodIn_r _ [4] (by decide +kernel) (by decide +kernel)
set_option maxRecDepth 20000 in
theorem gX5_isMany_X5_within : GoodIn wsX5_isMany (va_wsS RX5 70 yX5_within wsX5_within) := goodIn_app (goodIn_of _ (by decide +kernel)) ggX5_isMany_X5_within
theorem dX5_isMany_0 : decode cX5_isMany 0 = .ok (.iload_n 0, 1) := by decide +kernel
theorem dX5_isMany_1 : decode cX5_isMany 1 = .ok (.iconst 0, 1) := by decide +kernel
theorem dX5_isMany_2 : decode cX5_isMany 2 = .ok (.bipush 99, 2) := by decide +kernel
theorem dX5_isMany_4 : decode cX5_isMany 4 = .ok (.invokestatic 70, 3) := by decide +kernel
theorem dX5_isMany_7 : decode cX5_isMany 7 = .ok (.ireturn, 1) := by decide +kernel
set_option maxRecDepth 20000 in
theorem ggX5_isPlace_X5_within : GoodIn wsX5_isPlace wsX5_within := goodIn_r _ [4] (by decide +kernel) (by decide +kernel)
set_option maxRecDepth 20000 in
theorem gX5_isPlace_X5_within : GoodIn wsX5_isPlace (va_wsS RX5 70 yX5_within wsX5_within) := goodIn_app (goodIn_of _ (by decide +kernel)) ggX5_isPlace_X5_within
theorem dX5_isPlace_0 : decode cX5_isPlace 0 = .ok (.iload_n 0, 1) := by decide +kernel
theorem dX5_isPlace_1 : decode cX5_isPlace 1 = .ok (.iconst 0, 1) := by decide +kernel
theorem dX5_isPlace_2 : decode cX5_isPlace 2 = .ok (.iconst 5, 1) := by decide +kernel
theorem dX5_isPlace_3 : decode cX5_isPlace 3 = .ok (.invokestatic 70, 3) := by decide +kernel
theorem dX5_isPlace_6 : decode cX5_isPlace 6 = .ok (.ireturn, 1) := by decide +kernel
set_option maxRecDepth 20000 in
theorem ggX5_list_X5_isPlace : GoodIn wsX5_list wsX5_isPlace := goodIn_r _ [5, 6, 7, 4, 8] (by decide +kernel) (by decide +kernel)
set_option maxRecDepth 20000 in
theorem gX5_list_X5_isPlace : GoodIn wsX5_list (va_wsS RX5 74 yX5_isPlace wsX5_isPlace) := goodIn_app (goodIn_of _ (by decide +kernel)) ggX5_list_X5_isPlace
set_option maxRecDepth 20000 in
theorem ggX5_list_X5_within : GoodIn wsX5_list wsX5_within := goodIn_r _ [8] (by decide +kernel) (by decide +kernel)
set_option maxRecDepth 20000 in
theorem gX5_list_X5_within : GoodIn wsX5_list (va_wsS RX5 70 yX5_within wsX5_within) := goodIn_app (goodIn_of _ (by decide +kernel)) ggX5_list_X5_within
set_option maxRecDepth 20000 in
theorem ggX5_list_X5_become : GoodIn wsX5_list wsX5_become := goodIn_r _ [12, 13, 19, 20, 21, 22, 23, 24, 25, 26, 27, 28, 29, 30, 31, 32, 33, 34, 35, 36, 37, 38, 39] (by decide +kernel) (by decide +kernel)
set_option maxRecDepth 20000 in
theorem gX5_list_X5_become : GoodIn wsX5_list (wsV RX5 78 RX5 yX5_become wsX5_become) := goodIn_app (goodIn_of _ (by decide +kernel)) ggX5_list_X5_become
set_option maxRecDepth 20000 in
theorem ggX5_list_X5_finding : GoodIn wsX5_list wsX5_finding := goodIn_r _ [17, 18, 1, 19, 20, 21, 22, 23, 24, 25, 26, 27, 28, 29, 30, 31, 32, 33, 34, 35, 36, 37, 38, 39] (by decide +kernel) (by decide +kernel)
set_option maxRecDepth 20000 in
theorem gX5_list_X5_finding : GoodIn wsX5_list (wsV RX5 66 RX5 yX5_finding wsX5_finding) := goodIn_app (goodIn_of _ (by decide +kernel)) ggX5_list_X5_finding
theorem dX5_list_0 : decode cX5_list 0 = .ok (.iload_n 1, 1) := by decide +kernel
theorem dX5_list_1 : decode cX5_list 1 = .ok (.invokestatic 74, 3) := by decide +kernel
theorem dX5_list_4 : decode cX5_list 4 = .ok (.ifCond .eq 24, 3) := by decide +kernel
theorem dX5_list_7 : decode cX5_list 7 = .ok (.iload_n 2, 1) := by decide +kernel
theorem dX5_list_8 : decode cX5_list 8 = .ok (.iconst 0, 1) := by decide +kernel
theorem dX5_list_9 : decode cX5_list 9 = .ok (.bipush 8, 2) := by decide +kernel
theorem dX5_list_11 : decode cX5_list 11 = .ok (.invokestatic 70, 3) := by decide +kernel
theorem dX5_list_14 : decode cX5_list 14 = .ok (.ifCond .eq 14, 3) := by decide +kernel
theorem dX5_list_17 : decode cX5_list 17 = .ok (.aload_n 0, 1) := by decide +kernel
theorem dX5_list_18 : decode cX5_list 18 = .ok (.iconst 4, 1) := by decide +kernel
theorem dX5_list_19 : decode cX5_list 19 = .ok (.iload_n 1, 1) := by decide +kernel
theorem dX5_list_20 : decode cX5_list 20 = .ok (.iadd, 1) := by decide +kernel
theorem dX5_list_21 : decode cX5_list 21 = .ok (.iload_n 2, 1) := by decide +kernel
theorem dX5_list_22 : decode cX5_list 22 = .ok (.invokevirtual 78, 3) := by decide +kernel
theorem dX5_list_25 : decode cX5_list 25 = .ok (.goto 9, 3) := by decide +kernel
theorem dX5_list_28 : decode cX5_list 28 = .ok (.aload_n 0, 1) := by decide +kernel
theorem dX5_list_29 : decode cX5_list 29 = .ok (.ldc 60, 2) := by decide +kernel
theorem dX5_list_31 : decode cX5_list 31 = .ok (.invokevirtual 66, 3) := by decide +kernel
theorem dX5_list_34 : decode cX5_list 34 = .ok (.ireturn, 1) := by decide +kernel
set_option maxRecDepth 20000 in
theorem ggX5_listed_X5_isPlace : GoodIn wsX5_listed wsX5_isPlace := goodIn_r _ [6, 7, 8, 5, 9] (by decide +kernel) (by decide +kernel)
set_option maxRecDepth 20000 in
theorem gX5_listed_X5_isPlace : GoodIn wsX5_listed (va_wsS RX5 74 yX5_isPlace wsX5_isPlace) := goodIn_app (goodIn_of _ (by decide +kernel)) ggX5_listed_X5_isPlace
set_option maxRecDepth 20000 in
theorem ggX5_listed_X5_finding : GoodIn wsX5_listed wsX5_finding := goodIn_r _ [13, 14, 2, 15, 16, 17, 18, 19, 20, 21, 22, 23, 24, 25, 26, 27, 28, 29, 30, 31, 32, 33, 34, 35] (by decide +kernel) (by decide +kernel)
set_option maxRecDepth 20000 in
theorem gX5_listed_X5_finding : GoodIn wsX5_listed (wsV RX5 66 RX5 yX5_finding wsX5_finding) := goodIn_app (goodIn_of _ (by decide +kernel)) ggX5_listed_X5_finding
theorem dX5_listed_0 : decode cX5_listed 0 = .ok (.iload_n 1, 1) := by decide +kernel
theorem dX5_listed_1 : decode cX5_listed 1 = .ok (.invokestatic 74, 3) := by decide +kernel
theorem dX5_listed_4 : decode cX5_listed 4 = .ok (.ifCond .eq 14, 3) := by decide +kernel
theorem dX5_listed_7 : decode cX5_listed 7 = .ok (.aload_n 0, 1) := by decide +kernel
theorem dX5_listed_8 : decode cX5_listed 8 = .ok (.getfield 9, 3) := by decide +kernel
theorem dX5_listed_11 : decode cX5_listed 11 = .ok (.iconst 4, 1) := by decide +kernel
theorem dX5_listed_12 : decode cX5_listed 12 = .ok (.iload_n 1, 1) := by decide +kernel
theorem dX5_listed_13 : decode cX5_listed 13 = .ok (.iadd, 1) := by decide +kernel
theorem dX5_listed_14 : decode cX5_listed 14 = .ok (.iaload, 1) := by decide +kernel
theorem dX5_listed_15 : decode cX5_listed 15 = .ok (.goto 9, 3) := by decide +kernel
theorem dX5_listed_18 : decode cX5_listed 18 = .ok (.aload_n 0, 1) := by decide +kernel
theorem dX5_listed_19 : decode cX5_listed 19 = .ok (.ldc 60, 2) := by decide +kernel
theorem dX5_listed_21 : decode cX5_listed 21 = .ok (.invokevirtual 66, 3) := by decide +kernel
theorem dX5_listed_24 : decode cX5_listed 24 = .ok (.ireturn, 1) := by decide +kernel
theorem dX5_placeNow_0 : decode cX5_placeNow 0 = .ok (.iconst 4, 1) := by decide +kernel
theorem dX5_placeNow_1 : decode cX5_placeNow 1 = .ok (.aload_n 0, 1) := by decide +kernel
theorem dX5_placeNow_2 : decode cX5_placeNow 2 = .ok (.getfield 9, 3) := by decide +kernel
theorem dX5_placeNow_5 : decode cX5_placeNow 5 = .ok (.iconst 0, 1) := by decide +kernel
theorem dX5_placeNow_6 : decode cX5_placeNow 6 = .ok (.iaload, 1) := by decide +kernel
theorem dX5_placeNow_7 : decode cX5_placeNow 7 = .ok (.bipush 6, 2) := by decide +kernel
theorem dX5_placeNow_9 : decode cX5_placeNow 9 = .ok (.irem, 1) := by decide +kernel
theorem dX5_placeNow_10 : decode cX5_placeNow 10 = .ok (.iadd, 1) := by decide +kernel
theorem dX5_placeNow_11 : decode cX5_placeNow 11 = .ok (.ireturn, 1) := by decide +kernel
theorem dX5_sayingAt_0 : decode cX5_sayingAt 0 = .ok (.bipush 20, 2) := by decide +kernel
theorem dX5_sayingAt_2 : decode cX5_sayingAt 2 = .ok (.iconst 5, 1) := by decide +kernel
theorem dX5_sayingAt_3 : decode cX5_sayingAt 3 = .ok (.iload_n 0, 1) := by decide +kernel
theorem dX5_sayingAt_4 : decode cX5_sayingAt 4 = .ok (.imul, 1) := by decide +kernel
theorem dX5_sayingAt_5 : decode cX5_sayingAt 5 = .ok (.iadd, 1) := by decide +kernel
theorem dX5_sayingAt_6 : decode cX5_sayingAt 6 = .ok (.iload_n 1, 1) := by decide +kernel
theorem dX5_sayingAt_7 : decode cX5_sayingAt 7 = .ok (.iadd, 1) := by decide +kernel
theorem dX5_sayingAt_8 : decode cX5_sayingAt 8 = .ok (.ireturn, 1) := by decide +kernel
set_option maxRecDepth 20000 in
theorem ggX5_sayingIs_X5_sayingAt : GoodIn wsX5_sayingIs wsX5_sayingAt := goodIn_r _ [5] (by decide +kernel) (by decide +kernel)
set_option maxRecDepth 20000 in
theorem gX5_sayingIs_X5_sayingAt : GoodIn wsX5_sayingIs (va_wsS RX5 82 yX5_sayingAt wsX5_sayingAt) := goodIn_app (goodIn_of _ (by decide +kernel)) ggX5_sayingIs_X5_sayingAt
theorem dX5_sayingIs_0 : decode cX5_sayingIs 0 = .ok (.aload_n 0, 1) := by decide +kernel
theorem dX5_sayingIs_1 : decode cX5_sayingIs 1 = .ok (.getfield 9, 3) := by decide +kernel
theorem dX5_sayingIs_4 : decode cX5_sayingIs 4 = .ok (.iload_n 1, 1) := by decide +kernel
theorem dX5_sayingIs_5 : decode cX5_sayingIs 5 = .ok (.iload_n 2, 1) := by decide +kernel
theorem dX5_sayingIs_6 : decode cX5_sayingIs 6 = .ok (.invokestatic 82, 3) := by decide +kernel
theorem dX5_sayingIs_9 : decode cX5_sayingIs 9 = .ok (.iaload, 1) := by decide +kernel
theorem dX5_sayingIs_10 : decode cX5_sayingIs 10 = .ok (.ireturn, 1) := by decide +kernel
set_option maxRecDepth 20000 in
theorem ggX5_isSaying_X5_within : GoodIn wsX5_isSaying wsX5_within := goodIn_r _ [5] (by decide +kernel) (by decide +kernel)
set_option maxRecDepth 20000 in
theorem gX5_isSaying_X5_within : GoodIn wsX5_isSaying (va_wsS RX5 70 yX5_within wsX5_within) := goodIn_app (goodIn_of _ (by decide +kernel)) ggX5_isSaying_X5_within
theorem dX5_isSaying_0 : decode cX5_isSaying 0 = .ok (.iload_n 1, 1) := by decide +kernel
theorem dX5_isSaying_1 : decode cX5_isSaying 1 = .ok (.iconst 0, 1) := by decide +kernel
theorem dX5_isSaying_2 : decode cX5_isSaying 2 = .ok (.aload_n 0, 1) := by decide +kernel
theorem dX5_isSaying_3 : decode cX5_isSaying 3 = .ok (.getfield 9, 3) := by decide +kernel
theorem dX5_isSaying_6 : decode cX5_isSaying 6 = .ok (.iconst 1, 1) := by decide +kernel
theorem dX5_isSaying_7 : decode cX5_isSaying 7 = .ok (.iaload, 1) := by decide +kernel
theorem dX5_isSaying_8 : decode cX5_isSaying 8 = .ok (.iconst 1, 1) := by decide +kernel
theorem dX5_isSaying_9 : decode cX5_isSaying 9 = .ok (.isub, 1) := by decide +kernel
theorem dX5_isSaying_10 : decode cX5_isSaying 10 = .ok (.invokestatic 70, 3) := by decide +kernel
theorem dX5_isSaying_13 : decode cX5_isSaying 13 = .ok (.ireturn, 1) := by decide +kernel
theorem dX5_shipAt_0 : decode cX5_shipAt 0 = .ok (.bipush 60, 2) := by decide +kernel
theorem dX5_shipAt_2 : decode cX5_shipAt 2 = .ok (.iconst 4, 1) := by decide +kernel
theorem dX5_shipAt_3 : decode cX5_shipAt 3 = .ok (.iload_n 0, 1) := by decide +kernel
theorem dX5_shipAt_4 : decode cX5_shipAt 4 = .ok (.imul, 1) := by decide +kernel
theorem dX5_shipAt_5 : decode cX5_shipAt 5 = .ok (.iadd, 1) := by decide +kernel
theorem dX5_shipAt_6 : decode cX5_shipAt 6 = .ok (.iload_n 1, 1) := by decide +kernel
theorem dX5_shipAt_7 : decode cX5_shipAt 7 = .ok (.iadd, 1) := by decide +kernel
theorem dX5_shipAt_8 : decode cX5_shipAt 8 = .ok (.ireturn, 1) := by decide +kernel
set_option maxRecDepth 20000 in
theorem ggX5_shipIs_X5_shipAt : GoodIn wsX5_shipIs wsX5_shipAt := goodIn_r _ [5] (by decide +kernel) (by decide +kernel)
set_option maxRecDepth 20000 in
theorem gX5_shipIs_X5_shipAt : GoodIn wsX5_shipIs (va_wsS RX5 85 yX5_shipAt wsX5_shipAt) := goodIn_app (goodIn_of _ (by decide +kernel)) ggX5_shipIs_X5_shipAt
theorem dX5_shipIs_0 : decode cX5_shipIs 0 = .ok (.aload_n 0, 1) := by decide +kernel
theorem dX5_shipIs_1 : decode cX5_shipIs 1 = .ok (.getfield 9, 3) := by decide +kernel
theorem dX5_shipIs_4 : decode cX5_shipIs 4 = .ok (.iload_n 1, 1) := by decide +kernel
theorem dX5_shipIs_5 : decode cX5_shipIs 5 = .ok (.iload_n 2, 1) := by decide +kernel
theorem dX5_shipIs_6 : decode cX5_shipIs 6 = .ok (.invokestatic 85, 3) := by decide +kernel
theorem dX5_shipIs_9 : decode cX5_shipIs 9 = .ok (.iaload, 1) := by decide +kernel
theorem dX5_shipIs_10 : decode cX5_shipIs 10 = .ok (.ireturn, 1) := by decide +kernel
set_option maxRecDepth 20000 in
theorem ggX5_isShip_X5_within : GoodIn wsX5_isShip wsX5_within := goodIn_r _ [5] (by decide +kernel) (by decide +kernel)
set_option maxRecDepth 20000 in
theorem gX5_isShip_X5_within : GoodIn wsX5_isShip (va_wsS RX5 70 yX5_within wsX5_within) := goodIn_app (goodIn_of _ (by decide +kernel)) ggX5_isShip_X5_within
theorem dX5_isShip_0 : decode cX5_isShip 0 = .ok (.iload_n 1, 1) := by decide +kernel
theorem dX5_isShip_1 : decode cX5_isShip 1 = .ok (.iconst 0, 1) := by decide +kernel
theorem dX5_isShip_2 : decode cX5_isShip 2 = .ok (.aload_n 0, 1) := by decide +kernel
theorem dX5_isShip_3 : decode cX5_isShip 3 = .ok (.getfield 9, 3) := by decide +kernel
theorem dX5_isShip_6 : decode cX5_isShip 6 = .ok (.iconst 3, 1) := by decide +kernel
theorem dX5_isShip_7 : decode cX5_isShip 7 = .ok (.iaload, 1) := by decide +kernel
theorem dX5_isShip_8 : decode cX5_isShip 8 = .ok (.iconst 1, 1) := by decide +kernel
theorem dX5_isShip_9 : decode cX5_isShip 9 = .ok (.isub, 1) := by decide +kernel
theorem dX5_isShip_10 : decode cX5_isShip 10 = .ok (.invokestatic 70, 3) := by decide +kernel
theorem dX5_isShip_13 : decode cX5_isShip 13 = .ok (.ireturn, 1) := by decide +kernel
set_option maxRecDepth 20000 in
theorem ggX5_isKind_X5_within : GoodIn wsX5_isKind wsX5_within := goodIn_r _ [4] (by decide +kernel) (by decide +kernel)
set_option maxRecDepth 20000 in
theorem gX5_isKind_X5_within : GoodIn wsX5_isKind (va_wsS RX5 70 yX5_within wsX5_within) := goodIn_app (goodIn_of _ (by decide +kernel)) ggX5_isKind_X5_within
theorem dX5_isKind_0 : decode cX5_isKind 0 = .ok (.iload_n 0, 1) := by decide +kernel
theorem dX5_isKind_1 : decode cX5_isKind 1 = .ok (.iconst 0, 1) := by decide +kernel
theorem dX5_isKind_2 : decode cX5_isKind 2 = .ok (.bipush 6, 2) := by decide +kernel
theorem dX5_isKind_4 : decode cX5_isKind 4 = .ok (.invokestatic 70, 3) := by decide +kernel
theorem dX5_isKind_7 : decode cX5_isKind 7 = .ok (.ireturn, 1) := by decide +kernel
set_option maxRecDepth 20000 in
theorem ggX5_isFast_X5_within : GoodIn wsX5_isFast wsX5_within := goodIn_r _ [4] (by decide +kernel) (by decide +kernel)
set_option maxRecDepth 20000 in
theorem gX5_isFast_X5_within : GoodIn wsX5_isFast (va_wsS RX5 70 yX5_within wsX5_within) := goodIn_app (goodIn_of _ (by decide +kernel)) ggX5_isFast_X5_within
theorem dX5_isFast_0 : decode cX5_isFast 0 = .ok (.iload_n 0, 1) := by decide +kernel
theorem dX5_isFast_1 : decode cX5_isFast 1 = .ok (.iconst 1, 1) := by decide +kernel
theorem dX5_isFast_2 : decode cX5_isFast 2 = .ok (.iconst 5, 1) := by decide +kernel
theorem dX5_isFast_3 : decode cX5_isFast 3 = .ok (.invokestatic 70, 3) := by decide +kernel
theorem dX5_isFast_6 : decode cX5_isFast 6 = .ok (.ireturn, 1) := by decide +kernel
set_option maxRecDepth 20000 in
theorem ggX5_comes_X5_sayingAt : GoodIn wsX5_comes wsX5_sayingAt := goodIn_r _ [5] (by decide +kernel) (by decide +kernel)
set_option maxRecDepth 20000 in
theorem gX5_comes_X5_sayingAt : GoodIn wsX5_comes (va_wsS RX5 82 yX5_sayingAt wsX5_sayingAt) := goodIn_app (goodIn_of _ (by decide +kernel)) ggX5_comes_X5_sayingAt
theorem dX5_comes_0 : decode cX5_comes 0 = .ok (.aload_n 0, 1) := by decide +kernel
theorem dX5_comes_1 : decode cX5_comes 1 = .ok (.getfield 9, 3) := by decide +kernel
theorem dX5_comes_4 : decode cX5_comes 4 = .ok (.iconst 1, 1) := by decide +kernel
theorem dX5_comes_5 : decode cX5_comes 5 = .ok (.iaload, 1) := by decide +kernel
theorem dX5_comes_6 : decode cX5_comes 6 = .ok (.istore 4, 2) := by decide +kernel
theorem dX5_comes_8 : decode cX5_comes 8 = .ok (.aload_n 0, 1) := by decide +kernel
theorem dX5_comes_9 : decode cX5_comes 9 = .ok (.getfield 9, 3) := by decide +kernel
theorem dX5_comes_12 : decode cX5_comes 12 = .ok (.iload 4, 2) := by decide +kernel
theorem dX5_comes_14 : decode cX5_comes 14 = .ok (.iconst 0, 1) := by decide +kernel
theorem dX5_comes_15 : decode cX5_comes 15 = .ok (.invokestatic 82, 3) := by decide +kernel
theorem dX5_comes_18 : decode cX5_comes 18 = .ok (.iload_n 1, 1) := by decide +kernel
theorem dX5_comes_19 : decode cX5_comes 19 = .ok (.iastore, 1) := by decide +kernel
theorem dX5_comes_20 : decode cX5_comes 20 = .ok (.aload_n 0, 1) := by decide +kernel
theorem dX5_comes_21 : decode cX5_comes 21 = .ok (.getfield 9, 3) := by decide +kernel
theorem dX5_comes_24 : decode cX5_comes 24 = .ok (.iload 4, 2) := by decide +kernel
theorem dX5_comes_26 : decode cX5_comes 26 = .ok (.iconst 1, 1) := by decide +kernel
theorem dX5_comes_27 : decode cX5_comes 27 = .ok (.invokestatic 82, 3) := by decide +kernel
theorem dX5_comes_30 : decode cX5_comes 30 = .ok (.iload_n 3, 1) := by decide +kernel
theorem dX5_comes_31 : decode cX5_comes 31 = .ok (.iastore, 1) := by decide +kernel
theorem dX5_comes_32 : decode cX5_comes 32 = .ok (.aload_n 0, 1) := by decide +kernel
theorem dX5_comes_33 : decode cX5_comes 33 = .ok (.getfield 9, 3) := by decide +kernel
theorem dX5_comes_36 : decode cX5_comes 36 = .ok (.iload 4, 2) := by decide +kernel
theorem dX5_comes_38 : decode cX5_comes 38 = .ok (.iconst 2, 1) := by decide +kernel
theorem dX5_comes_39 : decode cX5_comes 39 = .ok (.invokestatic 82, 3) := by decide +kernel
theorem dX5_comes_42 : decode cX5_comes 42 = .ok (.iload_n 2, 1) := by decide +kernel
theorem dX5_comes_43 : decode cX5_comes 43 = .ok (.iastore, 1) := by decide +kernel
theorem dX5_comes_44 : decode cX5_comes 44 = .ok (.aload_n 0, 1) := by decide +kernel
theorem dX5_comes_45 : decode cX5_comes 45 = .ok (.getfield 9, 3) := by decide +kernel
theorem dX5_comes_48 : decode cX5_comes 48 = .ok (.iload 4, 2) := by decide +kernel
theorem dX5_comes_50 : decode cX5_comes 50 = .ok (.iconst 3, 1) := by decide +kernel
theorem dX5_comes_51 : decode cX5_comes 51 = .ok (.invokestatic 82, 3) := by decide +kernel
theorem dX5_comes_54 : decode cX5_comes 54 = .ok (.iconst 0, 1) := by decide +kernel
theorem dX5_comes_55 : decode cX5_comes 55 = .ok (.iastore, 1) := by decide +kernel
theorem dX5_comes_56 : decode cX5_comes 56 = .ok (.aload_n 0, 1) := by decide +kernel
theorem dX5_comes_57 : decode cX5_comes 57 = .ok (.getfield 9, 3) := by decide +kernel
theorem dX5_comes_60 : decode cX5_comes 60 = .ok (.iload 4, 2) := by decide +kernel
theorem dX5_comes_62 : decode cX5_comes 62 = .ok (.iconst 4, 1) := by decide +kernel
theorem dX5_comes_63 : decode cX5_comes 63 = .ok (.invokestatic 82, 3) := by decide +kernel
theorem dX5_comes_66 : decode cX5_comes 66 = .ok (.iconst 0, 1) := by decide +kernel
theorem dX5_comes_67 : decode cX5_comes 67 = .ok (.iastore, 1) := by decide +kernel
theorem dX5_comes_68 : decode cX5_comes 68 = .ok (.aload_n 0, 1) := by decide +kernel
theorem dX5_comes_69 : decode cX5_comes 69 = .ok (.getfield 9, 3) := by decide +kernel
theorem dX5_comes_72 : decode cX5_comes 72 = .ok (.iconst 1, 1) := by decide +kernel
theorem dX5_comes_73 : decode cX5_comes 73 = .ok (.dup2, 1) := by decide +kernel
theorem dX5_comes_74 : decode cX5_comes 74 = .ok (.iaload, 1) := by decide +kernel
theorem dX5_comes_75 : decode cX5_comes 75 = .ok (.iconst 1, 1) := by decide +kernel
theorem dX5_comes_76 : decode cX5_comes 76 = .ok (.iadd, 1) := by decide +kernel
theorem dX5_comes_77 : decode cX5_comes 77 = .ok (.iastore, 1) := by decide +kernel
theorem dX5_comes_78 : decode cX5_comes 78 = .ok (.iload 4, 2) := by decide +kernel
theorem dX5_comes_80 : decode cX5_comes 80 = .ok (.ireturn, 1) := by decide +kernel
set_option maxRecDepth 20000 in
theorem ggX5_saying_X5_isKind : GoodIn wsX5_saying wsX5_isKind := goodIn_r _ [7, 8, 9, 6, 10] (by decide +kernel) (by decide +kernel)
set_option maxRecDepth 20000 in
theorem gX5_saying_X5_isKind : GoodIn wsX5_saying (va_wsS RX5 88 yX5_isKind wsX5_isKind) := goodIn_app (goodIn_of _ (by decide +kernel)) ggX5_saying_X5_isKind
set_option maxRecDepth 20000 in
theorem ggX5_saying_X5_isMany : GoodIn wsX5_saying wsX5_isMany := goodIn_r _ [13, 8, 9, 6, 10] (by decide +kernel) (by decide +kernel)
set_option maxRecDepth 20000 in
theorem gX5_saying_X5_isMany : GoodIn wsX5_saying (va_wsS RX5 91 yX5_isMany wsX5_isMany) := goodIn_app (goodIn_of _ (by decide +kernel)) ggX5_saying_X5_isMany
set_option maxRecDepth 20000 in
theorem ggX5_saying_X5_isCell : GoodIn wsX5_saying wsX5_isCell := goodIn_r _ [16, 8, 9, 6, 10] (by decide +kernel) (by decide +kernel)
set_option maxRecDepth 20000 in
theorem gX5_saying_X5_isCell : GoodIn wsX5_saying (va_wsS RX5 94 yX5_isCell wsX5_isCell) := goodIn_app (goodIn_of _ (by decide +kernel)) ggX5_saying_X5_isCell
set_option maxRecDepth 20000 in
theorem ggX5_saying_X5_finding : GoodIn wsX5_saying wsX5_finding := goodIn_r _ [20, 21, 1, 29, 30, 31, 32, 33, 34, 35, 36, 37, 38, 39, 40, 41, 42, 43, 44, 45, 46, 47, 48, 49] (by decide +kernel) (by decide +kernel)
set_option maxRecDepth 20000 in
theorem gX5_saying_X5_finding : GoodIn wsX5_saying (wsV RX5 66 RX5 yX5_finding wsX5_finding) := goodIn_app (goodIn_of _ (by decide +kernel)) ggX5_saying_X5_finding
set_option maxRecDepth 20000 in
theorem ggX5_saying_X5_comes : GoodIn wsX5_saying wsX5_comes := goodIn_r _ [25, 2, 26, 27, 6, 28, 29, 30, 31, 32, 33, 34, 35, 36, 37, 38, 39, 40, 41, 42, 43, 44, 45, 46, 47, 48, 49] (by decide +kernel) (by decide +kernel)
set_option maxRecDepth 20000 in
theorem gX5_saying_X5_comes : GoodIn wsX5_saying (wsV RX5 98 RX5 yX5_comes wsX5_comes) := goodIn_app (goodIn_of _ (by decide +kernel)) ggX5_saying_X5_comes
theorem dX5_saying_0 : decode cX5_saying 0 = .ok (.iload_n 1, 1) := by decide +kernel
theorem dX5_saying_1 : decode cX5_saying 1 = .ok (.invokestatic 88, 3) := by decide +kernel
theorem dX5_saying_4 : decode cX5_saying 4 = .ok (.ifCond .eq 17, 3) := by decide +kernel
theorem dX5_saying_7 : decode cX5_saying 7 = .ok (.iload_n 2, 1) := by decide +kernel
theorem dX5_saying_8 : decode cX5_saying 8 = .ok (.invokestatic 91, 3) := by decide +kernel
theorem dX5_saying_11 : decode cX5_saying 11 = .ok (.ifCond .eq 10, 3) := by decide +kernel
theorem dX5_saying_14 : decode cX5_saying 14 = .ok (.iload_n 3, 1) := by decide +kernel
theorem dX5_saying_15 : decode cX5_saying 15 = .ok (.invokestatic 94, 3) := by decide +kernel
theorem dX5_saying_18 : decode cX5_saying 18 = .ok (.ifCond .ne 10, 3) := by decide +kernel
theorem dX5_saying_21 : decode cX5_saying 21 = .ok (.aload_n 0, 1) := by decide +kernel
theorem dX5_saying_22 : decode cX5_saying 22 = .ok (.ldc 60, 2) := by decide +kernel
theorem dX5_saying_24 : decode cX5_saying 24 = .ok (.invokevirtual 66, 3) := by decide +kernel
theorem dX5_saying_27 : decode cX5_saying 27 = .ok (.ireturn, 1) := by decide +kernel
theorem dX5_saying_28 : decode cX5_saying 28 = .ok (.aload_n 0, 1) := by decide +kernel
theorem dX5_saying_29 : decode cX5_saying 29 = .ok (.getfield 9, 3) := by decide +kernel
theorem dX5_saying_32 : decode cX5_saying 32 = .ok (.iconst 1, 1) := by decide +kernel
theorem dX5_saying_33 : decode cX5_saying 33 = .ok (.iaload, 1) := by decide +kernel
theorem dX5_saying_34 : decode cX5_saying 34 = .ok (.bipush 8, 2) := by decide +kernel
theorem dX5_saying_36 : decode cX5_saying 36 = .ok (.if_icmp .ne 12, 3) := by decide +kernel
theorem dX5_saying_39 : decode cX5_saying 39 = .ok (.aload_n 0, 1) := by decide +kernel
theorem dX5_saying_40 : decode cX5_saying 40 = .ok (.ldc 97, 2) := by decide +kernel
theorem dX5_saying_42 : decode cX5_saying 42 = .ok (.invokevirtual 66, 3) := by decide +kernel
theorem dX5_saying_45 : decode cX5_saying 45 = .ok (.goto 10, 3) := by decide +kernel
theorem dX5_saying_48 : decode cX5_saying 48 = .ok (.aload_n 0, 1) := by decide +kernel
theorem dX5_saying_49 : decode cX5_saying 49 = .ok (.iload_n 1, 1) := by decide +kernel
theorem dX5_saying_50 : decode cX5_saying 50 = .ok (.iload_n 2, 1) := by decide +kernel
theorem dX5_saying_51 : decode cX5_saying 51 = .ok (.iload_n 3, 1) := by decide +kernel
theorem dX5_saying_52 : decode cX5_saying 52 = .ok (.invokevirtual 98, 3) := by decide +kernel
theorem dX5_saying_55 : decode cX5_saying 55 = .ok (.ireturn, 1) := by decide +kernel
set_option maxRecDepth 20000 in
theorem ggX5_sails_X5_shipAt : GoodIn wsX5_sails wsX5_shipAt := goodIn_r _ [5] (by decide +kernel) (by decide +kernel)
set_option maxRecDepth 20000 in
theorem gX5_sails_X5_shipAt : GoodIn wsX5_sails (va_wsS RX5 85 yX5_shipAt wsX5_shipAt) := goodIn_app (goodIn_of _ (by decide +kernel)) ggX5_sails_X5_shipAt
theorem dX5_sails_0 : decode cX5_sails 0 = .ok (.aload_n 0, 1) := by decide +kernel
theorem dX5_sails_1 : decode cX5_sails 1 = .ok (.getfield 9, 3) := by decide +kernel
theorem dX5_sails_4 : decode cX5_sails 4 = .ok (.iconst 3, 1) := by decide +kernel
theorem dX5_sails_5 : decode cX5_sails 5 = .ok (.iaload, 1) := by decide +kernel
theorem dX5_sails_6 : decode cX5_sails 6 = .ok (.istore_n 3, 1) := by decide +kernel
theorem dX5_sails_7 : decode cX5_sails 7 = .ok (.aload_n 0, 1) := by decide +kernel
theorem dX5_sails_8 : decode cX5_sails 8 = .ok (.getfield 9, 3) := by decide +kernel
theorem dX5_sails_11 : decode cX5_sails 11 = .ok (.iload_n 3, 1) := by decide +kernel
theorem dX5_sails_12 : decode cX5_sails 12 = .ok (.iconst 0, 1) := by decide +kernel
theorem dX5_sails_13 : decode cX5_sails 13 = .ok (.invokestatic 85, 3) := by decide +kernel
theorem dX5_sails_16 : decode cX5_sails 16 = .ok (.iload_n 1, 1) := by decide +kernel
theorem dX5_sails_17 : decode cX5_sails 17 = .ok (.iastore, 1) := by decide +kernel
theorem dX5_sails_18 : decode cX5_sails 18 = .ok (.aload_n 0, 1) := by decide +kernel
theorem dX5_sails_19 : decode cX5_sails 19 = .ok (.getfield 9, 3) := by decide +kernel
theorem dX5_sails_22 : decode cX5_sails 22 = .ok (.iload_n 3, 1) := by decide +kernel
theorem dX5_sails_23 : decode cX5_sails 23 = .ok (.iconst 1, 1) := by decide +kernel
theorem dX5_sails_24 : decode cX5_sails 24 = .ok (.invokestatic 85, 3) := by decide +kernel
theorem dX5_sails_27 : decode cX5_sails 27 = .ok (.bipush 30, 2) := by decide +kernel
theorem dX5_sails_29 : decode cX5_sails 29 = .ok (.iastore, 1) := by decide +kernel
theorem dX5_sails_30 : decode cX5_sails 30 = .ok (.aload_n 0, 1) := by decide +kernel
theorem dX5_sails_31 : decode cX5_sails 31 = .ok (.getfield 9, 3) := by decide +kernel
theorem dX5_sails_34 : decode cX5_sails 34 = .ok (.iload_n 3, 1) := by decide +kernel
theorem dX5_sails_35 : decode cX5_sails 35 = .ok (.iconst 2, 1) := by decide +kernel
theorem dX5_sails_36 : decode cX5_sails 36 = .ok (.invokestatic 85, 3) := by decide +kernel
theorem dX5_sails_39 : decode cX5_sails 39 = .ok (.iload_n 2, 1) := by decide +kernel
theorem dX5_sails_40 : decode cX5_sails 40 = .ok (.iastore, 1) := by decide +kernel
theorem dX5_sails_41 : decode cX5_sails 41 = .ok (.aload_n 0, 1) := by decide +kernel
theorem dX5_sails_42 : decode cX5_sails 42 = .ok (.getfield 9, 3) := by decide +kernel
theorem dX5_sails_45 : decode cX5_sails 45 = .ok (.iload_n 3, 1) := by decide +kernel
theorem dX5_sails_46 : decode cX5_sails 46 = .ok (.iconst 3, 1) := by decide +kernel
theorem dX5_sails_47 : decode cX5_sails 47 = .ok (.invokestatic 85, 3) := by decide +kernel
theorem dX5_sails_50 : decode cX5_sails 50 = .ok (.iconst 0, 1) := by decide +kernel
theorem dX5_sails_51 : decode cX5_sails 51 = .ok (.iastore, 1) := by decide +kernel
theorem dX5_sails_52 : decode cX5_sails 52 = .ok (.aload_n 0, 1) := by decide +kernel
theorem dX5_sails_53 : decode cX5_sails 53 = .ok (.getfield 9, 3) := by decide +kernel
theorem dX5_sails_56 : decode cX5_sails 56 = .ok (.iconst 3, 1) := by decide +kernel
theorem dX5_sails_57 : decode cX5_sails 57 = .ok (.dup2, 1) := by decide +kernel
theorem dX5_sails_58 : decode cX5_sails 58 = .ok (.iaload, 1) := by decide +kernel
theorem dX5_sails_59 : decode cX5_sails 59 = .ok (.iconst 1, 1) := by decide +kernel
theorem dX5_sails_60 : decode cX5_sails 60 = .ok (.iadd, 1) := by decide +kernel
theorem dX5_sails_61 : decode cX5_sails 61 = .ok (.iastore, 1) := by decide +kernel
theorem dX5_sails_62 : decode cX5_sails 62 = .ok (.iload_n 3, 1) := by decide +kernel
theorem dX5_sails_63 : decode cX5_sails 63 = .ok (.ireturn, 1) := by decide +kernel
set_option maxRecDepth 20000 in
theorem ggX5_ship_X5_isCell : GoodIn wsX5_ship wsX5_isCell := goodIn_r _ [7, 8, 9, 6, 10] (by decide +kernel) (by decide +kernel)
set_option maxRecDepth 20000 in
theorem gX5_ship_X5_isCell : GoodIn wsX5_ship (va_wsS RX5 94 yX5_isCell wsX5_isCell) := goodIn_app (goodIn_of _ (by decide +kernel)) ggX5_ship_X5_isCell
set_option maxRecDepth 20000 in
theorem ggX5_ship_X5_isFast : GoodIn wsX5_ship wsX5_isFast := goodIn_r _ [13, 8, 9, 6, 10] (by decide +kernel) (by decide +kernel)
set_option maxRecDepth 20000 in
theorem gX5_ship_X5_isFast : GoodIn wsX5_ship (va_wsS RX5 102 yX5_isFast wsX5_isFast) := goodIn_app (goodIn_of _ (by decide +kernel)) ggX5_ship_X5_isFast
set_option maxRecDepth 20000 in
theorem ggX5_ship_X5_finding : GoodIn wsX5_ship wsX5_finding := goodIn_r _ [17, 18, 1, 26, 27, 28, 29, 30, 31, 32, 33, 34, 35, 36, 37, 38, 39, 40, 41, 42, 43, 44, 45, 46] (by decide +kernel) (by decide +kernel)
set_option maxRecDepth 20000 in
theorem gX5_ship_X5_finding : GoodIn wsX5_ship (wsV RX5 66 RX5 yX5_finding wsX5_finding) := goodIn_app (goodIn_of _ (by decide +kernel)) ggX5_ship_X5_finding
set_option maxRecDepth 20000 in
theorem ggX5_ship_X5_sails : GoodIn wsX5_ship wsX5_sails := goodIn_r _ [22, 2, 23, 24, 6, 25, 26, 27, 28, 29, 30, 31, 32, 33, 34, 35, 36, 37, 38, 39, 40, 41, 42, 43, 44, 45, 46] (by decide +kernel) (by decide +kernel)
set_option maxRecDepth 20000 in
theorem gX5_ship_X5_sails : GoodIn wsX5_ship (wsV RX5 105 RX5 yX5_sails wsX5_sails) := goodIn_app (goodIn_of _ (by decide +kernel)) ggX5_ship_X5_sails
theorem dX5_ship_0 : decode cX5_ship 0 = .ok (.iload_n 1, 1) := by decide +kernel
theorem dX5_ship_1 : decode cX5_ship 1 = .ok (.invokestatic 94, 3) := by decide +kernel
theorem dX5_ship_4 : decode cX5_ship 4 = .ok (.ifCond .eq 10, 3) := by decide +kernel
theorem dX5_ship_7 : decode cX5_ship 7 = .ok (.iload_n 2, 1) := by decide +kernel
theorem dX5_ship_8 : decode cX5_ship 8 = .ok (.invokestatic 102, 3) := by decide +kernel
theorem dX5_ship_11 : decode cX5_ship 11 = .ok (.ifCond .ne 10, 3) := by decide +kernel
theorem dX5_ship_14 : decode cX5_ship 14 = .ok (.aload_n 0, 1) := by decide +kernel
theorem dX5_ship_15 : decode cX5_ship 15 = .ok (.ldc 60, 2) := by decide +kernel
theorem dX5_ship_17 : decode cX5_ship 17 = .ok (.invokevirtual 66, 3) := by decide +kernel
theorem dX5_ship_20 : decode cX5_ship 20 = .ok (.ireturn, 1) := by decide +kernel
theorem dX5_ship_21 : decode cX5_ship 21 = .ok (.aload_n 0, 1) := by decide +kernel
theorem dX5_ship_22 : decode cX5_ship 22 = .ok (.getfield 9, 3) := by decide +kernel
theorem dX5_ship_25 : decode cX5_ship 25 = .ok (.iconst 3, 1) := by decide +kernel
theorem dX5_ship_26 : decode cX5_ship 26 = .ok (.iaload, 1) := by decide +kernel
theorem dX5_ship_27 : decode cX5_ship 27 = .ok (.bipush 6, 2) := by decide +kernel
theorem dX5_ship_29 : decode cX5_ship 29 = .ok (.if_icmp .ne 12, 3) := by decide +kernel
theorem dX5_ship_32 : decode cX5_ship 32 = .ok (.aload_n 0, 1) := by decide +kernel
theorem dX5_ship_33 : decode cX5_ship 33 = .ok (.ldc 97, 2) := by decide +kernel
theorem dX5_ship_35 : decode cX5_ship 35 = .ok (.invokevirtual 66, 3) := by decide +kernel
theorem dX5_ship_38 : decode cX5_ship 38 = .ok (.goto 9, 3) := by decide +kernel
theorem dX5_ship_41 : decode cX5_ship 41 = .ok (.aload_n 0, 1) := by decide +kernel
theorem dX5_ship_42 : decode cX5_ship 42 = .ok (.iload_n 1, 1) := by decide +kernel
theorem dX5_ship_43 : decode cX5_ship 43 = .ok (.iload_n 2, 1) := by decide +kernel
theorem dX5_ship_44 : decode cX5_ship 44 = .ok (.invokevirtual 105, 3) := by decide +kernel
theorem dX5_ship_47 : decode cX5_ship 47 = .ok (.ireturn, 1) := by decide +kernel
set_option maxRecDepth 20000 in
theorem ggX5_thickens_X5_sayingIs : GoodIn wsX5_thickens wsX5_sayingIs := goodIn_r _ [5, 6, 7, 8, 4, 9, 10, 11, 12, 13, 14, 15, 16, 17, 18, 19, 20, 21, 22, 23, 24, 25, 26, 27, 28, 29, 30] (by decide +kernel) (by decide +kernel)
set_option maxRecDepth 20000 in
theorem gX5_thickens_X5_sayingIs : GoodIn wsX5_thickens (wsV RX5 108 RX5 yX5_sayingIs wsX5_sayingIs) := goodIn_app (goodIn_of _ (by decide +kernel)) ggX5_thickens_X5_sayingIs
theorem dX5_thickens_0 : decode cX5_thickens 0 = .ok (.aload_n 0, 1) := by decide +kernel
theorem dX5_thickens_1 : decode cX5_thickens 1 = .ok (.iload_n 1, 1) := by decide +kernel
theorem dX5_thickens_2 : decode cX5_thickens 2 = .ok (.iconst 2, 1) := by decide +kernel
theorem dX5_thickens_3 : decode cX5_thickens 3 = .ok (.invokevirtual 108, 3) := by decide +kernel
theorem dX5_thickens_6 : decode cX5_thickens 6 = .ok (.istore_n 2, 1) := by decide +kernel
theorem dX5_thickens_7 : decode cX5_thickens 7 = .ok (.iload_n 2, 1) := by decide +kernel
theorem dX5_thickens_8 : decode cX5_thickens 8 = .ok (.aload_n 0, 1) := by decide +kernel
theorem dX5_thickens_9 : decode cX5_thickens 9 = .ok (.iload_n 1, 1) := by decide +kernel
theorem dX5_thickens_10 : decode cX5_thickens 10 = .ok (.iconst 4, 1) := by decide +kernel
theorem dX5_thickens_11 : decode cX5_thickens 11 = .ok (.invokevirtual 108, 3) := by decide +kernel
theorem dX5_thickens_14 : decode cX5_thickens 14 = .ok (.bipush 10, 2) := by decide +kernel
theorem dX5_thickens_16 : decode cX5_thickens 16 = .ok (.idiv, 1) := by decide +kernel
theorem dX5_thickens_17 : decode cX5_thickens 17 = .ok (.iadd, 1) := by decide +kernel
theorem dX5_thickens_18 : decode cX5_thickens 18 = .ok (.istore_n 3, 1) := by decide +kernel
theorem dX5_thickens_19 : decode cX5_thickens 19 = .ok (.aload_n 0, 1) := by decide +kernel
theorem dX5_thickens_20 : decode cX5_thickens 20 = .ok (.iload_n 1, 1) := by decide +kernel
theorem dX5_thickens_21 : decode cX5_thickens 21 = .ok (.iconst 0, 1) := by decide +kernel
theorem dX5_thickens_22 : decode cX5_thickens 22 = .ok (.invokevirtual 108, 3) := by decide +kernel
theorem dX5_thickens_25 : decode cX5_thickens 25 = .ok (.tableswitch 66 1 6 #[39, 52, 41, 45, 63, 56], 39) := by decide +kernel
theorem dX5_thickens_64 : decode cX5_thickens 64 = .ok (.iload_n 3, 1) := by decide +kernel
theorem dX5_thickens_65 : decode cX5_thickens 65 = .ok (.ireturn, 1) := by decide +kernel
theorem dX5_thickens_66 : decode cX5_thickens 66 = .ok (.iconst 2, 1) := by decide +kernel
theorem dX5_thickens_67 : decode cX5_thickens 67 = .ok (.iload_n 3, 1) := by decide +kernel
theorem dX5_thickens_68 : decode cX5_thickens 68 = .ok (.imul, 1) := by decide +kernel
theorem dX5_thickens_69 : decode cX5_thickens 69 = .ok (.ireturn, 1) := by decide +kernel
theorem dX5_thickens_70 : decode cX5_thickens 70 = .ok (.iconst 2, 1) := by decide +kernel
theorem dX5_thickens_71 : decode cX5_thickens 71 = .ok (.iload_n 3, 1) := by decide +kernel
theorem dX5_thickens_72 : decode cX5_thickens 72 = .ok (.imul, 1) := by decide +kernel
theorem dX5_thickens_73 : decode cX5_thickens 73 = .ok (.bipush 40, 2) := by decide +kernel
theorem dX5_thickens_75 : decode cX5_thickens 75 = .ok (.iadd, 1) := by decide +kernel
theorem dX5_thickens_76 : decode cX5_thickens 76 = .ok (.ireturn, 1) := by decide +kernel
theorem dX5_thickens_77 : decode cX5_thickens 77 = .ok (.iload_n 2, 1) := by decide +kernel
theorem dX5_thickens_78 : decode cX5_thickens 78 = .ok (.iconst 2, 1) := by decide +kernel
theorem dX5_thickens_79 : decode cX5_thickens 79 = .ok (.idiv, 1) := by decide +kernel
theorem dX5_thickens_80 : decode cX5_thickens 80 = .ok (.ireturn, 1) := by decide +kernel
theorem dX5_thickens_81 : decode cX5_thickens 81 = .ok (.iload_n 2, 1) := by decide +kernel
theorem dX5_thickens_82 : decode cX5_thickens 82 = .ok (.iconst 2, 1) := by decide +kernel
theorem dX5_thickens_83 : decode cX5_thickens 83 = .ok (.idiv, 1) := by decide +kernel
theorem dX5_thickens_84 : decode cX5_thickens 84 = .ok (.bipush 15, 2) := by decide +kernel
theorem dX5_thickens_86 : decode cX5_thickens 86 = .ok (.iadd, 1) := by decide +kernel
theorem dX5_thickens_87 : decode cX5_thickens 87 = .ok (.ireturn, 1) := by decide +kernel
theorem dX5_thickens_88 : decode cX5_thickens 88 = .ok (.bipush (-30), 2) := by decide +kernel
theorem dX5_thickens_90 : decode cX5_thickens 90 = .ok (.ireturn, 1) := by decide +kernel
theorem dX5_thickens_91 : decode cX5_thickens 91 = .ok (.iload_n 2, 1) := by decide +kernel
theorem dX5_thickens_92 : decode cX5_thickens 92 = .ok (.ireturn, 1) := by decide +kernel
set_option maxRecDepth 20000 in
theorem ggX5_reaches_X5_sayingIs : GoodIn wsX5_reaches wsX5_sayingIs := goodIn_r _ [5, 6, 7, 8, 4, 9, 10, 11, 12, 13, 14, 15, 16, 17, 18, 19, 20, 21, 22, 23, 24, 25, 26, 27, 28, 29, 30] (by decide +kernel) (by decide +kernel)
set_option maxRecDepth 20000 in
theorem gX5_reaches_X5_sayingIs : GoodIn wsX5_reaches (wsV RX5 108 RX5 yX5_sayingIs wsX5_sayingIs) := goodIn_app (goodIn_of _ (by decide +kernel)) ggX5_reaches_X5_sayingIs
theorem dX5_reaches_0 : decode cX5_reaches 0 = .ok (.aload_n 0, 1) := by decide +kernel
theorem dX5_reaches_1 : decode cX5_reaches 1 = .ok (.iload_n 1, 1) := by decide +kernel
theorem dX5_reaches_2 : decode cX5_reaches 2 = .ok (.iconst 0, 1) := by decide +kernel
theorem dX5_reaches_3 : decode cX5_reaches 3 = .ok (.invokevirtual 108, 3) := by decide +kernel
theorem dX5_reaches_6 : decode cX5_reaches 6 = .ok (.tableswitch 42 2 6 #[38, 34, 36, 40, 40], 34) := by decide +kernel
theorem dX5_reaches_40 : decode cX5_reaches 40 = .ok (.iconst 1, 1) := by decide +kernel
theorem dX5_reaches_41 : decode cX5_reaches 41 = .ok (.ireturn, 1) := by decide +kernel
theorem dX5_reaches_42 : decode cX5_reaches 42 = .ok (.iconst 5, 1) := by decide +kernel
theorem dX5_reaches_43 : decode cX5_reaches 43 = .ok (.ireturn, 1) := by decide +kernel
theorem dX5_reaches_44 : decode cX5_reaches 44 = .ok (.iconst 4, 1) := by decide +kernel
theorem dX5_reaches_45 : decode cX5_reaches 45 = .ok (.ireturn, 1) := by decide +kernel
theorem dX5_reaches_46 : decode cX5_reaches 46 = .ok (.iconst 3, 1) := by decide +kernel
theorem dX5_reaches_47 : decode cX5_reaches 47 = .ok (.ireturn, 1) := by decide +kernel
theorem dX5_reaches_48 : decode cX5_reaches 48 = .ok (.iconst 2, 1) := by decide +kernel
theorem dX5_reaches_49 : decode cX5_reaches 49 = .ok (.ireturn, 1) := by decide +kernel
set_option maxRecDepth 20000 in
theorem ggX5_blurs_X5_sayingIs : GoodIn wsX5_blurs wsX5_sayingIs := goodIn_r _ [6, 1, 7, 8, 5, 9, 10, 11, 12, 13, 14, 15, 16, 17, 18, 19, 20, 21, 22, 23, 24, 25, 26, 27, 28, 29, 30] (by decide +kernel) (by decide +kernel)
set_option maxRecDepth 20000 in
theorem gX5_blurs_X5_sayingIs : GoodIn wsX5_blurs (wsV RX5 108 RX5 yX5_sayingIs wsX5_sayingIs) := goodIn_app (goodIn_of _ (by decide +kernel)) ggX5_blurs_X5_sayingIs
theorem dX5_blurs_0 : decode cX5_blurs 0 = .ok (.aload_n 0, 1) := by decide +kernel
theorem dX5_blurs_1 : decode cX5_blurs 1 = .ok (.getfield 9, 3) := by decide +kernel
theorem dX5_blurs_4 : decode cX5_blurs 4 = .ok (.iconst 0, 1) := by decide +kernel
theorem dX5_blurs_5 : decode cX5_blurs 5 = .ok (.iaload, 1) := by decide +kernel
theorem dX5_blurs_6 : decode cX5_blurs 6 = .ok (.bipush 7, 2) := by decide +kernel
theorem dX5_blurs_8 : decode cX5_blurs 8 = .ok (.irem, 1) := by decide +kernel
theorem dX5_blurs_9 : decode cX5_blurs 9 = .ok (.bipush 6, 2) := by decide +kernel
theorem dX5_blurs_11 : decode cX5_blurs 11 = .ok (.if_icmp .ne 8, 3) := by decide +kernel
theorem dX5_blurs_14 : decode cX5_blurs 14 = .ok (.bipush 7, 2) := by decide +kernel
theorem dX5_blurs_16 : decode cX5_blurs 16 = .ok (.goto 4, 3) := by decide +kernel
theorem dX5_blurs_19 : decode cX5_blurs 19 = .ok (.iconst (-1), 1) := by decide +kernel
theorem dX5_blurs_20 : decode cX5_blurs 20 = .ok (.istore_n 2, 1) := by decide +kernel
theorem dX5_blurs_21 : decode cX5_blurs 21 = .ok (.aload_n 0, 1) := by decide +kernel
theorem dX5_blurs_22 : decode cX5_blurs 22 = .ok (.iload_n 1, 1) := by decide +kernel
theorem dX5_blurs_23 : decode cX5_blurs 23 = .ok (.iconst 0, 1) := by decide +kernel
theorem dX5_blurs_24 : decode cX5_blurs 24 = .ok (.invokevirtual 108, 3) := by decide +kernel
theorem dX5_blurs_27 : decode cX5_blurs 27 = .ok (.tableswitch 65 1 6 #[37, 57, 37, 39, 63, 59], 37) := by decide +kernel
theorem dX5_blurs_64 : decode cX5_blurs 64 = .ok (.iconst 2, 1) := by decide +kernel
theorem dX5_blurs_65 : decode cX5_blurs 65 = .ok (.ireturn, 1) := by decide +kernel
theorem dX5_blurs_66 : decode cX5_blurs 66 = .ok (.aload_n 0, 1) := by decide +kernel

