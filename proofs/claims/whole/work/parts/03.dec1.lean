set_option maxRecDepth 20000 in
theorem ggX0_init_J7_fill_53178 : GoodIn wsX0_init wsJ7_fill_53178 := goodIn_r _ [16] (by decide +kernel) (by decide +kernel)
set_option maxRecDepth 20000 in
theorem gX0_init_J7_fill_53178 : GoodIn wsX0_init (va_wsS RX0 37 yJ7_fill_53178 wsJ7_fill_53178) := goodIn_app (goodIn_of _ (by decide +kernel)) ggX0_init_J7_fill_53178
theorem dX0_init_0 : decode cX0_init 0 = .ok (.aload_n 0, 1) := by decide +kernel
theorem dX0_init_1 : decode cX0_init 1 = .ok (.invokespecial 3, 3) := by decide +kernel
theorem dX0_init_4 : decode cX0_init 4 = .ok (.aload_n 0, 1) := by decide +kernel
theorem dX0_init_5 : decode cX0_init 5 = .ok (.bipush 6, 2) := by decide +kernel
theorem dX0_init_7 : decode cX0_init 7 = .ok (.newarray .int, 2) := by decide +kernel
theorem dX0_init_9 : decode cX0_init 9 = .ok (.putfield 9, 3) := by decide +kernel
theorem dX0_init_12 : decode cX0_init 12 = .ok (.aload_n 0, 1) := by decide +kernel
theorem dX0_init_13 : decode cX0_init 13 = .ok (.bipush 10, 2) := by decide +kernel
theorem dX0_init_15 : decode cX0_init 15 = .ok (.newarray .int, 2) := by decide +kernel
theorem dX0_init_17 : decode cX0_init 17 = .ok (.putfield 15, 3) := by decide +kernel
theorem dX0_init_20 : decode cX0_init 20 = .ok (.aload_n 0, 1) := by decide +kernel
theorem dX0_init_21 : decode cX0_init 21 = .ok (.bipush 40, 2) := by decide +kernel
theorem dX0_init_23 : decode cX0_init 23 = .ok (.newarray .int, 2) := by decide +kernel
theorem dX0_init_25 : decode cX0_init 25 = .ok (.putfield 18, 3) := by decide +kernel
theorem dX0_init_28 : decode cX0_init 28 = .ok (.aload_n 0, 1) := by decide +kernel
theorem dX0_init_29 : decode cX0_init 29 = .ok (.bipush 24, 2) := by decide +kernel
theorem dX0_init_31 : decode cX0_init 31 = .ok (.newarray .int, 2) := by decide +kernel
theorem dX0_init_33 : decode cX0_init 33 = .ok (.putfield 21, 3) := by decide +kernel
theorem dX0_init_36 : decode cX0_init 36 = .ok (.aload_n 0, 1) := by decide +kernel
theorem dX0_init_37 : decode cX0_init 37 = .ok (.iconst 0, 1) := by decide +kernel
theorem dX0_init_38 : decode cX0_init 38 = .ok (.putfield 24, 3) := by decide +kernel
theorem dX0_init_41 : decode cX0_init 41 = .ok (.aload_n 0, 1) := by decide +kernel
theorem dX0_init_42 : decode cX0_init 42 = .ok (.iconst 0, 1) := by decide +kernel
theorem dX0_init_43 : decode cX0_init 43 = .ok (.putfield 28, 3) := by decide +kernel
theorem dX0_init_46 : decode cX0_init 46 = .ok (.aload_n 0, 1) := by decide +kernel
theorem dX0_init_47 : decode cX0_init 47 = .ok (.iconst 0, 1) := by decide +kernel
theorem dX0_init_48 : decode cX0_init 48 = .ok (.putfield 31, 3) := by decide +kernel
theorem dX0_init_51 : decode cX0_init 51 = .ok (.aload_n 0, 1) := by decide +kernel
theorem dX0_init_52 : decode cX0_init 52 = .ok (.iconst 1, 1) := by decide +kernel
theorem dX0_init_53 : decode cX0_init 53 = .ok (.putfield 34, 3) := by decide +kernel
theorem dX0_init_56 : decode cX0_init 56 = .ok (.aload_n 0, 1) := by decide +kernel
theorem dX0_init_57 : decode cX0_init 57 = .ok (.getfield 9, 3) := by decide +kernel
theorem dX0_init_60 : decode cX0_init 60 = .ok (.bipush 8, 2) := by decide +kernel
theorem dX0_init_62 : decode cX0_init 62 = .ok (.invokestatic 37, 3) := by decide +kernel
theorem dX0_init_65 : decode cX0_init 65 = .ok (.aload_n 0, 1) := by decide +kernel
theorem dX0_init_66 : decode cX0_init 66 = .ok (.getfield 15, 3) := by decide +kernel
theorem dX0_init_69 : decode cX0_init 69 = .ok (.iconst (-1), 1) := by decide +kernel
theorem dX0_init_70 : decode cX0_init 70 = .ok (.invokestatic 37, 3) := by decide +kernel
theorem dX0_init_73 : decode cX0_init 73 = .ok (.return_, 1) := by decide +kernel
theorem dX0_become_0 : decode cX0_become 0 = .ok (.aload_n 1, 1) := by decide +kernel
theorem dX0_become_1 : decode cX0_become 1 = .ok (.getfield 9, 3) := by decide +kernel
theorem dX0_become_4 : decode cX0_become 4 = .ok (.iconst 0, 1) := by decide +kernel
theorem dX0_become_5 : decode cX0_become 5 = .ok (.aload_n 0, 1) := by decide +kernel
theorem dX0_become_6 : decode cX0_become 6 = .ok (.getfield 9, 3) := by decide +kernel
theorem dX0_become_9 : decode cX0_become 9 = .ok (.iconst 0, 1) := by decide +kernel
theorem dX0_become_10 : decode cX0_become 10 = .ok (.bipush 6, 2) := by decide +kernel
theorem dX0_become_12 : decode cX0_become 12 = .ok (.invokestatic 43, 3) := by decide +kernel
theorem dX0_become_15 : decode cX0_become 15 = .ok (.aload_n 1, 1) := by decide +kernel
theorem dX0_become_16 : decode cX0_become 16 = .ok (.getfield 15, 3) := by decide +kernel
theorem dX0_become_19 : decode cX0_become 19 = .ok (.iconst 0, 1) := by decide +kernel
theorem dX0_become_20 : decode cX0_become 20 = .ok (.aload_n 0, 1) := by decide +kernel
theorem dX0_become_21 : decode cX0_become 21 = .ok (.getfield 15, 3) := by decide +kernel
theorem dX0_become_24 : decode cX0_become 24 = .ok (.iconst 0, 1) := by decide +kernel
theorem dX0_become_25 : decode cX0_become 25 = .ok (.bipush 10, 2) := by decide +kernel
theorem dX0_become_27 : decode cX0_become 27 = .ok (.invokestatic 43, 3) := by decide +kernel
theorem dX0_become_30 : decode cX0_become 30 = .ok (.aload_n 1, 1) := by decide +kernel
theorem dX0_become_31 : decode cX0_become 31 = .ok (.getfield 18, 3) := by decide +kernel
theorem dX0_become_34 : decode cX0_become 34 = .ok (.iconst 0, 1) := by decide +kernel
theorem dX0_become_35 : decode cX0_become 35 = .ok (.aload_n 0, 1) := by decide +kernel
theorem dX0_become_36 : decode cX0_become 36 = .ok (.getfield 18, 3) := by decide +kernel
theorem dX0_become_39 : decode cX0_become 39 = .ok (.iconst 0, 1) := by decide +kernel
theorem dX0_become_40 : decode cX0_become 40 = .ok (.bipush 40, 2) := by decide +kernel
theorem dX0_become_42 : decode cX0_become 42 = .ok (.invokestatic 43, 3) := by decide +kernel
theorem dX0_become_45 : decode cX0_become 45 = .ok (.aload_n 1, 1) := by decide +kernel
theorem dX0_become_46 : decode cX0_become 46 = .ok (.getfield 21, 3) := by decide +kernel
theorem dX0_become_49 : decode cX0_become 49 = .ok (.iconst 0, 1) := by decide +kernel
theorem dX0_become_50 : decode cX0_become 50 = .ok (.aload_n 0, 1) := by decide +kernel
theorem dX0_become_51 : decode cX0_become 51 = .ok (.getfield 21, 3) := by decide +kernel
theorem dX0_become_54 : decode cX0_become 54 = .ok (.iconst 0, 1) := by decide +kernel
theorem dX0_become_55 : decode cX0_become 55 = .ok (.bipush 24, 2) := by decide +kernel
theorem dX0_become_57 : decode cX0_become 57 = .ok (.invokestatic 43, 3) := by decide +kernel
theorem dX0_become_60 : decode cX0_become 60 = .ok (.aload_n 0, 1) := by decide +kernel
theorem dX0_become_61 : decode cX0_become 61 = .ok (.aload_n 1, 1) := by decide +kernel
theorem dX0_become_62 : decode cX0_become 62 = .ok (.getfield 24, 3) := by decide +kernel
theorem dX0_become_65 : decode cX0_become 65 = .ok (.putfield 24, 3) := by decide +kernel
theorem dX0_become_68 : decode cX0_become 68 = .ok (.aload_n 0, 1) := by decide +kernel
theorem dX0_become_69 : decode cX0_become 69 = .ok (.aload_n 1, 1) := by decide +kernel
theorem dX0_become_70 : decode cX0_become 70 = .ok (.getfield 28, 3) := by decide +kernel
theorem dX0_become_73 : decode cX0_become 73 = .ok (.putfield 28, 3) := by decide +kernel
theorem dX0_become_76 : decode cX0_become 76 = .ok (.aload_n 0, 1) := by decide +kernel
theorem dX0_become_77 : decode cX0_become 77 = .ok (.aload_n 1, 1) := by decide +kernel
theorem dX0_become_78 : decode cX0_become 78 = .ok (.getfield 31, 3) := by decide +kernel
theorem dX0_become_81 : decode cX0_become 81 = .ok (.putfield 31, 3) := by decide +kernel
theorem dX0_become_84 : decode cX0_become 84 = .ok (.aload_n 0, 1) := by decide +kernel
theorem dX0_become_85 : decode cX0_become 85 = .ok (.aload_n 1, 1) := by decide +kernel
theorem dX0_become_86 : decode cX0_become 86 = .ok (.getfield 34, 3) := by decide +kernel
theorem dX0_become_89 : decode cX0_become 89 = .ok (.putfield 34, 3) := by decide +kernel
theorem dX0_become_92 : decode cX0_become 92 = .ok (.return_, 1) := by decide +kernel
set_option maxRecDepth 20000 in
theorem ggX0_placeAt_X4_numberAt : GoodIn wsX0_placeAt wsX4_numberAt := goodIn_r _ [4] (by decide +kernel) (by decide +kernel)
set_option maxRecDepth 20000 in
theorem gX0_placeAt_X4_numberAt_n49 : GoodIn wsX0_placeAt (wsX4_numberAt) := ggX0_placeAt_X4_numberAt
theorem dX0_placeAt_0 : decode cX0_placeAt 0 = .ok (.aload_n 0, 1) := by decide +kernel
theorem dX0_placeAt_1 : decode cX0_placeAt 1 = .ok (.getfield 9, 3) := by decide +kernel
theorem dX0_placeAt_4 : decode cX0_placeAt 4 = .ok (.iload_n 1, 1) := by decide +kernel
theorem dX0_placeAt_5 : decode cX0_placeAt 5 = .ok (.invokestatic 49, 3) := by decide +kernel
theorem dX0_placeAt_8 : decode cX0_placeAt 8 = .ok (.ireturn, 1) := by decide +kernel
set_option maxRecDepth 20000 in
theorem ggX0_setPlace_X4_putAt : GoodIn wsX0_setPlace wsX4_putAt := goodIn_r _ [4] (by decide +kernel) (by decide +kernel)
set_option maxRecDepth 20000 in
theorem gX0_setPlace_X4_putAt_n53 : GoodIn wsX0_setPlace (wsX4_putAt) := ggX0_setPlace_X4_putAt
theorem dX0_setPlace_0 : decode cX0_setPlace 0 = .ok (.aload_n 0, 1) := by decide +kernel
theorem dX0_setPlace_1 : decode cX0_setPlace 1 = .ok (.getfield 9, 3) := by decide +kernel
theorem dX0_setPlace_4 : decode cX0_setPlace 4 = .ok (.iload_n 1, 1) := by decide +kernel
theorem dX0_setPlace_5 : decode cX0_setPlace 5 = .ok (.iload_n 2, 1) := by decide +kernel
theorem dX0_setPlace_6 : decode cX0_setPlace 6 = .ok (.invokestatic 53, 3) := by decide +kernel
theorem dX0_setPlace_9 : decode cX0_setPlace 9 = .ok (.return_, 1) := by decide +kernel
theorem dX0_placeOfDay_0 : decode cX0_placeOfDay 0 = .ok (.aload_n 0, 1) := by decide +kernel
theorem dX0_placeOfDay_1 : decode cX0_placeOfDay 1 = .ok (.getfield 31, 3) := by decide +kernel
theorem dX0_placeOfDay_4 : decode cX0_placeOfDay 4 = .ok (.bipush 6, 2) := by decide +kernel
theorem dX0_placeOfDay_6 : decode cX0_placeOfDay 6 = .ok (.irem, 1) := by decide +kernel
theorem dX0_placeOfDay_7 : decode cX0_placeOfDay 7 = .ok (.ireturn, 1) := by decide +kernel
set_option maxRecDepth 20000 in
theorem ggX0_heldIn_X4_numberAt : GoodIn wsX0_heldIn wsX4_numberAt := goodIn_r _ [4] (by decide +kernel) (by decide +kernel)
set_option maxRecDepth 20000 in
theorem gX0_heldIn_X4_numberAt_n49 : GoodIn wsX0_heldIn (wsX4_numberAt) := ggX0_heldIn_X4_numberAt
theorem dX0_heldIn_0 : decode cX0_heldIn 0 = .ok (.aload_n 0, 1) := by decide +kernel
theorem dX0_heldIn_1 : decode cX0_heldIn 1 = .ok (.getfield 15, 3) := by decide +kernel
theorem dX0_heldIn_4 : decode cX0_heldIn 4 = .ok (.iload_n 1, 1) := by decide +kernel
theorem dX0_heldIn_5 : decode cX0_heldIn 5 = .ok (.invokestatic 49, 3) := by decide +kernel
theorem dX0_heldIn_8 : decode cX0_heldIn 8 = .ok (.ireturn, 1) := by decide +kernel
set_option maxRecDepth 20000 in
theorem ggX0_setHeld_X4_putAt : GoodIn wsX0_setHeld wsX4_putAt := goodIn_r _ [4] (by decide +kernel) (by decide +kernel)
set_option maxRecDepth 20000 in
theorem gX0_setHeld_X4_putAt_n53 : GoodIn wsX0_setHeld (wsX4_putAt) := ggX0_setHeld_X4_putAt
theorem dX0_setHeld_0 : decode cX0_setHeld 0 = .ok (.aload_n 0, 1) := by decide +kernel
theorem dX0_setHeld_1 : decode cX0_setHeld 1 = .ok (.getfield 15, 3) := by decide +kernel
theorem dX0_setHeld_4 : decode cX0_setHeld 4 = .ok (.iload_n 1, 1) := by decide +kernel
theorem dX0_setHeld_5 : decode cX0_setHeld 5 = .ok (.iload_n 2, 1) := by decide +kernel
theorem dX0_setHeld_6 : decode cX0_setHeld 6 = .ok (.invokestatic 53, 3) := by decide +kernel
theorem dX0_setHeld_9 : decode cX0_setHeld 9 = .ok (.return_, 1) := by decide +kernel
theorem dX0_spotsThatHold_0 : decode cX0_spotsThatHold 0 = .ok (.iconst 0, 1) := by decide +kernel
theorem dX0_spotsThatHold_1 : decode cX0_spotsThatHold 1 = .ok (.istore_n 1, 1) := by decide +kernel
theorem dX0_spotsThatHold_2 : decode cX0_spotsThatHold 2 = .ok (.aload_n 0, 1) := by decide +kernel
theorem dX0_spotsThatHold_3 : decode cX0_spotsThatHold 3 = .ok (.getfield 15, 3) := by decide +kernel
theorem dX0_spotsThatHold_6 : decode cX0_spotsThatHold 6 = .ok (.astore_n 2, 1) := by decide +kernel
theorem dX0_spotsThatHold_7 : decode cX0_spotsThatHold 7 = .ok (.aload_n 2, 1) := by decide +kernel
theorem dX0_spotsThatHold_8 : decode cX0_spotsThatHold 8 = .ok (.arraylength, 1) := by decide +kernel
theorem dX0_spotsThatHold_9 : decode cX0_spotsThatHold 9 = .ok (.istore_n 3, 1) := by decide +kernel
theorem dX0_spotsThatHold_10 : decode cX0_spotsThatHold 10 = .ok (.iconst 0, 1) := by decide +kernel
theorem dX0_spotsThatHold_11 : decode cX0_spotsThatHold 11 = .ok (.istore 4, 2) := by decide +kernel
theorem dX0_spotsThatHold_13 : decode cX0_spotsThatHold 13 = .ok (.iload 4, 2) := by decide +kernel
theorem dX0_spotsThatHold_15 : decode cX0_spotsThatHold 15 = .ok (.iload_n 3, 1) := by decide +kernel
theorem dX0_spotsThatHold_16 : decode cX0_spotsThatHold 16 = .ok (.if_icmp .ge 24, 3) := by decide +kernel
theorem dX0_spotsThatHold_19 : decode cX0_spotsThatHold 19 = .ok (.aload_n 2, 1) := by decide +kernel
theorem dX0_spotsThatHold_20 : decode cX0_spotsThatHold 20 = .ok (.iload 4, 2) := by decide +kernel
theorem dX0_spotsThatHold_22 : decode cX0_spotsThatHold 22 = .ok (.iaload, 1) := by decide +kernel
theorem dX0_spotsThatHold_23 : decode cX0_spotsThatHold 23 = .ok (.istore 5, 2) := by decide +kernel
theorem dX0_spotsThatHold_25 : decode cX0_spotsThatHold 25 = .ok (.iload 5, 2) := by decide +kernel
theorem dX0_spotsThatHold_27 : decode cX0_spotsThatHold 27 = .ok (.iconst (-1), 1) := by decide +kernel
theorem dX0_spotsThatHold_28 : decode cX0_spotsThatHold 28 = .ok (.if_icmp .eq 6, 3) := by decide +kernel
theorem dX0_spotsThatHold_31 : decode cX0_spotsThatHold 31 = .ok (.iinc 1 1, 3) := by decide +kernel
theorem dX0_spotsThatHold_34 : decode cX0_spotsThatHold 34 = .ok (.iinc 4 1, 3) := by decide +kernel
theorem dX0_spotsThatHold_37 : decode cX0_spotsThatHold 37 = .ok (.goto (-24), 3) := by decide +kernel
theorem dX0_spotsThatHold_40 : decode cX0_spotsThatHold 40 = .ok (.iload_n 1, 1) := by decide +kernel
theorem dX0_spotsThatHold_41 : decode cX0_spotsThatHold 41 = .ok (.ireturn, 1) := by decide +kernel
set_option maxRecDepth 20000 in
theorem ggX0_hasSaying_X4_within : GoodIn wsX0_hasSaying wsX4_within := goodIn_r _ [4] (by decide +kernel) (by decide +kernel)
set_option maxRecDepth 20000 in
theorem gX0_hasSaying_X4_within_n57 : GoodIn wsX0_hasSaying (wsX4_within) := ggX0_hasSaying_X4_within
theorem dX0_hasSaying_0 : decode cX0_hasSaying 0 = .ok (.iload_n 1, 1) := by decide +kernel
theorem dX0_hasSaying_1 : decode cX0_hasSaying 1 = .ok (.iconst 0, 1) := by decide +kernel
theorem dX0_hasSaying_2 : decode cX0_hasSaying 2 = .ok (.aload_n 0, 1) := by decide +kernel
theorem dX0_hasSaying_3 : decode cX0_hasSaying 3 = .ok (.getfield 24, 3) := by decide +kernel
theorem dX0_hasSaying_6 : decode cX0_hasSaying 6 = .ok (.iconst 1, 1) := by decide +kernel
theorem dX0_hasSaying_7 : decode cX0_hasSaying 7 = .ok (.isub, 1) := by decide +kernel
theorem dX0_hasSaying_8 : decode cX0_hasSaying 8 = .ok (.invokestatic 57, 3) := by decide +kernel
theorem dX0_hasSaying_11 : decode cX0_hasSaying 11 = .ok (.ireturn, 1) := by decide +kernel
set_option maxRecDepth 20000 in
theorem ggX0_hasShip_X4_within : GoodIn wsX0_hasShip wsX4_within := goodIn_r _ [4] (by decide +kernel) (by decide +kernel)
set_option maxRecDepth 20000 in
theorem gX0_hasShip_X4_within_n57 : GoodIn wsX0_hasShip (wsX4_within) := ggX0_hasShip_X4_within
theorem dX0_hasShip_0 : decode cX0_hasShip 0 = .ok (.iload_n 1, 1) := by decide +kernel
theorem dX0_hasShip_1 : decode cX0_hasShip 1 = .ok (.iconst 0, 1) := by decide +kernel
theorem dX0_hasShip_2 : decode cX0_hasShip 2 = .ok (.aload_n 0, 1) := by decide +kernel
theorem dX0_hasShip_3 : decode cX0_hasShip 3 = .ok (.getfield 28, 3) := by decide +kernel
theorem dX0_hasShip_6 : decode cX0_hasShip 6 = .ok (.iconst 1, 1) := by decide +kernel
theorem dX0_hasShip_7 : decode cX0_hasShip 7 = .ok (.isub, 1) := by decide +kernel
theorem dX0_hasShip_8 : decode cX0_hasShip 8 = .ok (.invokestatic 57, 3) := by decide +kernel
theorem dX0_hasShip_11 : decode cX0_hasShip 11 = .ok (.ireturn, 1) := by decide +kernel
set_option maxRecDepth 20000 in
theorem ggX0_addSaying_X0_setOfSaying : GoodIn wsX0_addSaying wsX0_setOfSaying := goodIn_r _ [6, 7, 8, 9, 10, 11, 12, 13, 14, 15, 16, 17, 18] (by decide +kernel) (by decide +kernel)
set_option maxRecDepth 20000 in
theorem gX0_addSaying_X0_setOfSaying : GoodIn wsX0_addSaying (wsV RX0 61 RX0 yX0_setOfSaying wsX0_setOfSaying) := goodIn_app (goodIn_of _ (by decide +kernel)) ggX0_addSaying_X0_setOfSaying
theorem dX0_addSaying_0 : decode cX0_addSaying 0 = .ok (.aload_n 0, 1) := by decide +kernel
theorem dX0_addSaying_1 : decode cX0_addSaying 1 = .ok (.getfield 24, 3) := by decide +kernel
theorem dX0_addSaying_4 : decode cX0_addSaying 4 = .ok (.istore 4, 2) := by decide +kernel
theorem dX0_addSaying_6 : decode cX0_addSaying 6 = .ok (.aload_n 0, 1) := by decide +kernel
theorem dX0_addSaying_7 : decode cX0_addSaying 7 = .ok (.dup, 1) := by decide +kernel
theorem dX0_addSaying_8 : decode cX0_addSaying 8 = .ok (.getfield 24, 3) := by decide +kernel
theorem dX0_addSaying_11 : decode cX0_addSaying 11 = .ok (.iconst 1, 1) := by decide +kernel
theorem dX0_addSaying_12 : decode cX0_addSaying 12 = .ok (.iadd, 1) := by decide +kernel
theorem dX0_addSaying_13 : decode cX0_addSaying 13 = .ok (.putfield 24, 3) := by decide +kernel
theorem dX0_addSaying_16 : decode cX0_addSaying 16 = .ok (.aload_n 0, 1) := by decide +kernel
theorem dX0_addSaying_17 : decode cX0_addSaying 17 = .ok (.iload 4, 2) := by decide +kernel
theorem dX0_addSaying_19 : decode cX0_addSaying 19 = .ok (.iconst 0, 1) := by decide +kernel
theorem dX0_addSaying_20 : decode cX0_addSaying 20 = .ok (.iload_n 1, 1) := by decide +kernel
theorem dX0_addSaying_21 : decode cX0_addSaying 21 = .ok (.invokevirtual 61, 3) := by decide +kernel
theorem dX0_addSaying_24 : decode cX0_addSaying 24 = .ok (.aload_n 0, 1) := by decide +kernel
theorem dX0_addSaying_25 : decode cX0_addSaying 25 = .ok (.iload 4, 2) := by decide +kernel
theorem dX0_addSaying_27 : decode cX0_addSaying 27 = .ok (.iconst 1, 1) := by decide +kernel
theorem dX0_addSaying_28 : decode cX0_addSaying 28 = .ok (.iload_n 3, 1) := by decide +kernel
theorem dX0_addSaying_29 : decode cX0_addSaying 29 = .ok (.invokevirtual 61, 3) := by decide +kernel
theorem dX0_addSaying_32 : decode cX0_addSaying 32 = .ok (.aload_n 0, 1) := by decide +kernel
theorem dX0_addSaying_33 : decode cX0_addSaying 33 = .ok (.iload 4, 2) := by decide +kernel
theorem dX0_addSaying_35 : decode cX0_addSaying 35 = .ok (.iconst 2, 1) := by decide +kernel
theorem dX0_addSaying_36 : decode cX0_addSaying 36 = .ok (.iload_n 2, 1) := by decide +kernel
theorem dX0_addSaying_37 : decode cX0_addSaying 37 = .ok (.invokevirtual 61, 3) := by decide +kernel
theorem dX0_addSaying_40 : decode cX0_addSaying 40 = .ok (.aload_n 0, 1) := by decide +kernel
theorem dX0_addSaying_41 : decode cX0_addSaying 41 = .ok (.iload 4, 2) := by decide +kernel
theorem dX0_addSaying_43 : decode cX0_addSaying 43 = .ok (.iconst 3, 1) := by decide +kernel
theorem dX0_addSaying_44 : decode cX0_addSaying 44 = .ok (.iconst 0, 1) := by decide +kernel
theorem dX0_addSaying_45 : decode cX0_addSaying 45 = .ok (.invokevirtual 61, 3) := by decide +kernel
theorem dX0_addSaying_48 : decode cX0_addSaying 48 = .ok (.aload_n 0, 1) := by decide +kernel
theorem dX0_addSaying_49 : decode cX0_addSaying 49 = .ok (.iload 4, 2) := by decide +kernel
theorem dX0_addSaying_51 : decode cX0_addSaying 51 = .ok (.iconst 4, 1) := by decide +kernel
theorem dX0_addSaying_52 : decode cX0_addSaying 52 = .ok (.iconst 0, 1) := by decide +kernel
theorem dX0_addSaying_53 : decode cX0_addSaying 53 = .ok (.invokevirtual 61, 3) := by decide +kernel
theorem dX0_addSaying_56 : decode cX0_addSaying 56 = .ok (.iload 4, 2) := by decide +kernel
theorem dX0_addSaying_58 : decode cX0_addSaying 58 = .ok (.ireturn, 1) := by decide +kernel
set_option maxRecDepth 20000 in
theorem ggX0_addShip_X0_setOfShip : GoodIn wsX0_addShip wsX0_setOfShip := goodIn_r _ [6, 7, 8, 9, 10, 11, 12, 13, 14, 15, 16, 17, 18] (by decide +kernel) (by decide +kernel)
set_option maxRecDepth 20000 in
theorem gX0_addShip_X0_setOfShip : GoodIn wsX0_addShip (wsV RX0 65 RX0 yX0_setOfShip wsX0_setOfShip) := goodIn_app (goodIn_of _ (by decide +kernel)) ggX0_addShip_X0_setOfShip
theorem dX0_addShip_0 : decode cX0_addShip 0 = .ok (.aload_n 0, 1) := by decide +kernel
theorem dX0_addShip_1 : decode cX0_addShip 1 = .ok (.getfield 28, 3) := by decide +kernel
theorem dX0_addShip_4 : decode cX0_addShip 4 = .ok (.istore 4, 2) := by decide +kernel
theorem dX0_addShip_6 : decode cX0_addShip 6 = .ok (.aload_n 0, 1) := by decide +kernel
theorem dX0_addShip_7 : decode cX0_addShip 7 = .ok (.dup, 1) := by decide +kernel
theorem dX0_addShip_8 : decode cX0_addShip 8 = .ok (.getfield 28, 3) := by decide +kernel
theorem dX0_addShip_11 : decode cX0_addShip 11 = .ok (.iconst 1, 1) := by decide +kernel
theorem dX0_addShip_12 : decode cX0_addShip 12 = .ok (.iadd, 1) := by decide +kernel
theorem dX0_addShip_13 : decode cX0_addShip 13 = .ok (.putfield 28, 3) := by decide +kernel
theorem dX0_addShip_16 : decode cX0_addShip 16 = .ok (.aload_n 0, 1) := by decide +kernel
theorem dX0_addShip_17 : decode cX0_addShip 17 = .ok (.iload 4, 2) := by decide +kernel
theorem dX0_addShip_19 : decode cX0_addShip 19 = .ok (.iconst 0, 1) := by decide +kernel
theorem dX0_addShip_20 : decode cX0_addShip 20 = .ok (.iload_n 1, 1) := by decide +kernel
theorem dX0_addShip_21 : decode cX0_addShip 21 = .ok (.invokevirtual 65, 3) := by decide +kernel
theorem dX0_addShip_24 : decode cX0_addShip 24 = .ok (.aload_n 0, 1) := by decide +kernel
theorem dX0_addShip_25 : decode cX0_addShip 25 = .ok (.iload 4, 2) := by decide +kernel
theorem dX0_addShip_27 : decode cX0_addShip 27 = .ok (.iconst 1, 1) := by decide +kernel
theorem dX0_addShip_28 : decode cX0_addShip 28 = .ok (.iload_n 2, 1) := by decide +kernel
theorem dX0_addShip_29 : decode cX0_addShip 29 = .ok (.invokevirtual 65, 3) := by decide +kernel
theorem dX0_addShip_32 : decode cX0_addShip 32 = .ok (.aload_n 0, 1) := by decide +kernel
theorem dX0_addShip_33 : decode cX0_addShip 33 = .ok (.iload 4, 2) := by decide +kernel
theorem dX0_addShip_35 : decode cX0_addShip 35 = .ok (.iconst 2, 1) := by decide +kernel
theorem dX0_addShip_36 : decode cX0_addShip 36 = .ok (.iload_n 3, 1) := by decide +kernel
theorem dX0_addShip_37 : decode cX0_addShip 37 = .ok (.invokevirtual 65, 3) := by decide +kernel
theorem dX0_addShip_40 : decode cX0_addShip 40 = .ok (.aload_n 0, 1) := by decide +kernel
theorem dX0_addShip_41 : decode cX0_addShip 41 = .ok (.iload 4, 2) := by decide +kernel
theorem dX0_addShip_43 : decode cX0_addShip 43 = .ok (.iconst 3, 1) := by decide +kernel
theorem dX0_addShip_44 : decode cX0_addShip 44 = .ok (.iconst 0, 1) := by decide +kernel
theorem dX0_addShip_45 : decode cX0_addShip 45 = .ok (.invokevirtual 65, 3) := by decide +kernel
theorem dX0_addShip_48 : decode cX0_addShip 48 = .ok (.iload 4, 2) := by decide +kernel
theorem dX0_addShip_50 : decode cX0_addShip 50 = .ok (.ireturn, 1) := by decide +kernel
theorem dX0_sayingHas_0 : decode cX0_sayingHas 0 = .ok (.iload_n 1, 1) := by decide +kernel
theorem dX0_sayingHas_1 : decode cX0_sayingHas 1 = .ok (.iconst 5, 1) := by decide +kernel
theorem dX0_sayingHas_2 : decode cX0_sayingHas 2 = .ok (.imul, 1) := by decide +kernel
theorem dX0_sayingHas_3 : decode cX0_sayingHas 3 = .ok (.iload_n 2, 1) := by decide +kernel
theorem dX0_sayingHas_4 : decode cX0_sayingHas 4 = .ok (.iadd, 1) := by decide +kernel
theorem dX0_sayingHas_5 : decode cX0_sayingHas 5 = .ok (.istore_n 3, 1) := by decide +kernel
theorem dX0_sayingHas_6 : decode cX0_sayingHas 6 = .ok (.iload_n 3, 1) := by decide +kernel
theorem dX0_sayingHas_7 : decode cX0_sayingHas 7 = .ok (.ifCond .lt 21, 3) := by decide +kernel
theorem dX0_sayingHas_10 : decode cX0_sayingHas 10 = .ok (.iload_n 3, 1) := by decide +kernel
theorem dX0_sayingHas_11 : decode cX0_sayingHas 11 = .ok (.aload_n 0, 1) := by decide +kernel
theorem dX0_sayingHas_12 : decode cX0_sayingHas 12 = .ok (.getfield 18, 3) := by decide +kernel
theorem dX0_sayingHas_15 : decode cX0_sayingHas 15 = .ok (.arraylength, 1) := by decide +kernel
theorem dX0_sayingHas_16 : decode cX0_sayingHas 16 = .ok (.if_icmp .ge 12, 3) := by decide +kernel
theorem dX0_sayingHas_19 : decode cX0_sayingHas 19 = .ok (.aload_n 0, 1) := by decide +kernel
theorem dX0_sayingHas_20 : decode cX0_sayingHas 20 = .ok (.getfield 18, 3) := by decide +kernel
theorem dX0_sayingHas_23 : decode cX0_sayingHas 23 = .ok (.iload_n 3, 1) := by decide +kernel
theorem dX0_sayingHas_24 : decode cX0_sayingHas 24 = .ok (.iaload, 1) := by decide +kernel
theorem dX0_sayingHas_25 : decode cX0_sayingHas 25 = .ok (.goto 4, 3) := by decide +kernel
theorem dX0_sayingHas_28 : decode cX0_sayingHas 28 = .ok (.iconst 0, 1) := by decide +kernel
theorem dX0_sayingHas_29 : decode cX0_sayingHas 29 = .ok (.ireturn, 1) := by decide +kernel
set_option maxRecDepth 20000 in
theorem ggX0_setOfSaying_X4_putAt : GoodIn wsX0_setOfSaying wsX4_putAt := goodIn_r _ [4] (by decide +kernel) (by decide +kernel)
set_option maxRecDepth 20000 in
theorem gX0_setOfSaying_X4_putAt_n53 : GoodIn wsX0_setOfSaying (wsX4_putAt) := ggX0_setOfSaying_X4_putAt
theorem dX0_setOfSaying_0 : decode cX0_setOfSaying 0 = .ok (.aload_n 0, 1) := by decide +kernel
theorem dX0_setOfSaying_1 : decode cX0_setOfSaying 1 = .ok (.getfield 18, 3) := by decide +kernel
theorem dX0_setOfSaying_4 : decode cX0_setOfSaying 4 = .ok (.iload_n 1, 1) := by decide +kernel
theorem dX0_setOfSaying_5 : decode cX0_setOfSaying 5 = .ok (.iconst 5, 1) := by decide +kernel
theorem dX0_setOfSaying_6 : decode cX0_setOfSaying 6 = .ok (.imul, 1) := by decide +kernel
theorem dX0_setOfSaying_7 : decode cX0_setOfSaying 7 = .ok (.iload_n 2, 1) := by decide +kernel
theorem dX0_setOfSaying_8 : decode cX0_setOfSaying 8 = .ok (.iadd, 1) := by decide +kernel
theorem dX0_setOfSaying_9 : decode cX0_setOfSaying 9 = .ok (.iload_n 3, 1) := by decide +kernel
theorem dX0_setOfSaying_10 : decode cX0_setOfSaying 10 = .ok (.invokestatic 53, 3) := by decide +kernel
theorem dX0_setOfSaying_13 : decode cX0_setOfSaying 13 = .ok (.return_, 1) := by decide +kernel
set_option maxRecDepth 20000 in
theorem ggX0_shipHas_X4_numberAt : GoodIn wsX0_shipHas wsX4_numberAt := goodIn_r _ [4] (by decide +kernel) (by decide +kernel)
set_option maxRecDepth 20000 in
theorem gX0_shipHas_X4_numberAt_n49 : GoodIn wsX0_shipHas (wsX4_numberAt) := ggX0_shipHas_X4_numberAt
theorem dX0_shipHas_0 : decode cX0_shipHas 0 = .ok (.aload_n 0, 1) := by decide +kernel
theorem dX0_shipHas_1 : decode cX0_shipHas 1 = .ok (.getfield 21, 3) := by decide +kernel
theorem dX0_shipHas_4 : decode cX0_shipHas 4 = .ok (.iload_n 1, 1) := by decide +kernel
theorem dX0_shipHas_5 : decode cX0_shipHas 5 = .ok (.iconst 4, 1) := by decide +kernel
theorem dX0_shipHas_6 : decode cX0_shipHas 6 = .ok (.imul, 1) := by decide +kernel
theorem dX0_shipHas_7 : decode cX0_shipHas 7 = .ok (.iload_n 2, 1) := by decide +kernel
theorem dX0_shipHas_8 : decode cX0_shipHas 8 = .ok (.iadd, 1) := by decide +kernel
theorem dX0_shipHas_9 : decode cX0_shipHas 9 = .ok (.invokestatic 49, 3) := by decide +kernel
theorem dX0_shipHas_12 : decode cX0_shipHas 12 = .ok (.ireturn, 1) := by decide +kernel
set_option maxRecDepth 20000 in
theorem ggX0_setOfShip_X4_putAt : GoodIn wsX0_setOfShip wsX4_putAt := goodIn_r _ [4] (by decide +kernel) (by decide +kernel)
set_option maxRecDepth 20000 in
theorem gX0_setOfShip_X4_putAt_n53 : GoodIn wsX0_setOfShip (wsX4_putAt) := ggX0_setOfShip_X4_putAt
theorem dX0_setOfShip_0 : decode cX0_setOfShip 0 = .ok (.aload_n 0, 1) := by decide +kernel
theorem dX0_setOfShip_1 : decode cX0_setOfShip 1 = .ok (.getfield 21, 3) := by decide +kernel
theorem dX0_setOfShip_4 : decode cX0_setOfShip 4 = .ok (.iload_n 1, 1) := by decide +kernel
theorem dX0_setOfShip_5 : decode cX0_setOfShip 5 = .ok (.iconst 4, 1) := by decide +kernel
theorem dX0_setOfShip_6 : decode cX0_setOfShip 6 = .ok (.imul, 1) := by decide +kernel
theorem dX0_setOfShip_7 : decode cX0_setOfShip 7 = .ok (.iload_n 2, 1) := by decide +kernel
theorem dX0_setOfShip_8 : decode cX0_setOfShip 8 = .ok (.iadd, 1) := by decide +kernel
theorem dX0_setOfShip_9 : decode cX0_setOfShip 9 = .ok (.iload_n 3, 1) := by decide +kernel
theorem dX0_setOfShip_10 : decode cX0_setOfShip 10 = .ok (.invokestatic 53, 3) := by decide +kernel
theorem dX0_setOfShip_13 : decode cX0_setOfShip 13 = .ok (.return_, 1) := by decide +kernel
set_option maxRecDepth 20000 in
theorem ggX0_tellOfSaying_X0_sayingHas : GoodIn wsX0_tellOfSaying wsX0_sayingHas := goodIn_r _ [6, 7, 21, 22, 23, 24, 25, 26, 27, 28] (by decide +kernel) (by decide +kernel)
set_option maxRecDepth 20000 in
theorem gX0_tellOfSaying_X0_sayingHas : GoodIn wsX0_tellOfSaying (wsV RX0 68 RX0 yX0_sayingHas wsX0_sayingHas) := goodIn_app (goodIn_of _ (by decide +kernel)) ggX0_tellOfSaying_X0_sayingHas
set_option maxRecDepth 20000 in
theorem ggX0_tellOfSaying_X1_thickens : GoodIn wsX0_tellOfSaying wsX1_thickens := goodIn_r _ [11] (by decide +kernel) (by decide +kernel)
set_option maxRecDepth 20000 in
theorem gX0_tellOfSaying_X1_thickens : GoodIn wsX0_tellOfSaying (va_wsS RX0 72 yX1_thickens wsX1_thickens) := goodIn_app (goodIn_of _ (by decide +kernel)) ggX0_tellOfSaying_X1_thickens
set_option maxRecDepth 20000 in
theorem ggX0_tellOfSaying_X1_reaches : GoodIn wsX0_tellOfSaying wsX1_reaches := goodIn_r _ [14] (by decide +kernel) (by decide +kernel)
set_option maxRecDepth 20000 in
theorem gX0_tellOfSaying_X1_reaches : GoodIn wsX0_tellOfSaying (va_wsS RX0 78 yX1_reaches wsX1_reaches) := goodIn_app (goodIn_of _ (by decide +kernel)) ggX0_tellOfSaying_X1_reaches
set_option maxRecDepth 20000 in
theorem ggX0_tellOfSaying_X1_blurs : GoodIn wsX0_tellOfSaying wsX1_blurs := goodIn_r _ [17] (by decide +kernel) (by decide +kernel)
set_option maxRecDepth 20000 in
theorem gX0_tellOfSaying_X1_blurs : GoodIn wsX0_tellOfSaying (va_wsS RX0 82 yX1_blurs wsX1_blurs) := goodIn_app (goodIn_of _ (by decide +kernel)) ggX0_tellOfSaying_X1_blurs
set_option maxRecDepth 20000 in
theorem ggX0_tellOfSaying_X1_resists : GoodIn wsX0_tellOfSaying wsX1_resists := goodIn_r _ [20] (by decide +kernel) (by decide +kernel)
set_option maxRecDepth 20000 in
theorem gX0_tellOfSaying_X1_resists : GoodIn wsX0_tellOfSaying (va_wsS RX0 85 yX1_resists wsX1_resists) := goodIn_app (goodIn_of _ (by decide +kernel)) ggX0_tellOfSaying_X1_resists
theorem dX0_tellOfSaying_0 : decode cX0_tellOfSaying 0 = .ok (.aload_n 0, 1) := by decide +kernel
theorem dX0_tellOfSaying_1 : decode cX0_tellOfSaying 1 = .ok (.iload_n 1, 1) := by decide +kernel
theorem dX0_tellOfSaying_2 : decode cX0_tellOfSaying 2 = .ok (.iconst 0, 1) := by decide +kernel
theorem dX0_tellOfSaying_3 : decode cX0_tellOfSaying 3 = .ok (.invokevirtual 68, 3) := by decide +kernel
theorem dX0_tellOfSaying_6 : decode cX0_tellOfSaying 6 = .ok (.istore_n 3, 1) := by decide +kernel
theorem dX0_tellOfSaying_7 : decode cX0_tellOfSaying 7 = .ok (.iload_n 2, 1) := by decide +kernel
theorem dX0_tellOfSaying_8 : decode cX0_tellOfSaying 8 = .ok (.tableswitch 68 5 8 #[32, 49, 54, 63], 32) := by decide +kernel
theorem dX0_tellOfSaying_40 : decode cX0_tellOfSaying 40 = .ok (.iload_n 3, 1) := by decide +kernel
theorem dX0_tellOfSaying_41 : decode cX0_tellOfSaying 41 = .ok (.aload_n 0, 1) := by decide +kernel
theorem dX0_tellOfSaying_42 : decode cX0_tellOfSaying 42 = .ok (.iload_n 1, 1) := by decide +kernel
theorem dX0_tellOfSaying_43 : decode cX0_tellOfSaying 43 = .ok (.iconst 2, 1) := by decide +kernel
theorem dX0_tellOfSaying_44 : decode cX0_tellOfSaying 44 = .ok (.invokevirtual 68, 3) := by decide +kernel
theorem dX0_tellOfSaying_47 : decode cX0_tellOfSaying 47 = .ok (.aload_n 0, 1) := by decide +kernel
theorem dX0_tellOfSaying_48 : decode cX0_tellOfSaying 48 = .ok (.iload_n 1, 1) := by decide +kernel
theorem dX0_tellOfSaying_49 : decode cX0_tellOfSaying 49 = .ok (.iconst 4, 1) := by decide +kernel
theorem dX0_tellOfSaying_50 : decode cX0_tellOfSaying 50 = .ok (.invokevirtual 68, 3) := by decide +kernel
theorem dX0_tellOfSaying_53 : decode cX0_tellOfSaying 53 = .ok (.invokestatic 72, 3) := by decide +kernel
theorem dX0_tellOfSaying_56 : decode cX0_tellOfSaying 56 = .ok (.ireturn, 1) := by decide +kernel
theorem dX0_tellOfSaying_57 : decode cX0_tellOfSaying 57 = .ok (.iload_n 3, 1) := by decide +kernel
theorem dX0_tellOfSaying_58 : decode cX0_tellOfSaying 58 = .ok (.invokestatic 78, 3) := by decide +kernel
theorem dX0_tellOfSaying_61 : decode cX0_tellOfSaying 61 = .ok (.ireturn, 1) := by decide +kernel
theorem dX0_tellOfSaying_62 : decode cX0_tellOfSaying 62 = .ok (.iload_n 3, 1) := by decide +kernel
theorem dX0_tellOfSaying_63 : decode cX0_tellOfSaying 63 = .ok (.aload_n 0, 1) := by decide +kernel
theorem dX0_tellOfSaying_64 : decode cX0_tellOfSaying 64 = .ok (.getfield 31, 3) := by decide +kernel
theorem dX0_tellOfSaying_67 : decode cX0_tellOfSaying 67 = .ok (.invokestatic 82, 3) := by decide +kernel
theorem dX0_tellOfSaying_70 : decode cX0_tellOfSaying 70 = .ok (.ireturn, 1) := by decide +kernel
theorem dX0_tellOfSaying_71 : decode cX0_tellOfSaying 71 = .ok (.iload_n 3, 1) := by decide +kernel
theorem dX0_tellOfSaying_72 : decode cX0_tellOfSaying 72 = .ok (.invokestatic 85, 3) := by decide +kernel
theorem dX0_tellOfSaying_75 : decode cX0_tellOfSaying 75 = .ok (.ireturn, 1) := by decide +kernel
theorem dX0_tellOfSaying_76 : decode cX0_tellOfSaying 76 = .ok (.aload_n 0, 1) := by decide +kernel
theorem dX0_tellOfSaying_77 : decode cX0_tellOfSaying 77 = .ok (.iload_n 1, 1) := by decide +kernel
theorem dX0_tellOfSaying_78 : decode cX0_tellOfSaying 78 = .ok (.iload_n 2, 1) := by decide +kernel
theorem dX0_tellOfSaying_79 : decode cX0_tellOfSaying 79 = .ok (.invokevirtual 68, 3) := by decide +kernel
theorem dX0_tellOfSaying_82 : decode cX0_tellOfSaying 82 = .ok (.ireturn, 1) := by decide +kernel
set_option maxRecDepth 20000 in
theorem ggX0_isFinished_X0_sayingHas : GoodIn wsX0_isFinished wsX0_sayingHas := goodIn_r _ [5, 6, 7, 8, 9, 10, 11, 12, 13, 14] (by decide +kernel) (by decide +kernel)
set_option maxRecDepth 20000 in
theorem gX0_isFinished_X0_sayingHas : GoodIn wsX0_isFinished (wsV RX0 68 RX0 yX0_sayingHas wsX0_sayingHas) := goodIn_app (goodIn_of _ (by decide +kernel)) ggX0_isFinished_X0_sayingHas
theorem dX0_isFinished_0 : decode cX0_isFinished 0 = .ok (.aload_n 0, 1) := by decide +kernel
theorem dX0_isFinished_1 : decode cX0_isFinished 1 = .ok (.iload_n 1, 1) := by decide +kernel
theorem dX0_isFinished_2 : decode cX0_isFinished 2 = .ok (.iconst 3, 1) := by decide +kernel
theorem dX0_isFinished_3 : decode cX0_isFinished 3 = .ok (.invokevirtual 68, 3) := by decide +kernel
theorem dX0_isFinished_6 : decode cX0_isFinished 6 = .ok (.iconst 1, 1) := by decide +kernel
theorem dX0_isFinished_7 : decode cX0_isFinished 7 = .ok (.if_icmp .ne 7, 3) := by decide +kernel
theorem dX0_isFinished_10 : decode cX0_isFinished 10 = .ok (.iconst 1, 1) := by decide +kernel
theorem dX0_isFinished_11 : decode cX0_isFinished 11 = .ok (.goto 4, 3) := by decide +kernel
theorem dX0_isFinished_14 : decode cX0_isFinished 14 = .ok (.iconst 0, 1) := by decide +kernel
theorem dX0_isFinished_15 : decode cX0_isFinished 15 = .ok (.ireturn, 1) := by decide +kernel
set_option maxRecDepth 20000 in
theorem ggX0_thickAt_X0_isFinished : GoodIn wsX0_thickAt wsX0_isFinished := goodIn_r _ [10, 11, 12, 13, 9, 14, 15, 33, 34, 35, 36, 37, 38, 39, 40] (by decide +kernel) (by decide +kernel)
set_option maxRecDepth 20000 in
theorem gX0_thickAt_X0_isFinished : GoodIn wsX0_thickAt (wsV RX0 88 RX0 yX0_isFinished wsX0_isFinished) := goodIn_app (goodIn_of _ (by decide +kernel)) ggX0_thickAt_X0_isFinished
set_option maxRecDepth 20000 in
theorem ggX0_thickAt_X0_shareAt : GoodIn wsX0_thickAt wsX0_shareAt := goodIn_r _ [19, 20, 21, 4, 22, 11, 12, 13, 9, 14, 15, 23, 24, 25, 26, 27, 28, 29, 30, 31, 32, 33, 34, 35, 36, 37, 38, 39, 40] (by decide +kernel) (by decide +kernel)
set_option maxRecDepth 20000 in
theorem gX0_thickAt_X0_shareAt : GoodIn wsX0_thickAt (wsV RX0 92 RX0 yX0_shareAt wsX0_shareAt) := goodIn_app (goodIn_of _ (by decide +kernel)) ggX0_thickAt_X0_shareAt
theorem dX0_thickAt_0 : decode cX0_thickAt 0 = .ok (.iconst 0, 1) := by decide +kernel
theorem dX0_thickAt_1 : decode cX0_thickAt 1 = .ok (.istore_n 2, 1) := by decide +kernel
theorem dX0_thickAt_2 : decode cX0_thickAt 2 = .ok (.iconst 0, 1) := by decide +kernel
theorem dX0_thickAt_3 : decode cX0_thickAt 3 = .ok (.istore_n 3, 1) := by decide +kernel
theorem dX0_thickAt_4 : decode cX0_thickAt 4 = .ok (.iload_n 3, 1) := by decide +kernel
theorem dX0_thickAt_5 : decode cX0_thickAt 5 = .ok (.aload_n 0, 1) := by decide +kernel
theorem dX0_thickAt_6 : decode cX0_thickAt 6 = .ok (.getfield 24, 3) := by decide +kernel
theorem dX0_thickAt_9 : decode cX0_thickAt 9 = .ok (.if_icmp .ge 26, 3) := by decide +kernel
theorem dX0_thickAt_12 : decode cX0_thickAt 12 = .ok (.aload_n 0, 1) := by decide +kernel
theorem dX0_thickAt_13 : decode cX0_thickAt 13 = .ok (.iload_n 3, 1) := by decide +kernel
theorem dX0_thickAt_14 : decode cX0_thickAt 14 = .ok (.invokevirtual 88, 3) := by decide +kernel
theorem dX0_thickAt_17 : decode cX0_thickAt 17 = .ok (.ifCond .ne 12, 3) := by decide +kernel
theorem dX0_thickAt_20 : decode cX0_thickAt 20 = .ok (.iload_n 2, 1) := by decide +kernel
theorem dX0_thickAt_21 : decode cX0_thickAt 21 = .ok (.aload_n 0, 1) := by decide +kernel
theorem dX0_thickAt_22 : decode cX0_thickAt 22 = .ok (.iload_n 3, 1) := by decide +kernel
theorem dX0_thickAt_23 : decode cX0_thickAt 23 = .ok (.iload_n 1, 1) := by decide +kernel
theorem dX0_thickAt_24 : decode cX0_thickAt 24 = .ok (.invokevirtual 92, 3) := by decide +kernel
theorem dX0_thickAt_27 : decode cX0_thickAt 27 = .ok (.iadd, 1) := by decide +kernel
theorem dX0_thickAt_28 : decode cX0_thickAt 28 = .ok (.istore_n 2, 1) := by decide +kernel
theorem dX0_thickAt_29 : decode cX0_thickAt 29 = .ok (.iinc 3 1, 3) := by decide +kernel
theorem dX0_thickAt_32 : decode cX0_thickAt 32 = .ok (.goto (-28), 3) := by decide +kernel
theorem dX0_thickAt_35 : decode cX0_thickAt 35 = .ok (.iconst 0, 1) := by decide +kernel
theorem dX0_thickAt_36 : decode cX0_thickAt 36 = .ok (.iload_n 2, 1) := by decide +kernel
theorem dX0_thickAt_37 : decode cX0_thickAt 37 = .ok (.invokestatic 95, 3) := by decide +kernel
theorem dX0_thickAt_40 : decode cX0_thickAt 40 = .ok (.ireturn, 1) := by decide +kernel
set_option maxRecDepth 20000 in
theorem ggX0_shareAt_X0_sayingHas : GoodIn wsX0_shareAt wsX0_sayingHas := goodIn_r _ [9, 10, 21, 22, 23, 24, 25, 26, 27, 28] (by decide +kernel) (by decide +kernel)
set_option maxRecDepth 20000 in
theorem gX0_shareAt_X0_sayingHas : GoodIn wsX0_shareAt (wsV RX0 68 RX0 yX0_sayingHas wsX0_sayingHas) := goodIn_app (goodIn_of _ (by decide +kernel)) ggX0_shareAt_X0_sayingHas
set_option maxRecDepth 20000 in
theorem ggX0_shareAt_X1_reaches : GoodIn wsX0_shareAt wsX1_reaches := goodIn_r _ [14] (by decide +kernel) (by decide +kernel)
set_option maxRecDepth 20000 in
theorem gX0_shareAt_X1_reaches : GoodIn wsX0_shareAt (va_wsS RX0 78 yX1_reaches wsX1_reaches) := goodIn_app (goodIn_of _ (by decide +kernel)) ggX0_shareAt_X1_reaches
set_option maxRecDepth 20000 in
theorem ggX0_shareAt_X1_thickens : GoodIn wsX0_shareAt wsX1_thickens := goodIn_r _ [17] (by decide +kernel) (by decide +kernel)
set_option maxRecDepth 20000 in
theorem gX0_shareAt_X1_thickens : GoodIn wsX0_shareAt (va_wsS RX0 72 yX1_thickens wsX1_thickens) := goodIn_app (goodIn_of _ (by decide +kernel)) ggX0_shareAt_X1_thickens
set_option maxRecDepth 20000 in
theorem ggX0_shareAt_X1_fades : GoodIn wsX0_shareAt wsX1_fades := goodIn_r _ [20] (by decide +kernel) (by decide +kernel)
set_option maxRecDepth 20000 in
theorem gX0_shareAt_X1_fades : GoodIn wsX0_shareAt (va_wsS RX0 103 yX1_fades wsX1_fades) := goodIn_app (goodIn_of _ (by decide +kernel)) ggX0_shareAt_X1_fades
theorem dX0_shareAt_0 : decode cX0_shareAt 0 = .ok (.aload_n 0, 1) := by decide +kernel
theorem dX0_shareAt_1 : decode cX0_shareAt 1 = .ok (.iload_n 1, 1) := by decide +kernel
theorem dX0_shareAt_2 : decode cX0_shareAt 2 = .ok (.iconst 0, 1) := by decide +kernel
theorem dX0_shareAt_3 : decode cX0_shareAt 3 = .ok (.invokevirtual 68, 3) := by decide +kernel
theorem dX0_shareAt_6 : decode cX0_shareAt 6 = .ok (.istore_n 3, 1) := by decide +kernel
theorem dX0_shareAt_7 : decode cX0_shareAt 7 = .ok (.iload_n 2, 1) := by decide +kernel
theorem dX0_shareAt_8 : decode cX0_shareAt 8 = .ok (.aload_n 0, 1) := by decide +kernel
theorem dX0_shareAt_9 : decode cX0_shareAt 9 = .ok (.iload_n 1, 1) := by decide +kernel
theorem dX0_shareAt_10 : decode cX0_shareAt 10 = .ok (.iconst 1, 1) := by decide +kernel
theorem dX0_shareAt_11 : decode cX0_shareAt 11 = .ok (.invokevirtual 68, 3) := by decide +kernel
theorem dX0_shareAt_14 : decode cX0_shareAt 14 = .ok (.isub, 1) := by decide +kernel
theorem dX0_shareAt_15 : decode cX0_shareAt 15 = .ok (.invokestatic 100, 3) := by decide +kernel
theorem dX0_shareAt_18 : decode cX0_shareAt 18 = .ok (.istore 4, 2) := by decide +kernel
theorem dX0_shareAt_20 : decode cX0_shareAt 20 = .ok (.iload 4, 2) := by decide +kernel
theorem dX0_shareAt_22 : decode cX0_shareAt 22 = .ok (.iload_n 3, 1) := by decide +kernel
theorem dX0_shareAt_23 : decode cX0_shareAt 23 = .ok (.invokestatic 78, 3) := by decide +kernel
theorem dX0_shareAt_26 : decode cX0_shareAt 26 = .ok (.if_icmp .le 5, 3) := by decide +kernel
theorem dX0_shareAt_29 : decode cX0_shareAt 29 = .ok (.iconst 0, 1) := by decide +kernel
theorem dX0_shareAt_30 : decode cX0_shareAt 30 = .ok (.ireturn, 1) := by decide +kernel
theorem dX0_shareAt_31 : decode cX0_shareAt 31 = .ok (.iload_n 3, 1) := by decide +kernel
theorem dX0_shareAt_32 : decode cX0_shareAt 32 = .ok (.aload_n 0, 1) := by decide +kernel
theorem dX0_shareAt_33 : decode cX0_shareAt 33 = .ok (.iload_n 1, 1) := by decide +kernel
theorem dX0_shareAt_34 : decode cX0_shareAt 34 = .ok (.iconst 2, 1) := by decide +kernel
theorem dX0_shareAt_35 : decode cX0_shareAt 35 = .ok (.invokevirtual 68, 3) := by decide +kernel
theorem dX0_shareAt_38 : decode cX0_shareAt 38 = .ok (.aload_n 0, 1) := by decide +kernel
theorem dX0_shareAt_39 : decode cX0_shareAt 39 = .ok (.iload_n 1, 1) := by decide +kernel
theorem dX0_shareAt_40 : decode cX0_shareAt 40 = .ok (.iconst 4, 1) := by decide +kernel
theorem dX0_shareAt_41 : decode cX0_shareAt 41 = .ok (.invokevirtual 68, 3) := by decide +kernel
theorem dX0_shareAt_44 : decode cX0_shareAt 44 = .ok (.invokestatic 72, 3) := by decide +kernel
theorem dX0_shareAt_47 : decode cX0_shareAt 47 = .ok (.istore 5, 2) := by decide +kernel
theorem dX0_shareAt_49 : decode cX0_shareAt 49 = .ok (.iload 5, 2) := by decide +kernel
theorem dX0_shareAt_51 : decode cX0_shareAt 51 = .ok (.iload 4, 2) := by decide +kernel
theorem dX0_shareAt_53 : decode cX0_shareAt 53 = .ok (.iload_n 3, 1) := by decide +kernel
theorem dX0_shareAt_54 : decode cX0_shareAt 54 = .ok (.iload 5, 2) := by decide +kernel
theorem dX0_shareAt_56 : decode cX0_shareAt 56 = .ok (.invokestatic 103, 3) := by decide +kernel
theorem dX0_shareAt_59 : decode cX0_shareAt 59 = .ok (.imul, 1) := by decide +kernel
theorem dX0_shareAt_60 : decode cX0_shareAt 60 = .ok (.isub, 1) := by decide +kernel
theorem dX0_shareAt_61 : decode cX0_shareAt 61 = .ok (.ireturn, 1) := by decide +kernel
set_option maxRecDepth 20000 in
theorem ggX0_isInPort_X0_shipHas : GoodIn wsX0_isInPort wsX0_shipHas := goodIn_r _ [5, 6, 7, 8, 9, 10, 11, 12, 13, 14, 15, 16, 17] (by decide +kernel) (by decide +kernel)
set_option maxRecDepth 20000 in
theorem gX0_isInPort_X0_shipHas : GoodIn wsX0_isInPort (wsV RX0 106 RX0 yX0_shipHas wsX0_shipHas) := goodIn_app (goodIn_of _ (by decide +kernel)) ggX0_isInPort_X0_shipHas
theorem dX0_isInPort_0 : decode cX0_isInPort 0 = .ok (.aload_n 0, 1) := by decide +kernel
theorem dX0_isInPort_1 : decode cX0_isInPort 1 = .ok (.iload_n 1, 1) := by decide +kernel
theorem dX0_isInPort_2 : decode cX0_isInPort 2 = .ok (.iconst 0, 1) := by decide +kernel
theorem dX0_isInPort_3 : decode cX0_isInPort 3 = .ok (.invokevirtual 106, 3) := by decide +kernel
theorem dX0_isInPort_6 : decode cX0_isInPort 6 = .ok (.bipush 15, 2) := by decide +kernel
theorem dX0_isInPort_8 : decode cX0_isInPort 8 = .ok (.if_icmp .ne 7, 3) := by decide +kernel
theorem dX0_isInPort_11 : decode cX0_isInPort 11 = .ok (.iconst 1, 1) := by decide +kernel
theorem dX0_isInPort_12 : decode cX0_isInPort 12 = .ok (.goto 4, 3) := by decide +kernel
theorem dX0_isInPort_15 : decode cX0_isInPort 15 = .ok (.iconst 0, 1) := by decide +kernel
theorem dX0_isInPort_16 : decode cX0_isInPort 16 = .ok (.ireturn, 1) := by decide +kernel
set_option maxRecDepth 20000 in
theorem ggX0_goesOnAt_X0_shipHas : GoodIn wsX0_goesOnAt wsX0_shipHas := goodIn_r _ [5, 6, 7, 8, 9, 45, 46, 47, 48, 49, 50, 51, 52] (by decide +kernel) (by decide +kernel)
set_option maxRecDepth 20000 in
theorem gX0_goesOnAt_X0_shipHas : GoodIn wsX0_goesOnAt (wsV RX0 106 RX0 yX0_shipHas wsX0_shipHas) := goodIn_app (goodIn_of _ (by decide +kernel)) ggX0_goesOnAt_X0_shipHas
set_option maxRecDepth 20000 in
theorem ggX0_goesOnAt_X0_thickAt : GoodIn wsX0_goesOnAt wsX0_thickAt := goodIn_r _ [13, 14, 15, 16, 17, 18, 19, 20, 21, 4, 22, 23, 24, 25, 26, 27, 28, 29, 30, 31, 32, 33, 34, 35, 36, 37, 38, 39, 40, 41, 42, 43, 44, 45, 46, 47, 48, 49, 50, 51, 52] (by decide +kernel) (by decide +kernel)
set_option maxRecDepth 20000 in
theorem gX0_goesOnAt_X0_thickAt : GoodIn wsX0_goesOnAt (wsV RX0 109 RX0 yX0_thickAt wsX0_thickAt) := goodIn_app (goodIn_of _ (by decide +kernel)) ggX0_goesOnAt_X0_thickAt
theorem dX0_goesOnAt_0 : decode cX0_goesOnAt 0 = .ok (.iload_n 2, 1) := by decide +kernel
theorem dX0_goesOnAt_1 : decode cX0_goesOnAt 1 = .ok (.bipush 15, 2) := by decide +kernel
theorem dX0_goesOnAt_3 : decode cX0_goesOnAt 3 = .ok (.if_icmp .eq 21, 3) := by decide +kernel
theorem dX0_goesOnAt_6 : decode cX0_goesOnAt 6 = .ok (.aload_n 0, 1) := by decide +kernel
theorem dX0_goesOnAt_7 : decode cX0_goesOnAt 7 = .ok (.iload_n 1, 1) := by decide +kernel
theorem dX0_goesOnAt_8 : decode cX0_goesOnAt 8 = .ok (.iconst 1, 1) := by decide +kernel
theorem dX0_goesOnAt_9 : decode cX0_goesOnAt 9 = .ok (.invokevirtual 106, 3) := by decide +kernel
theorem dX0_goesOnAt_12 : decode cX0_goesOnAt 12 = .ok (.aload_n 0, 1) := by decide +kernel
theorem dX0_goesOnAt_13 : decode cX0_goesOnAt 13 = .ok (.iload_n 2, 1) := by decide +kernel
theorem dX0_goesOnAt_14 : decode cX0_goesOnAt 14 = .ok (.invokevirtual 109, 3) := by decide +kernel
theorem dX0_goesOnAt_17 : decode cX0_goesOnAt 17 = .ok (.if_icmp .lt 7, 3) := by decide +kernel
theorem dX0_goesOnAt_20 : decode cX0_goesOnAt 20 = .ok (.iconst 1, 1) := by decide +kernel
theorem dX0_goesOnAt_21 : decode cX0_goesOnAt 21 = .ok (.goto 4, 3) := by decide +kernel
theorem dX0_goesOnAt_24 : decode cX0_goesOnAt 24 = .ok (.iconst 0, 1) := by decide +kernel
theorem dX0_goesOnAt_25 : decode cX0_goesOnAt 25 = .ok (.ireturn, 1) := by decide +kernel
set_option maxRecDepth 20000 in
theorem ggX0_passDays_X0_isInPort : GoodIn wsX0_passDays wsX0_isInPort := goodIn_r _ [13, 14, 15, 16, 12, 17, 18, 19, 20, 21, 98, 99, 100, 101, 102, 103, 104, 105] (by decide +kernel) (by decide +kernel)
set_option maxRecDepth 20000 in
theorem gX0_passDays_X0_isInPort : GoodIn wsX0_passDays (wsV RX0 112 RX0 yX0_isInPort wsX0_isInPort) := goodIn_app (goodIn_of _ (by decide +kernel)) ggX0_passDays_X0_isInPort
set_option maxRecDepth 20000 in
theorem ggX0_passDays_X0_sail : GoodIn wsX0_passDays wsX0_sail := goodIn_r _ [25, 5, 6, 7, 8, 14, 15, 16, 12, 17, 18, 19, 20, 21, 26, 27, 28, 29, 2, 30, 31, 32, 33, 34, 35, 36, 37, 38, 39, 40, 41, 42, 43, 44, 45, 46, 47, 48, 49, 50, 51, 52, 53, 54, 55, 56, 57, 58, 59, 60, 61, 62, 63, 64, 98, 99, 100, 101, 102, 103, 104, 105] (by decide +kernel) (by decide +kernel)
set_option maxRecDepth 20000 in
theorem gX0_passDays_X0_sail : GoodIn wsX0_passDays (wsV RX0 115 RX0 yX0_sail wsX0_sail) := goodIn_app (goodIn_of _ (by decide +kernel)) ggX0_passDays_X0_sail
set_option maxRecDepth 20000 in
theorem ggX0_passDays_X0_placeOfDay : GoodIn wsX0_passDays wsX0_placeOfDay := goodIn_r _ [68, 4, 98, 99, 100, 101, 102, 103, 104, 105] (by decide +kernel) (by decide +kernel)
set_option maxRecDepth 20000 in
theorem gX0_passDays_X0_placeOfDay : GoodIn wsX0_passDays (wsV RX0 119 RX0 yX0_placeOfDay wsX0_placeOfDay) := goodIn_app (goodIn_of _ (by decide +kernel)) ggX0_passDays_X0_placeOfDay
set_option maxRecDepth 20000 in
theorem ggX0_passDays_X0_placeAt : GoodIn wsX0_passDays wsX0_placeAt := goodIn_r _ [72, 73, 19, 20, 21, 98, 99, 100, 101, 102, 103, 104, 105] (by decide +kernel) (by decide +kernel)
set_option maxRecDepth 20000 in
theorem gX0_passDays_X0_placeAt : GoodIn wsX0_passDays (wsV RX0 123 RX0 yX0_placeAt wsX0_placeAt) := goodIn_app (goodIn_of _ (by decide +kernel)) ggX0_passDays_X0_placeAt
set_option maxRecDepth 20000 in
theorem ggX0_passDays_X0_finishByList : GoodIn wsX0_passDays wsX0_finishByList := goodIn_r _ [77, 78, 79, 80, 12, 81, 2, 82, 20, 83, 33, 34, 35, 36, 37, 38, 39, 40, 41, 84, 85, 51, 86, 87, 88, 89, 90, 63, 64, 98, 99, 100, 101, 102, 103, 104, 105] (by decide +kernel) (by decide +kernel)
set_option maxRecDepth 20000 in
theorem gX0_passDays_X0_finishByList : GoodIn wsX0_passDays (wsV RX0 126 RX0 yX0_finishByList wsX0_finishByList) := goodIn_app (goodIn_of _ (by decide +kernel)) ggX0_passDays_X0_finishByList
set_option maxRecDepth 20000 in
theorem ggX0_passDays_X0_isFinished : GoodIn wsX0_passDays wsX0_isFinished := goodIn_r _ [36, 37, 38, 39, 12, 40, 41, 98, 99, 100, 101, 102, 103, 104, 105] (by decide +kernel) (by decide +kernel)
set_option maxRecDepth 20000 in
theorem gX0_passDays_X0_isFinished : GoodIn wsX0_passDays (wsV RX0 88 RX0 yX0_isFinished wsX0_isFinished) := goodIn_app (goodIn_of _ (by decide +kernel)) ggX0_passDays_X0_isFinished
set_option maxRecDepth 20000 in
theorem ggX0_passDays_X0_blur : GoodIn wsX0_passDays wsX0_blur := goodIn_r _ [94, 4, 5, 6, 7, 8, 30, 31, 32, 37, 38, 39, 12, 40, 41, 95, 96, 51, 97, 87, 88, 89, 90, 63, 20, 64, 98, 99, 100, 101, 102, 103, 104, 105] (by decide +kernel) (by decide +kernel)
set_option maxRecDepth 20000 in
theorem gX0_passDays_X0_blur : GoodIn wsX0_passDays (wsV RX0 129 RX0 yX0_blur wsX0_blur) := goodIn_app (goodIn_of _ (by decide +kernel)) ggX0_passDays_X0_blur
theorem dX0_passDays_0 : decode cX0_passDays 0 = .ok (.iconst 0, 1) := by decide +kernel
theorem dX0_passDays_1 : decode cX0_passDays 1 = .ok (.istore_n 3, 1) := by decide +kernel
theorem dX0_passDays_2 : decode cX0_passDays 2 = .ok (.iload_n 3, 1) := by decide +kernel
theorem dX0_passDays_3 : decode cX0_passDays 3 = .ok (.iload_n 1, 1) := by decide +kernel
theorem dX0_passDays_4 : decode cX0_passDays 4 = .ok (.if_icmp .ge 112, 3) := by decide +kernel
theorem dX0_passDays_7 : decode cX0_passDays 7 = .ok (.iconst 0, 1) := by decide +kernel
theorem dX0_passDays_8 : decode cX0_passDays 8 = .ok (.istore 4, 2) := by decide +kernel
theorem dX0_passDays_10 : decode cX0_passDays 10 = .ok (.iload 4, 2) := by decide +kernel
theorem dX0_passDays_12 : decode cX0_passDays 12 = .ok (.aload_n 0, 1) := by decide +kernel
theorem dX0_passDays_13 : decode cX0_passDays 13 = .ok (.getfield 28, 3) := by decide +kernel
theorem dX0_passDays_16 : decode cX0_passDays 16 = .ok (.if_icmp .ge 34, 3) := by decide +kernel
theorem dX0_passDays_19 : decode cX0_passDays 19 = .ok (.iload_n 2, 1) := by decide +kernel
theorem dX0_passDays_20 : decode cX0_passDays 20 = .ok (.iload 4, 2) := by decide +kernel
theorem dX0_passDays_22 : decode cX0_passDays 22 = .ok (.ishr, 1) := by decide +kernel
theorem dX0_passDays_23 : decode cX0_passDays 23 = .ok (.iconst 1, 1) := by decide +kernel
theorem dX0_passDays_24 : decode cX0_passDays 24 = .ok (.iand, 1) := by decide +kernel
theorem dX0_passDays_25 : decode cX0_passDays 25 = .ok (.iconst 1, 1) := by decide +kernel
theorem dX0_passDays_26 : decode cX0_passDays 26 = .ok (.if_icmp .ne 18, 3) := by decide +kernel
theorem dX0_passDays_29 : decode cX0_passDays 29 = .ok (.aload_n 0, 1) := by decide +kernel
theorem dX0_passDays_30 : decode cX0_passDays 30 = .ok (.iload 4, 2) := by decide +kernel
theorem dX0_passDays_32 : decode cX0_passDays 32 = .ok (.invokevirtual 112, 3) := by decide +kernel
theorem dX0_passDays_35 : decode cX0_passDays 35 = .ok (.ifCond .ne 9, 3) := by decide +kernel
theorem dX0_passDays_38 : decode cX0_passDays 38 = .ok (.aload_n 0, 1) := by decide +kernel
theorem dX0_passDays_39 : decode cX0_passDays 39 = .ok (.iload 4, 2) := by decide +kernel
theorem dX0_passDays_41 : decode cX0_passDays 41 = .ok (.invokevirtual 115, 3) := by decide +kernel
theorem dX0_passDays_44 : decode cX0_passDays 44 = .ok (.iinc 4 1, 3) := by decide +kernel
theorem dX0_passDays_47 : decode cX0_passDays 47 = .ok (.goto (-37), 3) := by decide +kernel
theorem dX0_passDays_50 : decode cX0_passDays 50 = .ok (.aload_n 0, 1) := by decide +kernel
theorem dX0_passDays_51 : decode cX0_passDays 51 = .ok (.aload_n 0, 1) := by decide +kernel
theorem dX0_passDays_52 : decode cX0_passDays 52 = .ok (.aload_n 0, 1) := by decide +kernel
theorem dX0_passDays_53 : decode cX0_passDays 53 = .ok (.invokevirtual 119, 3) := by decide +kernel
theorem dX0_passDays_56 : decode cX0_passDays 56 = .ok (.invokevirtual 123, 3) := by decide +kernel
theorem dX0_passDays_59 : decode cX0_passDays 59 = .ok (.invokevirtual 126, 3) := by decide +kernel
theorem dX0_passDays_62 : decode cX0_passDays 62 = .ok (.iconst 0, 1) := by decide +kernel
theorem dX0_passDays_63 : decode cX0_passDays 63 = .ok (.istore 4, 2) := by decide +kernel
theorem dX0_passDays_65 : decode cX0_passDays 65 = .ok (.iload 4, 2) := by decide +kernel
theorem dX0_passDays_67 : decode cX0_passDays 67 = .ok (.aload_n 0, 1) := by decide +kernel
theorem dX0_passDays_68 : decode cX0_passDays 68 = .ok (.getfield 24, 3) := by decide +kernel
theorem dX0_passDays_71 : decode cX0_passDays 71 = .ok (.if_icmp .ge 24, 3) := by decide +kernel
theorem dX0_passDays_74 : decode cX0_passDays 74 = .ok (.aload_n 0, 1) := by decide +kernel
theorem dX0_passDays_75 : decode cX0_passDays 75 = .ok (.iload 4, 2) := by decide +kernel
theorem dX0_passDays_77 : decode cX0_passDays 77 = .ok (.invokevirtual 88, 3) := by decide +kernel
theorem dX0_passDays_80 : decode cX0_passDays 80 = .ok (.ifCond .ne 9, 3) := by decide +kernel
theorem dX0_passDays_83 : decode cX0_passDays 83 = .ok (.aload_n 0, 1) := by decide +kernel
theorem dX0_passDays_84 : decode cX0_passDays 84 = .ok (.iload 4, 2) := by decide +kernel
theorem dX0_passDays_86 : decode cX0_passDays 86 = .ok (.invokevirtual 129, 3) := by decide +kernel
theorem dX0_passDays_89 : decode cX0_passDays 89 = .ok (.iinc 4 1, 3) := by decide +kernel
theorem dX0_passDays_92 : decode cX0_passDays 92 = .ok (.goto (-27), 3) := by decide +kernel
theorem dX0_passDays_95 : decode cX0_passDays 95 = .ok (.aload_n 0, 1) := by decide +kernel
theorem dX0_passDays_96 : decode cX0_passDays 96 = .ok (.ldc 132, 2) := by decide +kernel
theorem dX0_passDays_98 : decode cX0_passDays 98 = .ok (.aload_n 0, 1) := by decide +kernel
theorem dX0_passDays_99 : decode cX0_passDays 99 = .ok (.getfield 31, 3) := by decide +kernel
theorem dX0_passDays_102 : decode cX0_passDays 102 = .ok (.iconst 1, 1) := by decide +kernel
theorem dX0_passDays_103 : decode cX0_passDays 103 = .ok (.iadd, 1) := by decide +kernel
theorem dX0_passDays_104 : decode cX0_passDays 104 = .ok (.invokestatic 133, 3) := by decide +kernel
theorem dX0_passDays_107 : decode cX0_passDays 107 = .ok (.putfield 31, 3) := by decide +kernel
theorem dX0_passDays_110 : decode cX0_passDays 110 = .ok (.iinc 3 1, 3) := by decide +kernel
theorem dX0_passDays_113 : decode cX0_passDays 113 = .ok (.goto (-111), 3) := by decide +kernel
theorem dX0_passDays_116 : decode cX0_passDays 116 = .ok (.return_, 1) := by decide +kernel
set_option maxRecDepth 20000 in
theorem ggX0_sail_X0_shipHas : GoodIn wsX0_sail wsX0_shipHas := goodIn_r _ [9, 10, 11, 12, 13, 54, 55, 56, 57, 58, 59, 60, 61] (by decide +kernel) (by decide +kernel)
set_option maxRecDepth 20000 in
theorem gX0_sail_X0_shipHas : GoodIn wsX0_sail (wsV RX0 106 RX0 yX0_shipHas wsX0_shipHas) := goodIn_app (goodIn_of _ (by decide +kernel)) ggX0_sail_X0_shipHas
set_option maxRecDepth 20000 in
theorem ggX0_sail_X0_thickAt : GoodIn wsX0_sail wsX0_thickAt := goodIn_r _ [17, 18, 19, 20, 3, 21, 22, 23, 24, 8, 25, 26, 27, 28, 29, 30, 31, 32, 33, 34, 35, 36, 37, 38, 39, 40, 41, 42, 43, 44, 45, 46, 47, 54, 55, 56, 57, 58, 59, 60, 61] (by decide +kernel) (by decide +kernel)
set_option maxRecDepth 20000 in
theorem gX0_sail_X0_thickAt : GoodIn wsX0_sail (wsV RX0 109 RX0 yX0_thickAt wsX0_thickAt) := goodIn_app (goodIn_of _ (by decide +kernel)) ggX0_sail_X0_thickAt
set_option maxRecDepth 20000 in
theorem ggX0_sail_X0_setOfShip : GoodIn wsX0_sail wsX0_setOfShip := goodIn_r _ [51, 10, 52, 12, 53, 54, 55, 56, 57, 58, 59, 60, 61] (by decide +kernel) (by decide +kernel)
set_option maxRecDepth 20000 in
theorem gX0_sail_X0_setOfShip : GoodIn wsX0_sail (wsV RX0 65 RX0 yX0_setOfShip wsX0_setOfShip) := goodIn_app (goodIn_of _ (by decide +kernel)) ggX0_sail_X0_setOfShip
theorem dX0_sail_0 : decode cX0_sail 0 = .ok (.aload_n 0, 1) := by decide +kernel
theorem dX0_sail_1 : decode cX0_sail 1 = .ok (.iload_n 1, 1) := by decide +kernel
theorem dX0_sail_2 : decode cX0_sail 2 = .ok (.iconst 0, 1) := by decide +kernel
theorem dX0_sail_3 : decode cX0_sail 3 = .ok (.invokevirtual 106, 3) := by decide +kernel
theorem dX0_sail_6 : decode cX0_sail 6 = .ok (.istore_n 2, 1) := by decide +kernel
theorem dX0_sail_7 : decode cX0_sail 7 = .ok (.aload_n 0, 1) := by decide +kernel
theorem dX0_sail_8 : decode cX0_sail 8 = .ok (.iload_n 1, 1) := by decide +kernel
theorem dX0_sail_9 : decode cX0_sail 9 = .ok (.iconst 1, 1) := by decide +kernel
theorem dX0_sail_10 : decode cX0_sail 10 = .ok (.invokevirtual 106, 3) := by decide +kernel
theorem dX0_sail_13 : decode cX0_sail 13 = .ok (.aload_n 0, 1) := by decide +kernel
theorem dX0_sail_14 : decode cX0_sail 14 = .ok (.iload_n 2, 1) := by decide +kernel
theorem dX0_sail_15 : decode cX0_sail 15 = .ok (.invokevirtual 109, 3) := by decide +kernel
theorem dX0_sail_18 : decode cX0_sail 18 = .ok (.if_icmp .lt 25, 3) := by decide +kernel
theorem dX0_sail_21 : decode cX0_sail 21 = .ok (.aload_n 0, 1) := by decide +kernel
theorem dX0_sail_22 : decode cX0_sail 22 = .ok (.iload_n 1, 1) := by decide +kernel
theorem dX0_sail_23 : decode cX0_sail 23 = .ok (.iconst 0, 1) := by decide +kernel
theorem dX0_sail_24 : decode cX0_sail 24 = .ok (.bipush 15, 2) := by decide +kernel
theorem dX0_sail_26 : decode cX0_sail 26 = .ok (.iload_n 2, 1) := by decide +kernel
theorem dX0_sail_27 : decode cX0_sail 27 = .ok (.aload_n 0, 1) := by decide +kernel
theorem dX0_sail_28 : decode cX0_sail 28 = .ok (.iload_n 1, 1) := by decide +kernel
theorem dX0_sail_29 : decode cX0_sail 29 = .ok (.iconst 2, 1) := by decide +kernel
theorem dX0_sail_30 : decode cX0_sail 30 = .ok (.invokevirtual 106, 3) := by decide +kernel
theorem dX0_sail_33 : decode cX0_sail 33 = .ok (.iadd, 1) := by decide +kernel
theorem dX0_sail_34 : decode cX0_sail 34 = .ok (.invokestatic 133, 3) := by decide +kernel
theorem dX0_sail_37 : decode cX0_sail 37 = .ok (.invokevirtual 65, 3) := by decide +kernel
theorem dX0_sail_40 : decode cX0_sail 40 = .ok (.goto 25, 3) := by decide +kernel
theorem dX0_sail_43 : decode cX0_sail 43 = .ok (.aload_n 0, 1) := by decide +kernel
theorem dX0_sail_44 : decode cX0_sail 44 = .ok (.iload_n 1, 1) := by decide +kernel
theorem dX0_sail_45 : decode cX0_sail 45 = .ok (.iconst 3, 1) := by decide +kernel
theorem dX0_sail_46 : decode cX0_sail 46 = .ok (.invokevirtual 106, 3) := by decide +kernel
theorem dX0_sail_49 : decode cX0_sail 49 = .ok (.istore_n 3, 1) := by decide +kernel
theorem dX0_sail_50 : decode cX0_sail 50 = .ok (.aload_n 0, 1) := by decide +kernel
theorem dX0_sail_51 : decode cX0_sail 51 = .ok (.iload_n 1, 1) := by decide +kernel
theorem dX0_sail_52 : decode cX0_sail 52 = .ok (.iconst 3, 1) := by decide +kernel
theorem dX0_sail_53 : decode cX0_sail 53 = .ok (.sipush 9999, 3) := by decide +kernel
theorem dX0_sail_56 : decode cX0_sail 56 = .ok (.iload_n 3, 1) := by decide +kernel
theorem dX0_sail_57 : decode cX0_sail 57 = .ok (.iconst 1, 1) := by decide +kernel
theorem dX0_sail_58 : decode cX0_sail 58 = .ok (.iadd, 1) := by decide +kernel
theorem dX0_sail_59 : decode cX0_sail 59 = .ok (.invokestatic 133, 3) := by decide +kernel
theorem dX0_sail_62 : decode cX0_sail 62 = .ok (.invokevirtual 65, 3) := by decide +kernel
theorem dX0_sail_65 : decode cX0_sail 65 = .ok (.return_, 1) := by decide +kernel
set_option maxRecDepth 20000 in
theorem ggX0_finishByList_X0_hasSaying : GoodIn wsX0_finishByList wsX0_hasSaying := goodIn_r _ [5, 6, 7, 8, 9, 29, 30, 31, 32, 33, 34, 35, 36] (by decide +kernel) (by decide +kernel)
set_option maxRecDepth 20000 in
theorem gX0_finishByList_X0_hasSaying : GoodIn wsX0_finishByList (wsV RX0 136 RX0 yX0_hasSaying wsX0_hasSaying) := goodIn_app (goodIn_of _ (by decide +kernel)) ggX0_finishByList_X0_hasSaying
set_option maxRecDepth 20000 in
theorem ggX0_finishByList_X0_isFinished : GoodIn wsX0_finishByList wsX0_isFinished := goodIn_r _ [13, 14, 15, 16, 4, 17, 18, 29, 30, 31, 32, 33, 34, 35, 36] (by decide +kernel) (by decide +kernel)
set_option maxRecDepth 20000 in
theorem gX0_finishByList_X0_isFinished : GoodIn wsX0_finishByList (wsV RX0 88 RX0 yX0_isFinished wsX0_isFinished) := goodIn_app (goodIn_of _ (by decide +kernel)) ggX0_finishByList_X0_isFinished
set_option maxRecDepth 20000 in
theorem ggX0_finishByList_X0_sayingHas : GoodIn wsX0_finishByList wsX0_sayingHas := goodIn_r _ [17, 18, 29, 30, 31, 32, 33, 34, 35, 36] (by decide +kernel) (by decide +kernel)
set_option maxRecDepth 20000 in
theorem gX0_finishByList_X0_sayingHas : GoodIn wsX0_finishByList (wsV RX0 68 RX0 yX0_sayingHas wsX0_sayingHas) := goodIn_app (goodIn_of _ (by decide +kernel)) ggX0_finishByList_X0_sayingHas
set_option maxRecDepth 20000 in
theorem ggX0_finishByList_X1_resists : GoodIn wsX0_finishByList wsX1_resists := goodIn_r _ [22] (by decide +kernel) (by decide +kernel)
set_option maxRecDepth 20000 in
theorem gX0_finishByList_X1_resists : GoodIn wsX0_finishByList (va_wsS RX0 85 yX1_resists wsX1_resists) := goodIn_app (goodIn_of _ (by decide +kernel)) ggX0_finishByList_X1_resists
set_option maxRecDepth 20000 in
theorem ggX0_finishByList_X0_setOfSaying : GoodIn wsX0_finishByList wsX0_setOfSaying := goodIn_r _ [26, 18, 27, 8, 28, 29, 30, 31, 32, 33, 34, 35, 36] (by decide +kernel) (by decide +kernel)
set_option maxRecDepth 20000 in
theorem gX0_finishByList_X0_setOfSaying : GoodIn wsX0_finishByList (wsV RX0 61 RX0 yX0_setOfSaying wsX0_setOfSaying) := goodIn_app (goodIn_of _ (by decide +kernel)) ggX0_finishByList_X0_setOfSaying
theorem dX0_finishByList_0 : decode cX0_finishByList 0 = .ok (.aload_n 0, 1) := by decide +kernel
theorem dX0_finishByList_1 : decode cX0_finishByList 1 = .ok (.iload_n 1, 1) := by decide +kernel
theorem dX0_finishByList_2 : decode cX0_finishByList 2 = .ok (.invokevirtual 136, 3) := by decide +kernel
theorem dX0_finishByList_5 : decode cX0_finishByList 5 = .ok (.ifCond .eq 11, 3) := by decide +kernel
theorem dX0_finishByList_8 : decode cX0_finishByList 8 = .ok (.aload_n 0, 1) := by decide +kernel
theorem dX0_finishByList_9 : decode cX0_finishByList 9 = .ok (.iload_n 1, 1) := by decide +kernel
theorem dX0_finishByList_10 : decode cX0_finishByList 10 = .ok (.invokevirtual 88, 3) := by decide +kernel
theorem dX0_finishByList_13 : decode cX0_finishByList 13 = .ok (.ifCond .eq 4, 3) := by decide +kernel
theorem dX0_finishByList_16 : decode cX0_finishByList 16 = .ok (.return_, 1) := by decide +kernel
theorem dX0_finishByList_17 : decode cX0_finishByList 17 = .ok (.aload_n 0, 1) := by decide +kernel
theorem dX0_finishByList_18 : decode cX0_finishByList 18 = .ok (.iload_n 1, 1) := by decide +kernel
theorem dX0_finishByList_19 : decode cX0_finishByList 19 = .ok (.iconst 2, 1) := by decide +kernel
theorem dX0_finishByList_20 : decode cX0_finishByList 20 = .ok (.invokevirtual 68, 3) := by decide +kernel
theorem dX0_finishByList_23 : decode cX0_finishByList 23 = .ok (.istore_n 2, 1) := by decide +kernel
theorem dX0_finishByList_24 : decode cX0_finishByList 24 = .ok (.iload_n 2, 1) := by decide +kernel
theorem dX0_finishByList_25 : decode cX0_finishByList 25 = .ok (.aload_n 0, 1) := by decide +kernel
theorem dX0_finishByList_26 : decode cX0_finishByList 26 = .ok (.iload_n 1, 1) := by decide +kernel
theorem dX0_finishByList_27 : decode cX0_finishByList 27 = .ok (.iconst 0, 1) := by decide +kernel
theorem dX0_finishByList_28 : decode cX0_finishByList 28 = .ok (.invokevirtual 68, 3) := by decide +kernel
theorem dX0_finishByList_31 : decode cX0_finishByList 31 = .ok (.invokestatic 85, 3) := by decide +kernel
theorem dX0_finishByList_34 : decode cX0_finishByList 34 = .ok (.if_icmp .gt 13, 3) := by decide +kernel
theorem dX0_finishByList_37 : decode cX0_finishByList 37 = .ok (.aload_n 0, 1) := by decide +kernel
theorem dX0_finishByList_38 : decode cX0_finishByList 38 = .ok (.iload_n 1, 1) := by decide +kernel
theorem dX0_finishByList_39 : decode cX0_finishByList 39 = .ok (.iconst 3, 1) := by decide +kernel
theorem dX0_finishByList_40 : decode cX0_finishByList 40 = .ok (.iconst 1, 1) := by decide +kernel
theorem dX0_finishByList_41 : decode cX0_finishByList 41 = .ok (.invokevirtual 61, 3) := by decide +kernel
theorem dX0_finishByList_44 : decode cX0_finishByList 44 = .ok (.goto 12, 3) := by decide +kernel
theorem dX0_finishByList_47 : decode cX0_finishByList 47 = .ok (.aload_n 0, 1) := by decide +kernel
theorem dX0_finishByList_48 : decode cX0_finishByList 48 = .ok (.iload_n 1, 1) := by decide +kernel
theorem dX0_finishByList_49 : decode cX0_finishByList 49 = .ok (.iconst 2, 1) := by decide +kernel
theorem dX0_finishByList_50 : decode cX0_finishByList 50 = .ok (.iload_n 2, 1) := by decide +kernel
theorem dX0_finishByList_51 : decode cX0_finishByList 51 = .ok (.iconst 2, 1) := by decide +kernel
theorem dX0_finishByList_52 : decode cX0_finishByList 52 = .ok (.idiv, 1) := by decide +kernel
theorem dX0_finishByList_53 : decode cX0_finishByList 53 = .ok (.invokevirtual 61, 3) := by decide +kernel
theorem dX0_finishByList_56 : decode cX0_finishByList 56 = .ok (.return_, 1) := by decide +kernel
set_option maxRecDepth 20000 in
theorem ggX0_blur_X0_sayingHas : GoodIn wsX0_blur wsX0_sayingHas := goodIn_r _ [13, 14, 26, 27, 28, 29, 30, 31, 32, 33] (by decide +kernel) (by decide +kernel)
set_option maxRecDepth 20000 in
theorem gX0_blur_X0_sayingHas : GoodIn wsX0_blur (wsV RX0 68 RX0 yX0_sayingHas wsX0_sayingHas) := goodIn_app (goodIn_of _ (by decide +kernel)) ggX0_blur_X0_sayingHas
set_option maxRecDepth 20000 in
theorem ggX0_blur_X1_blurs : GoodIn wsX0_blur wsX1_blurs := goodIn_r _ [18] (by decide +kernel) (by decide +kernel)
set_option maxRecDepth 20000 in
theorem gX0_blur_X1_blurs : GoodIn wsX0_blur (va_wsS RX0 82 yX1_blurs wsX1_blurs) := goodIn_app (goodIn_of _ (by decide +kernel)) ggX0_blur_X1_blurs
set_option maxRecDepth 20000 in
theorem ggX0_blur_X0_setOfSaying : GoodIn wsX0_blur wsX0_setOfSaying := goodIn_r _ [22, 14, 23, 24, 25, 26, 27, 28, 29, 30, 31, 32, 33] (by decide +kernel) (by decide +kernel)
set_option maxRecDepth 20000 in
theorem gX0_blur_X0_setOfSaying : GoodIn wsX0_blur (wsV RX0 61 RX0 yX0_setOfSaying wsX0_setOfSaying) := goodIn_app (goodIn_of _ (by decide +kernel)) ggX0_blur_X0_setOfSaying
theorem dX0_blur_0 : decode cX0_blur 0 = .ok (.aload_n 0, 1) := by decide +kernel
theorem dX0_blur_1 : decode cX0_blur 1 = .ok (.iload_n 1, 1) := by decide +kernel
theorem dX0_blur_2 : decode cX0_blur 2 = .ok (.iconst 2, 1) := by decide +kernel
theorem dX0_blur_3 : decode cX0_blur 3 = .ok (.invokevirtual 68, 3) := by decide +kernel
theorem dX0_blur_6 : decode cX0_blur 6 = .ok (.aload_n 0, 1) := by decide +kernel
theorem dX0_blur_7 : decode cX0_blur 7 = .ok (.iload_n 1, 1) := by decide +kernel
theorem dX0_blur_8 : decode cX0_blur 8 = .ok (.iconst 0, 1) := by decide +kernel
theorem dX0_blur_9 : decode cX0_blur 9 = .ok (.invokevirtual 68, 3) := by decide +kernel
theorem dX0_blur_12 : decode cX0_blur 12 = .ok (.aload_n 0, 1) := by decide +kernel
theorem dX0_blur_13 : decode cX0_blur 13 = .ok (.getfield 31, 3) := by decide +kernel
theorem dX0_blur_16 : decode cX0_blur 16 = .ok (.invokestatic 82, 3) := by decide +kernel
theorem dX0_blur_19 : decode cX0_blur 19 = .ok (.iadd, 1) := by decide +kernel
theorem dX0_blur_20 : decode cX0_blur 20 = .ok (.istore_n 2, 1) := by decide +kernel
theorem dX0_blur_21 : decode cX0_blur 21 = .ok (.aload_n 0, 1) := by decide +kernel
theorem dX0_blur_22 : decode cX0_blur 22 = .ok (.iload_n 1, 1) := by decide +kernel
theorem dX0_blur_23 : decode cX0_blur 23 = .ok (.iconst 2, 1) := by decide +kernel
theorem dX0_blur_24 : decode cX0_blur 24 = .ok (.iconst 0, 1) := by decide +kernel
theorem dX0_blur_25 : decode cX0_blur 25 = .ok (.bipush 99, 2) := by decide +kernel
theorem dX0_blur_27 : decode cX0_blur 27 = .ok (.iload_n 2, 1) := by decide +kernel
theorem dX0_blur_28 : decode cX0_blur 28 = .ok (.invokestatic 133, 3) := by decide +kernel
theorem dX0_blur_31 : decode cX0_blur 31 = .ok (.invokestatic 95, 3) := by decide +kernel
theorem dX0_blur_34 : decode cX0_blur 34 = .ok (.invokevirtual 61, 3) := by decide +kernel
theorem dX0_blur_37 : decode cX0_blur 37 = .ok (.aload_n 0, 1) := by decide +kernel
theorem dX0_blur_38 : decode cX0_blur 38 = .ok (.iload_n 1, 1) := by decide +kernel
theorem dX0_blur_39 : decode cX0_blur 39 = .ok (.iconst 4, 1) := by decide +kernel
theorem dX0_blur_40 : decode cX0_blur 40 = .ok (.invokevirtual 68, 3) := by decide +kernel
theorem dX0_blur_43 : decode cX0_blur 43 = .ok (.istore_n 3, 1) := by decide +kernel
theorem dX0_blur_44 : decode cX0_blur 44 = .ok (.aload_n 0, 1) := by decide +kernel
theorem dX0_blur_45 : decode cX0_blur 45 = .ok (.iload_n 1, 1) := by decide +kernel
theorem dX0_blur_46 : decode cX0_blur 46 = .ok (.iconst 4, 1) := by decide +kernel
theorem dX0_blur_47 : decode cX0_blur 47 = .ok (.sipush 9999, 3) := by decide +kernel
theorem dX0_blur_50 : decode cX0_blur 50 = .ok (.iload_n 3, 1) := by decide +kernel
theorem dX0_blur_51 : decode cX0_blur 51 = .ok (.iconst 1, 1) := by decide +kernel
theorem dX0_blur_52 : decode cX0_blur 52 = .ok (.iadd, 1) := by decide +kernel
theorem dX0_blur_53 : decode cX0_blur 53 = .ok (.invokestatic 133, 3) := by decide +kernel
theorem dX0_blur_56 : decode cX0_blur 56 = .ok (.invokevirtual 61, 3) := by decide +kernel
theorem dX0_blur_59 : decode cX0_blur 59 = .ok (.return_, 1) := by decide +kernel
theorem dX0_draw_0 : decode cX0_draw 0 = .ok (.aload_n 0, 1) := by decide +kernel
theorem dX0_draw_1 : decode cX0_draw 1 = .ok (.aload_n 0, 1) := by decide +kernel
theorem dX0_draw_2 : decode cX0_draw 2 = .ok (.getfield 34, 3) := by decide +kernel
theorem dX0_draw_5 : decode cX0_draw 5 = .ok (.ldc 139, 2) := by decide +kernel
theorem dX0_draw_7 : decode cX0_draw 7 = .ok (.imul, 1) := by decide +kernel
theorem dX0_draw_8 : decode cX0_draw 8 = .ok (.sipush 12345, 3) := by decide +kernel
theorem dX0_draw_11 : decode cX0_draw 11 = .ok (.iadd, 1) := by decide +kernel
theorem dX0_draw_12 : decode cX0_draw 12 = .ok (.putfield 34, 3) := by decide +kernel
theorem dX0_draw_15 : decode cX0_draw 15 = .ok (.aload_n 0, 1) := by decide +kernel
theorem dX0_draw_16 : decode cX0_draw 16 = .ok (.getfield 34, 3) := by decide +kernel
theorem dX0_draw_19 : decode cX0_draw 19 = .ok (.bipush 8, 2) := by decide +kernel
theorem dX0_draw_21 : decode cX0_draw 21 = .ok (.iushr, 1) := by decide +kernel
theorem dX0_draw_22 : decode cX0_draw 22 = .ok (.ireturn, 1) := by decide +kernel
set_option maxRecDepth 20000 in
theorem ggX0_makeVaguer_X0_hasSaying : GoodIn wsX0_makeVaguer wsX0_hasSaying := goodIn_r _ [9, 10, 11, 12, 13, 25, 26, 27, 28, 29, 30, 31, 32] (by decide +kernel) (by decide +kernel)
set_option maxRecDepth 20000 in
theorem gX0_makeVaguer_X0_hasSaying : GoodIn wsX0_makeVaguer (wsV RX0 136 RX0 yX0_hasSaying wsX0_hasSaying) := goodIn_app (goodIn_of _ (by decide +kernel)) ggX0_makeVaguer_X0_hasSaying
set_option maxRecDepth 20000 in
theorem ggX0_makeVaguer_X0_sayingHas : GoodIn wsX0_makeVaguer wsX0_sayingHas := goodIn_r _ [17, 18, 25, 26, 27, 28, 29, 30, 31, 32] (by decide +kernel) (by decide +kernel)
set_option maxRecDepth 20000 in
theorem gX0_makeVaguer_X0_sayingHas : GoodIn wsX0_makeVaguer (wsV RX0 68 RX0 yX0_sayingHas wsX0_sayingHas) := goodIn_app (goodIn_of _ (by decide +kernel)) ggX0_makeVaguer_X0_sayingHas
set_option maxRecDepth 20000 in
theorem ggX0_makeVaguer_X0_setOfSaying : GoodIn wsX0_makeVaguer wsX0_setOfSaying := goodIn_r _ [22, 18, 23, 12, 24, 25, 26, 27, 28, 29, 30, 31, 32] (by decide +kernel) (by decide +kernel)
set_option maxRecDepth 20000 in
theorem gX0_makeVaguer_X0_setOfSaying : GoodIn wsX0_makeVaguer (wsV RX0 61 RX0 yX0_setOfSaying wsX0_setOfSaying) := goodIn_app (goodIn_of _ (by decide +kernel)) ggX0_makeVaguer_X0_setOfSaying
theorem dX0_makeVaguer_0 : decode cX0_makeVaguer 0 = .ok (.aload_n 0, 1) := by decide +kernel
theorem dX0_makeVaguer_1 : decode cX0_makeVaguer 1 = .ok (.iload_n 1, 1) := by decide +kernel
theorem dX0_makeVaguer_2 : decode cX0_makeVaguer 2 = .ok (.invokevirtual 136, 3) := by decide +kernel
theorem dX0_makeVaguer_5 : decode cX0_makeVaguer 5 = .ok (.ifCond .eq 24, 3) := by decide +kernel
theorem dX0_makeVaguer_8 : decode cX0_makeVaguer 8 = .ok (.aload_n 0, 1) := by decide +kernel
theorem dX0_makeVaguer_9 : decode cX0_makeVaguer 9 = .ok (.iload_n 1, 1) := by decide +kernel
theorem dX0_makeVaguer_10 : decode cX0_makeVaguer 10 = .ok (.iconst 2, 1) := by decide +kernel
theorem dX0_makeVaguer_11 : decode cX0_makeVaguer 11 = .ok (.invokevirtual 68, 3) := by decide +kernel
theorem dX0_makeVaguer_14 : decode cX0_makeVaguer 14 = .ok (.iconst 5, 1) := by decide +kernel
theorem dX0_makeVaguer_15 : decode cX0_makeVaguer 15 = .ok (.iadd, 1) := by decide +kernel
theorem dX0_makeVaguer_16 : decode cX0_makeVaguer 16 = .ok (.istore_n 2, 1) := by decide +kernel
theorem dX0_makeVaguer_17 : decode cX0_makeVaguer 17 = .ok (.aload_n 0, 1) := by decide +kernel
theorem dX0_makeVaguer_18 : decode cX0_makeVaguer 18 = .ok (.iload_n 1, 1) := by decide +kernel
theorem dX0_makeVaguer_19 : decode cX0_makeVaguer 19 = .ok (.iconst 2, 1) := by decide +kernel
theorem dX0_makeVaguer_20 : decode cX0_makeVaguer 20 = .ok (.bipush 99, 2) := by decide +kernel
theorem dX0_makeVaguer_22 : decode cX0_makeVaguer 22 = .ok (.iload_n 2, 1) := by decide +kernel
theorem dX0_makeVaguer_23 : decode cX0_makeVaguer 23 = .ok (.invokestatic 133, 3) := by decide +kernel
theorem dX0_makeVaguer_26 : decode cX0_makeVaguer 26 = .ok (.invokevirtual 61, 3) := by decide +kernel
theorem dX0_makeVaguer_29 : decode cX0_makeVaguer 29 = .ok (.return_, 1) := by decide +kernel
set_option maxRecDepth 20000 in
theorem ggX0_shipsInPort_X0_isInPort : GoodIn wsX0_shipsInPort wsX0_isInPort := goodIn_r _ [6, 7, 8, 9, 5, 10, 11, 12, 13, 14, 15, 16, 17, 18, 19, 20, 21, 22] (by decide +kernel) (by decide +kernel)
set_option maxRecDepth 20000 in
theorem gX0_shipsInPort_X0_isInPort : GoodIn wsX0_shipsInPort (wsV RX0 112 RX0 yX0_isInPort wsX0_isInPort) := goodIn_app (goodIn_of _ (by decide +kernel)) ggX0_shipsInPort_X0_isInPort
theorem dX0_shipsInPort_0 : decode cX0_shipsInPort 0 = .ok (.iconst 0, 1) := by decide +kernel
theorem dX0_shipsInPort_1 : decode cX0_shipsInPort 1 = .ok (.istore_n 1, 1) := by decide +kernel
theorem dX0_shipsInPort_2 : decode cX0_shipsInPort 2 = .ok (.iconst 0, 1) := by decide +kernel
theorem dX0_shipsInPort_3 : decode cX0_shipsInPort 3 = .ok (.istore_n 2, 1) := by decide +kernel
theorem dX0_shipsInPort_4 : decode cX0_shipsInPort 4 = .ok (.iload_n 2, 1) := by decide +kernel
theorem dX0_shipsInPort_5 : decode cX0_shipsInPort 5 = .ok (.aload_n 0, 1) := by decide +kernel
theorem dX0_shipsInPort_6 : decode cX0_shipsInPort 6 = .ok (.getfield 28, 3) := by decide +kernel
theorem dX0_shipsInPort_9 : decode cX0_shipsInPort 9 = .ok (.if_icmp .ge 23, 3) := by decide +kernel
theorem dX0_shipsInPort_12 : decode cX0_shipsInPort 12 = .ok (.aload_n 0, 1) := by decide +kernel
theorem dX0_shipsInPort_13 : decode cX0_shipsInPort 13 = .ok (.iload_n 2, 1) := by decide +kernel
theorem dX0_shipsInPort_14 : decode cX0_shipsInPort 14 = .ok (.invokevirtual 112, 3) := by decide +kernel
theorem dX0_shipsInPort_17 : decode cX0_shipsInPort 17 = .ok (.ifCond .eq 9, 3) := by decide +kernel
theorem dX0_shipsInPort_20 : decode cX0_shipsInPort 20 = .ok (.iload_n 1, 1) := by decide +kernel
theorem dX0_shipsInPort_21 : decode cX0_shipsInPort 21 = .ok (.iconst 1, 1) := by decide +kernel
theorem dX0_shipsInPort_22 : decode cX0_shipsInPort 22 = .ok (.iload_n 2, 1) := by decide +kernel
theorem dX0_shipsInPort_23 : decode cX0_shipsInPort 23 = .ok (.ishl, 1) := by decide +kernel
theorem dX0_shipsInPort_24 : decode cX0_shipsInPort 24 = .ok (.ior, 1) := by decide +kernel
theorem dX0_shipsInPort_25 : decode cX0_shipsInPort 25 = .ok (.istore_n 1, 1) := by decide +kernel
theorem dX0_shipsInPort_26 : decode cX0_shipsInPort 26 = .ok (.iinc 2 1, 3) := by decide +kernel
theorem dX0_shipsInPort_29 : decode cX0_shipsInPort 29 = .ok (.goto (-25), 3) := by decide +kernel
theorem dX0_shipsInPort_32 : decode cX0_shipsInPort 32 = .ok (.iload_n 1, 1) := by decide +kernel
theorem dX0_shipsInPort_33 : decode cX0_shipsInPort 33 = .ok (.ireturn, 1) := by decide +kernel
set_option maxRecDepth 20000 in
theorem ggX0_couldAllLand_X0_shipHas : GoodIn wsX0_couldAllLand wsX0_shipHas := goodIn_r _ [6, 7, 8, 9, 10, 11, 12, 13, 14, 15, 16, 17, 18] (by decide +kernel) (by decide +kernel)
set_option maxRecDepth 20000 in
theorem gX0_couldAllLand_X0_shipHas : GoodIn wsX0_couldAllLand (wsV RX0 106 RX0 yX0_shipHas wsX0_shipHas) := goodIn_app (goodIn_of _ (by decide +kernel)) ggX0_couldAllLand_X0_shipHas
theorem dX0_couldAllLand_0 : decode cX0_couldAllLand 0 = .ok (.iconst 0, 1) := by decide +kernel
theorem dX0_couldAllLand_1 : decode cX0_couldAllLand 1 = .ok (.istore_n 2, 1) := by decide +kernel
theorem dX0_couldAllLand_2 : decode cX0_couldAllLand 2 = .ok (.iload_n 2, 1) := by decide +kernel
theorem dX0_couldAllLand_3 : decode cX0_couldAllLand 3 = .ok (.aload_n 0, 1) := by decide +kernel
theorem dX0_couldAllLand_4 : decode cX0_couldAllLand 4 = .ok (.getfield 28, 3) := by decide +kernel
theorem dX0_couldAllLand_7 : decode cX0_couldAllLand 7 = .ok (.if_icmp .ge 31, 3) := by decide +kernel
theorem dX0_couldAllLand_10 : decode cX0_couldAllLand 10 = .ok (.aload_n 0, 1) := by decide +kernel
theorem dX0_couldAllLand_11 : decode cX0_couldAllLand 11 = .ok (.iload_n 2, 1) := by decide +kernel
theorem dX0_couldAllLand_12 : decode cX0_couldAllLand 12 = .ok (.iconst 0, 1) := by decide +kernel
theorem dX0_couldAllLand_13 : decode cX0_couldAllLand 13 = .ok (.invokevirtual 106, 3) := by decide +kernel
theorem dX0_couldAllLand_16 : decode cX0_couldAllLand 16 = .ok (.iload_n 1, 1) := by decide +kernel
theorem dX0_couldAllLand_17 : decode cX0_couldAllLand 17 = .ok (.aload_n 0, 1) := by decide +kernel
theorem dX0_couldAllLand_18 : decode cX0_couldAllLand 18 = .ok (.iload_n 2, 1) := by decide +kernel
theorem dX0_couldAllLand_19 : decode cX0_couldAllLand 19 = .ok (.iconst 2, 1) := by decide +kernel
theorem dX0_couldAllLand_20 : decode cX0_couldAllLand 20 = .ok (.invokevirtual 106, 3) := by decide +kernel
theorem dX0_couldAllLand_23 : decode cX0_couldAllLand 23 = .ok (.imul, 1) := by decide +kernel
theorem dX0_couldAllLand_24 : decode cX0_couldAllLand 24 = .ok (.iadd, 1) := by decide +kernel
theorem dX0_couldAllLand_25 : decode cX0_couldAllLand 25 = .ok (.bipush 15, 2) := by decide +kernel
theorem dX0_couldAllLand_27 : decode cX0_couldAllLand 27 = .ok (.if_icmp .ge 5, 3) := by decide +kernel
theorem dX0_couldAllLand_30 : decode cX0_couldAllLand 30 = .ok (.iconst 0, 1) := by decide +kernel
theorem dX0_couldAllLand_31 : decode cX0_couldAllLand 31 = .ok (.ireturn, 1) := by decide +kernel
theorem dX0_couldAllLand_32 : decode cX0_couldAllLand 32 = .ok (.iinc 2 1, 3) := by decide +kernel
theorem dX0_couldAllLand_35 : decode cX0_couldAllLand 35 = .ok (.goto (-33), 3) := by decide +kernel
theorem dX0_couldAllLand_38 : decode cX0_couldAllLand 38 = .ok (.iconst 1, 1) := by decide +kernel
theorem dX0_couldAllLand_39 : decode cX0_couldAllLand 39 = .ok (.ireturn, 1) := by decide +kernel
set_option maxRecDepth 20000 in
theorem ggX0_shipsThatGoOn_X0_shipHas : GoodIn wsX0_shipsThatGoOn wsX0_shipHas := goodIn_r _ [6, 7, 8, 9, 10, 50, 51, 52, 53, 54, 55, 56, 57] (by decide +kernel) (by decide +kernel)
set_option maxRecDepth 20000 in
theorem gX0_shipsThatGoOn_X0_shipHas : GoodIn wsX0_shipsThatGoOn (wsV RX0 106 RX0 yX0_shipHas wsX0_shipHas) := goodIn_app (goodIn_of _ (by decide +kernel)) ggX0_shipsThatGoOn_X0_shipHas
set_option maxRecDepth 20000 in
theorem ggX0_shipsThatGoOn_X0_goesOnAt : GoodIn wsX0_shipsThatGoOn wsX0_goesOnAt := goodIn_r _ [14, 2, 3, 4, 5, 6, 7, 8, 9, 10, 15, 16, 17, 18, 19, 20, 21, 22, 23, 24, 25, 26, 27, 28, 29, 30, 31, 32, 33, 34, 35, 36, 37, 38, 39, 40, 41, 42, 43, 44, 45, 46, 47, 48, 49, 50, 51, 52, 53, 54, 55, 56, 57] (by decide +kernel) (by decide +kernel)
set_option maxRecDepth 20000 in
theorem gX0_shipsThatGoOn_X0_goesOnAt : GoodIn wsX0_shipsThatGoOn (wsV RX0 140 RX0 yX0_goesOnAt wsX0_goesOnAt) := goodIn_app (goodIn_of _ (by decide +kernel)) ggX0_shipsThatGoOn_X0_goesOnAt
theorem dX0_shipsThatGoOn_0 : decode cX0_shipsThatGoOn 0 = .ok (.iconst 0, 1) := by decide +kernel
theorem dX0_shipsThatGoOn_1 : decode cX0_shipsThatGoOn 1 = .ok (.istore_n 1, 1) := by decide +kernel
theorem dX0_shipsThatGoOn_2 : decode cX0_shipsThatGoOn 2 = .ok (.iconst 0, 1) := by decide +kernel
theorem dX0_shipsThatGoOn_3 : decode cX0_shipsThatGoOn 3 = .ok (.istore_n 2, 1) := by decide +kernel
theorem dX0_shipsThatGoOn_4 : decode cX0_shipsThatGoOn 4 = .ok (.iload_n 2, 1) := by decide +kernel
theorem dX0_shipsThatGoOn_5 : decode cX0_shipsThatGoOn 5 = .ok (.aload_n 0, 1) := by decide +kernel
theorem dX0_shipsThatGoOn_6 : decode cX0_shipsThatGoOn 6 = .ok (.getfield 28, 3) := by decide +kernel
theorem dX0_shipsThatGoOn_9 : decode cX0_shipsThatGoOn 9 = .ok (.if_icmp .ge 29, 3) := by decide +kernel
theorem dX0_shipsThatGoOn_12 : decode cX0_shipsThatGoOn 12 = .ok (.aload_n 0, 1) := by decide +kernel
theorem dX0_shipsThatGoOn_13 : decode cX0_shipsThatGoOn 13 = .ok (.iload_n 2, 1) := by decide +kernel
theorem dX0_shipsThatGoOn_14 : decode cX0_shipsThatGoOn 14 = .ok (.aload_n 0, 1) := by decide +kernel
theorem dX0_shipsThatGoOn_15 : decode cX0_shipsThatGoOn 15 = .ok (.iload_n 2, 1) := by decide +kernel
theorem dX0_shipsThatGoOn_16 : decode cX0_shipsThatGoOn 16 = .ok (.iconst 0, 1) := by decide +kernel
theorem dX0_shipsThatGoOn_17 : decode cX0_shipsThatGoOn 17 = .ok (.invokevirtual 106, 3) := by decide +kernel
theorem dX0_shipsThatGoOn_20 : decode cX0_shipsThatGoOn 20 = .ok (.invokevirtual 140, 3) := by decide +kernel
theorem dX0_shipsThatGoOn_23 : decode cX0_shipsThatGoOn 23 = .ok (.ifCond .eq 9, 3) := by decide +kernel
theorem dX0_shipsThatGoOn_26 : decode cX0_shipsThatGoOn 26 = .ok (.iload_n 1, 1) := by decide +kernel
theorem dX0_shipsThatGoOn_27 : decode cX0_shipsThatGoOn 27 = .ok (.iconst 1, 1) := by decide +kernel
theorem dX0_shipsThatGoOn_28 : decode cX0_shipsThatGoOn 28 = .ok (.iload_n 2, 1) := by decide +kernel
theorem dX0_shipsThatGoOn_29 : decode cX0_shipsThatGoOn 29 = .ok (.ishl, 1) := by decide +kernel
theorem dX0_shipsThatGoOn_30 : decode cX0_shipsThatGoOn 30 = .ok (.ior, 1) := by decide +kernel
theorem dX0_shipsThatGoOn_31 : decode cX0_shipsThatGoOn 31 = .ok (.istore_n 1, 1) := by decide +kernel
theorem dX0_shipsThatGoOn_32 : decode cX0_shipsThatGoOn 32 = .ok (.iinc 2 1, 3) := by decide +kernel
theorem dX0_shipsThatGoOn_35 : decode cX0_shipsThatGoOn 35 = .ok (.goto (-31), 3) := by decide +kernel
theorem dX0_shipsThatGoOn_38 : decode cX0_shipsThatGoOn 38 = .ok (.iload_n 1, 1) := by decide +kernel
theorem dX0_shipsThatGoOn_39 : decode cX0_shipsThatGoOn 39 = .ok (.ireturn, 1) := by decide +kernel
set_option maxRecDepth 20000 in
theorem ggX0_cellsWhereGoesOn_X0_goesOnAt : GoodIn wsX0_cellsWhereGoesOn wsX0_goesOnAt := goodIn_r _ [5, 6, 7, 8, 4, 9, 10, 11, 12, 13, 14, 15, 16, 17, 18, 19, 20, 21, 22, 23, 24, 25, 26, 27, 28, 29, 30, 31, 32, 33, 34, 35, 36, 37, 38, 39, 40, 41, 42, 43, 44, 45, 46, 47, 48, 49, 50, 51, 52, 53, 54, 55, 56] (by decide +kernel) (by decide +kernel)
set_option maxRecDepth 20000 in
theorem gX0_cellsWhereGoesOn_X0_goesOnAt : GoodIn wsX0_cellsWhereGoesOn (wsV RX0 140 RX0 yX0_goesOnAt wsX0_goesOnAt) := goodIn_app (goodIn_of _ (by decide +kernel)) ggX0_cellsWhereGoesOn_X0_goesOnAt
theorem dX0_cellsWhereGoesOn_0 : decode cX0_cellsWhereGoesOn 0 = .ok (.iconst 0, 1) := by decide +kernel
theorem dX0_cellsWhereGoesOn_1 : decode cX0_cellsWhereGoesOn 1 = .ok (.istore_n 2, 1) := by decide +kernel
theorem dX0_cellsWhereGoesOn_2 : decode cX0_cellsWhereGoesOn 2 = .ok (.iconst 0, 1) := by decide +kernel
theorem dX0_cellsWhereGoesOn_3 : decode cX0_cellsWhereGoesOn 3 = .ok (.istore_n 3, 1) := by decide +kernel
theorem dX0_cellsWhereGoesOn_4 : decode cX0_cellsWhereGoesOn 4 = .ok (.iload_n 3, 1) := by decide +kernel
theorem dX0_cellsWhereGoesOn_5 : decode cX0_cellsWhereGoesOn 5 = .ok (.bipush 16, 2) := by decide +kernel
theorem dX0_cellsWhereGoesOn_7 : decode cX0_cellsWhereGoesOn 7 = .ok (.if_icmp .ge 21, 3) := by decide +kernel
theorem dX0_cellsWhereGoesOn_10 : decode cX0_cellsWhereGoesOn 10 = .ok (.aload_n 0, 1) := by decide +kernel
theorem dX0_cellsWhereGoesOn_11 : decode cX0_cellsWhereGoesOn 11 = .ok (.iload_n 1, 1) := by decide +kernel
theorem dX0_cellsWhereGoesOn_12 : decode cX0_cellsWhereGoesOn 12 = .ok (.iload_n 3, 1) := by decide +kernel
theorem dX0_cellsWhereGoesOn_13 : decode cX0_cellsWhereGoesOn 13 = .ok (.invokevirtual 140, 3) := by decide +kernel
theorem dX0_cellsWhereGoesOn_16 : decode cX0_cellsWhereGoesOn 16 = .ok (.ifCond .eq 6, 3) := by decide +kernel
theorem dX0_cellsWhereGoesOn_19 : decode cX0_cellsWhereGoesOn 19 = .ok (.iinc 2 1, 3) := by decide +kernel
theorem dX0_cellsWhereGoesOn_22 : decode cX0_cellsWhereGoesOn 22 = .ok (.iinc 3 1, 3) := by decide +kernel
theorem dX0_cellsWhereGoesOn_25 : decode cX0_cellsWhereGoesOn 25 = .ok (.goto (-21), 3) := by decide +kernel
theorem dX0_cellsWhereGoesOn_28 : decode cX0_cellsWhereGoesOn 28 = .ok (.iload_n 2, 1) := by decide +kernel
theorem dX0_cellsWhereGoesOn_29 : decode cX0_cellsWhereGoesOn 29 = .ok (.ireturn, 1) := by decide +kernel
set_option maxRecDepth 20000 in
theorem ggX0_finishedSayings_X0_isFinished : GoodIn wsX0_finishedSayings wsX0_isFinished := goodIn_r _ [6, 7, 8, 9, 5, 10, 11, 12, 13, 14, 15, 16, 17, 18, 19] (by decide +kernel) (by decide +kernel)
set_option maxRecDepth 20000 in
theorem gX0_finishedSayings_X0_isFinished : GoodIn wsX0_finishedSayings (wsV RX0 88 RX0 yX0_isFinished wsX0_isFinished) := goodIn_app (goodIn_of _ (by decide +kernel)) ggX0_finishedSayings_X0_isFinished
theorem dX0_finishedSayings_0 : decode cX0_finishedSayings 0 = .ok (.iconst 0, 1) := by decide +kernel
theorem dX0_finishedSayings_1 : decode cX0_finishedSayings 1 = .ok (.istore_n 1, 1) := by decide +kernel
theorem dX0_finishedSayings_2 : decode cX0_finishedSayings 2 = .ok (.iconst 0, 1) := by decide +kernel
theorem dX0_finishedSayings_3 : decode cX0_finishedSayings 3 = .ok (.istore_n 2, 1) := by decide +kernel
theorem dX0_finishedSayings_4 : decode cX0_finishedSayings 4 = .ok (.iload_n 2, 1) := by decide +kernel
theorem dX0_finishedSayings_5 : decode cX0_finishedSayings 5 = .ok (.aload_n 0, 1) := by decide +kernel
theorem dX0_finishedSayings_6 : decode cX0_finishedSayings 6 = .ok (.getfield 24, 3) := by decide +kernel
theorem dX0_finishedSayings_9 : decode cX0_finishedSayings 9 = .ok (.if_icmp .ge 23, 3) := by decide +kernel
theorem dX0_finishedSayings_12 : decode cX0_finishedSayings 12 = .ok (.aload_n 0, 1) := by decide +kernel
theorem dX0_finishedSayings_13 : decode cX0_finishedSayings 13 = .ok (.iload_n 2, 1) := by decide +kernel
theorem dX0_finishedSayings_14 : decode cX0_finishedSayings 14 = .ok (.invokevirtual 88, 3) := by decide +kernel
theorem dX0_finishedSayings_17 : decode cX0_finishedSayings 17 = .ok (.ifCond .eq 9, 3) := by decide +kernel
theorem dX0_finishedSayings_20 : decode cX0_finishedSayings 20 = .ok (.iload_n 1, 1) := by decide +kernel
theorem dX0_finishedSayings_21 : decode cX0_finishedSayings 21 = .ok (.iconst 1, 1) := by decide +kernel
theorem dX0_finishedSayings_22 : decode cX0_finishedSayings 22 = .ok (.iload_n 2, 1) := by decide +kernel
theorem dX0_finishedSayings_23 : decode cX0_finishedSayings 23 = .ok (.ishl, 1) := by decide +kernel
theorem dX0_finishedSayings_24 : decode cX0_finishedSayings 24 = .ok (.ior, 1) := by decide +kernel
theorem dX0_finishedSayings_25 : decode cX0_finishedSayings 25 = .ok (.istore_n 1, 1) := by decide +kernel
theorem dX0_finishedSayings_26 : decode cX0_finishedSayings 26 = .ok (.iinc 2 1, 3) := by decide +kernel
theorem dX0_finishedSayings_29 : decode cX0_finishedSayings 29 = .ok (.goto (-25), 3) := by decide +kernel
theorem dX0_finishedSayings_32 : decode cX0_finishedSayings 32 = .ok (.iload_n 1, 1) := by decide +kernel
theorem dX0_finishedSayings_33 : decode cX0_finishedSayings 33 = .ok (.ireturn, 1) := by decide +kernel
set_option maxRecDepth 20000 in
theorem ggX0_vagueTogether_X0_isFinished : GoodIn wsX0_vagueTogether wsX0_isFinished := goodIn_r _ [6, 7, 8, 9, 5, 10, 11, 12, 13, 14, 15, 16, 17, 18, 19] (by decide +kernel) (by decide +kernel)
set_option maxRecDepth 20000 in
theorem gX0_vagueTogether_X0_isFinished : GoodIn wsX0_vagueTogether (wsV RX0 88 RX0 yX0_isFinished wsX0_isFinished) := goodIn_app (goodIn_of _ (by decide +kernel)) ggX0_vagueTogether_X0_isFinished
set_option maxRecDepth 20000 in
theorem ggX0_vagueTogether_X0_sayingHas : GoodIn wsX0_vagueTogether wsX0_sayingHas := goodIn_r _ [10, 11, 12, 13, 14, 15, 16, 17, 18, 19] (by decide +kernel) (by decide +kernel)
set_option maxRecDepth 20000 in
theorem gX0_vagueTogether_X0_sayingHas : GoodIn wsX0_vagueTogether (wsV RX0 68 RX0 yX0_sayingHas wsX0_sayingHas) := goodIn_app (goodIn_of _ (by decide +kernel)) ggX0_vagueTogether_X0_sayingHas
theorem dX0_vagueTogether_0 : decode cX0_vagueTogether 0 = .ok (.iconst 0, 1) := by decide +kernel
theorem dX0_vagueTogether_1 : decode cX0_vagueTogether 1 = .ok (.istore_n 1, 1) := by decide +kernel
theorem dX0_vagueTogether_2 : decode cX0_vagueTogether 2 = .ok (.iconst 0, 1) := by decide +kernel
theorem dX0_vagueTogether_3 : decode cX0_vagueTogether 3 = .ok (.istore_n 2, 1) := by decide +kernel
theorem dX0_vagueTogether_4 : decode cX0_vagueTogether 4 = .ok (.iload_n 2, 1) := by decide +kernel
theorem dX0_vagueTogether_5 : decode cX0_vagueTogether 5 = .ok (.aload_n 0, 1) := by decide +kernel
theorem dX0_vagueTogether_6 : decode cX0_vagueTogether 6 = .ok (.getfield 24, 3) := by decide +kernel
theorem dX0_vagueTogether_9 : decode cX0_vagueTogether 9 = .ok (.if_icmp .ge 26, 3) := by decide +kernel
theorem dX0_vagueTogether_12 : decode cX0_vagueTogether 12 = .ok (.aload_n 0, 1) := by decide +kernel
theorem dX0_vagueTogether_13 : decode cX0_vagueTogether 13 = .ok (.iload_n 2, 1) := by decide +kernel
theorem dX0_vagueTogether_14 : decode cX0_vagueTogether 14 = .ok (.invokevirtual 88, 3) := by decide +kernel
theorem dX0_vagueTogether_17 : decode cX0_vagueTogether 17 = .ok (.ifCond .ne 12, 3) := by decide +kernel
theorem dX0_vagueTogether_20 : decode cX0_vagueTogether 20 = .ok (.iload_n 1, 1) := by decide +kernel
theorem dX0_vagueTogether_21 : decode cX0_vagueTogether 21 = .ok (.aload_n 0, 1) := by decide +kernel
theorem dX0_vagueTogether_22 : decode cX0_vagueTogether 22 = .ok (.iload_n 2, 1) := by decide +kernel
theorem dX0_vagueTogether_23 : decode cX0_vagueTogether 23 = .ok (.iconst 2, 1) := by decide +kernel
theorem dX0_vagueTogether_24 : decode cX0_vagueTogether 24 = .ok (.invokevirtual 68, 3) := by decide +kernel
theorem dX0_vagueTogether_27 : decode cX0_vagueTogether 27 = .ok (.iadd, 1) := by decide +kernel
theorem dX0_vagueTogether_28 : decode cX0_vagueTogether 28 = .ok (.istore_n 1, 1) := by decide +kernel
theorem dX0_vagueTogether_29 : decode cX0_vagueTogether 29 = .ok (.iinc 2 1, 3) := by decide +kernel
theorem dX0_vagueTogether_32 : decode cX0_vagueTogether 32 = .ok (.goto (-28), 3) := by decide +kernel
theorem dX0_vagueTogether_35 : decode cX0_vagueTogether 35 = .ok (.iload_n 1, 1) := by decide +kernel
theorem dX0_vagueTogether_36 : decode cX0_vagueTogether 36 = .ok (.ireturn, 1) := by decide +kernel
set_option maxRecDepth 20000 in
theorem ggX0_waitedTogether_X0_shipHas : GoodIn wsX0_waitedTogether wsX0_shipHas := goodIn_r _ [6, 7, 8, 9, 10, 11, 12, 13, 14, 15, 16, 17, 18] (by decide +kernel) (by decide +kernel)
set_option maxRecDepth 20000 in
theorem gX0_waitedTogether_X0_shipHas : GoodIn wsX0_waitedTogether (wsV RX0 106 RX0 yX0_shipHas wsX0_shipHas) := goodIn_app (goodIn_of _ (by decide +kernel)) ggX0_waitedTogether_X0_shipHas
theorem dX0_waitedTogether_0 : decode cX0_waitedTogether 0 = .ok (.iconst 0, 1) := by decide +kernel
theorem dX0_waitedTogether_1 : decode cX0_waitedTogether 1 = .ok (.istore_n 1, 1) := by decide +kernel
theorem dX0_waitedTogether_2 : decode cX0_waitedTogether 2 = .ok (.iconst 0, 1) := by decide +kernel
theorem dX0_waitedTogether_3 : decode cX0_waitedTogether 3 = .ok (.istore_n 2, 1) := by decide +kernel
theorem dX0_waitedTogether_4 : decode cX0_waitedTogether 4 = .ok (.iload_n 2, 1) := by decide +kernel
theorem dX0_waitedTogether_5 : decode cX0_waitedTogether 5 = .ok (.aload_n 0, 1) := by decide +kernel
theorem dX0_waitedTogether_6 : decode cX0_waitedTogether 6 = .ok (.getfield 28, 3) := by decide +kernel
theorem dX0_waitedTogether_9 : decode cX0_waitedTogether 9 = .ok (.if_icmp .ge 18, 3) := by decide +kernel
theorem dX0_waitedTogether_12 : decode cX0_waitedTogether 12 = .ok (.iload_n 1, 1) := by decide +kernel
theorem dX0_waitedTogether_13 : decode cX0_waitedTogether 13 = .ok (.aload_n 0, 1) := by decide +kernel
theorem dX0_waitedTogether_14 : decode cX0_waitedTogether 14 = .ok (.iload_n 2, 1) := by decide +kernel
theorem dX0_waitedTogether_15 : decode cX0_waitedTogether 15 = .ok (.iconst 3, 1) := by decide +kernel
theorem dX0_waitedTogether_16 : decode cX0_waitedTogether 16 = .ok (.invokevirtual 106, 3) := by decide +kernel
theorem dX0_waitedTogether_19 : decode cX0_waitedTogether 19 = .ok (.iadd, 1) := by decide +kernel
theorem dX0_waitedTogether_20 : decode cX0_waitedTogether 20 = .ok (.istore_n 1, 1) := by decide +kernel
theorem dX0_waitedTogether_21 : decode cX0_waitedTogether 21 = .ok (.iinc 2 1, 3) := by decide +kernel
theorem dX0_waitedTogether_24 : decode cX0_waitedTogether 24 = .ok (.goto (-20), 3) := by decide +kernel
theorem dX0_waitedTogether_27 : decode cX0_waitedTogether 27 = .ok (.iload_n 1, 1) := by decide +kernel
theorem dX0_waitedTogether_28 : decode cX0_waitedTogether 28 = .ok (.ireturn, 1) := by decide +kernel
set_option maxRecDepth 20000 in
theorem ggX0_thickestCell_X0_thickAt : GoodIn wsX0_thickestCell wsX0_thickAt := goodIn_r _ [5, 6, 7, 8, 9, 10, 11, 12, 13, 4, 14, 15, 16, 17, 18, 19, 20, 21, 22, 23, 24, 25, 26, 27, 28, 29, 30, 31, 32, 33, 34, 35, 36, 37, 38, 39, 40, 41, 42, 43, 44] (by decide +kernel) (by decide +kernel)
set_option maxRecDepth 20000 in
theorem gX0_thickestCell_X0_thickAt : GoodIn wsX0_thickestCell (wsV RX0 109 RX0 yX0_thickAt wsX0_thickAt) := goodIn_app (goodIn_of _ (by decide +kernel)) ggX0_thickestCell_X0_thickAt
theorem dX0_thickestCell_0 : decode cX0_thickestCell 0 = .ok (.iconst 0, 1) := by decide +kernel
theorem dX0_thickestCell_1 : decode cX0_thickestCell 1 = .ok (.istore_n 1, 1) := by decide +kernel
theorem dX0_thickestCell_2 : decode cX0_thickestCell 2 = .ok (.iconst (-1), 1) := by decide +kernel
theorem dX0_thickestCell_3 : decode cX0_thickestCell 3 = .ok (.istore_n 2, 1) := by decide +kernel
theorem dX0_thickestCell_4 : decode cX0_thickestCell 4 = .ok (.iconst 0, 1) := by decide +kernel
theorem dX0_thickestCell_5 : decode cX0_thickestCell 5 = .ok (.istore_n 3, 1) := by decide +kernel
theorem dX0_thickestCell_6 : decode cX0_thickestCell 6 = .ok (.iload_n 3, 1) := by decide +kernel
theorem dX0_thickestCell_7 : decode cX0_thickestCell 7 = .ok (.bipush 16, 2) := by decide +kernel
theorem dX0_thickestCell_9 : decode cX0_thickestCell 9 = .ok (.if_icmp .ge 27, 3) := by decide +kernel
theorem dX0_thickestCell_12 : decode cX0_thickestCell 12 = .ok (.aload_n 0, 1) := by decide +kernel
theorem dX0_thickestCell_13 : decode cX0_thickestCell 13 = .ok (.iload_n 3, 1) := by decide +kernel
theorem dX0_thickestCell_14 : decode cX0_thickestCell 14 = .ok (.invokevirtual 109, 3) := by decide +kernel
theorem dX0_thickestCell_17 : decode cX0_thickestCell 17 = .ok (.istore 4, 2) := by decide +kernel
theorem dX0_thickestCell_19 : decode cX0_thickestCell 19 = .ok (.iload 4, 2) := by decide +kernel
theorem dX0_thickestCell_21 : decode cX0_thickestCell 21 = .ok (.iload_n 2, 1) := by decide +kernel
theorem dX0_thickestCell_22 : decode cX0_thickestCell 22 = .ok (.if_icmp .le 8, 3) := by decide +kernel
theorem dX0_thickestCell_25 : decode cX0_thickestCell 25 = .ok (.iload 4, 2) := by decide +kernel
theorem dX0_thickestCell_27 : decode cX0_thickestCell 27 = .ok (.istore_n 2, 1) := by decide +kernel
theorem dX0_thickestCell_28 : decode cX0_thickestCell 28 = .ok (.iload_n 3, 1) := by decide +kernel
theorem dX0_thickestCell_29 : decode cX0_thickestCell 29 = .ok (.istore_n 1, 1) := by decide +kernel
theorem dX0_thickestCell_30 : decode cX0_thickestCell 30 = .ok (.iinc 3 1, 3) := by decide +kernel
theorem dX0_thickestCell_33 : decode cX0_thickestCell 33 = .ok (.goto (-27), 3) := by decide +kernel
theorem dX0_thickestCell_36 : decode cX0_thickestCell 36 = .ok (.iload_n 1, 1) := by decide +kernel
theorem dX0_thickestCell_37 : decode cX0_thickestCell 37 = .ok (.ireturn, 1) := by decide +kernel
set_option maxRecDepth 20000 in
theorem ggX0_clearCells_X0_thickAt : GoodIn wsX0_clearCells wsX0_thickAt := goodIn_r _ [5, 6, 7, 8, 9, 10, 11, 12, 13, 4, 14, 15, 16, 17, 18, 19, 20, 21, 22, 23, 24, 25, 26, 27, 28, 29, 30, 31, 32, 33, 34, 35, 36, 37, 38, 39, 40, 41, 42, 43, 44] (by decide +kernel) (by decide +kernel)
set_option maxRecDepth 20000 in
theorem gX0_clearCells_X0_thickAt : GoodIn wsX0_clearCells (wsV RX0 109 RX0 yX0_thickAt wsX0_thickAt) := goodIn_app (goodIn_of _ (by decide +kernel)) ggX0_clearCells_X0_thickAt
theorem dX0_clearCells_0 : decode cX0_clearCells 0 = .ok (.iconst 0, 1) := by decide +kernel
theorem dX0_clearCells_1 : decode cX0_clearCells 1 = .ok (.istore_n 1, 1) := by decide +kernel
theorem dX0_clearCells_2 : decode cX0_clearCells 2 = .ok (.iconst 0, 1) := by decide +kernel
theorem dX0_clearCells_3 : decode cX0_clearCells 3 = .ok (.istore_n 2, 1) := by decide +kernel
theorem dX0_clearCells_4 : decode cX0_clearCells 4 = .ok (.iload_n 2, 1) := by decide +kernel
theorem dX0_clearCells_5 : decode cX0_clearCells 5 = .ok (.bipush 16, 2) := by decide +kernel
theorem dX0_clearCells_7 : decode cX0_clearCells 7 = .ok (.if_icmp .ge 23, 3) := by decide +kernel
theorem dX0_clearCells_10 : decode cX0_clearCells 10 = .ok (.aload_n 0, 1) := by decide +kernel
theorem dX0_clearCells_11 : decode cX0_clearCells 11 = .ok (.iload_n 2, 1) := by decide +kernel
theorem dX0_clearCells_12 : decode cX0_clearCells 12 = .ok (.invokevirtual 109, 3) := by decide +kernel
theorem dX0_clearCells_15 : decode cX0_clearCells 15 = .ok (.ifCond .ne 9, 3) := by decide +kernel
theorem dX0_clearCells_18 : decode cX0_clearCells 18 = .ok (.iload_n 1, 1) := by decide +kernel
theorem dX0_clearCells_19 : decode cX0_clearCells 19 = .ok (.iconst 1, 1) := by decide +kernel
theorem dX0_clearCells_20 : decode cX0_clearCells 20 = .ok (.iload_n 2, 1) := by decide +kernel
theorem dX0_clearCells_21 : decode cX0_clearCells 21 = .ok (.ishl, 1) := by decide +kernel
theorem dX0_clearCells_22 : decode cX0_clearCells 22 = .ok (.ior, 1) := by decide +kernel
theorem dX0_clearCells_23 : decode cX0_clearCells 23 = .ok (.istore_n 1, 1) := by decide +kernel
theorem dX0_clearCells_24 : decode cX0_clearCells 24 = .ok (.iinc 2 1, 3) := by decide +kernel
theorem dX0_clearCells_27 : decode cX0_clearCells 27 = .ok (.goto (-23), 3) := by decide +kernel
theorem dX0_clearCells_30 : decode cX0_clearCells 30 = .ok (.iload_n 1, 1) := by decide +kernel
theorem dX0_clearCells_31 : decode cX0_clearCells 31 = .ok (.ireturn, 1) := by decide +kernel
theorem dX1_thickens_0 : decode cX1_thickens 0 = .ok (.iload_n 1, 1) := by decide +kernel
theorem dX1_thickens_1 : decode cX1_thickens 1 = .ok (.iload_n 2, 1) := by decide +kernel
theorem dX1_thickens_2 : decode cX1_thickens 2 = .ok (.bipush 10, 2) := by decide +kernel
theorem dX1_thickens_4 : decode cX1_thickens 4 = .ok (.idiv, 1) := by decide +kernel
theorem dX1_thickens_5 : decode cX1_thickens 5 = .ok (.iadd, 1) := by decide +kernel
theorem dX1_thickens_6 : decode cX1_thickens 6 = .ok (.istore_n 3, 1) := by decide +kernel
theorem dX1_thickens_7 : decode cX1_thickens 7 = .ok (.iconst 2, 1) := by decide +kernel
theorem dX1_thickens_8 : decode cX1_thickens 8 = .ok (.iload_n 3, 1) := by decide +kernel
theorem dX1_thickens_9 : decode cX1_thickens 9 = .ok (.imul, 1) := by decide +kernel
theorem dX1_thickens_10 : decode cX1_thickens 10 = .ok (.istore 4, 2) := by decide +kernel
theorem dX1_thickens_12 : decode cX1_thickens 12 = .ok (.iload_n 1, 1) := by decide +kernel
theorem dX1_thickens_13 : decode cX1_thickens 13 = .ok (.iconst 2, 1) := by decide +kernel
theorem dX1_thickens_14 : decode cX1_thickens 14 = .ok (.idiv, 1) := by decide +kernel
theorem dX1_thickens_15 : decode cX1_thickens 15 = .ok (.istore 5, 2) := by decide +kernel
theorem dX1_thickens_17 : decode cX1_thickens 17 = .ok (.iload_n 0, 1) := by decide +kernel
theorem dX1_thickens_18 : decode cX1_thickens 18 = .ok (.tableswitch 61 1 6 #[38, 49, 40, 43, 58, 52], 38) := by decide +kernel
theorem dX1_thickens_56 : decode cX1_thickens 56 = .ok (.iload_n 3, 1) := by decide +kernel
theorem dX1_thickens_57 : decode cX1_thickens 57 = .ok (.ireturn, 1) := by decide +kernel
theorem dX1_thickens_58 : decode cX1_thickens 58 = .ok (.iload 4, 2) := by decide +kernel
theorem dX1_thickens_60 : decode cX1_thickens 60 = .ok (.ireturn, 1) := by decide +kernel
theorem dX1_thickens_61 : decode cX1_thickens 61 = .ok (.iload 4, 2) := by decide +kernel
theorem dX1_thickens_63 : decode cX1_thickens 63 = .ok (.bipush 40, 2) := by decide +kernel
theorem dX1_thickens_65 : decode cX1_thickens 65 = .ok (.iadd, 1) := by decide +kernel
theorem dX1_thickens_66 : decode cX1_thickens 66 = .ok (.ireturn, 1) := by decide +kernel
theorem dX1_thickens_67 : decode cX1_thickens 67 = .ok (.iload 5, 2) := by decide +kernel
theorem dX1_thickens_69 : decode cX1_thickens 69 = .ok (.ireturn, 1) := by decide +kernel
theorem dX1_thickens_70 : decode cX1_thickens 70 = .ok (.iload 5, 2) := by decide +kernel
theorem dX1_thickens_72 : decode cX1_thickens 72 = .ok (.bipush 15, 2) := by decide +kernel
theorem dX1_thickens_74 : decode cX1_thickens 74 = .ok (.iadd, 1) := by decide +kernel
theorem dX1_thickens_75 : decode cX1_thickens 75 = .ok (.ireturn, 1) := by decide +kernel
theorem dX1_thickens_76 : decode cX1_thickens 76 = .ok (.bipush (-30), 2) := by decide +kernel
theorem dX1_thickens_78 : decode cX1_thickens 78 = .ok (.ireturn, 1) := by decide +kernel
theorem dX1_thickens_79 : decode cX1_thickens 79 = .ok (.iload_n 1, 1) := by decide +kernel
theorem dX1_thickens_80 : decode cX1_thickens 80 = .ok (.ireturn, 1) := by decide +kernel
theorem dX1_reaches_0 : decode cX1_reaches 0 = .ok (.iconst 2, 1) := by decide +kernel
theorem dX1_reaches_1 : decode cX1_reaches 1 = .ok (.istore_n 1, 1) := by decide +kernel
theorem dX1_reaches_2 : decode cX1_reaches 2 = .ok (.iload_n 1, 1) := by decide +kernel
theorem dX1_reaches_3 : decode cX1_reaches 3 = .ok (.iconst 1, 1) := by decide +kernel
theorem dX1_reaches_4 : decode cX1_reaches 4 = .ok (.isub, 1) := by decide +kernel
theorem dX1_reaches_5 : decode cX1_reaches 5 = .ok (.istore_n 2, 1) := by decide +kernel
theorem dX1_reaches_6 : decode cX1_reaches 6 = .ok (.iconst 2, 1) := by decide +kernel
theorem dX1_reaches_7 : decode cX1_reaches 7 = .ok (.iload_n 1, 1) := by decide +kernel
theorem dX1_reaches_8 : decode cX1_reaches 8 = .ok (.imul, 1) := by decide +kernel
theorem dX1_reaches_9 : decode cX1_reaches 9 = .ok (.istore_n 3, 1) := by decide +kernel
theorem dX1_reaches_10 : decode cX1_reaches 10 = .ok (.iload_n 0, 1) := by decide +kernel
theorem dX1_reaches_11 : decode cX1_reaches 11 = .ok (.tableswitch 47 2 6 #[39, 33, 35, 45, 41], 33) := by decide +kernel
theorem dX1_reaches_44 : decode cX1_reaches 44 = .ok (.iload_n 2, 1) := by decide +kernel
theorem dX1_reaches_45 : decode cX1_reaches 45 = .ok (.ireturn, 1) := by decide +kernel
theorem dX1_reaches_46 : decode cX1_reaches 46 = .ok (.iload_n 2, 1) := by decide +kernel
theorem dX1_reaches_47 : decode cX1_reaches 47 = .ok (.iconst 4, 1) := by decide +kernel
theorem dX1_reaches_48 : decode cX1_reaches 48 = .ok (.iadd, 1) := by decide +kernel
theorem dX1_reaches_49 : decode cX1_reaches 49 = .ok (.ireturn, 1) := by decide +kernel
theorem dX1_reaches_50 : decode cX1_reaches 50 = .ok (.iload_n 3, 1) := by decide +kernel
theorem dX1_reaches_51 : decode cX1_reaches 51 = .ok (.ireturn, 1) := by decide +kernel
theorem dX1_reaches_52 : decode cX1_reaches 52 = .ok (.iload_n 3, 1) := by decide +kernel
theorem dX1_reaches_53 : decode cX1_reaches 53 = .ok (.iconst 1, 1) := by decide +kernel
theorem dX1_reaches_54 : decode cX1_reaches 54 = .ok (.isub, 1) := by decide +kernel
theorem dX1_reaches_55 : decode cX1_reaches 55 = .ok (.ireturn, 1) := by decide +kernel
theorem dX1_reaches_56 : decode cX1_reaches 56 = .ok (.iconst 3, 1) := by decide +kernel
theorem dX1_reaches_57 : decode cX1_reaches 57 = .ok (.ireturn, 1) := by decide +kernel
theorem dX1_reaches_58 : decode cX1_reaches 58 = .ok (.iload_n 1, 1) := by decide +kernel
theorem dX1_reaches_59 : decode cX1_reaches 59 = .ok (.ireturn, 1) := by decide +kernel
theorem dX1_blurs_0 : decode cX1_blurs 0 = .ok (.iconst 1, 1) := by decide +kernel
theorem dX1_blurs_1 : decode cX1_blurs 1 = .ok (.istore_n 2, 1) := by decide +kernel
theorem dX1_blurs_2 : decode cX1_blurs 2 = .ok (.iload_n 2, 1) := by decide +kernel
theorem dX1_blurs_3 : decode cX1_blurs 3 = .ok (.iconst 1, 1) := by decide +kernel
theorem dX1_blurs_4 : decode cX1_blurs 4 = .ok (.iadd, 1) := by decide +kernel
theorem dX1_blurs_5 : decode cX1_blurs 5 = .ok (.istore_n 3, 1) := by decide +kernel
theorem dX1_blurs_6 : decode cX1_blurs 6 = .ok (.iload_n 1, 1) := by decide +kernel
theorem dX1_blurs_7 : decode cX1_blurs 7 = .ok (.bipush 7, 2) := by decide +kernel
theorem dX1_blurs_9 : decode cX1_blurs 9 = .ok (.irem, 1) := by decide +kernel
theorem dX1_blurs_10 : decode cX1_blurs 10 = .ok (.bipush 6, 2) := by decide +kernel
theorem dX1_blurs_12 : decode cX1_blurs 12 = .ok (.if_icmp .ne 8, 3) := by decide +kernel
theorem dX1_blurs_15 : decode cX1_blurs 15 = .ok (.bipush 7, 2) := by decide +kernel
theorem dX1_blurs_17 : decode cX1_blurs 17 = .ok (.goto 4, 3) := by decide +kernel
theorem dX1_blurs_20 : decode cX1_blurs 20 = .ok (.iconst (-1), 1) := by decide +kernel
theorem dX1_blurs_21 : decode cX1_blurs 21 = .ok (.istore 4, 2) := by decide +kernel
theorem dX1_blurs_23 : decode cX1_blurs 23 = .ok (.iload_n 0, 1) := by decide +kernel
theorem dX1_blurs_24 : decode cX1_blurs 24 = .ok (.tableswitch 67 1 6 #[40, 57, 40, 42, 65, 60], 40) := by decide +kernel
theorem dX1_blurs_64 : decode cX1_blurs 64 = .ok (.iload_n 3, 1) := by decide +kernel
theorem dX1_blurs_65 : decode cX1_blurs 65 = .ok (.ireturn, 1) := by decide +kernel
theorem dX1_blurs_66 : decode cX1_blurs 66 = .ok (.iload_n 1, 1) := by decide +kernel
theorem dX1_blurs_67 : decode cX1_blurs 67 = .ok (.iconst 2, 1) := by decide +kernel
theorem dX1_blurs_68 : decode cX1_blurs 68 = .ok (.irem, 1) := by decide +kernel
theorem dX1_blurs_69 : decode cX1_blurs 69 = .ok (.iconst 1, 1) := by decide +kernel
theorem dX1_blurs_70 : decode cX1_blurs 70 = .ok (.if_icmp .ne 9, 3) := by decide +kernel
theorem dX1_blurs_73 : decode cX1_blurs 73 = .ok (.iload_n 3, 1) := by decide +kernel
theorem dX1_blurs_74 : decode cX1_blurs 74 = .ok (.iconst 3, 1) := by decide +kernel
theorem dX1_blurs_75 : decode cX1_blurs 75 = .ok (.iadd, 1) := by decide +kernel
theorem dX1_blurs_76 : decode cX1_blurs 76 = .ok (.goto 4, 3) := by decide +kernel
theorem dX1_blurs_79 : decode cX1_blurs 79 = .ok (.iload_n 3, 1) := by decide +kernel
theorem dX1_blurs_80 : decode cX1_blurs 80 = .ok (.ireturn, 1) := by decide +kernel
theorem dX1_blurs_81 : decode cX1_blurs 81 = .ok (.iload 4, 2) := by decide +kernel
theorem dX1_blurs_83 : decode cX1_blurs 83 = .ok (.ireturn, 1) := by decide +kernel
theorem dX1_blurs_84 : decode cX1_blurs 84 = .ok (.iload 4, 2) := by decide +kernel
theorem dX1_blurs_86 : decode cX1_blurs 86 = .ok (.iconst 2, 1) := by decide +kernel
theorem dX1_blurs_87 : decode cX1_blurs 87 = .ok (.iadd, 1) := by decide +kernel
theorem dX1_blurs_88 : decode cX1_blurs 88 = .ok (.ireturn, 1) := by decide +kernel
theorem dX1_blurs_89 : decode cX1_blurs 89 = .ok (.iconst 0, 1) := by decide +kernel
theorem dX1_blurs_90 : decode cX1_blurs 90 = .ok (.ireturn, 1) := by decide +kernel
theorem dX1_blurs_91 : decode cX1_blurs 91 = .ok (.iload_n 2, 1) := by decide +kernel
theorem dX1_blurs_92 : decode cX1_blurs 92 = .ok (.ireturn, 1) := by decide +kernel
theorem dX1_resists_0 : decode cX1_resists 0 = .ok (.bipush 99, 2) := by decide +kernel
theorem dX1_resists_2 : decode cX1_resists 2 = .ok (.istore_n 1, 1) := by decide +kernel
theorem dX1_resists_3 : decode cX1_resists 3 = .ok (.iload_n 1, 1) := by decide +kernel
theorem dX1_resists_4 : decode cX1_resists 4 = .ok (.bipush 19, 2) := by decide +kernel
theorem dX1_resists_6 : decode cX1_resists 6 = .ok (.isub, 1) := by decide +kernel
theorem dX1_resists_7 : decode cX1_resists 7 = .ok (.istore_n 2, 1) := by decide +kernel
theorem dX1_resists_8 : decode cX1_resists 8 = .ok (.iload_n 2, 1) := by decide +kernel
theorem dX1_resists_9 : decode cX1_resists 9 = .ok (.iconst 2, 1) := by decide +kernel
theorem dX1_resists_10 : decode cX1_resists 10 = .ok (.idiv, 1) := by decide +kernel
theorem dX1_resists_11 : decode cX1_resists 11 = .ok (.istore_n 3, 1) := by decide +kernel
theorem dX1_resists_12 : decode cX1_resists 12 = .ok (.iload_n 0, 1) := by decide +kernel
theorem dX1_resists_13 : decode cX1_resists 13 = .ok (.tableswitch 51 1 6 #[39, 51, 41, 43, 51, 48], 39) := by decide +kernel
theorem dX1_resists_52 : decode cX1_resists 52 = .ok (.iload_n 2, 1) := by decide +kernel
theorem dX1_resists_53 : decode cX1_resists 53 = .ok (.ireturn, 1) := by decide +kernel
theorem dX1_resists_54 : decode cX1_resists 54 = .ok (.iload_n 3, 1) := by decide +kernel
theorem dX1_resists_55 : decode cX1_resists 55 = .ok (.ireturn, 1) := by decide +kernel
theorem dX1_resists_56 : decode cX1_resists 56 = .ok (.iload_n 3, 1) := by decide +kernel
theorem dX1_resists_57 : decode cX1_resists 57 = .ok (.bipush 30, 2) := by decide +kernel
theorem dX1_resists_59 : decode cX1_resists 59 = .ok (.isub, 1) := by decide +kernel
theorem dX1_resists_60 : decode cX1_resists 60 = .ok (.ireturn, 1) := by decide +kernel
theorem dX1_resists_61 : decode cX1_resists 61 = .ok (.bipush 20, 2) := by decide +kernel
theorem dX1_resists_63 : decode cX1_resists 63 = .ok (.ireturn, 1) := by decide +kernel
theorem dX1_resists_64 : decode cX1_resists 64 = .ok (.iload_n 1, 1) := by decide +kernel
theorem dX1_resists_65 : decode cX1_resists 65 = .ok (.ireturn, 1) := by decide +kernel
theorem dX1_fades_0 : decode cX1_fades 0 = .ok (.iload_n 0, 1) := by decide +kernel
theorem dX1_fades_1 : decode cX1_fades 1 = .ok (.iconst 5, 1) := by decide +kernel
theorem dX1_fades_2 : decode cX1_fades 2 = .ok (.if_icmp .ne 10, 3) := by decide +kernel
theorem dX1_fades_5 : decode cX1_fades 5 = .ok (.iload_n 1, 1) := by decide +kernel
theorem dX1_fades_6 : decode cX1_fades 6 = .ok (.bipush 10, 2) := by decide +kernel
theorem dX1_fades_8 : decode cX1_fades 8 = .ok (.idiv, 1) := by decide +kernel
theorem dX1_fades_9 : decode cX1_fades 9 = .ok (.goto 6, 3) := by decide +kernel
theorem dX1_fades_12 : decode cX1_fades 12 = .ok (.iload_n 1, 1) := by decide +kernel
theorem dX1_fades_13 : decode cX1_fades 13 = .ok (.iconst 5, 1) := by decide +kernel
theorem dX1_fades_14 : decode cX1_fades 14 = .ok (.idiv, 1) := by decide +kernel
theorem dX1_fades_15 : decode cX1_fades 15 = .ok (.ireturn, 1) := by decide +kernel
set_option maxRecDepth 20000 in
theorem ggX1_isOrIsUnder_X1_parentOf : GoodIn wsX1_isOrIsUnder wsX1_parentOf := goodIn_r _ [4] (by decide +kernel) (by decide +kernel)
set_option maxRecDepth 20000 in
theorem gX1_isOrIsUnder_X1_parentOf : GoodIn wsX1_isOrIsUnder (va_wsS RX1 9 yX1_parentOf wsX1_parentOf) := goodIn_app (goodIn_of _ (by decide +kernel)) ggX1_isOrIsUnder_X1_parentOf
theorem dX1_isOrIsUnder_0 : decode cX1_isOrIsUnder 0 = .ok (.iload_n 0, 1) := by decide +kernel
theorem dX1_isOrIsUnder_1 : decode cX1_isOrIsUnder 1 = .ok (.istore_n 2, 1) := by decide +kernel
theorem dX1_isOrIsUnder_2 : decode cX1_isOrIsUnder 2 = .ok (.iconst 0, 1) := by decide +kernel
theorem dX1_isOrIsUnder_3 : decode cX1_isOrIsUnder 3 = .ok (.istore_n 3, 1) := by decide +kernel
theorem dX1_isOrIsUnder_4 : decode cX1_isOrIsUnder 4 = .ok (.iload_n 3, 1) := by decide +kernel
theorem dX1_isOrIsUnder_5 : decode cX1_isOrIsUnder 5 = .ok (.bipush 7, 2) := by decide +kernel
theorem dX1_isOrIsUnder_7 : decode cX1_isOrIsUnder 7 = .ok (.if_icmp .ge 23, 3) := by decide +kernel
theorem dX1_isOrIsUnder_10 : decode cX1_isOrIsUnder 10 = .ok (.iload_n 2, 1) := by decide +kernel
theorem dX1_isOrIsUnder_11 : decode cX1_isOrIsUnder 11 = .ok (.iload_n 1, 1) := by decide +kernel
theorem dX1_isOrIsUnder_12 : decode cX1_isOrIsUnder 12 = .ok (.if_icmp .eq 18, 3) := by decide +kernel
theorem dX1_isOrIsUnder_15 : decode cX1_isOrIsUnder 15 = .ok (.iload_n 2, 1) := by decide +kernel
theorem dX1_isOrIsUnder_16 : decode cX1_isOrIsUnder 16 = .ok (.ifCond .eq 14, 3) := by decide +kernel
theorem dX1_isOrIsUnder_19 : decode cX1_isOrIsUnder 19 = .ok (.iload_n 2, 1) := by decide +kernel
theorem dX1_isOrIsUnder_20 : decode cX1_isOrIsUnder 20 = .ok (.invokestatic 9, 3) := by decide +kernel
theorem dX1_isOrIsUnder_23 : decode cX1_isOrIsUnder 23 = .ok (.istore_n 2, 1) := by decide +kernel
theorem dX1_isOrIsUnder_24 : decode cX1_isOrIsUnder 24 = .ok (.iinc 3 1, 3) := by decide +kernel
theorem dX1_isOrIsUnder_27 : decode cX1_isOrIsUnder 27 = .ok (.goto (-23), 3) := by decide +kernel
theorem dX1_isOrIsUnder_30 : decode cX1_isOrIsUnder 30 = .ok (.iload_n 2, 1) := by decide +kernel
theorem dX1_isOrIsUnder_31 : decode cX1_isOrIsUnder 31 = .ok (.iload_n 1, 1) := by decide +kernel
theorem dX1_isOrIsUnder_32 : decode cX1_isOrIsUnder 32 = .ok (.if_icmp .ne 7, 3) := by decide +kernel
theorem dX1_isOrIsUnder_35 : decode cX1_isOrIsUnder 35 = .ok (.iconst 1, 1) := by decide +kernel
theorem dX1_isOrIsUnder_36 : decode cX1_isOrIsUnder 36 = .ok (.goto 4, 3) := by decide +kernel
theorem dX1_isOrIsUnder_39 : decode cX1_isOrIsUnder 39 = .ok (.iconst 0, 1) := by decide +kernel
theorem dX1_isOrIsUnder_40 : decode cX1_isOrIsUnder 40 = .ok (.ireturn, 1) := by decide +kernel
theorem dX1_parentOf_0 : decode cX1_parentOf 0 = .ok (.iload_n 0, 1) := by decide +kernel
theorem dX1_parentOf_1 : decode cX1_parentOf 1 = .ok (.tableswitch 37 3 6 #[31, 33, 37, 35], 31) := by decide +kernel
theorem dX1_parentOf_32 : decode cX1_parentOf 32 = .ok (.iconst 1, 1) := by decide +kernel
theorem dX1_parentOf_33 : decode cX1_parentOf 33 = .ok (.ireturn, 1) := by decide +kernel
theorem dX1_parentOf_34 : decode cX1_parentOf 34 = .ok (.iconst 3, 1) := by decide +kernel
theorem dX1_parentOf_35 : decode cX1_parentOf 35 = .ok (.ireturn, 1) := by decide +kernel
theorem dX1_parentOf_36 : decode cX1_parentOf 36 = .ok (.iconst 2, 1) := by decide +kernel
theorem dX1_parentOf_37 : decode cX1_parentOf 37 = .ok (.ireturn, 1) := by decide +kernel
theorem dX1_parentOf_38 : decode cX1_parentOf 38 = .ok (.iconst 0, 1) := by decide +kernel
theorem dX1_parentOf_39 : decode cX1_parentOf 39 = .ok (.ireturn, 1) := by decide +kernel
theorem dX1_wordOf_0 : decode cX1_wordOf 0 = .ok (.iload_n 0, 1) := by decide +kernel
theorem dX1_wordOf_1 : decode cX1_wordOf 1 = .ok (.tableswitch 57 1 6 #[39, 42, 45, 48, 51, 54], 39) := by decide +kernel
theorem dX1_wordOf_40 : decode cX1_wordOf 40 = .ok (.ldc 15, 2) := by decide +kernel
theorem dX1_wordOf_42 : decode cX1_wordOf 42 = .ok (.areturn, 1) := by decide +kernel
theorem dX1_wordOf_43 : decode cX1_wordOf 43 = .ok (.ldc 17, 2) := by decide +kernel
theorem dX1_wordOf_45 : decode cX1_wordOf 45 = .ok (.areturn, 1) := by decide +kernel
theorem dX1_wordOf_46 : decode cX1_wordOf 46 = .ok (.ldc 19, 2) := by decide +kernel
theorem dX1_wordOf_48 : decode cX1_wordOf 48 = .ok (.areturn, 1) := by decide +kernel
theorem dX1_wordOf_49 : decode cX1_wordOf 49 = .ok (.ldc 21, 2) := by decide +kernel
theorem dX1_wordOf_51 : decode cX1_wordOf 51 = .ok (.areturn, 1) := by decide +kernel
theorem dX1_wordOf_52 : decode cX1_wordOf 52 = .ok (.ldc 23, 2) := by decide +kernel
theorem dX1_wordOf_54 : decode cX1_wordOf 54 = .ok (.areturn, 1) := by decide +kernel
theorem dX1_wordOf_55 : decode cX1_wordOf 55 = .ok (.ldc 25, 2) := by decide +kernel
theorem dX1_wordOf_57 : decode cX1_wordOf 57 = .ok (.areturn, 1) := by decide +kernel
theorem dX1_wordOf_58 : decode cX1_wordOf 58 = .ok (.ldc 27, 2) := by decide +kernel
theorem dX1_wordOf_60 : decode cX1_wordOf 60 = .ok (.areturn, 1) := by decide +kernel
theorem dX2_init_0 : decode cX2_init 0 = .ok (.aload_n 0, 1) := by decide +kernel
theorem dX2_init_1 : decode cX2_init 1 = .ok (.invokespecial 3, 3) := by decide +kernel
theorem dX2_init_4 : decode cX2_init 4 = .ok (.aload_n 0, 1) := by decide +kernel
theorem dX2_init_5 : decode cX2_init 5 = .ok (.iconst 4, 1) := by decide +kernel
theorem dX2_init_6 : decode cX2_init 6 = .ok (.newarray .int, 2) := by decide +kernel
theorem dX2_init_8 : decode cX2_init 8 = .ok (.putfield 9, 3) := by decide +kernel
theorem dX2_init_11 : decode cX2_init 11 = .ok (.aload_n 0, 1) := by decide +kernel
theorem dX2_init_12 : decode cX2_init 12 = .ok (.iconst 4, 1) := by decide +kernel
theorem dX2_init_13 : decode cX2_init 13 = .ok (.newarray .int, 2) := by decide +kernel
theorem dX2_init_15 : decode cX2_init 15 = .ok (.putfield 15, 3) := by decide +kernel
theorem dX2_init_18 : decode cX2_init 18 = .ok (.aload_n 0, 1) := by decide +kernel
theorem dX2_init_19 : decode cX2_init 19 = .ok (.sipush 160, 3) := by decide +kernel
theorem dX2_init_22 : decode cX2_init 22 = .ok (.newarray .int, 2) := by decide +kernel
theorem dX2_init_24 : decode cX2_init 24 = .ok (.putfield 18, 3) := by decide +kernel
theorem dX2_init_27 : decode cX2_init 27 = .ok (.return_, 1) := by decide +kernel
set_option maxRecDepth 20000 in
theorem ggX2_isMissing_X2_bitsOf : GoodIn wsX2_isMissing wsX2_bitsOf := goodIn_r _ [5, 6, 7, 8, 9, 10, 11, 12] (by decide +kernel) (by decide +kernel)
set_option maxRecDepth 20000 in
theorem gX2_isMissing_X2_bitsOf : GoodIn wsX2_isMissing (wsV RX2 21 RX2 yX2_bitsOf wsX2_bitsOf) := goodIn_app (goodIn_of _ (by decide +kernel)) ggX2_isMissing_X2_bitsOf
theorem dX2_isMissing_0 : decode cX2_isMissing 0 = .ok (.aload_n 0, 1) := by decide +kernel
theorem dX2_isMissing_1 : decode cX2_isMissing 1 = .ok (.iload_n 1, 1) := by decide +kernel
theorem dX2_isMissing_2 : decode cX2_isMissing 2 = .ok (.invokevirtual 21, 3) := by decide +kernel
theorem dX2_isMissing_5 : decode cX2_isMissing 5 = .ok (.ifCond .ne 7, 3) := by decide +kernel
theorem dX2_isMissing_8 : decode cX2_isMissing 8 = .ok (.iconst 1, 1) := by decide +kernel
theorem dX2_isMissing_9 : decode cX2_isMissing 9 = .ok (.goto 4, 3) := by decide +kernel
theorem dX2_isMissing_12 : decode cX2_isMissing 12 = .ok (.iconst 0, 1) := by decide +kernel
theorem dX2_isMissing_13 : decode cX2_isMissing 13 = .ok (.ireturn, 1) := by decide +kernel
set_option maxRecDepth 20000 in
theorem ggX2_bitsOf_X4_numberAt : GoodIn wsX2_bitsOf wsX4_numberAt := goodIn_r _ [4] (by decide +kernel) (by decide +kernel)
set_option maxRecDepth 20000 in
theorem gX2_bitsOf_X4_numberAt_n25 : GoodIn wsX2_bitsOf (wsX4_numberAt) := ggX2_bitsOf_X4_numberAt
theorem dX2_bitsOf_0 : decode cX2_bitsOf 0 = .ok (.aload_n 0, 1) := by decide +kernel
theorem dX2_bitsOf_1 : decode cX2_bitsOf 1 = .ok (.getfield 9, 3) := by decide +kernel
theorem dX2_bitsOf_4 : decode cX2_bitsOf 4 = .ok (.iload_n 1, 1) := by decide +kernel
theorem dX2_bitsOf_5 : decode cX2_bitsOf 5 = .ok (.invokestatic 25, 3) := by decide +kernel
theorem dX2_bitsOf_8 : decode cX2_bitsOf 8 = .ok (.ireturn, 1) := by decide +kernel
set_option maxRecDepth 20000 in
theorem ggX2_sizeOf_X4_numberAt : GoodIn wsX2_sizeOf wsX4_numberAt := goodIn_r _ [4] (by decide +kernel) (by decide +kernel)
set_option maxRecDepth 20000 in
theorem gX2_sizeOf_X4_numberAt_n25 : GoodIn wsX2_sizeOf (wsX4_numberAt) := ggX2_sizeOf_X4_numberAt
theorem dX2_sizeOf_0 : decode cX2_sizeOf 0 = .ok (.aload_n 0, 1) := by decide +kernel
theorem dX2_sizeOf_1 : decode cX2_sizeOf 1 = .ok (.getfield 15, 3) := by decide +kernel
theorem dX2_sizeOf_4 : decode cX2_sizeOf 4 = .ok (.iload_n 1, 1) := by decide +kernel
theorem dX2_sizeOf_5 : decode cX2_sizeOf 5 = .ok (.invokestatic 25, 3) := by decide +kernel
theorem dX2_sizeOf_8 : decode cX2_sizeOf 8 = .ok (.ireturn, 1) := by decide +kernel
set_option maxRecDepth 20000 in
theorem ggX2_numberOf_X4_numberAt : GoodIn wsX2_numberOf wsX4_numberAt := goodIn_r _ [4] (by decide +kernel) (by decide +kernel)
set_option maxRecDepth 20000 in
theorem gX2_numberOf_X4_numberAt_n25 : GoodIn wsX2_numberOf (wsX4_numberAt) := ggX2_numberOf_X4_numberAt
theorem dX2_numberOf_0 : decode cX2_numberOf 0 = .ok (.aload_n 0, 1) := by decide +kernel
theorem dX2_numberOf_1 : decode cX2_numberOf 1 = .ok (.getfield 18, 3) := by decide +kernel
theorem dX2_numberOf_4 : decode cX2_numberOf 4 = .ok (.iload_n 1, 1) := by decide +kernel
theorem dX2_numberOf_5 : decode cX2_numberOf 5 = .ok (.bipush 40, 2) := by decide +kernel
theorem dX2_numberOf_7 : decode cX2_numberOf 7 = .ok (.imul, 1) := by decide +kernel
theorem dX2_numberOf_8 : decode cX2_numberOf 8 = .ok (.iload_n 2, 1) := by decide +kernel
theorem dX2_numberOf_9 : decode cX2_numberOf 9 = .ok (.iadd, 1) := by decide +kernel
theorem dX2_numberOf_10 : decode cX2_numberOf 10 = .ok (.invokestatic 25, 3) := by decide +kernel
theorem dX2_numberOf_13 : decode cX2_numberOf 13 = .ok (.ireturn, 1) := by decide +kernel
set_option maxRecDepth 20000 in
theorem ggX2_lay_X4_putAt : GoodIn wsX2_lay wsX4_putAt := goodIn_r _ [6] (by decide +kernel) (by decide +kernel)
set_option maxRecDepth 20000 in
theorem gX2_lay_X4_putAt_n29 : GoodIn wsX2_lay (wsX4_putAt) := ggX2_lay_X4_putAt
theorem dX2_lay_0 : decode cX2_lay 0 = .ok (.iload_n 2, 1) := by decide +kernel
theorem dX2_lay_1 : decode cX2_lay 1 = .ok (.ifCond .ne 7, 3) := by decide +kernel
theorem dX2_lay_4 : decode cX2_lay 4 = .ok (.iconst 0, 1) := by decide +kernel
theorem dX2_lay_5 : decode cX2_lay 5 = .ok (.goto 4, 3) := by decide +kernel
theorem dX2_lay_8 : decode cX2_lay 8 = .ok (.iload_n 3, 1) := by decide +kernel
theorem dX2_lay_9 : decode cX2_lay 9 = .ok (.istore 4, 2) := by decide +kernel
theorem dX2_lay_11 : decode cX2_lay 11 = .ok (.aload_n 0, 1) := by decide +kernel
theorem dX2_lay_12 : decode cX2_lay 12 = .ok (.getfield 9, 3) := by decide +kernel
theorem dX2_lay_15 : decode cX2_lay 15 = .ok (.iload_n 1, 1) := by decide +kernel
theorem dX2_lay_16 : decode cX2_lay 16 = .ok (.iload_n 2, 1) := by decide +kernel
theorem dX2_lay_17 : decode cX2_lay 17 = .ok (.invokestatic 29, 3) := by decide +kernel
theorem dX2_lay_20 : decode cX2_lay 20 = .ok (.aload_n 0, 1) := by decide +kernel
theorem dX2_lay_21 : decode cX2_lay 21 = .ok (.getfield 15, 3) := by decide +kernel
theorem dX2_lay_24 : decode cX2_lay 24 = .ok (.iload_n 1, 1) := by decide +kernel
theorem dX2_lay_25 : decode cX2_lay 25 = .ok (.iload 4, 2) := by decide +kernel
theorem dX2_lay_27 : decode cX2_lay 27 = .ok (.invokestatic 29, 3) := by decide +kernel
theorem dX2_lay_30 : decode cX2_lay 30 = .ok (.iconst 0, 1) := by decide +kernel
theorem dX2_lay_31 : decode cX2_lay 31 = .ok (.istore 5, 2) := by decide +kernel
theorem dX2_lay_33 : decode cX2_lay 33 = .ok (.iload 5, 2) := by decide +kernel
theorem dX2_lay_35 : decode cX2_lay 35 = .ok (.bipush 40, 2) := by decide +kernel
theorem dX2_lay_37 : decode cX2_lay 37 = .ok (.if_icmp .ge 24, 3) := by decide +kernel
theorem dX2_lay_40 : decode cX2_lay 40 = .ok (.aload_n 0, 1) := by decide +kernel
theorem dX2_lay_41 : decode cX2_lay 41 = .ok (.getfield 18, 3) := by decide +kernel
theorem dX2_lay_44 : decode cX2_lay 44 = .ok (.iload_n 1, 1) := by decide +kernel
theorem dX2_lay_45 : decode cX2_lay 45 = .ok (.bipush 40, 2) := by decide +kernel
theorem dX2_lay_47 : decode cX2_lay 47 = .ok (.imul, 1) := by decide +kernel
theorem dX2_lay_48 : decode cX2_lay 48 = .ok (.iload 5, 2) := by decide +kernel
theorem dX2_lay_50 : decode cX2_lay 50 = .ok (.iadd, 1) := by decide +kernel
theorem dX2_lay_51 : decode cX2_lay 51 = .ok (.iconst 0, 1) := by decide +kernel
theorem dX2_lay_52 : decode cX2_lay 52 = .ok (.invokestatic 29, 3) := by decide +kernel
theorem dX2_lay_55 : decode cX2_lay 55 = .ok (.iinc 5 1, 3) := by decide +kernel
theorem dX2_lay_58 : decode cX2_lay 58 = .ok (.goto (-25), 3) := by decide +kernel
theorem dX2_lay_61 : decode cX2_lay 61 = .ok (.iload 4, 2) := by decide +kernel
theorem dX2_lay_63 : decode cX2_lay 63 = .ok (.ireturn, 1) := by decide +kernel
set_option maxRecDepth 20000 in
theorem ggX2_put_X2_bitsOf : GoodIn wsX2_put wsX2_bitsOf := goodIn_r _ [6, 7, 8, 9, 10, 13, 14, 15] (by decide +kernel) (by decide +kernel)
set_option maxRecDepth 20000 in
theorem gX2_put_X2_bitsOf : GoodIn wsX2_put (wsV RX2 21 RX2 yX2_bitsOf wsX2_bitsOf) := goodIn_app (goodIn_of _ (by decide +kernel)) ggX2_put_X2_bitsOf
set_option maxRecDepth 20000 in
theorem ggX2_put_X4_putAt : GoodIn wsX2_put wsX4_putAt := goodIn_r _ [12] (by decide +kernel) (by decide +kernel)
set_option maxRecDepth 20000 in
theorem gX2_put_X4_putAt_n29 : GoodIn wsX2_put (wsX4_putAt) := ggX2_put_X4_putAt
theorem dX2_put_0 : decode cX2_put 0 = .ok (.iload_n 3, 1) := by decide +kernel
theorem dX2_put_1 : decode cX2_put 1 = .ok (.istore 4, 2) := by decide +kernel
theorem dX2_put_3 : decode cX2_put 3 = .ok (.aload_n 0, 1) := by decide +kernel
theorem dX2_put_4 : decode cX2_put 4 = .ok (.iload_n 1, 1) := by decide +kernel
theorem dX2_put_5 : decode cX2_put 5 = .ok (.invokevirtual 21, 3) := by decide +kernel
theorem dX2_put_8 : decode cX2_put 8 = .ok (.bipush 8, 2) := by decide +kernel
theorem dX2_put_10 : decode cX2_put 10 = .ok (.if_icmp .ne 10, 3) := by decide +kernel
theorem dX2_put_13 : decode cX2_put 13 = .ok (.iload_n 3, 1) := by decide +kernel
theorem dX2_put_14 : decode cX2_put 14 = .ok (.i2b, 1) := by decide +kernel
theorem dX2_put_15 : decode cX2_put 15 = .ok (.istore 4, 2) := by decide +kernel
theorem dX2_put_17 : decode cX2_put 17 = .ok (.goto 17, 3) := by decide +kernel
theorem dX2_put_20 : decode cX2_put 20 = .ok (.aload_n 0, 1) := by decide +kernel
theorem dX2_put_21 : decode cX2_put 21 = .ok (.iload_n 1, 1) := by decide +kernel
theorem dX2_put_22 : decode cX2_put 22 = .ok (.invokevirtual 21, 3) := by decide +kernel
theorem dX2_put_25 : decode cX2_put 25 = .ok (.bipush 16, 2) := by decide +kernel
theorem dX2_put_27 : decode cX2_put 27 = .ok (.if_icmp .ne 7, 3) := by decide +kernel
theorem dX2_put_30 : decode cX2_put 30 = .ok (.iload_n 3, 1) := by decide +kernel
theorem dX2_put_31 : decode cX2_put 31 = .ok (.i2s, 1) := by decide +kernel
theorem dX2_put_32 : decode cX2_put 32 = .ok (.istore 4, 2) := by decide +kernel
theorem dX2_put_34 : decode cX2_put 34 = .ok (.aload_n 0, 1) := by decide +kernel
theorem dX2_put_35 : decode cX2_put 35 = .ok (.getfield 18, 3) := by decide +kernel
theorem dX2_put_38 : decode cX2_put 38 = .ok (.iload_n 1, 1) := by decide +kernel
theorem dX2_put_39 : decode cX2_put 39 = .ok (.bipush 40, 2) := by decide +kernel
theorem dX2_put_41 : decode cX2_put 41 = .ok (.imul, 1) := by decide +kernel
theorem dX2_put_42 : decode cX2_put 42 = .ok (.iload_n 2, 1) := by decide +kernel
theorem dX2_put_43 : decode cX2_put 43 = .ok (.iadd, 1) := by decide +kernel
theorem dX2_put_44 : decode cX2_put 44 = .ok (.iload 4, 2) := by decide +kernel
theorem dX2_put_46 : decode cX2_put 46 = .ok (.invokestatic 29, 3) := by decide +kernel
theorem dX2_put_49 : decode cX2_put 49 = .ok (.return_, 1) := by decide +kernel
set_option maxRecDepth 20000 in
theorem ggX2_hasSoMany_X2_sizeOf : GoodIn wsX2_hasSoMany wsX2_sizeOf := goodIn_r _ [5, 6, 7, 8, 9, 10, 11, 12] (by decide +kernel) (by decide +kernel)
set_option maxRecDepth 20000 in
theorem gX2_hasSoMany_X2_sizeOf : GoodIn wsX2_hasSoMany (wsV RX2 33 RX2 yX2_sizeOf wsX2_sizeOf) := goodIn_app (goodIn_of _ (by decide +kernel)) ggX2_hasSoMany_X2_sizeOf
theorem dX2_hasSoMany_0 : decode cX2_hasSoMany 0 = .ok (.iload_n 2, 1) := by decide +kernel
theorem dX2_hasSoMany_1 : decode cX2_hasSoMany 1 = .ok (.ifCond .lt 26, 3) := by decide +kernel
theorem dX2_hasSoMany_4 : decode cX2_hasSoMany 4 = .ok (.iload_n 3, 1) := by decide +kernel
theorem dX2_hasSoMany_5 : decode cX2_hasSoMany 5 = .ok (.ifCond .lt 22, 3) := by decide +kernel
theorem dX2_hasSoMany_8 : decode cX2_hasSoMany 8 = .ok (.iload_n 2, 1) := by decide +kernel
theorem dX2_hasSoMany_9 : decode cX2_hasSoMany 9 = .ok (.i2l, 1) := by decide +kernel
theorem dX2_hasSoMany_10 : decode cX2_hasSoMany 10 = .ok (.iload_n 3, 1) := by decide +kernel
theorem dX2_hasSoMany_11 : decode cX2_hasSoMany 11 = .ok (.i2l, 1) := by decide +kernel
theorem dX2_hasSoMany_12 : decode cX2_hasSoMany 12 = .ok (.ladd, 1) := by decide +kernel
theorem dX2_hasSoMany_13 : decode cX2_hasSoMany 13 = .ok (.aload_n 0, 1) := by decide +kernel
theorem dX2_hasSoMany_14 : decode cX2_hasSoMany 14 = .ok (.iload_n 1, 1) := by decide +kernel
theorem dX2_hasSoMany_15 : decode cX2_hasSoMany 15 = .ok (.invokevirtual 33, 3) := by decide +kernel
theorem dX2_hasSoMany_18 : decode cX2_hasSoMany 18 = .ok (.i2l, 1) := by decide +kernel
theorem dX2_hasSoMany_19 : decode cX2_hasSoMany 19 = .ok (.lcmp, 1) := by decide +kernel
theorem dX2_hasSoMany_20 : decode cX2_hasSoMany 20 = .ok (.ifCond .gt 7, 3) := by decide +kernel
theorem dX2_hasSoMany_23 : decode cX2_hasSoMany 23 = .ok (.iconst 1, 1) := by decide +kernel
theorem dX2_hasSoMany_24 : decode cX2_hasSoMany 24 = .ok (.goto 4, 3) := by decide +kernel
theorem dX2_hasSoMany_27 : decode cX2_hasSoMany 27 = .ok (.iconst 0, 1) := by decide +kernel
theorem dX2_hasSoMany_28 : decode cX2_hasSoMany 28 = .ok (.ireturn, 1) := by decide +kernel
set_option maxRecDepth 20000 in
theorem ggX2_carry_X4_isSheet : GoodIn wsX2_carry wsX4_isSheet := goodIn_r _ [8, 9, 10, 7, 11] (by decide +kernel) (by decide +kernel)
set_option maxRecDepth 20000 in
theorem gX2_carry_X4_isSheet_n36 : GoodIn wsX2_carry (wsX4_isSheet) := ggX2_carry_X4_isSheet
set_option maxRecDepth 20000 in
theorem ggX2_carry_X2_hasSoMany : GoodIn wsX2_carry wsX2_hasSoMany := goodIn_r _ [16, 17, 18, 19, 15, 20, 21, 22, 7, 23, 24, 25, 26] (by decide +kernel) (by decide +kernel)
set_option maxRecDepth 20000 in
theorem gX2_carry_X2_hasSoMany : GoodIn wsX2_carry (wsV RX2 40 RX2 yX2_hasSoMany wsX2_hasSoMany) := goodIn_app (goodIn_of _ (by decide +kernel)) ggX2_carry_X2_hasSoMany
theorem dX2_carry_0 : decode cX2_carry 0 = .ok (.iload_n 1, 1) := by decide +kernel
theorem dX2_carry_1 : decode cX2_carry 1 = .ok (.invokestatic 36, 3) := by decide +kernel
theorem dX2_carry_4 : decode cX2_carry 4 = .ok (.ifCond .eq 59, 3) := by decide +kernel
theorem dX2_carry_7 : decode cX2_carry 7 = .ok (.iload_n 3, 1) := by decide +kernel
theorem dX2_carry_8 : decode cX2_carry 8 = .ok (.invokestatic 36, 3) := by decide +kernel
theorem dX2_carry_11 : decode cX2_carry 11 = .ok (.ifCond .eq 52, 3) := by decide +kernel
theorem dX2_carry_14 : decode cX2_carry 14 = .ok (.aload_n 0, 1) := by decide +kernel
theorem dX2_carry_15 : decode cX2_carry 15 = .ok (.iload_n 1, 1) := by decide +kernel
theorem dX2_carry_16 : decode cX2_carry 16 = .ok (.iload_n 2, 1) := by decide +kernel
theorem dX2_carry_17 : decode cX2_carry 17 = .ok (.iload 5, 2) := by decide +kernel
theorem dX2_carry_19 : decode cX2_carry 19 = .ok (.invokevirtual 40, 3) := by decide +kernel
theorem dX2_carry_22 : decode cX2_carry 22 = .ok (.ifCond .eq 41, 3) := by decide +kernel
theorem dX2_carry_25 : decode cX2_carry 25 = .ok (.aload_n 0, 1) := by decide +kernel
theorem dX2_carry_26 : decode cX2_carry 26 = .ok (.iload_n 3, 1) := by decide +kernel
theorem dX2_carry_27 : decode cX2_carry 27 = .ok (.iload 4, 2) := by decide +kernel
theorem dX2_carry_29 : decode cX2_carry 29 = .ok (.iload 5, 2) := by decide +kernel
theorem dX2_carry_31 : decode cX2_carry 31 = .ok (.invokevirtual 40, 3) := by decide +kernel
theorem dX2_carry_34 : decode cX2_carry 34 = .ok (.ifCond .eq 29, 3) := by decide +kernel
theorem dX2_carry_37 : decode cX2_carry 37 = .ok (.aload_n 0, 1) := by decide +kernel
theorem dX2_carry_38 : decode cX2_carry 38 = .ok (.getfield 18, 3) := by decide +kernel
theorem dX2_carry_41 : decode cX2_carry 41 = .ok (.iload_n 1, 1) := by decide +kernel
theorem dX2_carry_42 : decode cX2_carry 42 = .ok (.bipush 40, 2) := by decide +kernel
theorem dX2_carry_44 : decode cX2_carry 44 = .ok (.imul, 1) := by decide +kernel
theorem dX2_carry_45 : decode cX2_carry 45 = .ok (.iload_n 2, 1) := by decide +kernel
theorem dX2_carry_46 : decode cX2_carry 46 = .ok (.iadd, 1) := by decide +kernel
theorem dX2_carry_47 : decode cX2_carry 47 = .ok (.aload_n 0, 1) := by decide +kernel
theorem dX2_carry_48 : decode cX2_carry 48 = .ok (.getfield 18, 3) := by decide +kernel
theorem dX2_carry_51 : decode cX2_carry 51 = .ok (.iload_n 3, 1) := by decide +kernel
theorem dX2_carry_52 : decode cX2_carry 52 = .ok (.bipush 40, 2) := by decide +kernel
theorem dX2_carry_54 : decode cX2_carry 54 = .ok (.imul, 1) := by decide +kernel
theorem dX2_carry_55 : decode cX2_carry 55 = .ok (.iload 4, 2) := by decide +kernel
theorem dX2_carry_57 : decode cX2_carry 57 = .ok (.iadd, 1) := by decide +kernel
theorem dX2_carry_58 : decode cX2_carry 58 = .ok (.iload 5, 2) := by decide +kernel
theorem dX2_carry_60 : decode cX2_carry 60 = .ok (.invokestatic 44, 3) := by decide +kernel
theorem dX2_carry_63 : decode cX2_carry 63 = .ok (.return_, 1) := by decide +kernel
theorem dX3_init_0 : decode cX3_init 0 = .ok (.aload_n 0, 1) := by decide +kernel
theorem dX3_init_1 : decode cX3_init 1 = .ok (.invokespecial 3, 3) := by decide +kernel
theorem dX3_init_4 : decode cX3_init 4 = .ok (.aload_n 0, 1) := by decide +kernel
theorem dX3_init_5 : decode cX3_init 5 = .ok (.bipush 120, 2) := by decide +kernel
theorem dX3_init_7 : decode cX3_init 7 = .ok (.newarray .int, 2) := by decide +kernel
theorem dX3_init_9 : decode cX3_init 9 = .ok (.putfield 9, 3) := by decide +kernel
theorem dX3_init_12 : decode cX3_init 12 = .ok (.aload_n 0, 1) := by decide +kernel
theorem dX3_init_13 : decode cX3_init 13 = .ok (.iconst 0, 1) := by decide +kernel
theorem dX3_init_14 : decode cX3_init 14 = .ok (.putfield 15, 3) := by decide +kernel
theorem dX3_init_17 : decode cX3_init 17 = .ok (.aload_n 0, 1) := by decide +kernel
theorem dX3_init_18 : decode cX3_init 18 = .ok (.iconst 0, 1) := by decide +kernel
theorem dX3_init_19 : decode cX3_init 19 = .ok (.putfield 19, 3) := by decide +kernel
theorem dX3_init_22 : decode cX3_init 22 = .ok (.aload_n 0, 1) := by decide +kernel
theorem dX3_init_23 : decode cX3_init 23 = .ok (.iconst 0, 1) := by decide +kernel
theorem dX3_init_24 : decode cX3_init 24 = .ok (.putfield 22, 3) := by decide +kernel
theorem dX3_init_27 : decode cX3_init 27 = .ok (.aload_n 0, 1) := by decide +kernel
theorem dX3_init_28 : decode cX3_init 28 = .ok (.iconst 0, 1) := by decide +kernel
theorem dX3_init_29 : decode cX3_init 29 = .ok (.putfield 25, 3) := by decide +kernel
theorem dX3_init_32 : decode cX3_init 32 = .ok (.aload_n 0, 1) := by decide +kernel
theorem dX3_init_33 : decode cX3_init 33 = .ok (.iconst 0, 1) := by decide +kernel
theorem dX3_init_34 : decode cX3_init 34 = .ok (.putfield 28, 3) := by decide +kernel
theorem dX3_init_37 : decode cX3_init 37 = .ok (.return_, 1) := by decide +kernel
set_option maxRecDepth 20000 in
theorem ggX3_add_X4_putAt : GoodIn wsX3_add wsX4_putAt := goodIn_r _ [9] (by decide +kernel) (by decide +kernel)
set_option maxRecDepth 20000 in
theorem gX3_add_X4_putAt_n31 : GoodIn wsX3_add (wsX4_putAt) := ggX3_add_X4_putAt
theorem dX3_add_0 : decode cX3_add 0 = .ok (.aload_n 0, 1) := by decide +kernel
theorem dX3_add_1 : decode cX3_add 1 = .ok (.getfield 9, 3) := by decide +kernel
theorem dX3_add_4 : decode cX3_add 4 = .ok (.aload_n 0, 1) := by decide +kernel
theorem dX3_add_5 : decode cX3_add 5 = .ok (.getfield 15, 3) := by decide +kernel
theorem dX3_add_8 : decode cX3_add 8 = .ok (.iload_n 1, 1) := by decide +kernel
theorem dX3_add_9 : decode cX3_add 9 = .ok (.invokestatic 31, 3) := by decide +kernel
theorem dX3_add_12 : decode cX3_add 12 = .ok (.aload_n 0, 1) := by decide +kernel
theorem dX3_add_13 : decode cX3_add 13 = .ok (.bipush 120, 2) := by decide +kernel
theorem dX3_add_15 : decode cX3_add 15 = .ok (.aload_n 0, 1) := by decide +kernel
theorem dX3_add_16 : decode cX3_add 16 = .ok (.getfield 15, 3) := by decide +kernel
theorem dX3_add_19 : decode cX3_add 19 = .ok (.iconst 1, 1) := by decide +kernel
theorem dX3_add_20 : decode cX3_add 20 = .ok (.iadd, 1) := by decide +kernel
theorem dX3_add_21 : decode cX3_add 21 = .ok (.invokestatic 35, 3) := by decide +kernel
theorem dX3_add_24 : decode cX3_add 24 = .ok (.putfield 15, 3) := by decide +kernel
theorem dX3_add_27 : decode cX3_add 27 = .ok (.return_, 1) := by decide +kernel
set_option maxRecDepth 20000 in
theorem ggX3_readInto_X3_advance : GoodIn wsX3_readInto wsX3_advance := goodIn_r _ [8, 1, 3, 9, 10, 2, 11, 12, 13, 14, 15, 16, 17, 18, 19, 20, 21, 7, 22, 135, 136, 137, 138, 139, 140] (by decide +kernel) (by decide +kernel)
set_option maxRecDepth 20000 in
theorem gX3_readInto_X3_advance : GoodIn wsX3_readInto (wsV RX3 41 RX3 yX3_advance wsX3_advance) := goodIn_app (goodIn_of _ (by decide +kernel)) ggX3_readInto_X3_advance
set_option maxRecDepth 20000 in
theorem ggX3_readInto_X3_kindAtHand : GoodIn wsX3_readInto wsX3_kindAtHand := goodIn_r _ [26, 27, 28, 29, 30, 31, 32, 33, 7, 34, 2, 1, 3, 10, 35, 36, 37, 38, 39, 40, 41, 42, 43, 44, 45, 46, 16, 17, 18, 47, 48, 49, 50, 51, 52, 53, 54, 55, 56, 57, 58, 59, 60, 61, 62, 63, 64, 65, 66, 67, 68, 69, 70, 71, 72, 73, 74, 75, 76, 77, 78, 79, 80, 81, 82, 83, 135, 136, 137, 138, 139, 140] (by decide +kernel) (by decide +kernel)
set_option maxRecDepth 20000 in
theorem gX3_readInto_X3_kindAtHand : GoodIn wsX3_readInto (wsV RX3 44 RX3 yX3_kindAtHand wsX3_kindAtHand) := goodIn_app (goodIn_of _ (by decide +kernel)) ggX3_readInto_X3_kindAtHand
set_option maxRecDepth 20000 in
theorem ggX3_readInto_X3_readSaying : GoodIn wsX3_readInto wsX3_readSaying := goodIn_r _ [87, 4, 5, 6, 7, 8, 1, 3, 9, 10, 2, 11, 12, 13, 14, 15, 16, 17, 18, 19, 20, 21, 22, 88, 89, 90, 91, 92, 93, 94, 95, 96, 97, 31, 32, 33, 34, 35, 36, 37, 38, 39, 40, 41, 42, 43, 44, 45, 46, 47, 48, 49, 50, 51, 52, 53, 54, 55, 56, 57, 58, 59, 60, 61, 62, 63, 64, 65, 66, 67, 68, 69, 70, 71, 72, 73, 74, 75, 76, 77, 78, 79, 80, 81, 82, 83, 98, 99, 100, 101, 102, 103, 104, 105, 106, 107, 108, 109, 110, 111, 141, 142, 143, 144, 145, 146, 147, 148, 135, 136, 137, 138, 139, 140] (by decide +kernel) (by decide +kernel)
set_option maxRecDepth 20000 in
theorem gX3_readInto_X3_readSaying : GoodIn wsX3_readInto (wsV RX3 48 RX3 yX3_readSaying wsX3_readSaying) := goodIn_app (goodIn_of _ (by decide +kernel)) ggX3_readInto_X3_readSaying
set_option maxRecDepth 20000 in
theorem ggX3_readInto_X3_isWord : GoodIn wsX3_readInto wsX3_isWord := goodIn_r _ [34, 2, 1, 3, 10, 35, 36, 37, 38, 39, 40, 41, 42, 43, 44, 45, 46, 16, 17, 18, 47, 48, 49, 50, 51, 52, 53, 54, 55, 56, 57, 58, 59, 60, 61, 62, 63, 64, 65, 66, 67, 68, 69, 70, 71, 72, 73, 74, 75, 76, 77, 78, 79, 80, 81, 82, 83, 135, 136, 137, 138, 139, 140] (by decide +kernel) (by decide +kernel)
set_option maxRecDepth 20000 in
theorem gX3_readInto_X3_isWord : GoodIn wsX3_readInto (wsV RX3 54 RX3 yX3_isWord wsX3_isWord) := goodIn_app (goodIn_of _ (by decide +kernel)) ggX3_readInto_X3_isWord
set_option maxRecDepth 20000 in
theorem ggX3_readInto_X3_readShip : GoodIn wsX3_readInto wsX3_readShip := goodIn_r _ [115, 4, 5, 6, 7, 8, 1, 3, 9, 10, 2, 11, 12, 13, 14, 15, 16, 17, 18, 19, 20, 21, 22, 94, 95, 96, 97, 31, 32, 33, 34, 35, 36, 37, 38, 39, 40, 41, 42, 43, 44, 45, 46, 47, 48, 49, 50, 51, 52, 53, 54, 55, 56, 57, 58, 59, 60, 61, 62, 63, 64, 65, 66, 67, 68, 69, 70, 71, 72, 73, 74, 75, 76, 77, 78, 79, 80, 81, 82, 83, 88, 89, 90, 91, 92, 93, 116, 117, 118, 101, 119, 120, 121, 122, 123, 124, 125, 109, 110, 141, 142, 143, 144, 145, 146, 147, 148, 135, 136, 137, 138, 139, 140] (by decide +kernel) (by decide +kernel)
set_option maxRecDepth 20000 in
theorem gX3_readInto_X3_readShip : GoodIn wsX3_readInto (wsV RX3 58 RX3 yX3_readShip wsX3_readShip) := goodIn_app (goodIn_of _ (by decide +kernel)) ggX3_readInto_X3_readShip
set_option maxRecDepth 20000 in
theorem ggX3_readInto_X3_readFinish : GoodIn wsX3_readInto wsX3_readFinish := goodIn_r _ [129, 4, 5, 6, 7, 8, 1, 3, 9, 10, 2, 11, 12, 13, 14, 15, 16, 17, 18, 19, 20, 21, 22, 88, 89, 90, 91, 92, 93, 130, 131, 132, 101, 133, 134, 109, 110, 135, 136, 137, 138, 139, 140, 141, 142, 143, 144, 145, 146, 147, 148] (by decide +kernel) (by decide +kernel)
set_option maxRecDepth 20000 in
theorem gX3_readInto_X3_readFinish : GoodIn wsX3_readInto (wsV RX3 64 RX3 yX3_readFinish wsX3_readFinish) := goodIn_app (goodIn_of _ (by decide +kernel)) ggX3_readInto_X3_readFinish
theorem dX3_readInto_0 : decode cX3_readInto 0 = .ok (.aload_n 0, 1) := by decide +kernel
theorem dX3_readInto_1 : decode cX3_readInto 1 = .ok (.iconst 0, 1) := by decide +kernel
theorem dX3_readInto_2 : decode cX3_readInto 2 = .ok (.putfield 25, 3) := by decide +kernel
theorem dX3_readInto_5 : decode cX3_readInto 5 = .ok (.aload_n 0, 1) := by decide +kernel
theorem dX3_readInto_6 : decode cX3_readInto 6 = .ok (.invokevirtual 41, 3) := by decide +kernel
theorem dX3_readInto_9 : decode cX3_readInto 9 = .ok (.iconst 1, 1) := by decide +kernel
theorem dX3_readInto_10 : decode cX3_readInto 10 = .ok (.istore_n 2, 1) := by decide +kernel
theorem dX3_readInto_11 : decode cX3_readInto 11 = .ok (.iload_n 2, 1) := by decide +kernel
theorem dX3_readInto_12 : decode cX3_readInto 12 = .ok (.bipush 120, 2) := by decide +kernel
theorem dX3_readInto_14 : decode cX3_readInto 14 = .ok (.if_icmp .gt 111, 3) := by decide +kernel
theorem dX3_readInto_17 : decode cX3_readInto 17 = .ok (.aload_n 0, 1) := by decide +kernel
theorem dX3_readInto_18 : decode cX3_readInto 18 = .ok (.invokevirtual 44, 3) := by decide +kernel
theorem dX3_readInto_21 : decode cX3_readInto 21 = .ok (.istore_n 3, 1) := by decide +kernel
theorem dX3_readInto_22 : decode cX3_readInto 22 = .ok (.iload_n 3, 1) := by decide +kernel
theorem dX3_readInto_23 : decode cX3_readInto 23 = .ok (.iconst (-1), 1) := by decide +kernel
theorem dX3_readInto_24 : decode cX3_readInto 24 = .ok (.if_icmp .eq 14, 3) := by decide +kernel
theorem dX3_readInto_27 : decode cX3_readInto 27 = .ok (.aload_n 0, 1) := by decide +kernel
theorem dX3_readInto_28 : decode cX3_readInto 28 = .ok (.aload_n 1, 1) := by decide +kernel
theorem dX3_readInto_29 : decode cX3_readInto 29 = .ok (.iload_n 3, 1) := by decide +kernel
theorem dX3_readInto_30 : decode cX3_readInto 30 = .ok (.invokevirtual 48, 3) := by decide +kernel
theorem dX3_readInto_33 : decode cX3_readInto 33 = .ok (.istore 4, 2) := by decide +kernel
theorem dX3_readInto_35 : decode cX3_readInto 35 = .ok (.goto 46, 3) := by decide +kernel
theorem dX3_readInto_38 : decode cX3_readInto 38 = .ok (.aload_n 0, 1) := by decide +kernel
theorem dX3_readInto_39 : decode cX3_readInto 39 = .ok (.ldc 52, 2) := by decide +kernel
theorem dX3_readInto_41 : decode cX3_readInto 41 = .ok (.invokevirtual 54, 3) := by decide +kernel
theorem dX3_readInto_44 : decode cX3_readInto 44 = .ok (.ifCond .eq 13, 3) := by decide +kernel
theorem dX3_readInto_47 : decode cX3_readInto 47 = .ok (.aload_n 0, 1) := by decide +kernel
theorem dX3_readInto_48 : decode cX3_readInto 48 = .ok (.aload_n 1, 1) := by decide +kernel
theorem dX3_readInto_49 : decode cX3_readInto 49 = .ok (.invokevirtual 58, 3) := by decide +kernel
theorem dX3_readInto_52 : decode cX3_readInto 52 = .ok (.istore 4, 2) := by decide +kernel
theorem dX3_readInto_54 : decode cX3_readInto 54 = .ok (.goto 27, 3) := by decide +kernel
theorem dX3_readInto_57 : decode cX3_readInto 57 = .ok (.aload_n 0, 1) := by decide +kernel
theorem dX3_readInto_58 : decode cX3_readInto 58 = .ok (.ldc 62, 2) := by decide +kernel
theorem dX3_readInto_60 : decode cX3_readInto 60 = .ok (.invokevirtual 54, 3) := by decide +kernel
theorem dX3_readInto_63 : decode cX3_readInto 63 = .ok (.ifCond .eq 15, 3) := by decide +kernel
theorem dX3_readInto_66 : decode cX3_readInto 66 = .ok (.aload_n 0, 1) := by decide +kernel
theorem dX3_readInto_67 : decode cX3_readInto 67 = .ok (.aload_n 1, 1) := by decide +kernel
theorem dX3_readInto_68 : decode cX3_readInto 68 = .ok (.invokevirtual 64, 3) := by decide +kernel
theorem dX3_readInto_71 : decode cX3_readInto 71 = .ok (.ifCond .eq 7, 3) := by decide +kernel
theorem dX3_readInto_74 : decode cX3_readInto 74 = .ok (.iconst 1, 1) := by decide +kernel
theorem dX3_readInto_75 : decode cX3_readInto 75 = .ok (.goto 4, 3) := by decide +kernel
theorem dX3_readInto_78 : decode cX3_readInto 78 = .ok (.iconst 0, 1) := by decide +kernel
theorem dX3_readInto_79 : decode cX3_readInto 79 = .ok (.istore 4, 2) := by decide +kernel
theorem dX3_readInto_81 : decode cX3_readInto 81 = .ok (.iload 4, 2) := by decide +kernel
theorem dX3_readInto_83 : decode cX3_readInto 83 = .ok (.ifCond .eq 12, 3) := by decide +kernel
theorem dX3_readInto_86 : decode cX3_readInto 86 = .ok (.aload_n 0, 1) := by decide +kernel
theorem dX3_readInto_87 : decode cX3_readInto 87 = .ok (.getfield 19, 3) := by decide +kernel
theorem dX3_readInto_90 : decode cX3_readInto 90 = .ok (.ifCond .ne 5, 3) := by decide +kernel
theorem dX3_readInto_93 : decode cX3_readInto 93 = .ok (.iload_n 2, 1) := by decide +kernel
theorem dX3_readInto_94 : decode cX3_readInto 94 = .ok (.ireturn, 1) := by decide +kernel
theorem dX3_readInto_95 : decode cX3_readInto 95 = .ok (.iload 4, 2) := by decide +kernel
theorem dX3_readInto_97 : decode cX3_readInto 97 = .ok (.ifCond .eq 11, 3) := by decide +kernel
theorem dX3_readInto_100 : decode cX3_readInto 100 = .ok (.aload_n 0, 1) := by decide +kernel
theorem dX3_readInto_101 : decode cX3_readInto 101 = .ok (.getfield 19, 3) := by decide +kernel
theorem dX3_readInto_104 : decode cX3_readInto 104 = .ok (.iconst 3, 1) := by decide +kernel
theorem dX3_readInto_105 : decode cX3_readInto 105 = .ok (.if_icmp .eq 10, 3) := by decide +kernel
theorem dX3_readInto_108 : decode cX3_readInto 108 = .ok (.iconst (-1), 1) := by decide +kernel
theorem dX3_readInto_109 : decode cX3_readInto 109 = .ok (.aload_n 0, 1) := by decide +kernel
theorem dX3_readInto_110 : decode cX3_readInto 110 = .ok (.getfield 22, 3) := by decide +kernel
theorem dX3_readInto_113 : decode cX3_readInto 113 = .ok (.isub, 1) := by decide +kernel
theorem dX3_readInto_114 : decode cX3_readInto 114 = .ok (.ireturn, 1) := by decide +kernel
theorem dX3_readInto_115 : decode cX3_readInto 115 = .ok (.aload_n 0, 1) := by decide +kernel
theorem dX3_readInto_116 : decode cX3_readInto 116 = .ok (.invokevirtual 41, 3) := by decide +kernel
theorem dX3_readInto_119 : decode cX3_readInto 119 = .ok (.iinc 2 1, 3) := by decide +kernel
theorem dX3_readInto_122 : decode cX3_readInto 122 = .ok (.goto (-111), 3) := by decide +kernel
theorem dX3_readInto_125 : decode cX3_readInto 125 = .ok (.iconst (-1), 1) := by decide +kernel
theorem dX3_readInto_126 : decode cX3_readInto 126 = .ok (.aload_n 0, 1) := by decide +kernel
theorem dX3_readInto_127 : decode cX3_readInto 127 = .ok (.getfield 22, 3) := by decide +kernel
theorem dX3_readInto_130 : decode cX3_readInto 130 = .ok (.isub, 1) := by decide +kernel
theorem dX3_readInto_131 : decode cX3_readInto 131 = .ok (.ireturn, 1) := by decide +kernel
set_option maxRecDepth 20000 in
theorem ggX3_kindAtHand_X1_wordOf : GoodIn wsX3_kindAtHand wsX1_wordOf := goodIn_r _ [4] (by decide +kernel) (by decide +kernel)
set_option maxRecDepth 20000 in
theorem gX3_kindAtHand_X1_wordOf : GoodIn wsX3_kindAtHand (va_wsS RX3 67 yX1_wordOf wsX1_wordOf) := goodIn_app (goodIn_of _ (by decide +kernel)) ggX3_kindAtHand_X1_wordOf
set_option maxRecDepth 20000 in
theorem ggX3_kindAtHand_X3_isWord : GoodIn wsX3_kindAtHand wsX3_isWord := goodIn_r _ [9, 10, 11, 12, 13, 14, 15, 16, 17, 18, 19, 20, 21, 22, 23, 24, 25, 26, 27, 28, 29, 30, 31, 32, 33, 34, 35, 36, 37, 38, 39, 40, 41, 42, 43, 44, 45, 46, 47, 48, 49, 50, 51, 52, 53, 54, 55, 56, 57, 58, 59, 60, 61, 62, 63, 64, 65, 66, 67, 68, 69, 70, 71] (by decide +kernel) (by decide +kernel)
set_option maxRecDepth 20000 in
theorem gX3_kindAtHand_X3_isWord : GoodIn wsX3_kindAtHand (wsV RX3 54 RX3 yX3_isWord wsX3_isWord) := goodIn_app (goodIn_of _ (by decide +kernel)) ggX3_kindAtHand_X3_isWord
theorem dX3_kindAtHand_0 : decode cX3_kindAtHand 0 = .ok (.iconst 0, 1) := by decide +kernel
theorem dX3_kindAtHand_1 : decode cX3_kindAtHand 1 = .ok (.istore_n 1, 1) := by decide +kernel
theorem dX3_kindAtHand_2 : decode cX3_kindAtHand 2 = .ok (.iload_n 1, 1) := by decide +kernel
theorem dX3_kindAtHand_3 : decode cX3_kindAtHand 3 = .ok (.bipush 7, 2) := by decide +kernel
theorem dX3_kindAtHand_5 : decode cX3_kindAtHand 5 = .ok (.if_icmp .ge 22, 3) := by decide +kernel
theorem dX3_kindAtHand_8 : decode cX3_kindAtHand 8 = .ok (.aload_n 0, 1) := by decide +kernel
theorem dX3_kindAtHand_9 : decode cX3_kindAtHand 9 = .ok (.iload_n 1, 1) := by decide +kernel
theorem dX3_kindAtHand_10 : decode cX3_kindAtHand 10 = .ok (.invokestatic 67, 3) := by decide +kernel
theorem dX3_kindAtHand_13 : decode cX3_kindAtHand 13 = .ok (.invokevirtual 54, 3) := by decide +kernel
theorem dX3_kindAtHand_16 : decode cX3_kindAtHand 16 = .ok (.ifCond .eq 5, 3) := by decide +kernel
theorem dX3_kindAtHand_19 : decode cX3_kindAtHand 19 = .ok (.iload_n 1, 1) := by decide +kernel
theorem dX3_kindAtHand_20 : decode cX3_kindAtHand 20 = .ok (.ireturn, 1) := by decide +kernel
theorem dX3_kindAtHand_21 : decode cX3_kindAtHand 21 = .ok (.iinc 1 1, 3) := by decide +kernel
theorem dX3_kindAtHand_24 : decode cX3_kindAtHand 24 = .ok (.goto (-22), 3) := by decide +kernel
theorem dX3_kindAtHand_27 : decode cX3_kindAtHand 27 = .ok (.iconst (-1), 1) := by decide +kernel
theorem dX3_kindAtHand_28 : decode cX3_kindAtHand 28 = .ok (.ireturn, 1) := by decide +kernel
set_option maxRecDepth 20000 in
theorem ggX3_readSaying_X3_advance : GoodIn wsX3_readSaying wsX3_advance := goodIn_r _ [5, 6, 7, 8, 9, 10, 11, 12, 13, 14, 15, 16, 17, 18, 19, 20, 21, 4, 22, 108, 109, 110, 111, 112, 113] (by decide +kernel) (by decide +kernel)
set_option maxRecDepth 20000 in
theorem gX3_readSaying_X3_advance : GoodIn wsX3_readSaying (wsV RX3 41 RX3 yX3_advance wsX3_advance) := goodIn_app (goodIn_of _ (by decide +kernel)) ggX3_readSaying_X3_advance
set_option maxRecDepth 20000 in
theorem ggX3_readSaying_X3_readNumber : GoodIn wsX3_readSaying wsX3_readNumber := goodIn_r _ [26, 10, 11, 27, 17, 28, 1, 2, 3, 4, 5, 6, 7, 8, 9, 12, 13, 14, 15, 16, 18, 19, 20, 21, 22, 108, 109, 110, 111, 112, 113] (by decide +kernel) (by decide +kernel)
set_option maxRecDepth 20000 in
theorem gX3_readSaying_X3_readNumber : GoodIn wsX3_readSaying (wsV RX3 78 RX3 yX3_readNumber wsX3_readNumber) := goodIn_app (goodIn_of _ (by decide +kernel)) ggX3_readSaying_X3_readNumber
set_option maxRecDepth 20000 in
theorem ggX3_readSaying_X3_readOption : GoodIn wsX3_readSaying wsX3_readOption := goodIn_r _ [32, 33, 34, 35, 4, 36, 10, 6, 7, 9, 37, 38, 39, 40, 41, 42, 43, 44, 45, 46, 47, 48, 16, 17, 18, 49, 50, 51, 52, 53, 54, 55, 56, 57, 58, 59, 60, 61, 62, 63, 64, 65, 66, 67, 68, 69, 70, 71, 72, 73, 74, 75, 76, 77, 78, 79, 80, 81, 82, 83, 84, 85, 1, 2, 3, 5, 8, 11, 12, 13, 14, 15, 19, 20, 21, 22, 23, 24, 25, 26, 27, 28, 108, 109, 110, 111, 112, 113] (by decide +kernel) (by decide +kernel)
set_option maxRecDepth 20000 in
theorem gX3_readSaying_X3_readOption : GoodIn wsX3_readSaying (wsV RX3 83 RX3 yX3_readOption wsX3_readOption) := goodIn_app (goodIn_of _ (by decide +kernel)) ggX3_readSaying_X3_readOption
set_option maxRecDepth 20000 in
theorem ggX3_readSaying_X0_addSaying : GoodIn wsX3_readSaying wsX0_addSaying := goodIn_r _ [90, 91, 92, 93, 94, 89, 95, 96, 97, 17, 98, 100, 101, 102, 103, 104, 105, 106, 107] (by decide +kernel) (by decide +kernel)
set_option maxRecDepth 20000 in
theorem gX3_readSaying_X0_addSaying : GoodIn wsX3_readSaying (wsV RX3 89 RX0 yX0_addSaying wsX0_addSaying) := goodIn_app (goodIn_of _ (by decide +kernel)) ggX3_readSaying_X0_addSaying
set_option maxRecDepth 20000 in
theorem ggX3_readSaying_X0_setOfSaying : GoodIn wsX3_readSaying wsX0_setOfSaying := goodIn_r _ [95, 96, 97, 17, 98, 100, 101, 102, 103, 104, 105, 106, 107] (by decide +kernel) (by decide +kernel)
set_option maxRecDepth 20000 in
theorem gX3_readSaying_X0_setOfSaying : GoodIn wsX3_readSaying (wsV RX3 93 RX0 yX0_setOfSaying wsX0_setOfSaying) := goodIn_app (goodIn_of _ (by decide +kernel)) ggX3_readSaying_X0_setOfSaying
set_option maxRecDepth 20000 in
theorem ggX3_readSaying_X3_isWord : GoodIn wsX3_readSaying wsX3_isWord := goodIn_r _ [36, 10, 6, 7, 9, 37, 38, 39, 40, 41, 42, 43, 44, 45, 46, 47, 48, 16, 17, 18, 49, 50, 51, 52, 53, 54, 55, 56, 57, 58, 59, 60, 61, 62, 63, 64, 65, 66, 67, 68, 69, 70, 71, 72, 73, 74, 75, 76, 77, 78, 79, 80, 81, 82, 83, 84, 85, 108, 109, 110, 111, 112, 113] (by decide +kernel) (by decide +kernel)
set_option maxRecDepth 20000 in
theorem gX3_readSaying_X3_isWord : GoodIn wsX3_readSaying (wsV RX3 54 RX3 yX3_isWord wsX3_isWord) := goodIn_app (goodIn_of _ (by decide +kernel)) ggX3_readSaying_X3_isWord
theorem dX3_readSaying_0 : decode cX3_readSaying 0 = .ok (.aload_n 1, 1) := by decide +kernel
theorem dX3_readSaying_1 : decode cX3_readSaying 1 = .ok (.getfield 73, 3) := by decide +kernel
theorem dX3_readSaying_4 : decode cX3_readSaying 4 = .ok (.bipush 8, 2) := by decide +kernel
theorem dX3_readSaying_6 : decode cX3_readSaying 6 = .ok (.if_icmp .lt 5, 3) := by decide +kernel
theorem dX3_readSaying_9 : decode cX3_readSaying 9 = .ok (.iconst 0, 1) := by decide +kernel
theorem dX3_readSaying_10 : decode cX3_readSaying 10 = .ok (.ireturn, 1) := by decide +kernel
theorem dX3_readSaying_11 : decode cX3_readSaying 11 = .ok (.aload_n 0, 1) := by decide +kernel
theorem dX3_readSaying_12 : decode cX3_readSaying 12 = .ok (.invokevirtual 41, 3) := by decide +kernel
theorem dX3_readSaying_15 : decode cX3_readSaying 15 = .ok (.aload_n 0, 1) := by decide +kernel
theorem dX3_readSaying_16 : decode cX3_readSaying 16 = .ok (.iconst 0, 1) := by decide +kernel
theorem dX3_readSaying_17 : decode cX3_readSaying 17 = .ok (.bipush 99, 2) := by decide +kernel
theorem dX3_readSaying_19 : decode cX3_readSaying 19 = .ok (.invokevirtual 78, 3) := by decide +kernel
theorem dX3_readSaying_22 : decode cX3_readSaying 22 = .ok (.istore_n 3, 1) := by decide +kernel
theorem dX3_readSaying_23 : decode cX3_readSaying 23 = .ok (.iload_n 3, 1) := by decide +kernel
theorem dX3_readSaying_24 : decode cX3_readSaying 24 = .ok (.iconst (-1), 1) := by decide +kernel
theorem dX3_readSaying_25 : decode cX3_readSaying 25 = .ok (.if_icmp .ne 5, 3) := by decide +kernel
theorem dX3_readSaying_28 : decode cX3_readSaying 28 = .ok (.iconst 0, 1) := by decide +kernel
theorem dX3_readSaying_29 : decode cX3_readSaying 29 = .ok (.ireturn, 1) := by decide +kernel
theorem dX3_readSaying_30 : decode cX3_readSaying 30 = .ok (.aload_n 0, 1) := by decide +kernel
theorem dX3_readSaying_31 : decode cX3_readSaying 31 = .ok (.ldc 81, 2) := by decide +kernel
theorem dX3_readSaying_33 : decode cX3_readSaying 33 = .ok (.iconst 0, 1) := by decide +kernel
theorem dX3_readSaying_34 : decode cX3_readSaying 34 = .ok (.bipush 15, 2) := by decide +kernel
theorem dX3_readSaying_36 : decode cX3_readSaying 36 = .ok (.iconst 0, 1) := by decide +kernel
theorem dX3_readSaying_37 : decode cX3_readSaying 37 = .ok (.invokevirtual 83, 3) := by decide +kernel
theorem dX3_readSaying_40 : decode cX3_readSaying 40 = .ok (.istore 4, 2) := by decide +kernel
theorem dX3_readSaying_42 : decode cX3_readSaying 42 = .ok (.iload 4, 2) := by decide +kernel
theorem dX3_readSaying_44 : decode cX3_readSaying 44 = .ok (.iconst (-1), 1) := by decide +kernel
theorem dX3_readSaying_45 : decode cX3_readSaying 45 = .ok (.if_icmp .ne 5, 3) := by decide +kernel
theorem dX3_readSaying_48 : decode cX3_readSaying 48 = .ok (.iconst 0, 1) := by decide +kernel
theorem dX3_readSaying_49 : decode cX3_readSaying 49 = .ok (.ireturn, 1) := by decide +kernel
theorem dX3_readSaying_50 : decode cX3_readSaying 50 = .ok (.aload_n 0, 1) := by decide +kernel
theorem dX3_readSaying_51 : decode cX3_readSaying 51 = .ok (.ldc 87, 2) := by decide +kernel
theorem dX3_readSaying_53 : decode cX3_readSaying 53 = .ok (.iconst 0, 1) := by decide +kernel
theorem dX3_readSaying_54 : decode cX3_readSaying 54 = .ok (.sipush 9999, 3) := by decide +kernel
theorem dX3_readSaying_57 : decode cX3_readSaying 57 = .ok (.iconst 0, 1) := by decide +kernel
theorem dX3_readSaying_58 : decode cX3_readSaying 58 = .ok (.invokevirtual 83, 3) := by decide +kernel
theorem dX3_readSaying_61 : decode cX3_readSaying 61 = .ok (.istore 5, 2) := by decide +kernel
theorem dX3_readSaying_63 : decode cX3_readSaying 63 = .ok (.iload 5, 2) := by decide +kernel
theorem dX3_readSaying_65 : decode cX3_readSaying 65 = .ok (.iconst (-1), 1) := by decide +kernel
theorem dX3_readSaying_66 : decode cX3_readSaying 66 = .ok (.if_icmp .ne 5, 3) := by decide +kernel
theorem dX3_readSaying_69 : decode cX3_readSaying 69 = .ok (.iconst 0, 1) := by decide +kernel
theorem dX3_readSaying_70 : decode cX3_readSaying 70 = .ok (.ireturn, 1) := by decide +kernel
theorem dX3_readSaying_71 : decode cX3_readSaying 71 = .ok (.aload_n 1, 1) := by decide +kernel
theorem dX3_readSaying_72 : decode cX3_readSaying 72 = .ok (.iload_n 2, 1) := by decide +kernel
theorem dX3_readSaying_73 : decode cX3_readSaying 73 = .ok (.iload_n 3, 1) := by decide +kernel
theorem dX3_readSaying_74 : decode cX3_readSaying 74 = .ok (.iload 4, 2) := by decide +kernel
theorem dX3_readSaying_76 : decode cX3_readSaying 76 = .ok (.invokevirtual 89, 3) := by decide +kernel
theorem dX3_readSaying_79 : decode cX3_readSaying 79 = .ok (.istore 6, 2) := by decide +kernel
theorem dX3_readSaying_81 : decode cX3_readSaying 81 = .ok (.aload_n 1, 1) := by decide +kernel
theorem dX3_readSaying_82 : decode cX3_readSaying 82 = .ok (.iload 6, 2) := by decide +kernel
theorem dX3_readSaying_84 : decode cX3_readSaying 84 = .ok (.iconst 4, 1) := by decide +kernel
theorem dX3_readSaying_85 : decode cX3_readSaying 85 = .ok (.iload 5, 2) := by decide +kernel
theorem dX3_readSaying_87 : decode cX3_readSaying 87 = .ok (.invokevirtual 93, 3) := by decide +kernel
theorem dX3_readSaying_90 : decode cX3_readSaying 90 = .ok (.aload_n 0, 1) := by decide +kernel
