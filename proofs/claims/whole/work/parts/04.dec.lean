theorem dX9_init_0 : decode cX9_init 0 = .ok (.aload_n 0, 1) := by decide +kernel
theorem dX9_init_1 : decode cX9_init 1 = .ok (.invokespecial 3, 3) := by decide +kernel
theorem dX9_init_4 : decode cX9_init 4 = .ok (.aload_n 0, 1) := by decide +kernel
theorem dX9_init_5 : decode cX9_init 5 = .ok (.bipush 6, 2) := by decide +kernel
theorem dX9_init_7 : decode cX9_init 7 = .ok (.anewarray 9, 3) := by decide +kernel
theorem dX9_init_10 : decode cX9_init 10 = .ok (.putfield 11, 3) := by decide +kernel
theorem dX9_init_13 : decode cX9_init 13 = .ok (.aload_n 0, 1) := by decide +kernel
theorem dX9_init_14 : decode cX9_init 14 = .ok (.iconst 0, 1) := by decide +kernel
theorem dX9_init_15 : decode cX9_init 15 = .ok (.putfield 17, 3) := by decide +kernel
theorem dX9_init_18 : decode cX9_init 18 = .ok (.aload_n 0, 1) := by decide +kernel
theorem dX9_init_19 : decode cX9_init 19 = .ok (.iconst 0, 1) := by decide +kernel
theorem dX9_init_20 : decode cX9_init 20 = .ok (.putfield 21, 3) := by decide +kernel
theorem dX9_init_23 : decode cX9_init 23 = .ok (.return_, 1) := by decide +kernel
theorem dX9_takeFrom_0 : decode cX9_takeFrom 0 = .ok (.iconst 0, 1) := by decide +kernel
theorem dX9_takeFrom_1 : decode cX9_takeFrom 1 = .ok (.istore_n 2, 1) := by decide +kernel
theorem dX9_takeFrom_2 : decode cX9_takeFrom 2 = .ok (.iload_n 2, 1) := by decide +kernel
theorem dX9_takeFrom_3 : decode cX9_takeFrom 3 = .ok (.bipush 6, 2) := by decide +kernel
theorem dX9_takeFrom_5 : decode cX9_takeFrom 5 = .ok (.if_icmp .ge 21, 3) := by decide +kernel
theorem dX9_takeFrom_8 : decode cX9_takeFrom 8 = .ok (.aload_n 0, 1) := by decide +kernel
theorem dX9_takeFrom_9 : decode cX9_takeFrom 9 = .ok (.getfield 11, 3) := by decide +kernel
theorem dX9_takeFrom_12 : decode cX9_takeFrom 12 = .ok (.iload_n 2, 1) := by decide +kernel
theorem dX9_takeFrom_13 : decode cX9_takeFrom 13 = .ok (.aload_n 1, 1) := by decide +kernel
theorem dX9_takeFrom_14 : decode cX9_takeFrom 14 = .ok (.getfield 11, 3) := by decide +kernel
theorem dX9_takeFrom_17 : decode cX9_takeFrom 17 = .ok (.iload_n 2, 1) := by decide +kernel
theorem dX9_takeFrom_18 : decode cX9_takeFrom 18 = .ok (.aaload, 1) := by decide +kernel
theorem dX9_takeFrom_19 : decode cX9_takeFrom 19 = .ok (.aastore, 1) := by decide +kernel
theorem dX9_takeFrom_20 : decode cX9_takeFrom 20 = .ok (.iinc 2 1, 3) := by decide +kernel
theorem dX9_takeFrom_23 : decode cX9_takeFrom 23 = .ok (.goto (-21), 3) := by decide +kernel
theorem dX9_takeFrom_26 : decode cX9_takeFrom 26 = .ok (.aload_n 0, 1) := by decide +kernel
theorem dX9_takeFrom_27 : decode cX9_takeFrom 27 = .ok (.aload_n 1, 1) := by decide +kernel
theorem dX9_takeFrom_28 : decode cX9_takeFrom 28 = .ok (.getfield 17, 3) := by decide +kernel
theorem dX9_takeFrom_31 : decode cX9_takeFrom 31 = .ok (.putfield 17, 3) := by decide +kernel
theorem dX9_takeFrom_34 : decode cX9_takeFrom 34 = .ok (.aload_n 0, 1) := by decide +kernel
theorem dX9_takeFrom_35 : decode cX9_takeFrom 35 = .ok (.aload_n 1, 1) := by decide +kernel
theorem dX9_takeFrom_36 : decode cX9_takeFrom 36 = .ok (.getfield 21, 3) := by decide +kernel
theorem dX9_takeFrom_39 : decode cX9_takeFrom 39 = .ok (.putfield 21, 3) := by decide +kernel
theorem dX9_takeFrom_42 : decode cX9_takeFrom 42 = .ok (.return_, 1) := by decide +kernel
theorem dX9_has_0 : decode cX9_has 0 = .ok (.iload_n 1, 1) := by decide +kernel
theorem dX9_has_1 : decode cX9_has 1 = .ok (.ifCond .lt 15, 3) := by decide +kernel
theorem dX9_has_4 : decode cX9_has 4 = .ok (.iload_n 1, 1) := by decide +kernel
theorem dX9_has_5 : decode cX9_has 5 = .ok (.aload_n 0, 1) := by decide +kernel
theorem dX9_has_6 : decode cX9_has 6 = .ok (.getfield 17, 3) := by decide +kernel
theorem dX9_has_9 : decode cX9_has 9 = .ok (.if_icmp .ge 7, 3) := by decide +kernel
theorem dX9_has_12 : decode cX9_has 12 = .ok (.iconst 1, 1) := by decide +kernel
theorem dX9_has_13 : decode cX9_has 13 = .ok (.goto 4, 3) := by decide +kernel
theorem dX9_has_16 : decode cX9_has 16 = .ok (.iconst 0, 1) := by decide +kernel
theorem dX9_has_17 : decode cX9_has 17 = .ok (.ireturn, 1) := by decide +kernel
set_option maxRecDepth 20000 in
theorem ggX9_drawerAt_X9_has : GoodIn wsX9_drawerAt wsX9_has := goodIn_r _ [6, 7, 8, 9, 10] (by decide +kernel) (by decide +kernel)
set_option maxRecDepth 20000 in
theorem gX9_drawerAt_X9_has : GoodIn wsX9_drawerAt (wsV RX9 24 RX9 yX9_has wsX9_has) := goodIn_app (goodIn_of _ (by decide +kernel)) ggX9_drawerAt_X9_has
theorem dX9_drawerAt_0 : decode cX9_drawerAt 0 = .ok (.aload_n 0, 1) := by decide +kernel
theorem dX9_drawerAt_1 : decode cX9_drawerAt 1 = .ok (.iload_n 1, 1) := by decide +kernel
theorem dX9_drawerAt_2 : decode cX9_drawerAt 2 = .ok (.invokevirtual 24, 3) := by decide +kernel
theorem dX9_drawerAt_5 : decode cX9_drawerAt 5 = .ok (.ifCond .eq 18, 3) := by decide +kernel
theorem dX9_drawerAt_8 : decode cX9_drawerAt 8 = .ok (.iload_n 1, 1) := by decide +kernel
theorem dX9_drawerAt_9 : decode cX9_drawerAt 9 = .ok (.bipush 6, 2) := by decide +kernel
theorem dX9_drawerAt_11 : decode cX9_drawerAt 11 = .ok (.if_icmp .ge 12, 3) := by decide +kernel
theorem dX9_drawerAt_14 : decode cX9_drawerAt 14 = .ok (.aload_n 0, 1) := by decide +kernel
theorem dX9_drawerAt_15 : decode cX9_drawerAt 15 = .ok (.getfield 11, 3) := by decide +kernel
theorem dX9_drawerAt_18 : decode cX9_drawerAt 18 = .ok (.iload_n 1, 1) := by decide +kernel
theorem dX9_drawerAt_19 : decode cX9_drawerAt 19 = .ok (.aaload, 1) := by decide +kernel
theorem dX9_drawerAt_20 : decode cX9_drawerAt 20 = .ok (.goto 4, 3) := by decide +kernel
theorem dX9_drawerAt_23 : decode cX9_drawerAt 23 = .ok (.aconst_null, 1) := by decide +kernel
theorem dX9_drawerAt_24 : decode cX9_drawerAt 24 = .ok (.areturn, 1) := by decide +kernel
set_option maxRecDepth 20000 in
theorem ggX9_canStand_X9_allBits : GoodIn wsX9_canStand wsX9_allBits := goodIn_r _ [5, 6, 7, 8, 9] (by decide +kernel) (by decide +kernel)
set_option maxRecDepth 20000 in
theorem gX9_canStand_X9_allBits : GoodIn wsX9_canStand (wsV RX9 28 RX9 yX9_allBits wsX9_allBits) := goodIn_app (goodIn_of _ (by decide +kernel)) ggX9_canStand_X9_allBits
theorem dX9_canStand_0 : decode cX9_canStand 0 = .ok (.iload_n 1, 1) := by decide +kernel
theorem dX9_canStand_1 : decode cX9_canStand 1 = .ok (.ifCond .lt 15, 3) := by decide +kernel
theorem dX9_canStand_4 : decode cX9_canStand 4 = .ok (.iload_n 1, 1) := by decide +kernel
theorem dX9_canStand_5 : decode cX9_canStand 5 = .ok (.aload_n 0, 1) := by decide +kernel
theorem dX9_canStand_6 : decode cX9_canStand 6 = .ok (.invokevirtual 28, 3) := by decide +kernel
theorem dX9_canStand_9 : decode cX9_canStand 9 = .ok (.if_icmp .gt 7, 3) := by decide +kernel
theorem dX9_canStand_12 : decode cX9_canStand 12 = .ok (.iconst 1, 1) := by decide +kernel
theorem dX9_canStand_13 : decode cX9_canStand 13 = .ok (.goto 4, 3) := by decide +kernel
theorem dX9_canStand_16 : decode cX9_canStand 16 = .ok (.iconst 0, 1) := by decide +kernel
theorem dX9_canStand_17 : decode cX9_canStand 17 = .ok (.ireturn, 1) := by decide +kernel
theorem dX9_allBits_0 : decode cX9_allBits 0 = .ok (.iconst 1, 1) := by decide +kernel
theorem dX9_allBits_1 : decode cX9_allBits 1 = .ok (.aload_n 0, 1) := by decide +kernel
theorem dX9_allBits_2 : decode cX9_allBits 2 = .ok (.getfield 17, 3) := by decide +kernel
theorem dX9_allBits_5 : decode cX9_allBits 5 = .ok (.ishl, 1) := by decide +kernel
theorem dX9_allBits_6 : decode cX9_allBits 6 = .ok (.iconst 1, 1) := by decide +kernel
theorem dX9_allBits_7 : decode cX9_allBits 7 = .ok (.isub, 1) := by decide +kernel
theorem dX9_allBits_8 : decode cX9_allBits 8 = .ok (.ireturn, 1) := by decide +kernel
theorem dX9_add_0 : decode cX9_add 0 = .ok (.aload_n 0, 1) := by decide +kernel
theorem dX9_add_1 : decode cX9_add 1 = .ok (.getfield 17, 3) := by decide +kernel
theorem dX9_add_4 : decode cX9_add 4 = .ok (.ifCond .lt 12, 3) := by decide +kernel
theorem dX9_add_7 : decode cX9_add 7 = .ok (.aload_n 0, 1) := by decide +kernel
theorem dX9_add_8 : decode cX9_add 8 = .ok (.getfield 17, 3) := by decide +kernel
theorem dX9_add_11 : decode cX9_add 11 = .ok (.bipush 6, 2) := by decide +kernel
theorem dX9_add_13 : decode cX9_add 13 = .ok (.if_icmp .lt 5, 3) := by decide +kernel
theorem dX9_add_16 : decode cX9_add 16 = .ok (.iconst 0, 1) := by decide +kernel
theorem dX9_add_17 : decode cX9_add 17 = .ok (.ireturn, 1) := by decide +kernel
theorem dX9_add_18 : decode cX9_add 18 = .ok (.aload_n 0, 1) := by decide +kernel
theorem dX9_add_19 : decode cX9_add 19 = .ok (.getfield 11, 3) := by decide +kernel
theorem dX9_add_22 : decode cX9_add 22 = .ok (.aload_n 0, 1) := by decide +kernel
theorem dX9_add_23 : decode cX9_add 23 = .ok (.getfield 17, 3) := by decide +kernel
theorem dX9_add_26 : decode cX9_add 26 = .ok (.aload_n 1, 1) := by decide +kernel
theorem dX9_add_27 : decode cX9_add 27 = .ok (.aastore, 1) := by decide +kernel
theorem dX9_add_28 : decode cX9_add 28 = .ok (.aload_n 0, 1) := by decide +kernel
theorem dX9_add_29 : decode cX9_add 29 = .ok (.dup, 1) := by decide +kernel
theorem dX9_add_30 : decode cX9_add 30 = .ok (.getfield 17, 3) := by decide +kernel
theorem dX9_add_33 : decode cX9_add 33 = .ok (.iconst 1, 1) := by decide +kernel
theorem dX9_add_34 : decode cX9_add 34 = .ok (.iadd, 1) := by decide +kernel
theorem dX9_add_35 : decode cX9_add 35 = .ok (.putfield 17, 3) := by decide +kernel
theorem dX9_add_38 : decode cX9_add 38 = .ok (.iconst 1, 1) := by decide +kernel
theorem dX9_add_39 : decode cX9_add 39 = .ok (.ireturn, 1) := by decide +kernel
set_option maxRecDepth 20000 in
theorem ggX9_replace_X9_has : GoodIn wsX9_replace wsX9_has := goodIn_r _ [6, 7, 8, 9, 10] (by decide +kernel) (by decide +kernel)
set_option maxRecDepth 20000 in
theorem gX9_replace_X9_has : GoodIn wsX9_replace (wsV RX9 24 RX9 yX9_has wsX9_has) := goodIn_app (goodIn_of _ (by decide +kernel)) ggX9_replace_X9_has
theorem dX9_replace_0 : decode cX9_replace 0 = .ok (.aload_n 0, 1) := by decide +kernel
theorem dX9_replace_1 : decode cX9_replace 1 = .ok (.iload_n 1, 1) := by decide +kernel
theorem dX9_replace_2 : decode cX9_replace 2 = .ok (.invokevirtual 24, 3) := by decide +kernel
theorem dX9_replace_5 : decode cX9_replace 5 = .ok (.ifCond .eq 16, 3) := by decide +kernel
theorem dX9_replace_8 : decode cX9_replace 8 = .ok (.iload_n 1, 1) := by decide +kernel
theorem dX9_replace_9 : decode cX9_replace 9 = .ok (.bipush 6, 2) := by decide +kernel
theorem dX9_replace_11 : decode cX9_replace 11 = .ok (.if_icmp .ge 10, 3) := by decide +kernel
theorem dX9_replace_14 : decode cX9_replace 14 = .ok (.aload_n 0, 1) := by decide +kernel
theorem dX9_replace_15 : decode cX9_replace 15 = .ok (.getfield 11, 3) := by decide +kernel
theorem dX9_replace_18 : decode cX9_replace 18 = .ok (.iload_n 1, 1) := by decide +kernel
theorem dX9_replace_19 : decode cX9_replace 19 = .ok (.aload_n 2, 1) := by decide +kernel
theorem dX9_replace_20 : decode cX9_replace 20 = .ok (.aastore, 1) := by decide +kernel
theorem dX9_replace_21 : decode cX9_replace 21 = .ok (.return_, 1) := by decide +kernel
set_option maxRecDepth 20000 in
theorem ggX9_may_X9_drawerAt : GoodIn wsX9_may wsX9_drawerAt := goodIn_r _ [5, 6, 7, 8, 9, 4, 10, 11, 72, 73, 74] (by decide +kernel) (by decide +kernel)
set_option maxRecDepth 20000 in
theorem gX9_may_X9_drawerAt : GoodIn wsX9_may (wsV RX9 32 RX9 yX9_drawerAt wsX9_drawerAt) := goodIn_app (goodIn_of _ (by decide +kernel)) ggX9_may_X9_drawerAt
set_option maxRecDepth 20000 in
theorem ggX9_may_X0_moves : GoodIn wsX9_may wsX0_moves := goodIn_r _ [16, 17, 18, 19] (by decide +kernel) (by decide +kernel)
set_option maxRecDepth 20000 in
theorem gX9_may_X0_moves : GoodIn wsX9_may (wsV RX9 36 RX0 yX0_moves wsX0_moves) := goodIn_app (goodIn_of _ (by decide +kernel)) ggX9_may_X0_moves
set_option maxRecDepth 20000 in
theorem ggX9_may_X1_moves : GoodIn wsX9_may wsX1_moves := goodIn_r _ [26] (by decide +kernel) (by decide +kernel)
set_option maxRecDepth 20000 in
theorem gX9_may_X1_moves_u36X1 : GoodIn wsX9_may (va_wsO RX9 36 RX1 "AboveIsShut$Drawer" ⟨"AboveIsShut$Drawer", "moves", "(II)Z"⟩ yX1_moves wsX1_moves) := goodIn_app (goodIn_of _ (by decide +kernel)) ggX9_may_X1_moves
set_option maxRecDepth 20000 in
theorem ggX9_may_X2_moves : GoodIn wsX9_may wsX2_moves := goodIn_r _ [30, 17, 18, 19, 31, 21, 32, 13, 15, 16] (by decide +kernel) (by decide +kernel)
set_option maxRecDepth 20000 in
theorem gX9_may_X2_moves_u36X2 : GoodIn wsX9_may (va_wsO RX9 36 RX2 "AboveIsShut$Drawer" ⟨"AboveIsShut$Drawer", "moves", "(II)Z"⟩ yX2_moves wsX2_moves) := goodIn_app (goodIn_of _ (by decide +kernel)) ggX9_may_X2_moves
set_option maxRecDepth 20000 in
theorem ggX9_may_X3_moves : GoodIn wsX9_may wsX3_moves := goodIn_r _ [36, 37, 38, 39, 40, 41, 42, 43, 44, 17, 18, 19, 45, 46, 47, 48, 49, 50, 51, 75, 76, 77, 78, 79, 80, 81, 82] (by decide +kernel) (by decide +kernel)
set_option maxRecDepth 20000 in
theorem gX9_may_X3_moves_u36X3 : GoodIn wsX9_may (va_wsO RX9 36 RX3 "AboveIsShut$Drawer" ⟨"AboveIsShut$Drawer", "moves", "(II)Z"⟩ yX3_moves wsX3_moves) := goodIn_app (goodIn_of _ (by decide +kernel)) ggX9_may_X3_moves
set_option maxRecDepth 20000 in
theorem ggX9_may_X4_moves : GoodIn wsX9_may wsX4_moves := goodIn_r _ [55, 56, 57, 58, 46, 47, 48, 49, 50, 51, 75, 76, 77, 78, 79, 80, 81, 82] (by decide +kernel) (by decide +kernel)
set_option maxRecDepth 20000 in
theorem gX9_may_X4_moves_u36X4 : GoodIn wsX9_may (va_wsO RX9 36 RX4 "AboveIsShut$Drawer" ⟨"AboveIsShut$Drawer", "moves", "(II)Z"⟩ yX4_moves wsX4_moves) := goodIn_app (goodIn_of _ (by decide +kernel)) ggX9_may_X4_moves
set_option maxRecDepth 20000 in
theorem ggX9_may_X5_moves : GoodIn wsX9_may wsX5_moves := goodIn_r _ [62, 63, 64, 65, 21, 66, 13, 15, 16, 17, 18, 19, 75, 76, 77, 78, 79, 80, 81, 82] (by decide +kernel) (by decide +kernel)
set_option maxRecDepth 20000 in
theorem gX9_may_X5_moves_u36X5 : GoodIn wsX9_may (va_wsO RX9 36 RX5 "AboveIsShut$Drawer" ⟨"AboveIsShut$Drawer", "moves", "(II)Z"⟩ yX5_moves wsX5_moves) := goodIn_app (goodIn_of _ (by decide +kernel)) ggX9_may_X5_moves
set_option maxRecDepth 20000 in
theorem ggX9_may_X7_moves : GoodIn wsX9_may wsX7_moves := goodIn_r _ [70] (by decide +kernel) (by decide +kernel)
set_option maxRecDepth 20000 in
theorem gX9_may_X7_moves_u36X7 : GoodIn wsX9_may (va_wsO RX9 36 RX7 "AboveIsShut$Drawer" ⟨"AboveIsShut$Drawer", "moves", "(II)Z"⟩ yX7_moves wsX7_moves) := goodIn_app (goodIn_of _ (by decide +kernel)) ggX9_may_X7_moves
set_option maxRecDepth 20000 in
theorem ggX9_may_X8_moves : GoodIn wsX9_may wsX8_moves := goodIn_r _ [44, 17, 18, 19] (by decide +kernel) (by decide +kernel)
set_option maxRecDepth 20000 in
theorem gX9_may_X8_moves_u36X8 : GoodIn wsX9_may (va_wsO RX9 36 RX8 "AboveIsShut$Drawer" ⟨"AboveIsShut$Drawer", "moves", "(II)Z"⟩ yX8_moves wsX8_moves) := goodIn_app (goodIn_of _ (by decide +kernel)) ggX9_may_X8_moves
theorem dX9_may_0 : decode cX9_may 0 = .ok (.aload_n 0, 1) := by decide +kernel
theorem dX9_may_1 : decode cX9_may 1 = .ok (.iload_n 1, 1) := by decide +kernel
theorem dX9_may_2 : decode cX9_may 2 = .ok (.invokevirtual 32, 3) := by decide +kernel
theorem dX9_may_5 : decode cX9_may 5 = .ok (.astore_n 3, 1) := by decide +kernel
theorem dX9_may_6 : decode cX9_may 6 = .ok (.aload_n 3, 1) := by decide +kernel
theorem dX9_may_7 : decode cX9_may 7 = .ok (.ifnull 16, 3) := by decide +kernel
theorem dX9_may_10 : decode cX9_may 10 = .ok (.aload_n 3, 1) := by decide +kernel
theorem dX9_may_11 : decode cX9_may 11 = .ok (.iload_n 1, 1) := by decide +kernel
theorem dX9_may_12 : decode cX9_may 12 = .ok (.iload_n 2, 1) := by decide +kernel
theorem dX9_may_13 : decode cX9_may 13 = .ok (.invokevirtual 36, 3) := by decide +kernel
theorem dX9_may_16 : decode cX9_may 16 = .ok (.ifCond .eq 7, 3) := by decide +kernel
theorem dX9_may_19 : decode cX9_may 19 = .ok (.iconst 1, 1) := by decide +kernel
theorem dX9_may_20 : decode cX9_may 20 = .ok (.goto 4, 3) := by decide +kernel
theorem dX9_may_23 : decode cX9_may 23 = .ok (.iconst 0, 1) := by decide +kernel
theorem dX9_may_24 : decode cX9_may 24 = .ok (.ireturn, 1) := by decide +kernel
set_option maxRecDepth 20000 in
theorem ggX9_mayBits_X9_may : GoodIn wsX9_mayBits wsX9_may := goodIn_r _ [6, 7, 8, 9, 5, 10, 11, 12, 13, 14, 15, 1, 16, 17, 18, 19, 20, 21, 22, 23, 24, 25, 26, 27, 28, 29, 30, 31, 32, 33, 34, 35, 36, 37, 38, 39, 40, 41, 42, 43, 44, 45, 46, 47, 48, 49, 50, 51, 52, 53, 54, 55, 56, 57, 58, 59, 60, 61, 62, 63, 64, 65, 66, 67, 68, 69, 70, 71, 72, 73, 74, 75, 76, 77, 78, 79, 80, 81, 82, 83, 84, 85, 86] (by decide +kernel) (by decide +kernel)
set_option maxRecDepth 20000 in
theorem gX9_mayBits_X9_may : GoodIn wsX9_mayBits (wsV RX9 40 RX9 yX9_may wsX9_may) := goodIn_app (goodIn_of _ (by decide +kernel)) ggX9_mayBits_X9_may
theorem dX9_mayBits_0 : decode cX9_mayBits 0 = .ok (.iconst 0, 1) := by decide +kernel
theorem dX9_mayBits_1 : decode cX9_mayBits 1 = .ok (.istore_n 2, 1) := by decide +kernel
theorem dX9_mayBits_2 : decode cX9_mayBits 2 = .ok (.iconst 0, 1) := by decide +kernel
theorem dX9_mayBits_3 : decode cX9_mayBits 3 = .ok (.istore_n 3, 1) := by decide +kernel
theorem dX9_mayBits_4 : decode cX9_mayBits 4 = .ok (.iload_n 3, 1) := by decide +kernel
theorem dX9_mayBits_5 : decode cX9_mayBits 5 = .ok (.aload_n 0, 1) := by decide +kernel
theorem dX9_mayBits_6 : decode cX9_mayBits 6 = .ok (.getfield 17, 3) := by decide +kernel
theorem dX9_mayBits_9 : decode cX9_mayBits 9 = .ok (.if_icmp .ge 24, 3) := by decide +kernel
theorem dX9_mayBits_12 : decode cX9_mayBits 12 = .ok (.aload_n 0, 1) := by decide +kernel
theorem dX9_mayBits_13 : decode cX9_mayBits 13 = .ok (.iload_n 3, 1) := by decide +kernel
theorem dX9_mayBits_14 : decode cX9_mayBits 14 = .ok (.iload_n 1, 1) := by decide +kernel
theorem dX9_mayBits_15 : decode cX9_mayBits 15 = .ok (.invokevirtual 40, 3) := by decide +kernel
theorem dX9_mayBits_18 : decode cX9_mayBits 18 = .ok (.ifCond .eq 9, 3) := by decide +kernel
theorem dX9_mayBits_21 : decode cX9_mayBits 21 = .ok (.iload_n 2, 1) := by decide +kernel
theorem dX9_mayBits_22 : decode cX9_mayBits 22 = .ok (.iconst 1, 1) := by decide +kernel
theorem dX9_mayBits_23 : decode cX9_mayBits 23 = .ok (.iload_n 3, 1) := by decide +kernel
theorem dX9_mayBits_24 : decode cX9_mayBits 24 = .ok (.ishl, 1) := by decide +kernel
theorem dX9_mayBits_25 : decode cX9_mayBits 25 = .ok (.ior, 1) := by decide +kernel
theorem dX9_mayBits_26 : decode cX9_mayBits 26 = .ok (.istore_n 2, 1) := by decide +kernel
theorem dX9_mayBits_27 : decode cX9_mayBits 27 = .ok (.iinc 3 1, 3) := by decide +kernel
theorem dX9_mayBits_30 : decode cX9_mayBits 30 = .ok (.goto (-26), 3) := by decide +kernel
theorem dX9_mayBits_33 : decode cX9_mayBits 33 = .ok (.iload_n 2, 1) := by decide +kernel
theorem dX9_mayBits_34 : decode cX9_mayBits 34 = .ok (.ireturn, 1) := by decide +kernel
set_option maxRecDepth 20000 in
theorem ggX9_pulled_X9_may : GoodIn wsX9_pulled wsX9_may := goodIn_r _ [6, 7, 8, 9, 5, 10, 11, 12, 13, 14, 15, 16, 17, 18, 19, 20, 21, 22, 23, 24, 25, 26, 27, 28, 29, 30, 31, 32, 33, 34, 35, 36, 37, 38, 39, 40, 41, 42, 43, 44, 45, 46, 47, 48, 49, 50, 51, 52, 53, 54, 55, 56, 57, 58, 59, 60, 61, 62, 63, 64, 65, 66, 67, 68, 69, 70, 71, 72, 73, 74, 75, 76, 79, 80, 81, 82, 83, 84, 85, 86, 87, 88, 89] (by decide +kernel) (by decide +kernel)
set_option maxRecDepth 20000 in
theorem gX9_pulled_X9_may : GoodIn wsX9_pulled (wsV RX9 40 RX9 yX9_may wsX9_may) := goodIn_app (goodIn_of _ (by decide +kernel)) ggX9_pulled_X9_may
set_option maxRecDepth 20000 in
theorem ggX9_pulled_X11_turned : GoodIn wsX9_pulled wsX11_turned := goodIn_r _ [78] (by decide +kernel) (by decide +kernel)
set_option maxRecDepth 20000 in
theorem gX9_pulled_X11_turned_n43 : GoodIn wsX9_pulled (wsX11_turned) := ggX9_pulled_X11_turned
theorem dX9_pulled_0 : decode cX9_pulled 0 = .ok (.aload_n 0, 1) := by decide +kernel
theorem dX9_pulled_1 : decode cX9_pulled 1 = .ok (.iload_n 1, 1) := by decide +kernel
theorem dX9_pulled_2 : decode cX9_pulled 2 = .ok (.aload_n 0, 1) := by decide +kernel
theorem dX9_pulled_3 : decode cX9_pulled 3 = .ok (.getfield 21, 3) := by decide +kernel
theorem dX9_pulled_6 : decode cX9_pulled 6 = .ok (.invokevirtual 40, 3) := by decide +kernel
theorem dX9_pulled_9 : decode cX9_pulled 9 = .ok (.ifCond .ne 5, 3) := by decide +kernel
theorem dX9_pulled_12 : decode cX9_pulled 12 = .ok (.iconst 0, 1) := by decide +kernel
theorem dX9_pulled_13 : decode cX9_pulled 13 = .ok (.ireturn, 1) := by decide +kernel
theorem dX9_pulled_14 : decode cX9_pulled 14 = .ok (.aload_n 0, 1) := by decide +kernel
theorem dX9_pulled_15 : decode cX9_pulled 15 = .ok (.aload_n 0, 1) := by decide +kernel
theorem dX9_pulled_16 : decode cX9_pulled 16 = .ok (.getfield 21, 3) := by decide +kernel
theorem dX9_pulled_19 : decode cX9_pulled 19 = .ok (.iload_n 1, 1) := by decide +kernel
theorem dX9_pulled_20 : decode cX9_pulled 20 = .ok (.invokestatic 43, 3) := by decide +kernel
theorem dX9_pulled_23 : decode cX9_pulled 23 = .ok (.putfield 21, 3) := by decide +kernel
theorem dX9_pulled_26 : decode cX9_pulled 26 = .ok (.iconst 1, 1) := by decide +kernel
theorem dX9_pulled_27 : decode cX9_pulled 27 = .ok (.ireturn, 1) := by decide +kernel
set_option maxRecDepth 20000 in
theorem ggX9_becomes_X9_has : GoodIn wsX9_becomes wsX9_has := goodIn_r _ [6, 7, 8, 9, 10] (by decide +kernel) (by decide +kernel)
set_option maxRecDepth 20000 in
theorem gX9_becomes_X9_has : GoodIn wsX9_becomes (wsV RX9 24 RX9 yX9_has wsX9_has) := goodIn_app (goodIn_of _ (by decide +kernel)) ggX9_becomes_X9_has
theorem dX9_becomes_0 : decode cX9_becomes 0 = .ok (.aload_n 0, 1) := by decide +kernel
theorem dX9_becomes_1 : decode cX9_becomes 1 = .ok (.iload_n 1, 1) := by decide +kernel
theorem dX9_becomes_2 : decode cX9_becomes 2 = .ok (.invokevirtual 24, 3) := by decide +kernel
theorem dX9_becomes_5 : decode cX9_becomes 5 = .ok (.ifCond .ne 5, 3) := by decide +kernel
theorem dX9_becomes_8 : decode cX9_becomes 8 = .ok (.iconst 0, 1) := by decide +kernel
theorem dX9_becomes_9 : decode cX9_becomes 9 = .ok (.ireturn, 1) := by decide +kernel
theorem dX9_becomes_10 : decode cX9_becomes 10 = .ok (.aload_n 0, 1) := by decide +kernel
theorem dX9_becomes_11 : decode cX9_becomes 11 = .ok (.iload_n 2, 1) := by decide +kernel
theorem dX9_becomes_12 : decode cX9_becomes 12 = .ok (.ifCond .eq 14, 3) := by decide +kernel
theorem dX9_becomes_15 : decode cX9_becomes 15 = .ok (.aload_n 0, 1) := by decide +kernel
theorem dX9_becomes_16 : decode cX9_becomes 16 = .ok (.getfield 21, 3) := by decide +kernel
theorem dX9_becomes_19 : decode cX9_becomes 19 = .ok (.iconst 1, 1) := by decide +kernel
theorem dX9_becomes_20 : decode cX9_becomes 20 = .ok (.iload_n 1, 1) := by decide +kernel
theorem dX9_becomes_21 : decode cX9_becomes 21 = .ok (.ishl, 1) := by decide +kernel
theorem dX9_becomes_22 : decode cX9_becomes 22 = .ok (.ior, 1) := by decide +kernel
theorem dX9_becomes_23 : decode cX9_becomes 23 = .ok (.goto 13, 3) := by decide +kernel
theorem dX9_becomes_26 : decode cX9_becomes 26 = .ok (.aload_n 0, 1) := by decide +kernel
theorem dX9_becomes_27 : decode cX9_becomes 27 = .ok (.getfield 21, 3) := by decide +kernel
theorem dX9_becomes_30 : decode cX9_becomes 30 = .ok (.iconst 1, 1) := by decide +kernel
theorem dX9_becomes_31 : decode cX9_becomes 31 = .ok (.iload_n 1, 1) := by decide +kernel
theorem dX9_becomes_32 : decode cX9_becomes 32 = .ok (.ishl, 1) := by decide +kernel
theorem dX9_becomes_33 : decode cX9_becomes 33 = .ok (.iconst (-1), 1) := by decide +kernel
theorem dX9_becomes_34 : decode cX9_becomes 34 = .ok (.ixor, 1) := by decide +kernel
theorem dX9_becomes_35 : decode cX9_becomes 35 = .ok (.iand, 1) := by decide +kernel
theorem dX9_becomes_36 : decode cX9_becomes 36 = .ok (.putfield 21, 3) := by decide +kernel
theorem dX9_becomes_39 : decode cX9_becomes 39 = .ok (.iconst 1, 1) := by decide +kernel
theorem dX9_becomes_40 : decode cX9_becomes 40 = .ok (.ireturn, 1) := by decide +kernel
set_option maxRecDepth 20000 in
theorem ggX9_howManyOf_X9_drawerAt : GoodIn wsX9_howManyOf wsX9_drawerAt := goodIn_r _ [6, 7, 8, 9, 10, 5, 11, 1, 48, 49, 50] (by decide +kernel) (by decide +kernel)
set_option maxRecDepth 20000 in
theorem gX9_howManyOf_X9_drawerAt : GoodIn wsX9_howManyOf (wsV RX9 32 RX9 yX9_drawerAt wsX9_drawerAt) := goodIn_app (goodIn_of _ (by decide +kernel)) ggX9_howManyOf_X9_drawerAt
set_option maxRecDepth 20000 in
theorem ggX9_howManyOf_X0_kind : GoodIn wsX9_howManyOf wsX0_kind := goodIn_r _ [16] (by decide +kernel) (by decide +kernel)
set_option maxRecDepth 20000 in
theorem gX9_howManyOf_X0_kind : GoodIn wsX9_howManyOf (wsV RX9 47 RX0 yX0_kind wsX0_kind) := goodIn_app (goodIn_of _ (by decide +kernel)) ggX9_howManyOf_X0_kind
set_option maxRecDepth 20000 in
theorem ggX9_howManyOf_X1_kind : GoodIn wsX9_howManyOf wsX1_kind := goodIn_r _ [23] (by decide +kernel) (by decide +kernel)
set_option maxRecDepth 20000 in
theorem gX9_howManyOf_X1_kind_u47X1 : GoodIn wsX9_howManyOf (va_wsO RX9 47 RX1 "AboveIsShut$Drawer" ⟨"AboveIsShut$Drawer", "kind", "()I"⟩ yX1_kind wsX1_kind) := goodIn_app (goodIn_of _ (by decide +kernel)) ggX9_howManyOf_X1_kind
set_option maxRecDepth 20000 in
theorem ggX9_howManyOf_X2_kind : GoodIn wsX9_howManyOf wsX2_kind := goodIn_r _ [27] (by decide +kernel) (by decide +kernel)
set_option maxRecDepth 20000 in
theorem gX9_howManyOf_X2_kind_u47X2 : GoodIn wsX9_howManyOf (va_wsO RX9 47 RX2 "AboveIsShut$Drawer" ⟨"AboveIsShut$Drawer", "kind", "()I"⟩ yX2_kind wsX2_kind) := goodIn_app (goodIn_of _ (by decide +kernel)) ggX9_howManyOf_X2_kind
set_option maxRecDepth 20000 in
theorem ggX9_howManyOf_X3_kind : GoodIn wsX9_howManyOf wsX3_kind := goodIn_r _ [31] (by decide +kernel) (by decide +kernel)
set_option maxRecDepth 20000 in
theorem gX9_howManyOf_X3_kind_u47X3 : GoodIn wsX9_howManyOf (va_wsO RX9 47 RX3 "AboveIsShut$Drawer" ⟨"AboveIsShut$Drawer", "kind", "()I"⟩ yX3_kind wsX3_kind) := goodIn_app (goodIn_of _ (by decide +kernel)) ggX9_howManyOf_X3_kind
set_option maxRecDepth 20000 in
theorem ggX9_howManyOf_X4_kind : GoodIn wsX9_howManyOf wsX4_kind := goodIn_r _ [35] (by decide +kernel) (by decide +kernel)
set_option maxRecDepth 20000 in
theorem gX9_howManyOf_X4_kind_u47X4 : GoodIn wsX9_howManyOf (va_wsO RX9 47 RX4 "AboveIsShut$Drawer" ⟨"AboveIsShut$Drawer", "kind", "()I"⟩ yX4_kind wsX4_kind) := goodIn_app (goodIn_of _ (by decide +kernel)) ggX9_howManyOf_X4_kind
set_option maxRecDepth 20000 in
theorem ggX9_howManyOf_X5_kind : GoodIn wsX9_howManyOf wsX5_kind := goodIn_r _ [39] (by decide +kernel) (by decide +kernel)
set_option maxRecDepth 20000 in
theorem gX9_howManyOf_X5_kind_u47X5 : GoodIn wsX9_howManyOf (va_wsO RX9 47 RX5 "AboveIsShut$Drawer" ⟨"AboveIsShut$Drawer", "kind", "()I"⟩ yX5_kind wsX5_kind) := goodIn_app (goodIn_of _ (by decide +kernel)) ggX9_howManyOf_X5_kind
set_option maxRecDepth 20000 in
theorem ggX9_howManyOf_X7_kind : GoodIn wsX9_howManyOf wsX7_kind := goodIn_r _ [43] (by decide +kernel) (by decide +kernel)
set_option maxRecDepth 20000 in
theorem gX9_howManyOf_X7_kind_u47X7 : GoodIn wsX9_howManyOf (va_wsO RX9 47 RX7 "AboveIsShut$Drawer" ⟨"AboveIsShut$Drawer", "kind", "()I"⟩ yX7_kind wsX7_kind) := goodIn_app (goodIn_of _ (by decide +kernel)) ggX9_howManyOf_X7_kind
set_option maxRecDepth 20000 in
theorem ggX9_howManyOf_X8_kind : GoodIn wsX9_howManyOf wsX8_kind := goodIn_r _ [47] (by decide +kernel) (by decide +kernel)
set_option maxRecDepth 20000 in
theorem gX9_howManyOf_X8_kind_u47X8 : GoodIn wsX9_howManyOf (va_wsO RX9 47 RX8 "AboveIsShut$Drawer" ⟨"AboveIsShut$Drawer", "kind", "()I"⟩ yX8_kind wsX8_kind) := goodIn_app (goodIn_of _ (by decide +kernel)) ggX9_howManyOf_X8_kind
theorem dX9_howManyOf_0 : decode cX9_howManyOf 0 = .ok (.iconst 0, 1) := by decide +kernel
theorem dX9_howManyOf_1 : decode cX9_howManyOf 1 = .ok (.istore_n 2, 1) := by decide +kernel
theorem dX9_howManyOf_2 : decode cX9_howManyOf 2 = .ok (.iconst 0, 1) := by decide +kernel
theorem dX9_howManyOf_3 : decode cX9_howManyOf 3 = .ok (.istore_n 3, 1) := by decide +kernel
theorem dX9_howManyOf_4 : decode cX9_howManyOf 4 = .ok (.iload_n 3, 1) := by decide +kernel
theorem dX9_howManyOf_5 : decode cX9_howManyOf 5 = .ok (.aload_n 0, 1) := by decide +kernel
theorem dX9_howManyOf_6 : decode cX9_howManyOf 6 = .ok (.getfield 17, 3) := by decide +kernel
theorem dX9_howManyOf_9 : decode cX9_howManyOf 9 = .ok (.if_icmp .ge 33, 3) := by decide +kernel
theorem dX9_howManyOf_12 : decode cX9_howManyOf 12 = .ok (.aload_n 0, 1) := by decide +kernel
theorem dX9_howManyOf_13 : decode cX9_howManyOf 13 = .ok (.iload_n 3, 1) := by decide +kernel
theorem dX9_howManyOf_14 : decode cX9_howManyOf 14 = .ok (.invokevirtual 32, 3) := by decide +kernel
theorem dX9_howManyOf_17 : decode cX9_howManyOf 17 = .ok (.astore 4, 2) := by decide +kernel
theorem dX9_howManyOf_19 : decode cX9_howManyOf 19 = .ok (.aload 4, 2) := by decide +kernel
theorem dX9_howManyOf_21 : decode cX9_howManyOf 21 = .ok (.ifnull 15, 3) := by decide +kernel
theorem dX9_howManyOf_24 : decode cX9_howManyOf 24 = .ok (.aload 4, 2) := by decide +kernel
theorem dX9_howManyOf_26 : decode cX9_howManyOf 26 = .ok (.invokevirtual 47, 3) := by decide +kernel
theorem dX9_howManyOf_29 : decode cX9_howManyOf 29 = .ok (.iload_n 1, 1) := by decide +kernel
theorem dX9_howManyOf_30 : decode cX9_howManyOf 30 = .ok (.if_icmp .ne 6, 3) := by decide +kernel
theorem dX9_howManyOf_33 : decode cX9_howManyOf 33 = .ok (.iinc 2 1, 3) := by decide +kernel
theorem dX9_howManyOf_36 : decode cX9_howManyOf 36 = .ok (.iinc 3 1, 3) := by decide +kernel
theorem dX9_howManyOf_39 : decode cX9_howManyOf 39 = .ok (.goto (-35), 3) := by decide +kernel
theorem dX9_howManyOf_42 : decode cX9_howManyOf 42 = .ok (.iload_n 2, 1) := by decide +kernel
theorem dX9_howManyOf_43 : decode cX9_howManyOf 43 = .ok (.ireturn, 1) := by decide +kernel
set_option maxRecDepth 20000 in
theorem ggX9_isJoiners_X9_howManyOf : GoodIn wsX9_isJoiners wsX9_howManyOf := goodIn_r _ [6, 1, 7, 8, 9, 5, 10, 11, 12, 13, 14, 15, 16, 17, 18, 19, 20, 21, 22, 23, 24, 25, 26, 27, 28, 29, 30, 31, 32, 33, 34, 35, 36, 37, 38, 39, 40, 41, 42, 43, 44, 45, 46, 47, 48, 49, 50, 51, 52, 53, 54] (by decide +kernel) (by decide +kernel)
set_option maxRecDepth 20000 in
theorem gX9_isJoiners_X9_howManyOf : GoodIn wsX9_isJoiners (wsV RX9 50 RX9 yX9_howManyOf wsX9_howManyOf) := goodIn_app (goodIn_of _ (by decide +kernel)) ggX9_isJoiners_X9_howManyOf
theorem dX9_isJoiners_0 : decode cX9_isJoiners 0 = .ok (.aload_n 0, 1) := by decide +kernel
theorem dX9_isJoiners_1 : decode cX9_isJoiners 1 = .ok (.iconst 0, 1) := by decide +kernel
theorem dX9_isJoiners_2 : decode cX9_isJoiners 2 = .ok (.invokevirtual 50, 3) := by decide +kernel
theorem dX9_isJoiners_5 : decode cX9_isJoiners 5 = .ok (.aload_n 0, 1) := by decide +kernel
theorem dX9_isJoiners_6 : decode cX9_isJoiners 6 = .ok (.getfield 17, 3) := by decide +kernel
theorem dX9_isJoiners_9 : decode cX9_isJoiners 9 = .ok (.if_icmp .ne 7, 3) := by decide +kernel
theorem dX9_isJoiners_12 : decode cX9_isJoiners 12 = .ok (.iconst 1, 1) := by decide +kernel
theorem dX9_isJoiners_13 : decode cX9_isJoiners 13 = .ok (.goto 4, 3) := by decide +kernel
theorem dX9_isJoiners_16 : decode cX9_isJoiners 16 = .ok (.iconst 0, 1) := by decide +kernel
theorem dX9_isJoiners_17 : decode cX9_isJoiners 17 = .ok (.ireturn, 1) := by decide +kernel
theorem dX10_init_0 : decode cX10_init 0 = .ok (.aload_n 0, 1) := by decide +kernel
theorem dX10_init_1 : decode cX10_init 1 = .ok (.invokespecial 3, 3) := by decide +kernel
theorem dX10_init_4 : decode cX10_init 4 = .ok (.aload_n 0, 1) := by decide +kernel
theorem dX10_init_5 : decode cX10_init 5 = .ok (.bipush 64, 2) := by decide +kernel
theorem dX10_init_7 : decode cX10_init 7 = .ok (.newarray .int, 2) := by decide +kernel
theorem dX10_init_9 : decode cX10_init 9 = .ok (.putfield 9, 3) := by decide +kernel
theorem dX10_init_12 : decode cX10_init 12 = .ok (.aload_n 0, 1) := by decide +kernel
theorem dX10_init_13 : decode cX10_init 13 = .ok (.bipush 64, 2) := by decide +kernel
theorem dX10_init_15 : decode cX10_init 15 = .ok (.newarray .long, 2) := by decide +kernel
theorem dX10_init_17 : decode cX10_init 17 = .ok (.putfield 15, 3) := by decide +kernel
theorem dX10_init_20 : decode cX10_init 20 = .ok (.aload_n 0, 1) := by decide +kernel
theorem dX10_init_21 : decode cX10_init 21 = .ok (.sipush 729, 3) := by decide +kernel
theorem dX10_init_24 : decode cX10_init 24 = .ok (.newarray .int, 2) := by decide +kernel
theorem dX10_init_26 : decode cX10_init 26 = .ok (.putfield 19, 3) := by decide +kernel
theorem dX10_init_29 : decode cX10_init 29 = .ok (.aload_n 0, 1) := by decide +kernel
theorem dX10_init_30 : decode cX10_init 30 = .ok (.sipush 729, 3) := by decide +kernel
theorem dX10_init_33 : decode cX10_init 33 = .ok (.newarray .int, 2) := by decide +kernel
theorem dX10_init_35 : decode cX10_init 35 = .ok (.putfield 22, 3) := by decide +kernel
theorem dX10_init_38 : decode cX10_init 38 = .ok (.aload_n 0, 1) := by decide +kernel
theorem dX10_init_39 : decode cX10_init 39 = .ok (.sipush 729, 3) := by decide +kernel
theorem dX10_init_42 : decode cX10_init 42 = .ok (.newarray .int, 2) := by decide +kernel
theorem dX10_init_44 : decode cX10_init 44 = .ok (.putfield 25, 3) := by decide +kernel
theorem dX10_init_47 : decode cX10_init 47 = .ok (.aload_n 0, 1) := by decide +kernel
theorem dX10_init_48 : decode cX10_init 48 = .ok (.iconst 0, 1) := by decide +kernel
theorem dX10_init_49 : decode cX10_init 49 = .ok (.putfield 28, 3) := by decide +kernel
theorem dX10_init_52 : decode cX10_init 52 = .ok (.return_, 1) := by decide +kernel
set_option maxRecDepth 20000 in
theorem ggX10_learn_X9_canStand : GoodIn wsX10_learn wsX9_canStand := goodIn_r _ [6, 7, 8, 9, 5, 10, 11, 95, 96, 97] (by decide +kernel) (by decide +kernel)
set_option maxRecDepth 20000 in
theorem gX10_learn_X9_canStand : GoodIn wsX10_learn (wsV RX10 32 RX9 yX9_canStand wsX9_canStand) := goodIn_app (goodIn_of _ (by decide +kernel)) ggX10_learn_X9_canStand
set_option maxRecDepth 20000 in
theorem ggX10_learn_X9_mayBits : GoodIn wsX10_learn wsX9_mayBits := goodIn_r _ [15, 11, 16, 17, 18, 5, 19, 20, 21, 22, 23, 24, 25, 26, 27, 28, 29, 30, 31, 32, 33, 34, 35, 36, 37, 38, 39, 40, 41, 42, 43, 44, 45, 46, 47, 48, 49, 50, 51, 52, 53, 54, 55, 56, 57, 58, 59, 60, 61, 62, 63, 64, 65, 66, 67, 68, 69, 70, 71, 72, 73, 74, 75, 76, 77, 78, 79, 80, 81, 82, 83, 84, 85, 86, 87, 88, 95, 96, 97, 98, 99, 100, 101, 102, 103, 104, 105] (by decide +kernel) (by decide +kernel)
set_option maxRecDepth 20000 in
theorem gX10_learn_X9_mayBits : GoodIn wsX10_learn (wsV RX10 38 RX9 yX9_mayBits wsX9_mayBits) := goodIn_app (goodIn_of _ (by decide +kernel)) ggX10_learn_X9_mayBits
theorem dX10_learn_0 : decode cX10_learn 0 = .ok (.iconst 0, 1) := by decide +kernel
theorem dX10_learn_1 : decode cX10_learn 1 = .ok (.istore_n 2, 1) := by decide +kernel
theorem dX10_learn_2 : decode cX10_learn 2 = .ok (.iload_n 2, 1) := by decide +kernel
theorem dX10_learn_3 : decode cX10_learn 3 = .ok (.bipush 64, 2) := by decide +kernel
theorem dX10_learn_5 : decode cX10_learn 5 = .ok (.if_icmp .ge 32, 3) := by decide +kernel
theorem dX10_learn_8 : decode cX10_learn 8 = .ok (.aload_n 0, 1) := by decide +kernel
theorem dX10_learn_9 : decode cX10_learn 9 = .ok (.getfield 9, 3) := by decide +kernel
theorem dX10_learn_12 : decode cX10_learn 12 = .ok (.iload_n 2, 1) := by decide +kernel
theorem dX10_learn_13 : decode cX10_learn 13 = .ok (.aload_n 1, 1) := by decide +kernel
theorem dX10_learn_14 : decode cX10_learn 14 = .ok (.iload_n 2, 1) := by decide +kernel
theorem dX10_learn_15 : decode cX10_learn 15 = .ok (.invokevirtual 32, 3) := by decide +kernel
theorem dX10_learn_18 : decode cX10_learn 18 = .ok (.ifCond .eq 11, 3) := by decide +kernel
theorem dX10_learn_21 : decode cX10_learn 21 = .ok (.aload_n 1, 1) := by decide +kernel
theorem dX10_learn_22 : decode cX10_learn 22 = .ok (.iload_n 2, 1) := by decide +kernel
theorem dX10_learn_23 : decode cX10_learn 23 = .ok (.invokevirtual 38, 3) := by decide +kernel
theorem dX10_learn_26 : decode cX10_learn 26 = .ok (.goto 4, 3) := by decide +kernel
theorem dX10_learn_29 : decode cX10_learn 29 = .ok (.iconst 0, 1) := by decide +kernel
theorem dX10_learn_30 : decode cX10_learn 30 = .ok (.iastore, 1) := by decide +kernel
theorem dX10_learn_31 : decode cX10_learn 31 = .ok (.iinc 2 1, 3) := by decide +kernel
theorem dX10_learn_34 : decode cX10_learn 34 = .ok (.goto (-32), 3) := by decide +kernel
theorem dX10_learn_37 : decode cX10_learn 37 = .ok (.return_, 1) := by decide +kernel
set_option maxRecDepth 20000 in
theorem ggX10_spread_X10_begin : GoodIn wsX10_spread wsX10_begin := goodIn_r _ [6, 7, 1, 8, 9, 10, 5, 11, 12, 13, 14, 15, 16, 17, 29, 30, 31, 32, 33, 34] (by decide +kernel) (by decide +kernel)
set_option maxRecDepth 20000 in
theorem gX10_spread_X10_begin : GoodIn wsX10_spread (wsV RX10 42 RX10 yX10_begin wsX10_begin) := goodIn_app (goodIn_of _ (by decide +kernel)) ggX10_spread_X10_begin
set_option maxRecDepth 20000 in
theorem ggX10_spread_X10_goOn : GoodIn wsX10_spread wsX10_goOn := goodIn_r _ [21, 12, 13, 14, 22, 23, 24, 5, 25, 26, 27, 16, 28, 8, 9, 10, 11, 7, 1, 15, 17, 29, 30, 31, 32, 33, 34] (by decide +kernel) (by decide +kernel)
set_option maxRecDepth 20000 in
theorem gX10_spread_X10_goOn : GoodIn wsX10_spread (wsV RX10 46 RX10 yX10_goOn wsX10_goOn) := goodIn_app (goodIn_of _ (by decide +kernel)) ggX10_spread_X10_goOn
theorem dX10_spread_0 : decode cX10_spread 0 = .ok (.aload_n 0, 1) := by decide +kernel
theorem dX10_spread_1 : decode cX10_spread 1 = .ok (.iload_n 1, 1) := by decide +kernel
theorem dX10_spread_2 : decode cX10_spread 2 = .ok (.iconst 0, 1) := by decide +kernel
theorem dX10_spread_3 : decode cX10_spread 3 = .ok (.invokevirtual 42, 3) := by decide +kernel
theorem dX10_spread_6 : decode cX10_spread 6 = .ok (.iconst 0, 1) := by decide +kernel
theorem dX10_spread_7 : decode cX10_spread 7 = .ok (.istore_n 2, 1) := by decide +kernel
theorem dX10_spread_8 : decode cX10_spread 8 = .ok (.iload_n 2, 1) := by decide +kernel
theorem dX10_spread_9 : decode cX10_spread 9 = .ok (.aload_n 0, 1) := by decide +kernel
theorem dX10_spread_10 : decode cX10_spread 10 = .ok (.getfield 28, 3) := by decide +kernel
theorem dX10_spread_13 : decode cX10_spread 13 = .ok (.if_icmp .ge 22, 3) := by decide +kernel
theorem dX10_spread_16 : decode cX10_spread 16 = .ok (.iload_n 2, 1) := by decide +kernel
theorem dX10_spread_17 : decode cX10_spread 17 = .ok (.sipush 729, 3) := by decide +kernel
theorem dX10_spread_20 : decode cX10_spread 20 = .ok (.if_icmp .ge 15, 3) := by decide +kernel
theorem dX10_spread_23 : decode cX10_spread 23 = .ok (.aload_n 0, 1) := by decide +kernel
theorem dX10_spread_24 : decode cX10_spread 24 = .ok (.iload_n 2, 1) := by decide +kernel
theorem dX10_spread_25 : decode cX10_spread 25 = .ok (.iconst 0, 1) := by decide +kernel
theorem dX10_spread_26 : decode cX10_spread 26 = .ok (.invokevirtual 46, 3) := by decide +kernel
theorem dX10_spread_29 : decode cX10_spread 29 = .ok (.iinc 2 1, 3) := by decide +kernel
theorem dX10_spread_32 : decode cX10_spread 32 = .ok (.goto (-24), 3) := by decide +kernel
theorem dX10_spread_35 : decode cX10_spread 35 = .ok (.return_, 1) := by decide +kernel
set_option maxRecDepth 20000 in
theorem ggX10_pullsTo_X10_begin : GoodIn wsX10_pullsTo wsX10_begin := goodIn_r _ [8, 9, 1, 10, 11, 12, 7, 13, 2, 14, 3, 15, 16, 17, 29, 30, 31, 32, 33, 34] (by decide +kernel) (by decide +kernel)
set_option maxRecDepth 20000 in
theorem gX10_pullsTo_X10_begin : GoodIn wsX10_pullsTo (wsV RX10 42 RX10 yX10_begin wsX10_begin) := goodIn_app (goodIn_of _ (by decide +kernel)) ggX10_pullsTo_X10_begin
set_option maxRecDepth 20000 in
theorem ggX10_pullsTo_X10_goOn : GoodIn wsX10_pullsTo wsX10_goOn := goodIn_r _ [21, 2, 14, 3, 22, 23, 24, 7, 25, 26, 27, 16, 28, 10, 11, 12, 13, 9, 1, 15, 17, 29, 30, 31, 32, 33, 34] (by decide +kernel) (by decide +kernel)
set_option maxRecDepth 20000 in
theorem gX10_pullsTo_X10_goOn : GoodIn wsX10_pullsTo (wsV RX10 46 RX10 yX10_goOn wsX10_goOn) := goodIn_app (goodIn_of _ (by decide +kernel)) ggX10_pullsTo_X10_goOn
theorem dX10_pullsTo_0 : decode cX10_pullsTo 0 = .ok (.aload_n 0, 1) := by decide +kernel
theorem dX10_pullsTo_1 : decode cX10_pullsTo 1 = .ok (.iload_n 1, 1) := by decide +kernel
theorem dX10_pullsTo_2 : decode cX10_pullsTo 2 = .ok (.iconst 0, 1) := by decide +kernel
theorem dX10_pullsTo_3 : decode cX10_pullsTo 3 = .ok (.invokevirtual 42, 3) := by decide +kernel
theorem dX10_pullsTo_6 : decode cX10_pullsTo 6 = .ok (.iconst 0, 1) := by decide +kernel
theorem dX10_pullsTo_7 : decode cX10_pullsTo 7 = .ok (.istore_n 3, 1) := by decide +kernel
theorem dX10_pullsTo_8 : decode cX10_pullsTo 8 = .ok (.iload_n 3, 1) := by decide +kernel
theorem dX10_pullsTo_9 : decode cX10_pullsTo 9 = .ok (.aload_n 0, 1) := by decide +kernel
theorem dX10_pullsTo_10 : decode cX10_pullsTo 10 = .ok (.getfield 28, 3) := by decide +kernel
theorem dX10_pullsTo_13 : decode cX10_pullsTo 13 = .ok (.if_icmp .ge 39, 3) := by decide +kernel
theorem dX10_pullsTo_16 : decode cX10_pullsTo 16 = .ok (.iload_n 3, 1) := by decide +kernel
theorem dX10_pullsTo_17 : decode cX10_pullsTo 17 = .ok (.sipush 729, 3) := by decide +kernel
theorem dX10_pullsTo_20 : decode cX10_pullsTo 20 = .ok (.if_icmp .ge 32, 3) := by decide +kernel
theorem dX10_pullsTo_23 : decode cX10_pullsTo 23 = .ok (.aload_n 0, 1) := by decide +kernel
theorem dX10_pullsTo_24 : decode cX10_pullsTo 24 = .ok (.getfield 19, 3) := by decide +kernel
theorem dX10_pullsTo_27 : decode cX10_pullsTo 27 = .ok (.iload_n 3, 1) := by decide +kernel
theorem dX10_pullsTo_28 : decode cX10_pullsTo 28 = .ok (.iaload, 1) := by decide +kernel
theorem dX10_pullsTo_29 : decode cX10_pullsTo 29 = .ok (.iload_n 2, 1) := by decide +kernel
theorem dX10_pullsTo_30 : decode cX10_pullsTo 30 = .ok (.if_icmp .ne 10, 3) := by decide +kernel
theorem dX10_pullsTo_33 : decode cX10_pullsTo 33 = .ok (.aload_n 0, 1) := by decide +kernel
theorem dX10_pullsTo_34 : decode cX10_pullsTo 34 = .ok (.getfield 25, 3) := by decide +kernel
theorem dX10_pullsTo_37 : decode cX10_pullsTo 37 = .ok (.iload_n 3, 1) := by decide +kernel
theorem dX10_pullsTo_38 : decode cX10_pullsTo 38 = .ok (.iaload, 1) := by decide +kernel
theorem dX10_pullsTo_39 : decode cX10_pullsTo 39 = .ok (.ireturn, 1) := by decide +kernel
theorem dX10_pullsTo_40 : decode cX10_pullsTo 40 = .ok (.aload_n 0, 1) := by decide +kernel
theorem dX10_pullsTo_41 : decode cX10_pullsTo 41 = .ok (.iload_n 3, 1) := by decide +kernel
theorem dX10_pullsTo_42 : decode cX10_pullsTo 42 = .ok (.iconst 0, 1) := by decide +kernel
theorem dX10_pullsTo_43 : decode cX10_pullsTo 43 = .ok (.invokevirtual 46, 3) := by decide +kernel
theorem dX10_pullsTo_46 : decode cX10_pullsTo 46 = .ok (.iinc 3 1, 3) := by decide +kernel
theorem dX10_pullsTo_49 : decode cX10_pullsTo 49 = .ok (.goto (-41), 3) := by decide +kernel
theorem dX10_pullsTo_52 : decode cX10_pullsTo 52 = .ok (.bipush (-4), 2) := by decide +kernel
theorem dX10_pullsTo_54 : decode cX10_pullsTo 54 = .ok (.ireturn, 1) := by decide +kernel
set_option maxRecDepth 20000 in
theorem ggX10_pullsToHave_X10_begin : GoodIn wsX10_pullsToHave wsX10_begin := goodIn_r _ [8, 9, 1, 10, 11, 12, 7, 13, 14, 2, 3, 15, 16, 17, 29, 30, 31, 32, 33, 34] (by decide +kernel) (by decide +kernel)
set_option maxRecDepth 20000 in
theorem gX10_pullsToHave_X10_begin : GoodIn wsX10_pullsToHave (wsV RX10 42 RX10 yX10_begin wsX10_begin) := goodIn_app (goodIn_of _ (by decide +kernel)) ggX10_pullsToHave_X10_begin
set_option maxRecDepth 20000 in
theorem ggX10_pullsToHave_X10_goOn : GoodIn wsX10_pullsToHave wsX10_goOn := goodIn_r _ [21, 14, 2, 3, 22, 23, 24, 7, 25, 26, 27, 16, 28, 10, 11, 12, 13, 9, 1, 15, 17, 29, 30, 31, 32, 33, 34] (by decide +kernel) (by decide +kernel)
set_option maxRecDepth 20000 in
theorem gX10_pullsToHave_X10_goOn : GoodIn wsX10_pullsToHave (wsV RX10 46 RX10 yX10_goOn wsX10_goOn) := goodIn_app (goodIn_of _ (by decide +kernel)) ggX10_pullsToHave_X10_goOn
theorem dX10_pullsToHave_0 : decode cX10_pullsToHave 0 = .ok (.aload_n 0, 1) := by decide +kernel
theorem dX10_pullsToHave_1 : decode cX10_pullsToHave 1 = .ok (.iload_n 1, 1) := by decide +kernel
theorem dX10_pullsToHave_2 : decode cX10_pullsToHave 2 = .ok (.iload_n 2, 1) := by decide +kernel
theorem dX10_pullsToHave_3 : decode cX10_pullsToHave 3 = .ok (.invokevirtual 42, 3) := by decide +kernel
theorem dX10_pullsToHave_6 : decode cX10_pullsToHave 6 = .ok (.iconst 0, 1) := by decide +kernel
theorem dX10_pullsToHave_7 : decode cX10_pullsToHave 7 = .ok (.istore_n 3, 1) := by decide +kernel
theorem dX10_pullsToHave_8 : decode cX10_pullsToHave 8 = .ok (.iload_n 3, 1) := by decide +kernel
theorem dX10_pullsToHave_9 : decode cX10_pullsToHave 9 = .ok (.aload_n 0, 1) := by decide +kernel
theorem dX10_pullsToHave_10 : decode cX10_pullsToHave 10 = .ok (.getfield 28, 3) := by decide +kernel
theorem dX10_pullsToHave_13 : decode cX10_pullsToHave 13 = .ok (.if_icmp .ge 39, 3) := by decide +kernel
theorem dX10_pullsToHave_16 : decode cX10_pullsToHave 16 = .ok (.iload_n 3, 1) := by decide +kernel
theorem dX10_pullsToHave_17 : decode cX10_pullsToHave 17 = .ok (.sipush 729, 3) := by decide +kernel
theorem dX10_pullsToHave_20 : decode cX10_pullsToHave 20 = .ok (.if_icmp .ge 32, 3) := by decide +kernel
theorem dX10_pullsToHave_23 : decode cX10_pullsToHave 23 = .ok (.aload_n 0, 1) := by decide +kernel
theorem dX10_pullsToHave_24 : decode cX10_pullsToHave 24 = .ok (.getfield 22, 3) := by decide +kernel
theorem dX10_pullsToHave_27 : decode cX10_pullsToHave 27 = .ok (.iload_n 3, 1) := by decide +kernel
theorem dX10_pullsToHave_28 : decode cX10_pullsToHave 28 = .ok (.iaload, 1) := by decide +kernel
theorem dX10_pullsToHave_29 : decode cX10_pullsToHave 29 = .ok (.iload_n 2, 1) := by decide +kernel
theorem dX10_pullsToHave_30 : decode cX10_pullsToHave 30 = .ok (.if_icmp .ne 10, 3) := by decide +kernel
theorem dX10_pullsToHave_33 : decode cX10_pullsToHave 33 = .ok (.aload_n 0, 1) := by decide +kernel
theorem dX10_pullsToHave_34 : decode cX10_pullsToHave 34 = .ok (.getfield 25, 3) := by decide +kernel
theorem dX10_pullsToHave_37 : decode cX10_pullsToHave 37 = .ok (.iload_n 3, 1) := by decide +kernel
theorem dX10_pullsToHave_38 : decode cX10_pullsToHave 38 = .ok (.iaload, 1) := by decide +kernel
theorem dX10_pullsToHave_39 : decode cX10_pullsToHave 39 = .ok (.ireturn, 1) := by decide +kernel
theorem dX10_pullsToHave_40 : decode cX10_pullsToHave 40 = .ok (.aload_n 0, 1) := by decide +kernel
theorem dX10_pullsToHave_41 : decode cX10_pullsToHave 41 = .ok (.iload_n 3, 1) := by decide +kernel
theorem dX10_pullsToHave_42 : decode cX10_pullsToHave 42 = .ok (.iload_n 2, 1) := by decide +kernel
theorem dX10_pullsToHave_43 : decode cX10_pullsToHave 43 = .ok (.invokevirtual 46, 3) := by decide +kernel
theorem dX10_pullsToHave_46 : decode cX10_pullsToHave 46 = .ok (.iinc 3 1, 3) := by decide +kernel
theorem dX10_pullsToHave_49 : decode cX10_pullsToHave 49 = .ok (.goto (-41), 3) := by decide +kernel
theorem dX10_pullsToHave_52 : decode cX10_pullsToHave 52 = .ok (.bipush (-4), 2) := by decide +kernel
theorem dX10_pullsToHave_54 : decode cX10_pullsToHave 54 = .ok (.ireturn, 1) := by decide +kernel
theorem dX10_mostPulls_0 : decode cX10_mostPulls 0 = .ok (.aload_n 0, 1) := by decide +kernel
theorem dX10_mostPulls_1 : decode cX10_mostPulls 1 = .ok (.getfield 28, 3) := by decide +kernel
theorem dX10_mostPulls_4 : decode cX10_mostPulls 4 = .ok (.ifCond .le 27, 3) := by decide +kernel
theorem dX10_mostPulls_7 : decode cX10_mostPulls 7 = .ok (.aload_n 0, 1) := by decide +kernel
theorem dX10_mostPulls_8 : decode cX10_mostPulls 8 = .ok (.getfield 28, 3) := by decide +kernel
theorem dX10_mostPulls_11 : decode cX10_mostPulls 11 = .ok (.sipush 729, 3) := by decide +kernel
theorem dX10_mostPulls_14 : decode cX10_mostPulls 14 = .ok (.if_icmp .gt 17, 3) := by decide +kernel
theorem dX10_mostPulls_17 : decode cX10_mostPulls 17 = .ok (.aload_n 0, 1) := by decide +kernel
theorem dX10_mostPulls_18 : decode cX10_mostPulls 18 = .ok (.getfield 25, 3) := by decide +kernel
theorem dX10_mostPulls_21 : decode cX10_mostPulls 21 = .ok (.aload_n 0, 1) := by decide +kernel
theorem dX10_mostPulls_22 : decode cX10_mostPulls 22 = .ok (.getfield 28, 3) := by decide +kernel
theorem dX10_mostPulls_25 : decode cX10_mostPulls 25 = .ok (.iconst 1, 1) := by decide +kernel
theorem dX10_mostPulls_26 : decode cX10_mostPulls 26 = .ok (.isub, 1) := by decide +kernel
theorem dX10_mostPulls_27 : decode cX10_mostPulls 27 = .ok (.iaload, 1) := by decide +kernel
theorem dX10_mostPulls_28 : decode cX10_mostPulls 28 = .ok (.goto 4, 3) := by decide +kernel
theorem dX10_mostPulls_31 : decode cX10_mostPulls 31 = .ok (.iconst 0, 1) := by decide +kernel
theorem dX10_mostPulls_32 : decode cX10_mostPulls 32 = .ok (.ireturn, 1) := by decide +kernel
set_option maxRecDepth 20000 in
theorem ggX10_leastFarthest_X10_mostPulls : GoodIn wsX10_leastFarthest wsX10_mostPulls := goodIn_r _ [12, 1, 2, 13, 14, 15, 16, 17, 18] (by decide +kernel) (by decide +kernel)
set_option maxRecDepth 20000 in
theorem gX10_leastFarthest_X10_mostPulls : GoodIn wsX10_leastFarthest (wsV RX10 49 RX10 yX10_mostPulls wsX10_mostPulls) := goodIn_app (goodIn_of _ (by decide +kernel)) ggX10_leastFarthest_X10_mostPulls
theorem dX10_leastFarthest_0 : decode cX10_leastFarthest 0 = .ok (.aload_n 0, 1) := by decide +kernel
theorem dX10_leastFarthest_1 : decode cX10_leastFarthest 1 = .ok (.invokevirtual 49, 3) := by decide +kernel
theorem dX10_leastFarthest_4 : decode cX10_leastFarthest 4 = .ok (.istore_n 1, 1) := by decide +kernel
theorem dX10_leastFarthest_5 : decode cX10_leastFarthest 5 = .ok (.bipush 64, 2) := by decide +kernel
theorem dX10_leastFarthest_7 : decode cX10_leastFarthest 7 = .ok (.istore_n 2, 1) := by decide +kernel
theorem dX10_leastFarthest_8 : decode cX10_leastFarthest 8 = .ok (.iconst 0, 1) := by decide +kernel
theorem dX10_leastFarthest_9 : decode cX10_leastFarthest 9 = .ok (.istore_n 3, 1) := by decide +kernel
theorem dX10_leastFarthest_10 : decode cX10_leastFarthest 10 = .ok (.iload_n 3, 1) := by decide +kernel
theorem dX10_leastFarthest_11 : decode cX10_leastFarthest 11 = .ok (.aload_n 0, 1) := by decide +kernel
theorem dX10_leastFarthest_12 : decode cX10_leastFarthest 12 = .ok (.getfield 28, 3) := by decide +kernel
theorem dX10_leastFarthest_15 : decode cX10_leastFarthest 15 = .ok (.if_icmp .ge 37, 3) := by decide +kernel
theorem dX10_leastFarthest_18 : decode cX10_leastFarthest 18 = .ok (.iload_n 3, 1) := by decide +kernel
theorem dX10_leastFarthest_19 : decode cX10_leastFarthest 19 = .ok (.sipush 729, 3) := by decide +kernel
theorem dX10_leastFarthest_22 : decode cX10_leastFarthest 22 = .ok (.if_icmp .ge 30, 3) := by decide +kernel
theorem dX10_leastFarthest_25 : decode cX10_leastFarthest 25 = .ok (.aload_n 0, 1) := by decide +kernel
theorem dX10_leastFarthest_26 : decode cX10_leastFarthest 26 = .ok (.getfield 25, 3) := by decide +kernel
theorem dX10_leastFarthest_29 : decode cX10_leastFarthest 29 = .ok (.iload_n 3, 1) := by decide +kernel
theorem dX10_leastFarthest_30 : decode cX10_leastFarthest 30 = .ok (.iaload, 1) := by decide +kernel
theorem dX10_leastFarthest_31 : decode cX10_leastFarthest 31 = .ok (.iload_n 1, 1) := by decide +kernel
theorem dX10_leastFarthest_32 : decode cX10_leastFarthest 32 = .ok (.if_icmp .ne 14, 3) := by decide +kernel
theorem dX10_leastFarthest_35 : decode cX10_leastFarthest 35 = .ok (.iload_n 2, 1) := by decide +kernel
theorem dX10_leastFarthest_36 : decode cX10_leastFarthest 36 = .ok (.aload_n 0, 1) := by decide +kernel
theorem dX10_leastFarthest_37 : decode cX10_leastFarthest 37 = .ok (.getfield 19, 3) := by decide +kernel
theorem dX10_leastFarthest_40 : decode cX10_leastFarthest 40 = .ok (.iload_n 3, 1) := by decide +kernel
theorem dX10_leastFarthest_41 : decode cX10_leastFarthest 41 = .ok (.iaload, 1) := by decide +kernel
theorem dX10_leastFarthest_42 : decode cX10_leastFarthest 42 = .ok (.invokestatic 53, 3) := by decide +kernel
theorem dX10_leastFarthest_45 : decode cX10_leastFarthest 45 = .ok (.istore_n 2, 1) := by decide +kernel
theorem dX10_leastFarthest_46 : decode cX10_leastFarthest 46 = .ok (.iinc 3 1, 3) := by decide +kernel
theorem dX10_leastFarthest_49 : decode cX10_leastFarthest 49 = .ok (.goto (-39), 3) := by decide +kernel
theorem dX10_leastFarthest_52 : decode cX10_leastFarthest 52 = .ok (.iload_n 2, 1) := by decide +kernel
theorem dX10_leastFarthest_53 : decode cX10_leastFarthest 53 = .ok (.ireturn, 1) := by decide +kernel
theorem dX10_standingBehind_0 : decode cX10_standingBehind 0 = .ok (.iconst 0, 1) := by decide +kernel
theorem dX10_standingBehind_1 : decode cX10_standingBehind 1 = .ok (.istore_n 2, 1) := by decide +kernel
theorem dX10_standingBehind_2 : decode cX10_standingBehind 2 = .ok (.iload_n 2, 1) := by decide +kernel
theorem dX10_standingBehind_3 : decode cX10_standingBehind 3 = .ok (.aload_n 0, 1) := by decide +kernel
theorem dX10_standingBehind_4 : decode cX10_standingBehind 4 = .ok (.getfield 28, 3) := by decide +kernel
theorem dX10_standingBehind_7 : decode cX10_standingBehind 7 = .ok (.if_icmp .ge 33, 3) := by decide +kernel
theorem dX10_standingBehind_10 : decode cX10_standingBehind 10 = .ok (.iload_n 2, 1) := by decide +kernel
theorem dX10_standingBehind_11 : decode cX10_standingBehind 11 = .ok (.sipush 729, 3) := by decide +kernel
theorem dX10_standingBehind_14 : decode cX10_standingBehind 14 = .ok (.if_icmp .ge 26, 3) := by decide +kernel
theorem dX10_standingBehind_17 : decode cX10_standingBehind 17 = .ok (.aload_n 0, 1) := by decide +kernel
theorem dX10_standingBehind_18 : decode cX10_standingBehind 18 = .ok (.getfield 25, 3) := by decide +kernel
theorem dX10_standingBehind_21 : decode cX10_standingBehind 21 = .ok (.iload_n 2, 1) := by decide +kernel
theorem dX10_standingBehind_22 : decode cX10_standingBehind 22 = .ok (.iaload, 1) := by decide +kernel
theorem dX10_standingBehind_23 : decode cX10_standingBehind 23 = .ok (.iload_n 1, 1) := by decide +kernel
theorem dX10_standingBehind_24 : decode cX10_standingBehind 24 = .ok (.if_icmp .ne 10, 3) := by decide +kernel
theorem dX10_standingBehind_27 : decode cX10_standingBehind 27 = .ok (.aload_n 0, 1) := by decide +kernel
theorem dX10_standingBehind_28 : decode cX10_standingBehind 28 = .ok (.getfield 19, 3) := by decide +kernel
theorem dX10_standingBehind_31 : decode cX10_standingBehind 31 = .ok (.iload_n 2, 1) := by decide +kernel
theorem dX10_standingBehind_32 : decode cX10_standingBehind 32 = .ok (.iaload, 1) := by decide +kernel
theorem dX10_standingBehind_33 : decode cX10_standingBehind 33 = .ok (.ireturn, 1) := by decide +kernel
theorem dX10_standingBehind_34 : decode cX10_standingBehind 34 = .ok (.iinc 2 1, 3) := by decide +kernel
theorem dX10_standingBehind_37 : decode cX10_standingBehind 37 = .ok (.goto (-35), 3) := by decide +kernel
theorem dX10_standingBehind_40 : decode cX10_standingBehind 40 = .ok (.bipush (-4), 2) := by decide +kernel
theorem dX10_standingBehind_42 : decode cX10_standingBehind 42 = .ok (.ireturn, 1) := by decide +kernel
set_option maxRecDepth 20000 in
theorem ggX10_everMay_X10_mayFrom : GoodIn wsX10_everMay wsX10_mayFrom := goodIn_r _ [7, 8, 9, 10, 11, 12, 13, 14] (by decide +kernel) (by decide +kernel)
set_option maxRecDepth 20000 in
theorem gX10_everMay_X10_mayFrom : GoodIn wsX10_everMay (wsV RX10 59 RX10 yX10_mayFrom wsX10_mayFrom) := goodIn_app (goodIn_of _ (by decide +kernel)) ggX10_everMay_X10_mayFrom
theorem dX10_everMay_0 : decode cX10_everMay 0 = .ok (.iconst 0, 1) := by decide +kernel
theorem dX10_everMay_1 : decode cX10_everMay 1 = .ok (.istore_n 1, 1) := by decide +kernel
theorem dX10_everMay_2 : decode cX10_everMay 2 = .ok (.iconst 0, 1) := by decide +kernel
theorem dX10_everMay_3 : decode cX10_everMay 3 = .ok (.istore_n 2, 1) := by decide +kernel
theorem dX10_everMay_4 : decode cX10_everMay 4 = .ok (.iload_n 2, 1) := by decide +kernel
theorem dX10_everMay_5 : decode cX10_everMay 5 = .ok (.aload_n 0, 1) := by decide +kernel
theorem dX10_everMay_6 : decode cX10_everMay 6 = .ok (.getfield 28, 3) := by decide +kernel
theorem dX10_everMay_9 : decode cX10_everMay 9 = .ok (.if_icmp .ge 29, 3) := by decide +kernel
theorem dX10_everMay_12 : decode cX10_everMay 12 = .ok (.iload_n 2, 1) := by decide +kernel
theorem dX10_everMay_13 : decode cX10_everMay 13 = .ok (.sipush 729, 3) := by decide +kernel
theorem dX10_everMay_16 : decode cX10_everMay 16 = .ok (.if_icmp .ge 22, 3) := by decide +kernel
theorem dX10_everMay_19 : decode cX10_everMay 19 = .ok (.iload_n 1, 1) := by decide +kernel
theorem dX10_everMay_20 : decode cX10_everMay 20 = .ok (.aload_n 0, 1) := by decide +kernel
theorem dX10_everMay_21 : decode cX10_everMay 21 = .ok (.aload_n 0, 1) := by decide +kernel
theorem dX10_everMay_22 : decode cX10_everMay 22 = .ok (.getfield 19, 3) := by decide +kernel
theorem dX10_everMay_25 : decode cX10_everMay 25 = .ok (.iload_n 2, 1) := by decide +kernel
theorem dX10_everMay_26 : decode cX10_everMay 26 = .ok (.iaload, 1) := by decide +kernel
theorem dX10_everMay_27 : decode cX10_everMay 27 = .ok (.invokevirtual 59, 3) := by decide +kernel
theorem dX10_everMay_30 : decode cX10_everMay 30 = .ok (.ior, 1) := by decide +kernel
theorem dX10_everMay_31 : decode cX10_everMay 31 = .ok (.istore_n 1, 1) := by decide +kernel
theorem dX10_everMay_32 : decode cX10_everMay 32 = .ok (.iinc 2 1, 3) := by decide +kernel
theorem dX10_everMay_35 : decode cX10_everMay 35 = .ok (.goto (-31), 3) := by decide +kernel
theorem dX10_everMay_38 : decode cX10_everMay 38 = .ok (.iload_n 1, 1) := by decide +kernel
theorem dX10_everMay_39 : decode cX10_everMay 39 = .ok (.ireturn, 1) := by decide +kernel
theorem dX10_mayFrom_0 : decode cX10_mayFrom 0 = .ok (.iload_n 1, 1) := by decide +kernel
theorem dX10_mayFrom_1 : decode cX10_mayFrom 1 = .ok (.ifCond .lt 18, 3) := by decide +kernel
theorem dX10_mayFrom_4 : decode cX10_mayFrom 4 = .ok (.iload_n 1, 1) := by decide +kernel
theorem dX10_mayFrom_5 : decode cX10_mayFrom 5 = .ok (.bipush 64, 2) := by decide +kernel
theorem dX10_mayFrom_7 : decode cX10_mayFrom 7 = .ok (.if_icmp .ge 12, 3) := by decide +kernel
theorem dX10_mayFrom_10 : decode cX10_mayFrom 10 = .ok (.aload_n 0, 1) := by decide +kernel
theorem dX10_mayFrom_11 : decode cX10_mayFrom 11 = .ok (.getfield 9, 3) := by decide +kernel
theorem dX10_mayFrom_14 : decode cX10_mayFrom 14 = .ok (.iload_n 1, 1) := by decide +kernel
theorem dX10_mayFrom_15 : decode cX10_mayFrom 15 = .ok (.iaload, 1) := by decide +kernel
theorem dX10_mayFrom_16 : decode cX10_mayFrom 16 = .ok (.goto 4, 3) := by decide +kernel
theorem dX10_mayFrom_19 : decode cX10_mayFrom 19 = .ok (.iconst 0, 1) := by decide +kernel
theorem dX10_mayFrom_20 : decode cX10_mayFrom 20 = .ok (.ireturn, 1) := by decide +kernel
set_option maxRecDepth 20000 in
theorem ggX10_begin_X10_meet : GoodIn wsX10_begin wsX10_meet := goodIn_r _ [7, 1, 2, 8, 9, 10, 11, 12, 13, 14, 15, 16, 17, 18, 19] (by decide +kernel) (by decide +kernel)
set_option maxRecDepth 20000 in
theorem gX10_begin_X10_meet : GoodIn wsX10_begin (wsV RX10 62 RX10 yX10_meet wsX10_meet) := goodIn_app (goodIn_of _ (by decide +kernel)) ggX10_begin_X10_meet
theorem dX10_begin_0 : decode cX10_begin 0 = .ok (.iconst 0, 1) := by decide +kernel
theorem dX10_begin_1 : decode cX10_begin 1 = .ok (.istore_n 3, 1) := by decide +kernel
theorem dX10_begin_2 : decode cX10_begin 2 = .ok (.iload_n 3, 1) := by decide +kernel
theorem dX10_begin_3 : decode cX10_begin 3 = .ok (.bipush 64, 2) := by decide +kernel
theorem dX10_begin_5 : decode cX10_begin 5 = .ok (.if_icmp .ge 16, 3) := by decide +kernel
theorem dX10_begin_8 : decode cX10_begin 8 = .ok (.aload_n 0, 1) := by decide +kernel
theorem dX10_begin_9 : decode cX10_begin 9 = .ok (.getfield 15, 3) := by decide +kernel
theorem dX10_begin_12 : decode cX10_begin 12 = .ok (.iload_n 3, 1) := by decide +kernel
theorem dX10_begin_13 : decode cX10_begin 13 = .ok (.lconst 0, 1) := by decide +kernel
theorem dX10_begin_14 : decode cX10_begin 14 = .ok (.lastore, 1) := by decide +kernel
theorem dX10_begin_15 : decode cX10_begin 15 = .ok (.iinc 3 1, 3) := by decide +kernel
theorem dX10_begin_18 : decode cX10_begin 18 = .ok (.goto (-16), 3) := by decide +kernel
theorem dX10_begin_21 : decode cX10_begin 21 = .ok (.aload_n 0, 1) := by decide +kernel
theorem dX10_begin_22 : decode cX10_begin 22 = .ok (.iconst 0, 1) := by decide +kernel
theorem dX10_begin_23 : decode cX10_begin 23 = .ok (.putfield 28, 3) := by decide +kernel
theorem dX10_begin_26 : decode cX10_begin 26 = .ok (.aload_n 0, 1) := by decide +kernel
theorem dX10_begin_27 : decode cX10_begin 27 = .ok (.iload_n 1, 1) := by decide +kernel
theorem dX10_begin_28 : decode cX10_begin 28 = .ok (.iload_n 1, 1) := by decide +kernel
theorem dX10_begin_29 : decode cX10_begin 29 = .ok (.iload_n 2, 1) := by decide +kernel
theorem dX10_begin_30 : decode cX10_begin 30 = .ok (.iand, 1) := by decide +kernel
theorem dX10_begin_31 : decode cX10_begin 31 = .ok (.iconst 0, 1) := by decide +kernel
theorem dX10_begin_32 : decode cX10_begin 32 = .ok (.invokevirtual 62, 3) := by decide +kernel
theorem dX10_begin_35 : decode cX10_begin 35 = .ok (.return_, 1) := by decide +kernel
set_option maxRecDepth 20000 in
theorem ggX10_goOn_X10_mayFrom : GoodIn wsX10_goOn wsX10_mayFrom := goodIn_r _ [8, 9, 21, 22, 23, 24, 25, 26] (by decide +kernel) (by decide +kernel)
set_option maxRecDepth 20000 in
theorem gX10_goOn_X10_mayFrom : GoodIn wsX10_goOn (wsV RX10 59 RX10 yX10_mayFrom wsX10_mayFrom) := goodIn_app (goodIn_of _ (by decide +kernel)) ggX10_goOn_X10_mayFrom
set_option maxRecDepth 20000 in
theorem ggX10_goOn_X11_turned : GoodIn wsX10_goOn wsX11_turned := goodIn_r _ [12] (by decide +kernel) (by decide +kernel)
set_option maxRecDepth 20000 in
theorem gX10_goOn_X11_turned_n66 : GoodIn wsX10_goOn (wsX11_turned) := ggX10_goOn_X11_turned
set_option maxRecDepth 20000 in
theorem ggX10_goOn_X10_meet : GoodIn wsX10_goOn wsX10_meet := goodIn_r _ [16, 17, 18, 1, 2, 3, 19, 11, 20, 21, 22, 23, 24, 25, 26] (by decide +kernel) (by decide +kernel)
set_option maxRecDepth 20000 in
theorem gX10_goOn_X10_meet : GoodIn wsX10_goOn (wsV RX10 62 RX10 yX10_meet wsX10_meet) := goodIn_app (goodIn_of _ (by decide +kernel)) ggX10_goOn_X10_meet
theorem dX10_goOn_0 : decode cX10_goOn 0 = .ok (.iload_n 1, 1) := by decide +kernel
theorem dX10_goOn_1 : decode cX10_goOn 1 = .ok (.ifCond .lt 10, 3) := by decide +kernel
theorem dX10_goOn_4 : decode cX10_goOn 4 = .ok (.iload_n 1, 1) := by decide +kernel
theorem dX10_goOn_5 : decode cX10_goOn 5 = .ok (.sipush 729, 3) := by decide +kernel
theorem dX10_goOn_8 : decode cX10_goOn 8 = .ok (.if_icmp .lt 4, 3) := by decide +kernel
theorem dX10_goOn_11 : decode cX10_goOn 11 = .ok (.return_, 1) := by decide +kernel
theorem dX10_goOn_12 : decode cX10_goOn 12 = .ok (.aload_n 0, 1) := by decide +kernel
theorem dX10_goOn_13 : decode cX10_goOn 13 = .ok (.aload_n 0, 1) := by decide +kernel
theorem dX10_goOn_14 : decode cX10_goOn 14 = .ok (.getfield 19, 3) := by decide +kernel
theorem dX10_goOn_17 : decode cX10_goOn 17 = .ok (.iload_n 1, 1) := by decide +kernel
theorem dX10_goOn_18 : decode cX10_goOn 18 = .ok (.iaload, 1) := by decide +kernel
theorem dX10_goOn_19 : decode cX10_goOn 19 = .ok (.invokevirtual 59, 3) := by decide +kernel
theorem dX10_goOn_22 : decode cX10_goOn 22 = .ok (.istore_n 3, 1) := by decide +kernel
theorem dX10_goOn_23 : decode cX10_goOn 23 = .ok (.iconst 0, 1) := by decide +kernel
theorem dX10_goOn_24 : decode cX10_goOn 24 = .ok (.istore 4, 2) := by decide +kernel
theorem dX10_goOn_26 : decode cX10_goOn 26 = .ok (.iload 4, 2) := by decide +kernel
theorem dX10_goOn_28 : decode cX10_goOn 28 = .ok (.bipush 6, 2) := by decide +kernel
theorem dX10_goOn_30 : decode cX10_goOn 30 = .ok (.if_icmp .ge 57, 3) := by decide +kernel
theorem dX10_goOn_33 : decode cX10_goOn 33 = .ok (.iload_n 3, 1) := by decide +kernel
theorem dX10_goOn_34 : decode cX10_goOn 34 = .ok (.iload 4, 2) := by decide +kernel
theorem dX10_goOn_36 : decode cX10_goOn 36 = .ok (.ishr, 1) := by decide +kernel
theorem dX10_goOn_37 : decode cX10_goOn 37 = .ok (.iconst 1, 1) := by decide +kernel
theorem dX10_goOn_38 : decode cX10_goOn 38 = .ok (.iand, 1) := by decide +kernel
theorem dX10_goOn_39 : decode cX10_goOn 39 = .ok (.iconst 1, 1) := by decide +kernel
theorem dX10_goOn_40 : decode cX10_goOn 40 = .ok (.if_icmp .ne 41, 3) := by decide +kernel
theorem dX10_goOn_43 : decode cX10_goOn 43 = .ok (.aload_n 0, 1) := by decide +kernel
theorem dX10_goOn_44 : decode cX10_goOn 44 = .ok (.getfield 19, 3) := by decide +kernel
theorem dX10_goOn_47 : decode cX10_goOn 47 = .ok (.iload_n 1, 1) := by decide +kernel
theorem dX10_goOn_48 : decode cX10_goOn 48 = .ok (.iaload, 1) := by decide +kernel
theorem dX10_goOn_49 : decode cX10_goOn 49 = .ok (.iload 4, 2) := by decide +kernel
theorem dX10_goOn_51 : decode cX10_goOn 51 = .ok (.invokestatic 66, 3) := by decide +kernel
theorem dX10_goOn_54 : decode cX10_goOn 54 = .ok (.istore 5, 2) := by decide +kernel
theorem dX10_goOn_56 : decode cX10_goOn 56 = .ok (.aload_n 0, 1) := by decide +kernel
theorem dX10_goOn_57 : decode cX10_goOn 57 = .ok (.iload 5, 2) := by decide +kernel
theorem dX10_goOn_59 : decode cX10_goOn 59 = .ok (.aload_n 0, 1) := by decide +kernel
theorem dX10_goOn_60 : decode cX10_goOn 60 = .ok (.getfield 22, 3) := by decide +kernel
theorem dX10_goOn_63 : decode cX10_goOn 63 = .ok (.iload_n 1, 1) := by decide +kernel
theorem dX10_goOn_64 : decode cX10_goOn 64 = .ok (.iaload, 1) := by decide +kernel
theorem dX10_goOn_65 : decode cX10_goOn 65 = .ok (.iload 5, 2) := by decide +kernel
theorem dX10_goOn_67 : decode cX10_goOn 67 = .ok (.iload_n 2, 1) := by decide +kernel
theorem dX10_goOn_68 : decode cX10_goOn 68 = .ok (.iand, 1) := by decide +kernel
theorem dX10_goOn_69 : decode cX10_goOn 69 = .ok (.ior, 1) := by decide +kernel
theorem dX10_goOn_70 : decode cX10_goOn 70 = .ok (.aload_n 0, 1) := by decide +kernel
theorem dX10_goOn_71 : decode cX10_goOn 71 = .ok (.getfield 25, 3) := by decide +kernel
theorem dX10_goOn_74 : decode cX10_goOn 74 = .ok (.iload_n 1, 1) := by decide +kernel
theorem dX10_goOn_75 : decode cX10_goOn 75 = .ok (.iaload, 1) := by decide +kernel
theorem dX10_goOn_76 : decode cX10_goOn 76 = .ok (.iconst 1, 1) := by decide +kernel
theorem dX10_goOn_77 : decode cX10_goOn 77 = .ok (.iadd, 1) := by decide +kernel
theorem dX10_goOn_78 : decode cX10_goOn 78 = .ok (.invokevirtual 62, 3) := by decide +kernel
theorem dX10_goOn_81 : decode cX10_goOn 81 = .ok (.iinc 4 1, 3) := by decide +kernel
theorem dX10_goOn_84 : decode cX10_goOn 84 = .ok (.goto (-58), 3) := by decide +kernel
theorem dX10_goOn_87 : decode cX10_goOn 87 = .ok (.return_, 1) := by decide +kernel
set_option maxRecDepth 20000 in
theorem ggX10_meet_X11_isAmong : GoodIn wsX10_meet wsX11_isAmong := goodIn_r _ [8] (by decide +kernel) (by decide +kernel)
set_option maxRecDepth 20000 in
theorem gX10_meet_X11_isAmong_n69 : GoodIn wsX10_meet (wsX11_isAmong) := ggX10_meet_X11_isAmong
theorem dX10_meet_0 : decode cX10_meet 0 = .ok (.iload_n 1, 1) := by decide +kernel
theorem dX10_meet_1 : decode cX10_meet 1 = .ok (.ifCond .lt 19, 3) := by decide +kernel
theorem dX10_meet_4 : decode cX10_meet 4 = .ok (.iload_n 1, 1) := by decide +kernel
theorem dX10_meet_5 : decode cX10_meet 5 = .ok (.bipush 64, 2) := by decide +kernel
theorem dX10_meet_7 : decode cX10_meet 7 = .ok (.if_icmp .ge 13, 3) := by decide +kernel
theorem dX10_meet_10 : decode cX10_meet 10 = .ok (.iload_n 2, 1) := by decide +kernel
theorem dX10_meet_11 : decode cX10_meet 11 = .ok (.ifCond .lt 9, 3) := by decide +kernel
theorem dX10_meet_14 : decode cX10_meet 14 = .ok (.iload_n 2, 1) := by decide +kernel
theorem dX10_meet_15 : decode cX10_meet 15 = .ok (.bipush 64, 2) := by decide +kernel
theorem dX10_meet_17 : decode cX10_meet 17 = .ok (.if_icmp .lt 4, 3) := by decide +kernel
theorem dX10_meet_20 : decode cX10_meet 20 = .ok (.return_, 1) := by decide +kernel
theorem dX10_meet_21 : decode cX10_meet 21 = .ok (.aload_n 0, 1) := by decide +kernel
theorem dX10_meet_22 : decode cX10_meet 22 = .ok (.getfield 15, 3) := by decide +kernel
theorem dX10_meet_25 : decode cX10_meet 25 = .ok (.iload_n 2, 1) := by decide +kernel
theorem dX10_meet_26 : decode cX10_meet 26 = .ok (.laload, 1) := by decide +kernel
theorem dX10_meet_27 : decode cX10_meet 27 = .ok (.iload_n 1, 1) := by decide +kernel
theorem dX10_meet_28 : decode cX10_meet 28 = .ok (.invokestatic 69, 3) := by decide +kernel
theorem dX10_meet_31 : decode cX10_meet 31 = .ok (.ifCond .ne 20, 3) := by decide +kernel
theorem dX10_meet_34 : decode cX10_meet 34 = .ok (.aload_n 0, 1) := by decide +kernel
theorem dX10_meet_35 : decode cX10_meet 35 = .ok (.getfield 28, 3) := by decide +kernel
theorem dX10_meet_38 : decode cX10_meet 38 = .ok (.ifCond .lt 13, 3) := by decide +kernel
theorem dX10_meet_41 : decode cX10_meet 41 = .ok (.aload_n 0, 1) := by decide +kernel
theorem dX10_meet_42 : decode cX10_meet 42 = .ok (.getfield 28, 3) := by decide +kernel
theorem dX10_meet_45 : decode cX10_meet 45 = .ok (.sipush 729, 3) := by decide +kernel
theorem dX10_meet_48 : decode cX10_meet 48 = .ok (.if_icmp .lt 4, 3) := by decide +kernel
theorem dX10_meet_51 : decode cX10_meet 51 = .ok (.return_, 1) := by decide +kernel
theorem dX10_meet_52 : decode cX10_meet 52 = .ok (.aload_n 0, 1) := by decide +kernel
theorem dX10_meet_53 : decode cX10_meet 53 = .ok (.getfield 15, 3) := by decide +kernel
theorem dX10_meet_56 : decode cX10_meet 56 = .ok (.iload_n 2, 1) := by decide +kernel
theorem dX10_meet_57 : decode cX10_meet 57 = .ok (.dup2, 1) := by decide +kernel
theorem dX10_meet_58 : decode cX10_meet 58 = .ok (.laload, 1) := by decide +kernel
theorem dX10_meet_59 : decode cX10_meet 59 = .ok (.lconst 1, 1) := by decide +kernel
theorem dX10_meet_60 : decode cX10_meet 60 = .ok (.iload_n 1, 1) := by decide +kernel
theorem dX10_meet_61 : decode cX10_meet 61 = .ok (.lshl, 1) := by decide +kernel
theorem dX10_meet_62 : decode cX10_meet 62 = .ok (.lor, 1) := by decide +kernel
theorem dX10_meet_63 : decode cX10_meet 63 = .ok (.lastore, 1) := by decide +kernel
theorem dX10_meet_64 : decode cX10_meet 64 = .ok (.aload_n 0, 1) := by decide +kernel
theorem dX10_meet_65 : decode cX10_meet 65 = .ok (.getfield 19, 3) := by decide +kernel
theorem dX10_meet_68 : decode cX10_meet 68 = .ok (.aload_n 0, 1) := by decide +kernel
theorem dX10_meet_69 : decode cX10_meet 69 = .ok (.getfield 28, 3) := by decide +kernel
theorem dX10_meet_72 : decode cX10_meet 72 = .ok (.iload_n 1, 1) := by decide +kernel
theorem dX10_meet_73 : decode cX10_meet 73 = .ok (.iastore, 1) := by decide +kernel
theorem dX10_meet_74 : decode cX10_meet 74 = .ok (.aload_n 0, 1) := by decide +kernel
theorem dX10_meet_75 : decode cX10_meet 75 = .ok (.getfield 22, 3) := by decide +kernel
theorem dX10_meet_78 : decode cX10_meet 78 = .ok (.aload_n 0, 1) := by decide +kernel
theorem dX10_meet_79 : decode cX10_meet 79 = .ok (.getfield 28, 3) := by decide +kernel
theorem dX10_meet_82 : decode cX10_meet 82 = .ok (.iload_n 2, 1) := by decide +kernel
theorem dX10_meet_83 : decode cX10_meet 83 = .ok (.iastore, 1) := by decide +kernel
theorem dX10_meet_84 : decode cX10_meet 84 = .ok (.aload_n 0, 1) := by decide +kernel
theorem dX10_meet_85 : decode cX10_meet 85 = .ok (.getfield 25, 3) := by decide +kernel
theorem dX10_meet_88 : decode cX10_meet 88 = .ok (.aload_n 0, 1) := by decide +kernel
theorem dX10_meet_89 : decode cX10_meet 89 = .ok (.getfield 28, 3) := by decide +kernel
theorem dX10_meet_92 : decode cX10_meet 92 = .ok (.iload_n 3, 1) := by decide +kernel
theorem dX10_meet_93 : decode cX10_meet 93 = .ok (.iastore, 1) := by decide +kernel
theorem dX10_meet_94 : decode cX10_meet 94 = .ok (.aload_n 0, 1) := by decide +kernel
theorem dX10_meet_95 : decode cX10_meet 95 = .ok (.dup, 1) := by decide +kernel
theorem dX10_meet_96 : decode cX10_meet 96 = .ok (.getfield 28, 3) := by decide +kernel
theorem dX10_meet_99 : decode cX10_meet 99 = .ok (.iconst 1, 1) := by decide +kernel
theorem dX10_meet_100 : decode cX10_meet 100 = .ok (.iadd, 1) := by decide +kernel
theorem dX10_meet_101 : decode cX10_meet 101 = .ok (.putfield 28, 3) := by decide +kernel
theorem dX10_meet_104 : decode cX10_meet 104 = .ok (.return_, 1) := by decide +kernel
set_option maxRecDepth 20000 in
theorem ggX11_init_X9_init : GoodIn wsX11_init wsX9_init := goodIn_r _ [22, 23, 2, 3, 24, 25, 26, 27, 38, 39, 40] (by decide +kernel) (by decide +kernel)
set_option maxRecDepth 20000 in
theorem gX11_init_X9_init_n9 : GoodIn wsX11_init (wsX9_init) := ggX11_init_X9_init
set_option maxRecDepth 20000 in
theorem ggX11_init_X10_init : GoodIn wsX11_init wsX10_init := goodIn_r _ [29, 30, 2, 3, 18, 31, 32, 33, 34, 35, 36, 37, 49, 50, 51, 52, 53, 54] (by decide +kernel) (by decide +kernel)
set_option maxRecDepth 20000 in
theorem gX11_init_X10_init_n24 : GoodIn wsX11_init (wsX10_init) := ggX11_init_X10_init
