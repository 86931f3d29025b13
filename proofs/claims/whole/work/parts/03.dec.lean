theorem dX0_init_0 : decode cX0_init 0 = .ok (.aload_n 0, 1) := by decide +kernel
theorem dX0_init_1 : decode cX0_init 1 = .ok (.invokespecial 3, 3) := by decide +kernel
theorem dX0_init_4 : decode cX0_init 4 = .ok (.aload_n 0, 1) := by decide +kernel
theorem dX0_init_5 : decode cX0_init 5 = .ok (.iload_n 1, 1) := by decide +kernel
theorem dX0_init_6 : decode cX0_init 6 = .ok (.putfield 9, 3) := by decide +kernel
theorem dX0_init_9 : decode cX0_init 9 = .ok (.return_, 1) := by decide +kernel
theorem dX0_kind_0 : decode cX0_kind 0 = .ok (.iconst 0, 1) := by decide +kernel
theorem dX0_kind_1 : decode cX0_kind 1 = .ok (.ireturn, 1) := by decide +kernel
set_option maxRecDepth 20000 in
theorem ggX0_moves_X11_isOpen : GoodIn wsX0_moves wsX11_isOpen := goodIn_r _ [3] (by decide +kernel) (by decide +kernel)
set_option maxRecDepth 20000 in
theorem gX0_moves_X11_isOpen_n15 : GoodIn wsX0_moves (wsX11_isOpen) := ggX0_moves_X11_isOpen
theorem dX0_moves_0 : decode cX0_moves 0 = .ok (.iload_n 1, 1) := by decide +kernel
theorem dX0_moves_1 : decode cX0_moves 1 = .ok (.ifCond .gt 5, 3) := by decide +kernel
theorem dX0_moves_4 : decode cX0_moves 4 = .ok (.iconst 1, 1) := by decide +kernel
theorem dX0_moves_5 : decode cX0_moves 5 = .ok (.ireturn, 1) := by decide +kernel
theorem dX0_moves_6 : decode cX0_moves 6 = .ok (.iconst 1, 1) := by decide +kernel
theorem dX0_moves_7 : decode cX0_moves 7 = .ok (.iload_n 1, 1) := by decide +kernel
theorem dX0_moves_8 : decode cX0_moves 8 = .ok (.iconst 1, 1) := by decide +kernel
theorem dX0_moves_9 : decode cX0_moves 9 = .ok (.isub, 1) := by decide +kernel
theorem dX0_moves_10 : decode cX0_moves 10 = .ok (.ishl, 1) := by decide +kernel
theorem dX0_moves_11 : decode cX0_moves 11 = .ok (.iconst 1, 1) := by decide +kernel
theorem dX0_moves_12 : decode cX0_moves 12 = .ok (.isub, 1) := by decide +kernel
theorem dX0_moves_13 : decode cX0_moves 13 = .ok (.istore_n 3, 1) := by decide +kernel
theorem dX0_moves_14 : decode cX0_moves 14 = .ok (.iload_n 2, 1) := by decide +kernel
theorem dX0_moves_15 : decode cX0_moves 15 = .ok (.iload_n 1, 1) := by decide +kernel
theorem dX0_moves_16 : decode cX0_moves 16 = .ok (.iconst 1, 1) := by decide +kernel
theorem dX0_moves_17 : decode cX0_moves 17 = .ok (.isub, 1) := by decide +kernel
theorem dX0_moves_18 : decode cX0_moves 18 = .ok (.invokestatic 15, 3) := by decide +kernel
theorem dX0_moves_21 : decode cX0_moves 21 = .ok (.ifCond .ne 14, 3) := by decide +kernel
theorem dX0_moves_24 : decode cX0_moves 24 = .ok (.iload_n 2, 1) := by decide +kernel
theorem dX0_moves_25 : decode cX0_moves 25 = .ok (.iload_n 3, 1) := by decide +kernel
theorem dX0_moves_26 : decode cX0_moves 26 = .ok (.iand, 1) := by decide +kernel
theorem dX0_moves_27 : decode cX0_moves 27 = .ok (.iload_n 3, 1) := by decide +kernel
theorem dX0_moves_28 : decode cX0_moves 28 = .ok (.if_icmp .ne 7, 3) := by decide +kernel
theorem dX0_moves_31 : decode cX0_moves 31 = .ok (.iconst 1, 1) := by decide +kernel
theorem dX0_moves_32 : decode cX0_moves 32 = .ok (.goto 4, 3) := by decide +kernel
theorem dX0_moves_35 : decode cX0_moves 35 = .ok (.iconst 0, 1) := by decide +kernel
theorem dX0_moves_36 : decode cX0_moves 36 = .ok (.ireturn, 1) := by decide +kernel
theorem dX0_price_0 : decode cX0_price 0 = .ok (.iconst 4, 1) := by decide +kernel
theorem dX0_price_1 : decode cX0_price 1 = .ok (.ireturn, 1) := by decide +kernel
theorem dX0_fail_0 : decode cX0_fail 0 = .ok (.aload_n 0, 1) := by decide +kernel
theorem dX0_fail_1 : decode cX0_fail 1 = .ok (.getfield 9, 3) := by decide +kernel
theorem dX0_fail_4 : decode cX0_fail 4 = .ok (.ifCond .eq 13, 3) := by decide +kernel
theorem dX0_fail_7 : decode cX0_fail 7 = .ok (.new 19, 3) := by decide +kernel
theorem dX0_fail_10 : decode cX0_fail 10 = .ok (.dup, 1) := by decide +kernel
theorem dX0_fail_11 : decode cX0_fail 11 = .ok (.ldc 21, 2) := by decide +kernel
theorem dX0_fail_13 : decode cX0_fail 13 = .ok (.invokespecial 23, 3) := by decide +kernel
theorem dX0_fail_16 : decode cX0_fail 16 = .ok (.athrow, 1) := by decide +kernel
theorem dX0_fail_17 : decode cX0_fail 17 = .ok (.return_, 1) := by decide +kernel
set_option maxRecDepth 20000 in
theorem ggX1_init_X0_init : GoodIn wsX1_init wsX0_init := goodIn_r _ [4, 5, 6, 7, 8, 9, 10, 11, 12, 13, 14, 15, 16] (by decide +kernel) (by decide +kernel)
set_option maxRecDepth 20000 in
theorem gX1_init_X0_init : GoodIn wsX1_init (wsX0_init) := ggX1_init_X0_init
theorem dX1_init_0 : decode cX1_init 0 = .ok (.aload_n 0, 1) := by decide +kernel
theorem dX1_init_1 : decode cX1_init 1 = .ok (.iload_n 1, 1) := by decide +kernel
theorem dX1_init_2 : decode cX1_init 2 = .ok (.invokespecial 3, 3) := by decide +kernel
theorem dX1_init_5 : decode cX1_init 5 = .ok (.return_, 1) := by decide +kernel
theorem dX1_kind_0 : decode cX1_kind 0 = .ok (.iconst 1, 1) := by decide +kernel
theorem dX1_kind_1 : decode cX1_kind 1 = .ok (.ireturn, 1) := by decide +kernel
theorem dX1_moves_0 : decode cX1_moves 0 = .ok (.iconst 1, 1) := by decide +kernel
theorem dX1_moves_1 : decode cX1_moves 1 = .ok (.ireturn, 1) := by decide +kernel
set_option maxRecDepth 20000 in
theorem ggX1_price_X0_price : GoodIn wsX1_price wsX0_price := goodIn_r _ [6] (by decide +kernel) (by decide +kernel)
set_option maxRecDepth 20000 in
theorem gX1_price_X0_price_s9 : GoodIn wsX1_price (va_wsSU RX1 9 yX0_price wsX0_price) := goodIn_app (goodIn_of _ (by decide +kernel)) ggX1_price_X0_price
theorem dX1_price_0 : decode cX1_price 0 = .ok (.aload_n 0, 1) := by decide +kernel
theorem dX1_price_1 : decode cX1_price 1 = .ok (.invokespecial 9, 3) := by decide +kernel
theorem dX1_price_4 : decode cX1_price 4 = .ok (.iconst 1, 1) := by decide +kernel
theorem dX1_price_5 : decode cX1_price 5 = .ok (.isub, 1) := by decide +kernel
theorem dX1_price_6 : decode cX1_price 6 = .ok (.ireturn, 1) := by decide +kernel
set_option maxRecDepth 20000 in
theorem ggX1_fail_X1_kind : GoodIn wsX1_fail wsX1_kind := goodIn_r _ [5] (by decide +kernel) (by decide +kernel)
set_option maxRecDepth 20000 in
theorem gX1_fail_X1_kind : GoodIn wsX1_fail (wsV RX1 13 RX1 yX1_kind wsX1_kind) := goodIn_app (goodIn_of _ (by decide +kernel)) ggX1_fail_X1_kind
set_option maxRecDepth 20000 in
theorem ggX1_fail_X3_kind : GoodIn wsX1_fail wsX3_kind := goodIn_r _ [12] (by decide +kernel) (by decide +kernel)
set_option maxRecDepth 20000 in
theorem gX1_fail_X3_kind_u13X3 : GoodIn wsX1_fail (va_wsO RX1 13 RX3 "AboveIsShut$Free" ⟨"AboveIsShut$Free", "kind", "()I"⟩ yX3_kind wsX3_kind) := goodIn_app (goodIn_of _ (by decide +kernel)) ggX1_fail_X3_kind
set_option maxRecDepth 20000 in
theorem ggX1_fail_X4_kind : GoodIn wsX1_fail wsX4_kind := goodIn_r _ [16] (by decide +kernel) (by decide +kernel)
set_option maxRecDepth 20000 in
theorem gX1_fail_X4_kind_u13X4 : GoodIn wsX1_fail (va_wsO RX1 13 RX4 "AboveIsShut$Free" ⟨"AboveIsShut$Free", "kind", "()I"⟩ yX4_kind wsX4_kind) := goodIn_app (goodIn_of _ (by decide +kernel)) ggX1_fail_X4_kind
set_option maxRecDepth 20000 in
theorem ggX1_fail_X8_kind : GoodIn wsX1_fail wsX8_kind := goodIn_r _ [20] (by decide +kernel) (by decide +kernel)
set_option maxRecDepth 20000 in
theorem gX1_fail_X8_kind_u13X8 : GoodIn wsX1_fail (va_wsO RX1 13 RX8 "AboveIsShut$Free" ⟨"AboveIsShut$Free", "kind", "()I"⟩ yX8_kind wsX8_kind) := goodIn_app (goodIn_of _ (by decide +kernel)) ggX1_fail_X8_kind
set_option maxRecDepth 20000 in
theorem ggX1_fail_X0_fail : GoodIn wsX1_fail wsX0_fail := goodIn_ca (goodIn_r _ [26, 27, 28, 29, 30, 31, 32, 33, 34, 35, 36, 37] (by decide +kernel) (by decide +kernel)) (goodIn_sub (fun _ h => List.mem_cons_of_mem _ (List.mem_append_right _ h)) (by decide +kernel))
set_option maxRecDepth 20000 in
theorem gX1_fail_X0_fail_s18 : GoodIn wsX1_fail (va_wsSU RX1 18 yX0_fail wsX0_fail) := goodIn_app (goodIn_of _ (by decide +kernel)) ggX1_fail_X0_fail
theorem dX1_fail_0 : decode cX1_fail 0 = .ok (.aload_n 0, 1) := by decide +kernel
theorem dX1_fail_1 : decode cX1_fail 1 = .ok (.invokevirtual 13, 3) := by decide +kernel
theorem dX1_fail_4 : decode cX1_fail 4 = .ok (.iconst 1, 1) := by decide +kernel
theorem dX1_fail_5 : decode cX1_fail 5 = .ok (.if_icmp .eq 7, 3) := by decide +kernel
theorem dX1_fail_8 : decode cX1_fail 8 = .ok (.aload_n 0, 1) := by decide +kernel
theorem dX1_fail_9 : decode cX1_fail 9 = .ok (.invokespecial 18, 3) := by decide +kernel
theorem dX1_fail_12 : decode cX1_fail 12 = .ok (.return_, 1) := by decide +kernel
set_option maxRecDepth 20000 in
theorem ggX2_init_X0_init : GoodIn wsX2_init wsX0_init := goodIn_r _ [4, 5, 6, 7, 8, 9, 10, 11, 12, 13, 14, 15, 16] (by decide +kernel) (by decide +kernel)
set_option maxRecDepth 20000 in
theorem gX2_init_X0_init : GoodIn wsX2_init (wsX0_init) := ggX2_init_X0_init
theorem dX2_init_0 : decode cX2_init 0 = .ok (.aload_n 0, 1) := by decide +kernel
theorem dX2_init_1 : decode cX2_init 1 = .ok (.iload_n 1, 1) := by decide +kernel
theorem dX2_init_2 : decode cX2_init 2 = .ok (.invokespecial 3, 3) := by decide +kernel
theorem dX2_init_5 : decode cX2_init 5 = .ok (.return_, 1) := by decide +kernel
theorem dX2_kind_0 : decode cX2_kind 0 = .ok (.bipush 7, 2) := by decide +kernel
theorem dX2_kind_2 : decode cX2_kind 2 = .ok (.ireturn, 1) := by decide +kernel
set_option maxRecDepth 20000 in
theorem ggX2_moves_X11_isOpen : GoodIn wsX2_moves wsX11_isOpen := goodIn_r _ [3] (by decide +kernel) (by decide +kernel)
set_option maxRecDepth 20000 in
theorem gX2_moves_X11_isOpen_n9 : GoodIn wsX2_moves (wsX11_isOpen) := ggX2_moves_X11_isOpen
set_option maxRecDepth 20000 in
theorem ggX2_moves_X0_moves : GoodIn wsX2_moves wsX0_moves := goodIn_r _ [9, 1, 2, 3] (by decide +kernel) (by decide +kernel)
set_option maxRecDepth 20000 in
theorem gX2_moves_X0_moves_s13 : GoodIn wsX2_moves (va_wsSU RX2 13 yX0_moves wsX0_moves) := goodIn_app (goodIn_of _ (by decide +kernel)) ggX2_moves_X0_moves
theorem dX2_moves_0 : decode cX2_moves 0 = .ok (.iload_n 2, 1) := by decide +kernel
theorem dX2_moves_1 : decode cX2_moves 1 = .ok (.iload_n 1, 1) := by decide +kernel
theorem dX2_moves_2 : decode cX2_moves 2 = .ok (.invokestatic 9, 3) := by decide +kernel
theorem dX2_moves_5 : decode cX2_moves 5 = .ok (.ifCond .ne 12, 3) := by decide +kernel
theorem dX2_moves_8 : decode cX2_moves 8 = .ok (.aload_n 0, 1) := by decide +kernel
theorem dX2_moves_9 : decode cX2_moves 9 = .ok (.iload_n 1, 1) := by decide +kernel
theorem dX2_moves_10 : decode cX2_moves 10 = .ok (.iload_n 2, 1) := by decide +kernel
theorem dX2_moves_11 : decode cX2_moves 11 = .ok (.invokespecial 13, 3) := by decide +kernel
theorem dX2_moves_14 : decode cX2_moves 14 = .ok (.ifCond .eq 7, 3) := by decide +kernel
theorem dX2_moves_17 : decode cX2_moves 17 = .ok (.iconst 1, 1) := by decide +kernel
theorem dX2_moves_18 : decode cX2_moves 18 = .ok (.goto 4, 3) := by decide +kernel
theorem dX2_moves_21 : decode cX2_moves 21 = .ok (.iconst 0, 1) := by decide +kernel
theorem dX2_moves_22 : decode cX2_moves 22 = .ok (.ireturn, 1) := by decide +kernel
set_option maxRecDepth 20000 in
theorem ggX3_init_X8_init : GoodIn wsX3_init wsX8_init := goodIn_r _ [4, 5, 6, 7, 8, 9, 10, 11, 12, 13, 14, 15, 16, 17, 18, 19, 20, 21, 22, 23, 24] (by decide +kernel) (by decide +kernel)
set_option maxRecDepth 20000 in
theorem gX3_init_X8_init : GoodIn wsX3_init (wsX8_init) := ggX3_init_X8_init
theorem dX3_init_0 : decode cX3_init 0 = .ok (.aload_n 0, 1) := by decide +kernel
theorem dX3_init_1 : decode cX3_init 1 = .ok (.iload_n 1, 1) := by decide +kernel
theorem dX3_init_2 : decode cX3_init 2 = .ok (.invokespecial 3, 3) := by decide +kernel
theorem dX3_init_5 : decode cX3_init 5 = .ok (.return_, 1) := by decide +kernel
theorem dX3_kind_0 : decode cX3_kind 0 = .ok (.iconst 5, 1) := by decide +kernel
theorem dX3_kind_1 : decode cX3_kind 1 = .ok (.ireturn, 1) := by decide +kernel
set_option maxRecDepth 20000 in
theorem ggX3_moves_X8_moves : GoodIn wsX3_moves wsX8_moves := goodIn_r _ [8, 9, 10, 11] (by decide +kernel) (by decide +kernel)
set_option maxRecDepth 20000 in
theorem gX3_moves_X8_moves_s9 : GoodIn wsX3_moves (va_wsSU RX3 9 yX8_moves wsX8_moves) := goodIn_app (goodIn_of _ (by decide +kernel)) ggX3_moves_X8_moves
set_option maxRecDepth 20000 in
theorem ggX3_moves_J6_bitCount_0f7a4 : GoodIn wsX3_moves wsJ6_bitCount_0f7a4 := goodIn_r _ [15, 16, 17, 18] (by decide +kernel) (by decide +kernel)
set_option maxRecDepth 20000 in
theorem gX3_moves_J6_bitCount_0f7a4 : GoodIn wsX3_moves (va_wsS RX3 13 yJ6_bitCount_0f7a4 wsJ6_bitCount_0f7a4) := goodIn_app (goodIn_of _ (by decide +kernel)) ggX3_moves_J6_bitCount_0f7a4
theorem dX3_moves_0 : decode cX3_moves 0 = .ok (.aload_n 0, 1) := by decide +kernel
theorem dX3_moves_1 : decode cX3_moves 1 = .ok (.iload_n 1, 1) := by decide +kernel
theorem dX3_moves_2 : decode cX3_moves 2 = .ok (.iload_n 2, 1) := by decide +kernel
theorem dX3_moves_3 : decode cX3_moves 3 = .ok (.invokespecial 9, 3) := by decide +kernel
theorem dX3_moves_6 : decode cX3_moves 6 = .ok (.ifCond .ne 14, 3) := by decide +kernel
theorem dX3_moves_9 : decode cX3_moves 9 = .ok (.iload_n 2, 1) := by decide +kernel
theorem dX3_moves_10 : decode cX3_moves 10 = .ok (.invokestatic 13, 3) := by decide +kernel
theorem dX3_moves_13 : decode cX3_moves 13 = .ok (.aload_n 0, 1) := by decide +kernel
theorem dX3_moves_14 : decode cX3_moves 14 = .ok (.getfield 19, 3) := by decide +kernel
theorem dX3_moves_17 : decode cX3_moves 17 = .ok (.if_icmp .lt 7, 3) := by decide +kernel
theorem dX3_moves_20 : decode cX3_moves 20 = .ok (.iconst 1, 1) := by decide +kernel
theorem dX3_moves_21 : decode cX3_moves 21 = .ok (.goto 4, 3) := by decide +kernel
theorem dX3_moves_24 : decode cX3_moves 24 = .ok (.iconst 0, 1) := by decide +kernel
theorem dX3_moves_25 : decode cX3_moves 25 = .ok (.ireturn, 1) := by decide +kernel
set_option maxRecDepth 20000 in
theorem ggX3_price_X8_price : GoodIn wsX3_price wsX8_price := goodIn_r _ [8, 9, 10, 11, 12, 13, 14, 15, 16, 17, 18, 19, 20] (by decide +kernel) (by decide +kernel)
set_option maxRecDepth 20000 in
theorem gX3_price_X8_price_s25 : GoodIn wsX3_price (va_wsSU RX3 25 yX8_price wsX8_price) := goodIn_app (goodIn_of _ (by decide +kernel)) ggX3_price_X8_price
theorem dX3_price_0 : decode cX3_price 0 = .ok (.aload_n 0, 1) := by decide +kernel
theorem dX3_price_1 : decode cX3_price 1 = .ok (.invokespecial 25, 3) := by decide +kernel
theorem dX3_price_4 : decode cX3_price 4 = .ok (.aload_n 0, 1) := by decide +kernel
theorem dX3_price_5 : decode cX3_price 5 = .ok (.getfield 19, 3) := by decide +kernel
theorem dX3_price_8 : decode cX3_price 8 = .ok (.isub, 1) := by decide +kernel
theorem dX3_price_9 : decode cX3_price 9 = .ok (.ireturn, 1) := by decide +kernel
theorem dX3_fail_0 : decode cX3_fail 0 = .ok (.aload_n 0, 1) := by decide +kernel
theorem dX3_fail_1 : decode cX3_fail 1 = .ok (.getfield 19, 3) := by decide +kernel
theorem dX3_fail_4 : decode cX3_fail 4 = .ok (.ifCond .eq 13, 3) := by decide +kernel
theorem dX3_fail_7 : decode cX3_fail 7 = .ok (.new 29, 3) := by decide +kernel
theorem dX3_fail_10 : decode cX3_fail 10 = .ok (.dup, 1) := by decide +kernel
theorem dX3_fail_11 : decode cX3_fail 11 = .ok (.ldc 31, 2) := by decide +kernel
theorem dX3_fail_13 : decode cX3_fail 13 = .ok (.invokespecial 33, 3) := by decide +kernel
theorem dX3_fail_16 : decode cX3_fail 16 = .ok (.athrow, 1) := by decide +kernel
theorem dX3_fail_17 : decode cX3_fail 17 = .ok (.return_, 1) := by decide +kernel
set_option maxRecDepth 20000 in
theorem ggX4_init_X1_init : GoodIn wsX4_init wsX1_init := goodIn_r _ [4, 5, 6, 7, 8, 9, 10, 11, 12, 13, 14, 15, 16, 17, 18, 19, 20] (by decide +kernel) (by decide +kernel)
set_option maxRecDepth 20000 in
theorem gX4_init_X1_init : GoodIn wsX4_init (wsX1_init) := ggX4_init_X1_init
theorem dX4_init_0 : decode cX4_init 0 = .ok (.aload_n 0, 1) := by decide +kernel
theorem dX4_init_1 : decode cX4_init 1 = .ok (.iload_n 1, 1) := by decide +kernel
theorem dX4_init_2 : decode cX4_init 2 = .ok (.invokespecial 3, 3) := by decide +kernel
theorem dX4_init_5 : decode cX4_init 5 = .ok (.return_, 1) := by decide +kernel
theorem dX4_kind_0 : decode cX4_kind 0 = .ok (.bipush 6, 2) := by decide +kernel
theorem dX4_kind_2 : decode cX4_kind 2 = .ok (.ireturn, 1) := by decide +kernel
set_option maxRecDepth 20000 in
theorem ggX4_moves_J6_bitCount_0f7a4 : GoodIn wsX4_moves wsJ6_bitCount_0f7a4 := goodIn_r _ [6, 7, 8, 9] (by decide +kernel) (by decide +kernel)
set_option maxRecDepth 20000 in
theorem gX4_moves_J6_bitCount_0f7a4 : GoodIn wsX4_moves (va_wsS RX4 9 yJ6_bitCount_0f7a4 wsJ6_bitCount_0f7a4) := goodIn_app (goodIn_of _ (by decide +kernel)) ggX4_moves_J6_bitCount_0f7a4
theorem dX4_moves_0 : decode cX4_moves 0 = .ok (.iload_n 2, 1) := by decide +kernel
theorem dX4_moves_1 : decode cX4_moves 1 = .ok (.iconst 1, 1) := by decide +kernel
theorem dX4_moves_2 : decode cX4_moves 2 = .ok (.iload_n 1, 1) := by decide +kernel
theorem dX4_moves_3 : decode cX4_moves 3 = .ok (.ishl, 1) := by decide +kernel
theorem dX4_moves_4 : decode cX4_moves 4 = .ok (.iconst (-1), 1) := by decide +kernel
theorem dX4_moves_5 : decode cX4_moves 5 = .ok (.ixor, 1) := by decide +kernel
theorem dX4_moves_6 : decode cX4_moves 6 = .ok (.iand, 1) := by decide +kernel
theorem dX4_moves_7 : decode cX4_moves 7 = .ok (.istore_n 3, 1) := by decide +kernel
theorem dX4_moves_8 : decode cX4_moves 8 = .ok (.iload_n 3, 1) := by decide +kernel
theorem dX4_moves_9 : decode cX4_moves 9 = .ok (.invokestatic 9, 3) := by decide +kernel
theorem dX4_moves_12 : decode cX4_moves 12 = .ok (.aload_n 0, 1) := by decide +kernel
theorem dX4_moves_13 : decode cX4_moves 13 = .ok (.getfield 15, 3) := by decide +kernel
theorem dX4_moves_16 : decode cX4_moves 16 = .ok (.iadd, 1) := by decide +kernel
theorem dX4_moves_17 : decode cX4_moves 17 = .ok (.iconst 2, 1) := by decide +kernel
theorem dX4_moves_18 : decode cX4_moves 18 = .ok (.irem, 1) := by decide +kernel
theorem dX4_moves_19 : decode cX4_moves 19 = .ok (.ifCond .ne 7, 3) := by decide +kernel
theorem dX4_moves_22 : decode cX4_moves 22 = .ok (.iconst 1, 1) := by decide +kernel
theorem dX4_moves_23 : decode cX4_moves 23 = .ok (.goto 4, 3) := by decide +kernel
theorem dX4_moves_26 : decode cX4_moves 26 = .ok (.iconst 0, 1) := by decide +kernel
theorem dX4_moves_27 : decode cX4_moves 27 = .ok (.ireturn, 1) := by decide +kernel
set_option maxRecDepth 20000 in
theorem ggX4_price_X1_price : GoodIn wsX4_price wsX1_price := goodIn_r _ [6, 7, 8, 9, 10, 11, 12] (by decide +kernel) (by decide +kernel)
set_option maxRecDepth 20000 in
theorem gX4_price_X1_price_s21 : GoodIn wsX4_price (va_wsSU RX4 21 yX1_price wsX1_price) := goodIn_app (goodIn_of _ (by decide +kernel)) ggX4_price_X1_price
theorem dX4_price_0 : decode cX4_price 0 = .ok (.aload_n 0, 1) := by decide +kernel
theorem dX4_price_1 : decode cX4_price 1 = .ok (.invokespecial 21, 3) := by decide +kernel
theorem dX4_price_4 : decode cX4_price 4 = .ok (.iconst 5, 1) := by decide +kernel
theorem dX4_price_5 : decode cX4_price 5 = .ok (.iadd, 1) := by decide +kernel
theorem dX4_price_6 : decode cX4_price 6 = .ok (.ireturn, 1) := by decide +kernel
set_option maxRecDepth 20000 in
theorem ggX5_init_X0_init : GoodIn wsX5_init wsX0_init := goodIn_r _ [4, 5, 6, 7, 8, 9, 10, 11, 12, 13, 14, 15, 16] (by decide +kernel) (by decide +kernel)
set_option maxRecDepth 20000 in
theorem gX5_init_X0_init : GoodIn wsX5_init (wsX0_init) := ggX5_init_X0_init
theorem dX5_init_0 : decode cX5_init 0 = .ok (.aload_n 0, 1) := by decide +kernel
theorem dX5_init_1 : decode cX5_init 1 = .ok (.iload_n 1, 1) := by decide +kernel
theorem dX5_init_2 : decode cX5_init 2 = .ok (.invokespecial 3, 3) := by decide +kernel
theorem dX5_init_5 : decode cX5_init 5 = .ok (.return_, 1) := by decide +kernel
theorem dX5_kind_0 : decode cX5_kind 0 = .ok (.iconst 4, 1) := by decide +kernel
theorem dX5_kind_1 : decode cX5_kind 1 = .ok (.ireturn, 1) := by decide +kernel
set_option maxRecDepth 20000 in
theorem ggX5_moves_X0_moves : GoodIn wsX5_moves wsX0_moves := goodIn_r _ [8, 9, 10, 11] (by decide +kernel) (by decide +kernel)
set_option maxRecDepth 20000 in
theorem gX5_moves_X0_moves_s9 : GoodIn wsX5_moves (va_wsSU RX5 9 yX0_moves wsX0_moves) := goodIn_app (goodIn_of _ (by decide +kernel)) ggX5_moves_X0_moves
set_option maxRecDepth 20000 in
theorem ggX5_moves_X11_isOpen : GoodIn wsX5_moves wsX11_isOpen := goodIn_r _ [11] (by decide +kernel) (by decide +kernel)
set_option maxRecDepth 20000 in
theorem gX5_moves_X11_isOpen_n19 : GoodIn wsX5_moves (wsX11_isOpen) := ggX5_moves_X11_isOpen
theorem dX5_moves_0 : decode cX5_moves 0 = .ok (.aload_n 0, 1) := by decide +kernel
theorem dX5_moves_1 : decode cX5_moves 1 = .ok (.iload_n 1, 1) := by decide +kernel
theorem dX5_moves_2 : decode cX5_moves 2 = .ok (.iload_n 2, 1) := by decide +kernel
theorem dX5_moves_3 : decode cX5_moves 3 = .ok (.invokespecial 9, 3) := by decide +kernel
theorem dX5_moves_6 : decode cX5_moves 6 = .ok (.ifCond .eq 18, 3) := by decide +kernel
theorem dX5_moves_9 : decode cX5_moves 9 = .ok (.iload_n 2, 1) := by decide +kernel
theorem dX5_moves_10 : decode cX5_moves 10 = .ok (.aload_n 0, 1) := by decide +kernel
theorem dX5_moves_11 : decode cX5_moves 11 = .ok (.getfield 13, 3) := by decide +kernel
theorem dX5_moves_14 : decode cX5_moves 14 = .ok (.invokestatic 19, 3) := by decide +kernel
theorem dX5_moves_17 : decode cX5_moves 17 = .ok (.ifCond .ne 7, 3) := by decide +kernel
theorem dX5_moves_20 : decode cX5_moves 20 = .ok (.iconst 1, 1) := by decide +kernel
theorem dX5_moves_21 : decode cX5_moves 21 = .ok (.goto 4, 3) := by decide +kernel
theorem dX5_moves_24 : decode cX5_moves 24 = .ok (.iconst 0, 1) := by decide +kernel
theorem dX5_moves_25 : decode cX5_moves 25 = .ok (.ireturn, 1) := by decide +kernel
set_option maxRecDepth 20000 in
theorem ggX5_price_X0_price : GoodIn wsX5_price wsX0_price := goodIn_r _ [8] (by decide +kernel) (by decide +kernel)
set_option maxRecDepth 20000 in
theorem gX5_price_X0_price_s22 : GoodIn wsX5_price (va_wsSU RX5 22 yX0_price wsX0_price) := goodIn_app (goodIn_of _ (by decide +kernel)) ggX5_price_X0_price
theorem dX5_price_0 : decode cX5_price 0 = .ok (.aload_n 0, 1) := by decide +kernel
theorem dX5_price_1 : decode cX5_price 1 = .ok (.invokespecial 22, 3) := by decide +kernel
theorem dX5_price_4 : decode cX5_price 4 = .ok (.aload_n 0, 1) := by decide +kernel
theorem dX5_price_5 : decode cX5_price 5 = .ok (.getfield 13, 3) := by decide +kernel
theorem dX5_price_8 : decode cX5_price 8 = .ok (.iconst 1, 1) := by decide +kernel
theorem dX5_price_9 : decode cX5_price 9 = .ok (.iadd, 1) := by decide +kernel
theorem dX5_price_10 : decode cX5_price 10 = .ok (.imul, 1) := by decide +kernel
theorem dX5_price_11 : decode cX5_price 11 = .ok (.ireturn, 1) := by decide +kernel
theorem dX5_fail_0 : decode cX5_fail 0 = .ok (.aload_n 0, 1) := by decide +kernel
theorem dX5_fail_1 : decode cX5_fail 1 = .ok (.getfield 13, 3) := by decide +kernel
theorem dX5_fail_4 : decode cX5_fail 4 = .ok (.ifCond .eq 13, 3) := by decide +kernel
theorem dX5_fail_7 : decode cX5_fail 7 = .ok (.new 26, 3) := by decide +kernel
theorem dX5_fail_10 : decode cX5_fail 10 = .ok (.dup, 1) := by decide +kernel
theorem dX5_fail_11 : decode cX5_fail 11 = .ok (.ldc 28, 2) := by decide +kernel
theorem dX5_fail_13 : decode cX5_fail 13 = .ok (.invokespecial 30, 3) := by decide +kernel
theorem dX5_fail_16 : decode cX5_fail 16 = .ok (.athrow, 1) := by decide +kernel
theorem dX5_fail_17 : decode cX5_fail 17 = .ok (.return_, 1) := by decide +kernel
theorem dX6_init_0 : decode cX6_init 0 = .ok (.aload_n 0, 1) := by decide +kernel
theorem dX6_init_1 : decode cX6_init 1 = .ok (.invokespecial 1, 3) := by decide +kernel
theorem dX6_init_4 : decode cX6_init 4 = .ok (.aload_n 0, 1) := by decide +kernel
theorem dX6_init_5 : decode cX6_init 5 = .ok (.iload_n 1, 1) := by decide +kernel
theorem dX6_init_6 : decode cX6_init 6 = .ok (.putfield 7, 3) := by decide +kernel
theorem dX6_init_9 : decode cX6_init 9 = .ok (.aload_n 0, 1) := by decide +kernel
theorem dX6_init_10 : decode cX6_init 10 = .ok (.iconst 0, 1) := by decide +kernel
theorem dX6_init_11 : decode cX6_init 11 = .ok (.iload_n 2, 1) := by decide +kernel
theorem dX6_init_12 : decode cX6_init 12 = .ok (.invokestatic 13, 3) := by decide +kernel
theorem dX6_init_15 : decode cX6_init 15 = .ok (.putfield 19, 3) := by decide +kernel
theorem dX6_init_18 : decode cX6_init 18 = .ok (.aload_n 0, 1) := by decide +kernel
theorem dX6_init_19 : decode cX6_init 19 = .ok (.iconst 0, 1) := by decide +kernel
theorem dX6_init_20 : decode cX6_init 20 = .ok (.iload_n 2, 1) := by decide +kernel
theorem dX6_init_21 : decode cX6_init 21 = .ok (.invokestatic 13, 3) := by decide +kernel
theorem dX6_init_24 : decode cX6_init 24 = .ok (.newarray .int, 2) := by decide +kernel
theorem dX6_init_26 : decode cX6_init 26 = .ok (.putfield 22, 3) := by decide +kernel
theorem dX6_init_29 : decode cX6_init 29 = .ok (.return_, 1) := by decide +kernel
theorem dX6_hasPlace_0 : decode cX6_hasPlace 0 = .ok (.iload_n 1, 1) := by decide +kernel
theorem dX6_hasPlace_1 : decode cX6_hasPlace 1 = .ok (.ifCond .lt 16, 3) := by decide +kernel
theorem dX6_hasPlace_4 : decode cX6_hasPlace 4 = .ok (.iload_n 1, 1) := by decide +kernel
theorem dX6_hasPlace_5 : decode cX6_hasPlace 5 = .ok (.aload_n 0, 1) := by decide +kernel
theorem dX6_hasPlace_6 : decode cX6_hasPlace 6 = .ok (.getfield 22, 3) := by decide +kernel
theorem dX6_hasPlace_9 : decode cX6_hasPlace 9 = .ok (.arraylength, 1) := by decide +kernel
theorem dX6_hasPlace_10 : decode cX6_hasPlace 10 = .ok (.if_icmp .ge 7, 3) := by decide +kernel
theorem dX6_hasPlace_13 : decode cX6_hasPlace 13 = .ok (.iconst 1, 1) := by decide +kernel
theorem dX6_hasPlace_14 : decode cX6_hasPlace 14 = .ok (.goto 4, 3) := by decide +kernel
theorem dX6_hasPlace_17 : decode cX6_hasPlace 17 = .ok (.iconst 0, 1) := by decide +kernel
theorem dX6_hasPlace_18 : decode cX6_hasPlace 18 = .ok (.ireturn, 1) := by decide +kernel
theorem dX6_hasPlaces_0 : decode cX6_hasPlaces 0 = .ok (.iload_n 1, 1) := by decide +kernel
theorem dX6_hasPlaces_1 : decode cX6_hasPlaces 1 = .ok (.ifCond .lt 31, 3) := by decide +kernel
theorem dX6_hasPlaces_4 : decode cX6_hasPlaces 4 = .ok (.iload_n 2, 1) := by decide +kernel
theorem dX6_hasPlaces_5 : decode cX6_hasPlaces 5 = .ok (.ifCond .lt 27, 3) := by decide +kernel
theorem dX6_hasPlaces_8 : decode cX6_hasPlaces 8 = .ok (.iload_n 1, 1) := by decide +kernel
theorem dX6_hasPlaces_9 : decode cX6_hasPlaces 9 = .ok (.aload_n 0, 1) := by decide +kernel
theorem dX6_hasPlaces_10 : decode cX6_hasPlaces 10 = .ok (.getfield 22, 3) := by decide +kernel
theorem dX6_hasPlaces_13 : decode cX6_hasPlaces 13 = .ok (.arraylength, 1) := by decide +kernel
theorem dX6_hasPlaces_14 : decode cX6_hasPlaces 14 = .ok (.if_icmp .gt 18, 3) := by decide +kernel
theorem dX6_hasPlaces_17 : decode cX6_hasPlaces 17 = .ok (.iload_n 2, 1) := by decide +kernel
theorem dX6_hasPlaces_18 : decode cX6_hasPlaces 18 = .ok (.aload_n 0, 1) := by decide +kernel
theorem dX6_hasPlaces_19 : decode cX6_hasPlaces 19 = .ok (.getfield 22, 3) := by decide +kernel
theorem dX6_hasPlaces_22 : decode cX6_hasPlaces 22 = .ok (.arraylength, 1) := by decide +kernel
theorem dX6_hasPlaces_23 : decode cX6_hasPlaces 23 = .ok (.iload_n 1, 1) := by decide +kernel
theorem dX6_hasPlaces_24 : decode cX6_hasPlaces 24 = .ok (.isub, 1) := by decide +kernel
theorem dX6_hasPlaces_25 : decode cX6_hasPlaces 25 = .ok (.if_icmp .gt 7, 3) := by decide +kernel
theorem dX6_hasPlaces_28 : decode cX6_hasPlaces 28 = .ok (.iconst 1, 1) := by decide +kernel
theorem dX6_hasPlaces_29 : decode cX6_hasPlaces 29 = .ok (.goto 4, 3) := by decide +kernel
theorem dX6_hasPlaces_32 : decode cX6_hasPlaces 32 = .ok (.iconst 0, 1) := by decide +kernel
theorem dX6_hasPlaces_33 : decode cX6_hasPlaces 33 = .ok (.ireturn, 1) := by decide +kernel
set_option maxRecDepth 20000 in
theorem ggX6_valueAt_X6_hasPlace : GoodIn wsX6_valueAt wsX6_hasPlace := goodIn_r _ [6, 1, 7, 8, 9] (by decide +kernel) (by decide +kernel)
set_option maxRecDepth 20000 in
theorem gX6_valueAt_X6_hasPlace : GoodIn wsX6_valueAt (wsV RX6 26 RX6 yX6_hasPlace wsX6_hasPlace) := goodIn_app (goodIn_of _ (by decide +kernel)) ggX6_valueAt_X6_hasPlace
theorem dX6_valueAt_0 : decode cX6_valueAt 0 = .ok (.aload_n 0, 1) := by decide +kernel
theorem dX6_valueAt_1 : decode cX6_valueAt 1 = .ok (.iload_n 1, 1) := by decide +kernel
theorem dX6_valueAt_2 : decode cX6_valueAt 2 = .ok (.invokevirtual 26, 3) := by decide +kernel
theorem dX6_valueAt_5 : decode cX6_valueAt 5 = .ok (.ifCond .eq 12, 3) := by decide +kernel
theorem dX6_valueAt_8 : decode cX6_valueAt 8 = .ok (.aload_n 0, 1) := by decide +kernel
theorem dX6_valueAt_9 : decode cX6_valueAt 9 = .ok (.getfield 22, 3) := by decide +kernel
theorem dX6_valueAt_12 : decode cX6_valueAt 12 = .ok (.iload_n 1, 1) := by decide +kernel
theorem dX6_valueAt_13 : decode cX6_valueAt 13 = .ok (.iaload, 1) := by decide +kernel
theorem dX6_valueAt_14 : decode cX6_valueAt 14 = .ok (.goto 4, 3) := by decide +kernel
theorem dX6_valueAt_17 : decode cX6_valueAt 17 = .ok (.iconst 0, 1) := by decide +kernel
theorem dX6_valueAt_18 : decode cX6_valueAt 18 = .ok (.ireturn, 1) := by decide +kernel
set_option maxRecDepth 20000 in
theorem ggX6_become_X6_hasPlace : GoodIn wsX6_become wsX6_hasPlace := goodIn_r _ [6, 1, 12, 13, 14] (by decide +kernel) (by decide +kernel)
set_option maxRecDepth 20000 in
theorem gX6_become_X6_hasPlace : GoodIn wsX6_become (wsV RX6 26 RX6 yX6_hasPlace wsX6_hasPlace) := goodIn_app (goodIn_of _ (by decide +kernel)) ggX6_become_X6_hasPlace
set_option maxRecDepth 20000 in
theorem ggX6_become_X6_lowestBits : GoodIn wsX6_become wsX6_lowestBits := goodIn_r _ [10, 11, 12, 13, 14] (by decide +kernel) (by decide +kernel)
set_option maxRecDepth 20000 in
theorem gX6_become_X6_lowestBits : GoodIn wsX6_become (wsV RX6 30 RX6 yX6_lowestBits wsX6_lowestBits) := goodIn_app (goodIn_of _ (by decide +kernel)) ggX6_become_X6_lowestBits
theorem dX6_become_0 : decode cX6_become 0 = .ok (.aload_n 0, 1) := by decide +kernel
theorem dX6_become_1 : decode cX6_become 1 = .ok (.iload_n 1, 1) := by decide +kernel
theorem dX6_become_2 : decode cX6_become 2 = .ok (.invokevirtual 26, 3) := by decide +kernel
theorem dX6_become_5 : decode cX6_become 5 = .ok (.ifCond .eq 14, 3) := by decide +kernel
theorem dX6_become_8 : decode cX6_become 8 = .ok (.aload_n 0, 1) := by decide +kernel
theorem dX6_become_9 : decode cX6_become 9 = .ok (.getfield 22, 3) := by decide +kernel
theorem dX6_become_12 : decode cX6_become 12 = .ok (.iload_n 1, 1) := by decide +kernel
theorem dX6_become_13 : decode cX6_become 13 = .ok (.aload_n 0, 1) := by decide +kernel
theorem dX6_become_14 : decode cX6_become 14 = .ok (.iload_n 2, 1) := by decide +kernel
theorem dX6_become_15 : decode cX6_become 15 = .ok (.invokevirtual 30, 3) := by decide +kernel
theorem dX6_become_18 : decode cX6_become 18 = .ok (.iastore, 1) := by decide +kernel
theorem dX6_become_19 : decode cX6_become 19 = .ok (.return_, 1) := by decide +kernel
theorem dX6_lowestBits_0 : decode cX6_lowestBits 0 = .ok (.aload_n 0, 1) := by decide +kernel
theorem dX6_lowestBits_1 : decode cX6_lowestBits 1 = .ok (.getfield 7, 3) := by decide +kernel
theorem dX6_lowestBits_4 : decode cX6_lowestBits 4 = .ok (.ifCond .ne 6, 3) := by decide +kernel
theorem dX6_lowestBits_7 : decode cX6_lowestBits 7 = .ok (.iload_n 1, 1) := by decide +kernel
theorem dX6_lowestBits_8 : decode cX6_lowestBits 8 = .ok (.i2b, 1) := by decide +kernel
theorem dX6_lowestBits_9 : decode cX6_lowestBits 9 = .ok (.ireturn, 1) := by decide +kernel
theorem dX6_lowestBits_10 : decode cX6_lowestBits 10 = .ok (.aload_n 0, 1) := by decide +kernel
theorem dX6_lowestBits_11 : decode cX6_lowestBits 11 = .ok (.getfield 7, 3) := by decide +kernel
theorem dX6_lowestBits_14 : decode cX6_lowestBits 14 = .ok (.iconst 1, 1) := by decide +kernel
theorem dX6_lowestBits_15 : decode cX6_lowestBits 15 = .ok (.if_icmp .ne 8, 3) := by decide +kernel
theorem dX6_lowestBits_18 : decode cX6_lowestBits 18 = .ok (.iload_n 1, 1) := by decide +kernel
theorem dX6_lowestBits_19 : decode cX6_lowestBits 19 = .ok (.i2s, 1) := by decide +kernel
theorem dX6_lowestBits_20 : decode cX6_lowestBits 20 = .ok (.goto 4, 3) := by decide +kernel
theorem dX6_lowestBits_23 : decode cX6_lowestBits 23 = .ok (.iload_n 1, 1) := by decide +kernel
theorem dX6_lowestBits_24 : decode cX6_lowestBits 24 = .ok (.ireturn, 1) := by decide +kernel
set_option maxRecDepth 20000 in
theorem ggX7_init_X0_init : GoodIn wsX7_init wsX0_init := goodIn_r _ [4, 5, 6, 7, 8, 9, 10, 11, 12, 13, 14, 15, 16] (by decide +kernel) (by decide +kernel)
set_option maxRecDepth 20000 in
theorem gX7_init_X0_init : GoodIn wsX7_init (wsX0_init) := ggX7_init_X0_init
theorem dX7_init_0 : decode cX7_init 0 = .ok (.aload_n 0, 1) := by decide +kernel
theorem dX7_init_1 : decode cX7_init 1 = .ok (.iload_n 1, 1) := by decide +kernel
theorem dX7_init_2 : decode cX7_init 2 = .ok (.invokespecial 3, 3) := by decide +kernel
theorem dX7_init_5 : decode cX7_init 5 = .ok (.return_, 1) := by decide +kernel
theorem dX7_kind_0 : decode cX7_kind 0 = .ok (.iconst 2, 1) := by decide +kernel
theorem dX7_kind_1 : decode cX7_kind 1 = .ok (.ireturn, 1) := by decide +kernel
theorem dX7_moves_0 : decode cX7_moves 0 = .ok (.iconst 0, 1) := by decide +kernel
theorem dX7_moves_1 : decode cX7_moves 1 = .ok (.ireturn, 1) := by decide +kernel
set_option maxRecDepth 20000 in
theorem ggX7_price_X0_price : GoodIn wsX7_price wsX0_price := goodIn_r _ [8] (by decide +kernel) (by decide +kernel)
set_option maxRecDepth 20000 in
theorem gX7_price_X0_price_s9 : GoodIn wsX7_price (va_wsSU RX7 9 yX0_price wsX0_price) := goodIn_app (goodIn_of _ (by decide +kernel)) ggX7_price_X0_price
theorem dX7_price_0 : decode cX7_price 0 = .ok (.aload_n 0, 1) := by decide +kernel
theorem dX7_price_1 : decode cX7_price 1 = .ok (.invokespecial 9, 3) := by decide +kernel
theorem dX7_price_4 : decode cX7_price 4 = .ok (.aload_n 0, 1) := by decide +kernel
theorem dX7_price_5 : decode cX7_price 5 = .ok (.getfield 13, 3) := by decide +kernel
theorem dX7_price_8 : decode cX7_price 8 = .ok (.iadd, 1) := by decide +kernel
theorem dX7_price_9 : decode cX7_price 9 = .ok (.ireturn, 1) := by decide +kernel
set_option maxRecDepth 20000 in
theorem ggX8_init_X1_init : GoodIn wsX8_init wsX1_init := goodIn_r _ [4, 5, 6, 7, 8, 9, 10, 11, 12, 13, 14, 15, 16, 17, 18, 19, 20] (by decide +kernel) (by decide +kernel)
set_option maxRecDepth 20000 in
theorem gX8_init_X1_init : GoodIn wsX8_init (wsX1_init) := ggX8_init_X1_init
theorem dX8_init_0 : decode cX8_init 0 = .ok (.aload_n 0, 1) := by decide +kernel
theorem dX8_init_1 : decode cX8_init 1 = .ok (.iload_n 1, 1) := by decide +kernel
theorem dX8_init_2 : decode cX8_init 2 = .ok (.invokespecial 3, 3) := by decide +kernel
theorem dX8_init_5 : decode cX8_init 5 = .ok (.return_, 1) := by decide +kernel
theorem dX8_kind_0 : decode cX8_kind 0 = .ok (.iconst 3, 1) := by decide +kernel
theorem dX8_kind_1 : decode cX8_kind 1 = .ok (.ireturn, 1) := by decide +kernel
set_option maxRecDepth 20000 in
theorem ggX8_moves_X11_isOpen : GoodIn wsX8_moves wsX11_isOpen := goodIn_r _ [3] (by decide +kernel) (by decide +kernel)
set_option maxRecDepth 20000 in
theorem gX8_moves_X11_isOpen_n9 : GoodIn wsX8_moves (wsX11_isOpen) := ggX8_moves_X11_isOpen
theorem dX8_moves_0 : decode cX8_moves 0 = .ok (.iload_n 1, 1) := by decide +kernel
theorem dX8_moves_1 : decode cX8_moves 1 = .ok (.ifCond .le 13, 3) := by decide +kernel
theorem dX8_moves_4 : decode cX8_moves 4 = .ok (.iload_n 2, 1) := by decide +kernel
theorem dX8_moves_5 : decode cX8_moves 5 = .ok (.iload_n 1, 1) := by decide +kernel
theorem dX8_moves_6 : decode cX8_moves 6 = .ok (.iconst 1, 1) := by decide +kernel
theorem dX8_moves_7 : decode cX8_moves 7 = .ok (.isub, 1) := by decide +kernel
theorem dX8_moves_8 : decode cX8_moves 8 = .ok (.invokestatic 9, 3) := by decide +kernel
theorem dX8_moves_11 : decode cX8_moves 11 = .ok (.ifCond .ne 7, 3) := by decide +kernel
theorem dX8_moves_14 : decode cX8_moves 14 = .ok (.iconst 1, 1) := by decide +kernel
theorem dX8_moves_15 : decode cX8_moves 15 = .ok (.goto 4, 3) := by decide +kernel
theorem dX8_moves_18 : decode cX8_moves 18 = .ok (.iconst 0, 1) := by decide +kernel
theorem dX8_moves_19 : decode cX8_moves 19 = .ok (.ireturn, 1) := by decide +kernel
set_option maxRecDepth 20000 in
theorem ggX8_price_X1_price : GoodIn wsX8_price wsX1_price := goodIn_r _ [6, 7, 8, 9, 10, 11, 12] (by decide +kernel) (by decide +kernel)
set_option maxRecDepth 20000 in
theorem gX8_price_X1_price_s13 : GoodIn wsX8_price (va_wsSU RX8 13 yX1_price wsX1_price) := goodIn_app (goodIn_of _ (by decide +kernel)) ggX8_price_X1_price
theorem dX8_price_0 : decode cX8_price 0 = .ok (.iconst 2, 1) := by decide +kernel
theorem dX8_price_1 : decode cX8_price 1 = .ok (.aload_n 0, 1) := by decide +kernel
theorem dX8_price_2 : decode cX8_price 2 = .ok (.invokespecial 13, 3) := by decide +kernel
theorem dX8_price_5 : decode cX8_price 5 = .ok (.imul, 1) := by decide +kernel
theorem dX8_price_6 : decode cX8_price 6 = .ok (.ireturn, 1) := by decide +kernel
