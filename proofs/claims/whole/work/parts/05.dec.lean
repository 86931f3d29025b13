theorem dX11_init_0 : decode cX11_init 0 = .ok (.aload_n 0, 1) := by decide +kernel
theorem dX11_init_1 : decode cX11_init 1 = .ok (.invokespecial 1, 3) := by decide +kernel
theorem dX11_init_4 : decode cX11_init 4 = .ok (.aload_n 0, 1) := by decide +kernel
theorem dX11_init_5 : decode cX11_init 5 = .ok (.new 7, 3) := by decide +kernel
theorem dX11_init_8 : decode cX11_init 8 = .ok (.dup, 1) := by decide +kernel
theorem dX11_init_9 : decode cX11_init 9 = .ok (.invokespecial 9, 3) := by decide +kernel
theorem dX11_init_12 : decode cX11_init 12 = .ok (.putfield 10, 3) := by decide +kernel
theorem dX11_init_15 : decode cX11_init 15 = .ok (.aload_n 0, 1) := by decide +kernel
theorem dX11_init_16 : decode cX11_init 16 = .ok (.new 7, 3) := by decide +kernel
theorem dX11_init_19 : decode cX11_init 19 = .ok (.dup, 1) := by decide +kernel
theorem dX11_init_20 : decode cX11_init 20 = .ok (.invokespecial 9, 3) := by decide +kernel
theorem dX11_init_23 : decode cX11_init 23 = .ok (.putfield 16, 3) := by decide +kernel
theorem dX11_init_26 : decode cX11_init 26 = .ok (.aload_n 0, 1) := by decide +kernel
theorem dX11_init_27 : decode cX11_init 27 = .ok (.new 7, 3) := by decide +kernel
theorem dX11_init_30 : decode cX11_init 30 = .ok (.dup, 1) := by decide +kernel
theorem dX11_init_31 : decode cX11_init 31 = .ok (.invokespecial 9, 3) := by decide +kernel
theorem dX11_init_34 : decode cX11_init 34 = .ok (.putfield 19, 3) := by decide +kernel
theorem dX11_init_37 : decode cX11_init 37 = .ok (.aload_n 0, 1) := by decide +kernel
theorem dX11_init_38 : decode cX11_init 38 = .ok (.new 22, 3) := by decide +kernel
theorem dX11_init_41 : decode cX11_init 41 = .ok (.dup, 1) := by decide +kernel
theorem dX11_init_42 : decode cX11_init 42 = .ok (.invokespecial 24, 3) := by decide +kernel
theorem dX11_init_45 : decode cX11_init 45 = .ok (.putfield 25, 3) := by decide +kernel
theorem dX11_init_48 : decode cX11_init 48 = .ok (.aload_n 0, 1) := by decide +kernel
theorem dX11_init_49 : decode cX11_init 49 = .ok (.bipush 8, 2) := by decide +kernel
theorem dX11_init_51 : decode cX11_init 51 = .ok (.anewarray 29, 3) := by decide +kernel
theorem dX11_init_54 : decode cX11_init 54 = .ok (.putfield 31, 3) := by decide +kernel
theorem dX11_init_57 : decode cX11_init 57 = .ok (.aload_n 0, 1) := by decide +kernel
theorem dX11_init_58 : decode cX11_init 58 = .ok (.bipush 8, 2) := by decide +kernel
theorem dX11_init_60 : decode cX11_init 60 = .ok (.anewarray 35, 3) := by decide +kernel
theorem dX11_init_63 : decode cX11_init 63 = .ok (.putfield 37, 3) := by decide +kernel
theorem dX11_init_66 : decode cX11_init 66 = .ok (.aload_n 0, 1) := by decide +kernel
theorem dX11_init_67 : decode cX11_init 67 = .ok (.bipush 64, 2) := by decide +kernel
theorem dX11_init_69 : decode cX11_init 69 = .ok (.newarray .int, 2) := by decide +kernel
theorem dX11_init_71 : decode cX11_init 71 = .ok (.putfield 41, 3) := by decide +kernel
theorem dX11_init_74 : decode cX11_init 74 = .ok (.aload_n 0, 1) := by decide +kernel
theorem dX11_init_75 : decode cX11_init 75 = .ok (.iconst 0, 1) := by decide +kernel
theorem dX11_init_76 : decode cX11_init 76 = .ok (.putfield 45, 3) := by decide +kernel
theorem dX11_init_79 : decode cX11_init 79 = .ok (.return_, 1) := by decide +kernel
set_option maxRecDepth 20000 in
theorem ggX11_wall_X11_bytesOn : GoodIn wsX11_wall wsX11_bytesOn := goodIn_r _ [8, 9, 10, 11, 12, 7, 13, 14, 15, 16, 17, 212, 213, 214, 204, 205, 206, 207, 208, 209, 210, 211] (by decide +kernel) (by decide +kernel)
set_option maxRecDepth 20000 in
theorem gX11_wall_X11_bytesOn : GoodIn wsX11_wall (wsV RX11 49 RX11 yX11_bytesOn wsX11_bytesOn) := goodIn_app (goodIn_of _ (by decide +kernel)) ggX11_wall_X11_bytesOn
set_option maxRecDepth 20000 in
theorem ggX11_wall_X11_lacking : GoodIn wsX11_wall wsX11_lacking := goodIn_r _ [21, 15, 16, 7, 17, 22, 23, 24, 25, 26, 27, 28, 29, 30, 10, 11, 12, 13, 14, 204, 205, 206, 207, 208, 209, 210, 211] (by decide +kernel) (by decide +kernel)
set_option maxRecDepth 20000 in
theorem gX11_wall_X11_lacking : GoodIn wsX11_wall (wsV RX11 53 RX11 yX11_lacking wsX11_lacking) := goodIn_app (goodIn_of _ (by decide +kernel)) ggX11_wall_X11_lacking
set_option maxRecDepth 20000 in
theorem ggX11_wall_X11_brokenAt : GoodIn wsX11_wall wsX11_brokenAt := goodIn_r _ [33, 3, 34, 35, 36, 37, 38, 39, 40, 41, 42, 43, 44, 45, 7, 46, 47, 48, 49, 212, 213, 214] (by decide +kernel) (by decide +kernel)
set_option maxRecDepth 20000 in
theorem gX11_wall_X11_brokenAt : GoodIn wsX11_wall (va_wsS RX11 57 yX11_brokenAt wsX11_brokenAt) := goodIn_app (goodIn_of _ (by decide +kernel)) ggX11_wall_X11_brokenAt
set_option maxRecDepth 20000 in
theorem ggX11_wall_X11_fault : GoodIn wsX11_wall wsX11_fault := goodIn_r _ [52] (by decide +kernel) (by decide +kernel)
set_option maxRecDepth 20000 in
theorem gX11_wall_X11_fault : GoodIn wsX11_wall (va_wsS RX11 61 yX11_fault wsX11_fault) := goodIn_app (goodIn_of _ (by decide +kernel)) ggX11_wall_X11_fault
set_option maxRecDepth 20000 in
theorem ggX11_wall_X9_takeFrom : GoodIn wsX11_wall wsX9_takeFrom := goodIn_r _ [57, 58, 59, 60, 215, 216, 217] (by decide +kernel) (by decide +kernel)
set_option maxRecDepth 20000 in
theorem gX11_wall_X9_takeFrom : GoodIn wsX11_wall (wsV RX11 65 RX9 yX9_takeFrom wsX9_takeFrom) := goodIn_app (goodIn_of _ (by decide +kernel)) ggX11_wall_X9_takeFrom
set_option maxRecDepth 20000 in
theorem ggX11_wall_X6_valueAt : GoodIn wsX11_wall wsX6_valueAt := goodIn_r _ [38, 39, 40, 41, 42, 37, 43, 212, 213, 214] (by decide +kernel) (by decide +kernel)
set_option maxRecDepth 20000 in
theorem gX11_wall_X6_valueAt : GoodIn wsX11_wall (wsV RX11 73 RX6 yX6_valueAt wsX6_valueAt) := goodIn_app (goodIn_of _ (by decide +kernel)) ggX11_wall_X6_valueAt
set_option maxRecDepth 20000 in
theorem ggX11_wall_X11_carriedOut : GoodIn wsX11_wall wsX11_carriedOut := goodIn_r _ [64, 1, 34, 35, 36, 37, 38, 39, 40, 41, 42, 43, 65, 66, 7, 67, 68, 69, 70, 71, 72, 73, 74, 75, 76, 77, 78, 79, 80, 81, 82, 83, 84, 85, 86, 87, 88, 89, 90, 91, 92, 93, 94, 95, 96, 97, 98, 99, 100, 101, 102, 103, 104, 105, 106, 107, 108, 109, 110, 111, 112, 113, 114, 115, 116, 117, 118, 119, 120, 121, 122, 123, 124, 125, 126, 127, 128, 129, 56, 130, 59, 58, 131, 132, 133, 134, 60, 135, 136, 137, 138, 139, 140, 141, 142, 143, 144, 145, 146, 147, 148, 149, 150, 151, 152, 153, 154, 155, 156, 157, 158, 159, 160, 161, 162, 163, 164, 165, 166, 167, 168, 169, 170, 171, 172, 173, 174, 175, 176, 177, 178, 179, 180, 181, 182, 183, 184, 185, 186, 187, 188, 189, 190, 191, 192, 193, 194, 195, 196, 197, 198, 199, 200, 201, 202, 203, 204, 205, 206, 207, 208, 209, 210, 211, 212, 213, 214, 218, 219, 220, 221, 222, 223, 224, 225, 215, 216, 217] (by decide +kernel) (by decide +kernel)
set_option maxRecDepth 20000 in
theorem gX11_wall_X11_carriedOut : GoodIn wsX11_wall (wsV RX11 76 RX11 yX11_carriedOut wsX11_carriedOut) := goodIn_app (goodIn_of _ (by decide +kernel)) ggX11_wall_X11_carriedOut
theorem dX11_wall_0 : decode cX11_wall 0 = .ok (.aload_n 0, 1) := by decide +kernel
theorem dX11_wall_1 : decode cX11_wall 1 = .ok (.iload_n 1, 1) := by decide +kernel
theorem dX11_wall_2 : decode cX11_wall 2 = .ok (.invokevirtual 49, 3) := by decide +kernel
theorem dX11_wall_5 : decode cX11_wall 5 = .ok (.astore_n 2, 1) := by decide +kernel
theorem dX11_wall_6 : decode cX11_wall 6 = .ok (.aload_n 2, 1) := by decide +kernel
theorem dX11_wall_7 : decode cX11_wall 7 = .ok (.ifnonnull 9, 3) := by decide +kernel
theorem dX11_wall_10 : decode cX11_wall 10 = .ok (.aload_n 0, 1) := by decide +kernel
theorem dX11_wall_11 : decode cX11_wall 11 = .ok (.iload_n 1, 1) := by decide +kernel
theorem dX11_wall_12 : decode cX11_wall 12 = .ok (.invokevirtual 53, 3) := by decide +kernel
theorem dX11_wall_15 : decode cX11_wall 15 = .ok (.ireturn, 1) := by decide +kernel
theorem dX11_wall_16 : decode cX11_wall 16 = .ok (.aload_n 2, 1) := by decide +kernel
theorem dX11_wall_17 : decode cX11_wall 17 = .ok (.invokestatic 57, 3) := by decide +kernel
theorem dX11_wall_20 : decode cX11_wall 20 = .ok (.istore_n 3, 1) := by decide +kernel
theorem dX11_wall_21 : decode cX11_wall 21 = .ok (.iload_n 3, 1) := by decide +kernel
theorem dX11_wall_22 : decode cX11_wall 22 = .ok (.ifCond .lt 9, 3) := by decide +kernel
theorem dX11_wall_25 : decode cX11_wall 25 = .ok (.iconst 1, 1) := by decide +kernel
theorem dX11_wall_26 : decode cX11_wall 26 = .ok (.iload_n 3, 1) := by decide +kernel
theorem dX11_wall_27 : decode cX11_wall 27 = .ok (.invokestatic 61, 3) := by decide +kernel
theorem dX11_wall_30 : decode cX11_wall 30 = .ok (.ireturn, 1) := by decide +kernel
theorem dX11_wall_31 : decode cX11_wall 31 = .ok (.aload_n 0, 1) := by decide +kernel
theorem dX11_wall_32 : decode cX11_wall 32 = .ok (.getfield 19, 3) := by decide +kernel
theorem dX11_wall_35 : decode cX11_wall 35 = .ok (.aload_n 0, 1) := by decide +kernel
theorem dX11_wall_36 : decode cX11_wall 36 = .ok (.getfield 10, 3) := by decide +kernel
theorem dX11_wall_39 : decode cX11_wall 39 = .ok (.invokevirtual 65, 3) := by decide +kernel
theorem dX11_wall_42 : decode cX11_wall 42 = .ok (.iconst 0, 1) := by decide +kernel
theorem dX11_wall_43 : decode cX11_wall 43 = .ok (.istore 4, 2) := by decide +kernel
theorem dX11_wall_45 : decode cX11_wall 45 = .ok (.iconst 0, 1) := by decide +kernel
theorem dX11_wall_46 : decode cX11_wall 46 = .ok (.istore 5, 2) := by decide +kernel
theorem dX11_wall_48 : decode cX11_wall 48 = .ok (.iconst 0, 1) := by decide +kernel
theorem dX11_wall_49 : decode cX11_wall 49 = .ok (.istore 6, 2) := by decide +kernel
theorem dX11_wall_51 : decode cX11_wall 51 = .ok (.iload 6, 2) := by decide +kernel
theorem dX11_wall_53 : decode cX11_wall 53 = .ok (.aload_n 2, 1) := by decide +kernel
theorem dX11_wall_54 : decode cX11_wall 54 = .ok (.getfield 69, 3) := by decide +kernel
theorem dX11_wall_57 : decode cX11_wall 57 = .ok (.if_icmp .ge 46, 3) := by decide +kernel
theorem dX11_wall_60 : decode cX11_wall 60 = .ok (.aload_n 2, 1) := by decide +kernel
theorem dX11_wall_61 : decode cX11_wall 61 = .ok (.iload 6, 2) := by decide +kernel
theorem dX11_wall_63 : decode cX11_wall 63 = .ok (.invokevirtual 73, 3) := by decide +kernel
theorem dX11_wall_66 : decode cX11_wall 66 = .ok (.bipush 59, 2) := by decide +kernel
theorem dX11_wall_68 : decode cX11_wall 68 = .ok (.if_icmp .ne 29, 3) := by decide +kernel
theorem dX11_wall_71 : decode cX11_wall 71 = .ok (.aload_n 0, 1) := by decide +kernel
theorem dX11_wall_72 : decode cX11_wall 72 = .ok (.aload_n 2, 1) := by decide +kernel
theorem dX11_wall_73 : decode cX11_wall 73 = .ok (.iload 5, 2) := by decide +kernel
theorem dX11_wall_75 : decode cX11_wall 75 = .ok (.invokevirtual 76, 3) := by decide +kernel
theorem dX11_wall_78 : decode cX11_wall 78 = .ok (.ifCond .ne 10, 3) := by decide +kernel
theorem dX11_wall_81 : decode cX11_wall 81 = .ok (.iconst 2, 1) := by decide +kernel
theorem dX11_wall_82 : decode cX11_wall 82 = .ok (.iload 5, 2) := by decide +kernel
theorem dX11_wall_84 : decode cX11_wall 84 = .ok (.invokestatic 61, 3) := by decide +kernel
theorem dX11_wall_87 : decode cX11_wall 87 = .ok (.ireturn, 1) := by decide +kernel
theorem dX11_wall_88 : decode cX11_wall 88 = .ok (.iinc 4 1, 3) := by decide +kernel
theorem dX11_wall_91 : decode cX11_wall 91 = .ok (.iload 6, 2) := by decide +kernel
theorem dX11_wall_93 : decode cX11_wall 93 = .ok (.iconst 1, 1) := by decide +kernel
theorem dX11_wall_94 : decode cX11_wall 94 = .ok (.iadd, 1) := by decide +kernel
theorem dX11_wall_95 : decode cX11_wall 95 = .ok (.istore 5, 2) := by decide +kernel
theorem dX11_wall_97 : decode cX11_wall 97 = .ok (.iinc 6 1, 3) := by decide +kernel
theorem dX11_wall_100 : decode cX11_wall 100 = .ok (.goto (-49), 3) := by decide +kernel
theorem dX11_wall_103 : decode cX11_wall 103 = .ok (.aload_n 0, 1) := by decide +kernel
theorem dX11_wall_104 : decode cX11_wall 104 = .ok (.getfield 10, 3) := by decide +kernel
theorem dX11_wall_107 : decode cX11_wall 107 = .ok (.aload_n 0, 1) := by decide +kernel
theorem dX11_wall_108 : decode cX11_wall 108 = .ok (.getfield 19, 3) := by decide +kernel
theorem dX11_wall_111 : decode cX11_wall 111 = .ok (.invokevirtual 65, 3) := by decide +kernel
theorem dX11_wall_114 : decode cX11_wall 114 = .ok (.iload 4, 2) := by decide +kernel
theorem dX11_wall_116 : decode cX11_wall 116 = .ok (.ireturn, 1) := by decide +kernel
set_option maxRecDepth 20000 in
theorem ggX11_drawer_X9_drawerAt : GoodIn wsX11_drawer wsX9_drawerAt := goodIn_r _ [8, 9, 10, 11, 12, 7, 13, 14, 125, 126, 127] (by decide +kernel) (by decide +kernel)
set_option maxRecDepth 20000 in
theorem gX11_drawer_X9_drawerAt : GoodIn wsX11_drawer (wsV RX11 80 RX9 yX9_drawerAt wsX9_drawerAt) := goodIn_app (goodIn_of _ (by decide +kernel)) ggX11_drawer_X9_drawerAt
set_option maxRecDepth 20000 in
theorem ggX11_drawer_X0_kind : GoodIn wsX11_drawer wsX0_kind := goodIn_r _ [19] (by decide +kernel) (by decide +kernel)
set_option maxRecDepth 20000 in
theorem gX11_drawer_X0_kind : GoodIn wsX11_drawer (wsV RX11 84 RX0 yX0_kind wsX0_kind) := goodIn_app (goodIn_of _ (by decide +kernel)) ggX11_drawer_X0_kind
set_option maxRecDepth 20000 in
theorem ggX11_drawer_X1_kind : GoodIn wsX11_drawer wsX1_kind := goodIn_r _ [26] (by decide +kernel) (by decide +kernel)
set_option maxRecDepth 20000 in
theorem gX11_drawer_X1_kind_u84X1 : GoodIn wsX11_drawer (va_wsO RX11 84 RX1 "AboveIsShut$Drawer" ⟨"AboveIsShut$Drawer", "kind", "()I"⟩ yX1_kind wsX1_kind) := goodIn_app (goodIn_of _ (by decide +kernel)) ggX11_drawer_X1_kind
set_option maxRecDepth 20000 in
theorem ggX11_drawer_X2_kind : GoodIn wsX11_drawer wsX2_kind := goodIn_r _ [30] (by decide +kernel) (by decide +kernel)
set_option maxRecDepth 20000 in
theorem gX11_drawer_X2_kind_u84X2 : GoodIn wsX11_drawer (va_wsO RX11 84 RX2 "AboveIsShut$Drawer" ⟨"AboveIsShut$Drawer", "kind", "()I"⟩ yX2_kind wsX2_kind) := goodIn_app (goodIn_of _ (by decide +kernel)) ggX11_drawer_X2_kind
set_option maxRecDepth 20000 in
theorem ggX11_drawer_X3_kind : GoodIn wsX11_drawer wsX3_kind := goodIn_r _ [34] (by decide +kernel) (by decide +kernel)
set_option maxRecDepth 20000 in
theorem gX11_drawer_X3_kind_u84X3 : GoodIn wsX11_drawer (va_wsO RX11 84 RX3 "AboveIsShut$Drawer" ⟨"AboveIsShut$Drawer", "kind", "()I"⟩ yX3_kind wsX3_kind) := goodIn_app (goodIn_of _ (by decide +kernel)) ggX11_drawer_X3_kind
set_option maxRecDepth 20000 in
theorem ggX11_drawer_X4_kind : GoodIn wsX11_drawer wsX4_kind := goodIn_r _ [38] (by decide +kernel) (by decide +kernel)
set_option maxRecDepth 20000 in
theorem gX11_drawer_X4_kind_u84X4 : GoodIn wsX11_drawer (va_wsO RX11 84 RX4 "AboveIsShut$Drawer" ⟨"AboveIsShut$Drawer", "kind", "()I"⟩ yX4_kind wsX4_kind) := goodIn_app (goodIn_of _ (by decide +kernel)) ggX11_drawer_X4_kind
set_option maxRecDepth 20000 in
theorem ggX11_drawer_X5_kind : GoodIn wsX11_drawer wsX5_kind := goodIn_r _ [42] (by decide +kernel) (by decide +kernel)
set_option maxRecDepth 20000 in
theorem gX11_drawer_X5_kind_u84X5 : GoodIn wsX11_drawer (va_wsO RX11 84 RX5 "AboveIsShut$Drawer" ⟨"AboveIsShut$Drawer", "kind", "()I"⟩ yX5_kind wsX5_kind) := goodIn_app (goodIn_of _ (by decide +kernel)) ggX11_drawer_X5_kind
set_option maxRecDepth 20000 in
theorem ggX11_drawer_X7_kind : GoodIn wsX11_drawer wsX7_kind := goodIn_r _ [46] (by decide +kernel) (by decide +kernel)
set_option maxRecDepth 20000 in
theorem gX11_drawer_X7_kind_u84X7 : GoodIn wsX11_drawer (va_wsO RX11 84 RX7 "AboveIsShut$Drawer" ⟨"AboveIsShut$Drawer", "kind", "()I"⟩ yX7_kind wsX7_kind) := goodIn_app (goodIn_of _ (by decide +kernel)) ggX11_drawer_X7_kind
set_option maxRecDepth 20000 in
theorem ggX11_drawer_X8_kind : GoodIn wsX11_drawer wsX8_kind := goodIn_r _ [50] (by decide +kernel) (by decide +kernel)
set_option maxRecDepth 20000 in
theorem gX11_drawer_X8_kind_u84X8 : GoodIn wsX11_drawer (va_wsO RX11 84 RX8 "AboveIsShut$Drawer" ⟨"AboveIsShut$Drawer", "kind", "()I"⟩ yX8_kind wsX8_kind) := goodIn_app (goodIn_of _ (by decide +kernel)) ggX11_drawer_X8_kind
set_option maxRecDepth 20000 in
theorem ggX11_drawer_X11_isOpen : GoodIn wsX11_drawer wsX11_isOpen := goodIn_r _ [54] (by decide +kernel) (by decide +kernel)
set_option maxRecDepth 20000 in
theorem gX11_drawer_X11_isOpen : GoodIn wsX11_drawer (va_wsS RX11 94 yX11_isOpen wsX11_isOpen) := goodIn_app (goodIn_of _ (by decide +kernel)) ggX11_drawer_X11_isOpen
set_option maxRecDepth 20000 in
theorem ggX11_drawer_X9_may : GoodIn wsX11_drawer wsX9_may := goodIn_r _ [58, 59, 5, 6, 7, 8, 9, 10, 11, 12, 13, 14, 60, 61, 62, 18, 63, 52, 53, 54, 64, 65, 66, 67, 68, 25, 69, 70, 71, 29, 72, 73, 74, 75, 76, 33, 77, 78, 79, 80, 81, 82, 83, 49, 84, 85, 86, 87, 88, 89, 90, 91, 92, 93, 37, 94, 95, 96, 97, 98, 99, 41, 100, 101, 102, 103, 104, 105, 106, 45, 107, 108, 125, 126, 127, 117, 118, 119, 120, 121, 122, 123, 124] (by decide +kernel) (by decide +kernel)
set_option maxRecDepth 20000 in
theorem gX11_drawer_X9_may : GoodIn wsX11_drawer (wsV RX11 98 RX9 yX9_may wsX9_may) := goodIn_app (goodIn_of _ (by decide +kernel)) ggX11_drawer_X9_may
theorem dX11_drawer_0 : decode cX11_drawer 0 = .ok (.aload_n 0, 1) := by decide +kernel
theorem dX11_drawer_1 : decode cX11_drawer 1 = .ok (.getfield 10, 3) := by decide +kernel
theorem dX11_drawer_4 : decode cX11_drawer 4 = .ok (.iload_n 1, 1) := by decide +kernel
theorem dX11_drawer_5 : decode cX11_drawer 5 = .ok (.invokevirtual 80, 3) := by decide +kernel
theorem dX11_drawer_8 : decode cX11_drawer 8 = .ok (.astore_n 3, 1) := by decide +kernel
theorem dX11_drawer_9 : decode cX11_drawer 9 = .ok (.aload_n 3, 1) := by decide +kernel
theorem dX11_drawer_10 : decode cX11_drawer 10 = .ok (.ifnonnull 5, 3) := by decide +kernel
theorem dX11_drawer_13 : decode cX11_drawer 13 = .ok (.iconst (-1), 1) := by decide +kernel
theorem dX11_drawer_14 : decode cX11_drawer 14 = .ok (.ireturn, 1) := by decide +kernel
theorem dX11_drawer_15 : decode cX11_drawer 15 = .ok (.iload_n 2, 1) := by decide +kernel
theorem dX11_drawer_16 : decode cX11_drawer 16 = .ok (.tableswitch 86 0 3 #[32, 37, 42, 62], 32) := by decide +kernel
theorem dX11_drawer_48 : decode cX11_drawer 48 = .ok (.aload_n 3, 1) := by decide +kernel
theorem dX11_drawer_49 : decode cX11_drawer 49 = .ok (.invokevirtual 84, 3) := by decide +kernel
theorem dX11_drawer_52 : decode cX11_drawer 52 = .ok (.ireturn, 1) := by decide +kernel
theorem dX11_drawer_53 : decode cX11_drawer 53 = .ok (.aload_n 3, 1) := by decide +kernel
theorem dX11_drawer_54 : decode cX11_drawer 54 = .ok (.getfield 88, 3) := by decide +kernel
theorem dX11_drawer_57 : decode cX11_drawer 57 = .ok (.ireturn, 1) := by decide +kernel
theorem dX11_drawer_58 : decode cX11_drawer 58 = .ok (.aload_n 0, 1) := by decide +kernel
theorem dX11_drawer_59 : decode cX11_drawer 59 = .ok (.getfield 10, 3) := by decide +kernel
theorem dX11_drawer_62 : decode cX11_drawer 62 = .ok (.getfield 91, 3) := by decide +kernel
theorem dX11_drawer_65 : decode cX11_drawer 65 = .ok (.iload_n 1, 1) := by decide +kernel
theorem dX11_drawer_66 : decode cX11_drawer 66 = .ok (.invokestatic 94, 3) := by decide +kernel
theorem dX11_drawer_69 : decode cX11_drawer 69 = .ok (.ifCond .eq 7, 3) := by decide +kernel
theorem dX11_drawer_72 : decode cX11_drawer 72 = .ok (.iconst 1, 1) := by decide +kernel
theorem dX11_drawer_73 : decode cX11_drawer 73 = .ok (.goto 4, 3) := by decide +kernel
theorem dX11_drawer_76 : decode cX11_drawer 76 = .ok (.iconst 0, 1) := by decide +kernel
theorem dX11_drawer_77 : decode cX11_drawer 77 = .ok (.ireturn, 1) := by decide +kernel
theorem dX11_drawer_78 : decode cX11_drawer 78 = .ok (.aload_n 0, 1) := by decide +kernel
theorem dX11_drawer_79 : decode cX11_drawer 79 = .ok (.getfield 10, 3) := by decide +kernel
theorem dX11_drawer_82 : decode cX11_drawer 82 = .ok (.iload_n 1, 1) := by decide +kernel
theorem dX11_drawer_83 : decode cX11_drawer 83 = .ok (.aload_n 0, 1) := by decide +kernel
theorem dX11_drawer_84 : decode cX11_drawer 84 = .ok (.getfield 10, 3) := by decide +kernel
theorem dX11_drawer_87 : decode cX11_drawer 87 = .ok (.getfield 91, 3) := by decide +kernel
theorem dX11_drawer_90 : decode cX11_drawer 90 = .ok (.invokevirtual 98, 3) := by decide +kernel
theorem dX11_drawer_93 : decode cX11_drawer 93 = .ok (.ifCond .eq 7, 3) := by decide +kernel
theorem dX11_drawer_96 : decode cX11_drawer 96 = .ok (.iconst 1, 1) := by decide +kernel
theorem dX11_drawer_97 : decode cX11_drawer 97 = .ok (.goto 4, 3) := by decide +kernel
theorem dX11_drawer_100 : decode cX11_drawer 100 = .ok (.iconst 0, 1) := by decide +kernel
theorem dX11_drawer_101 : decode cX11_drawer 101 = .ok (.ireturn, 1) := by decide +kernel
theorem dX11_drawer_102 : decode cX11_drawer 102 = .ok (.iconst (-1), 1) := by decide +kernel
theorem dX11_drawer_103 : decode cX11_drawer 103 = .ok (.ireturn, 1) := by decide +kernel
set_option maxRecDepth 20000 in
theorem ggX11_comes_X11_drawerOn : GoodIn wsX11_comes wsX11_drawerOn := goodIn_r _ [7, 8, 9, 10, 6, 11, 32, 33, 34, 35, 36, 37, 38, 39] (by decide +kernel) (by decide +kernel)
set_option maxRecDepth 20000 in
theorem gX11_comes_X11_drawerOn : GoodIn wsX11_comes (wsV RX11 101 RX11 yX11_drawerOn wsX11_drawerOn) := goodIn_app (goodIn_of _ (by decide +kernel)) ggX11_comes_X11_drawerOn
set_option maxRecDepth 20000 in
theorem ggX11_comes_X11_lacking : GoodIn wsX11_comes wsX11_lacking := goodIn_r _ [15, 9, 10, 6, 11, 16, 17, 18, 19, 3, 4, 5, 7, 8, 20, 21, 22, 23, 24, 32, 33, 34, 35, 36, 37, 38, 39] (by decide +kernel) (by decide +kernel)
set_option maxRecDepth 20000 in
theorem gX11_comes_X11_lacking : GoodIn wsX11_comes (wsV RX11 53 RX11 yX11_lacking wsX11_lacking) := goodIn_app (goodIn_of _ (by decide +kernel)) ggX11_comes_X11_lacking
set_option maxRecDepth 20000 in
theorem ggX11_comes_X9_add : GoodIn wsX11_comes wsX9_add := goodIn_r _ [29, 30, 31, 40, 41, 42] (by decide +kernel) (by decide +kernel)
set_option maxRecDepth 20000 in
theorem gX11_comes_X9_add : GoodIn wsX11_comes (wsV RX11 105 RX9 yX9_add wsX9_add) := goodIn_app (goodIn_of _ (by decide +kernel)) ggX11_comes_X9_add
theorem dX11_comes_0 : decode cX11_comes 0 = .ok (.aload_n 0, 1) := by decide +kernel
theorem dX11_comes_1 : decode cX11_comes 1 = .ok (.iload_n 1, 1) := by decide +kernel
theorem dX11_comes_2 : decode cX11_comes 2 = .ok (.invokevirtual 101, 3) := by decide +kernel
theorem dX11_comes_5 : decode cX11_comes 5 = .ok (.astore_n 2, 1) := by decide +kernel
theorem dX11_comes_6 : decode cX11_comes 6 = .ok (.aload_n 2, 1) := by decide +kernel
theorem dX11_comes_7 : decode cX11_comes 7 = .ok (.ifnonnull 9, 3) := by decide +kernel
theorem dX11_comes_10 : decode cX11_comes 10 = .ok (.aload_n 0, 1) := by decide +kernel
theorem dX11_comes_11 : decode cX11_comes 11 = .ok (.iload_n 1, 1) := by decide +kernel
theorem dX11_comes_12 : decode cX11_comes 12 = .ok (.invokevirtual 53, 3) := by decide +kernel
theorem dX11_comes_15 : decode cX11_comes 15 = .ok (.ireturn, 1) := by decide +kernel
theorem dX11_comes_16 : decode cX11_comes 16 = .ok (.aload_n 0, 1) := by decide +kernel
theorem dX11_comes_17 : decode cX11_comes 17 = .ok (.getfield 10, 3) := by decide +kernel
theorem dX11_comes_20 : decode cX11_comes 20 = .ok (.getfield 104, 3) := by decide +kernel
theorem dX11_comes_23 : decode cX11_comes 23 = .ok (.istore_n 3, 1) := by decide +kernel
theorem dX11_comes_24 : decode cX11_comes 24 = .ok (.aload_n 0, 1) := by decide +kernel
theorem dX11_comes_25 : decode cX11_comes 25 = .ok (.getfield 10, 3) := by decide +kernel
theorem dX11_comes_28 : decode cX11_comes 28 = .ok (.aload_n 2, 1) := by decide +kernel
theorem dX11_comes_29 : decode cX11_comes 29 = .ok (.invokevirtual 105, 3) := by decide +kernel
theorem dX11_comes_32 : decode cX11_comes 32 = .ok (.ifCond .eq 7, 3) := by decide +kernel
theorem dX11_comes_35 : decode cX11_comes 35 = .ok (.iload_n 3, 1) := by decide +kernel
theorem dX11_comes_36 : decode cX11_comes 36 = .ok (.goto 5, 3) := by decide +kernel
theorem dX11_comes_39 : decode cX11_comes 39 = .ok (.bipush (-2), 2) := by decide +kernel
theorem dX11_comes_41 : decode cX11_comes 41 = .ok (.ireturn, 1) := by decide +kernel
set_option maxRecDepth 20000 in
theorem ggX11_changes_X9_drawerAt : GoodIn wsX11_changes wsX9_drawerAt := goodIn_r _ [6, 7, 8, 9, 10, 5, 11, 12, 83, 84, 85] (by decide +kernel) (by decide +kernel)
set_option maxRecDepth 20000 in
theorem gX11_changes_X9_drawerAt : GoodIn wsX11_changes (wsV RX11 80 RX9 yX9_drawerAt wsX9_drawerAt) := goodIn_app (goodIn_of _ (by decide +kernel)) ggX11_changes_X9_drawerAt
set_option maxRecDepth 20000 in
theorem ggX11_changes_X11_drawerOn : GoodIn wsX11_changes wsX11_drawerOn := goodIn_r _ [17, 18, 19, 20, 16, 21, 75, 76, 77, 78, 79, 80, 81, 82] (by decide +kernel) (by decide +kernel)
set_option maxRecDepth 20000 in
theorem gX11_changes_X11_drawerOn : GoodIn wsX11_changes (wsV RX11 101 RX11 yX11_drawerOn wsX11_drawerOn) := goodIn_app (goodIn_of _ (by decide +kernel)) ggX11_changes_X11_drawerOn
set_option maxRecDepth 20000 in
theorem ggX11_changes_X11_lacking : GoodIn wsX11_changes wsX11_lacking := goodIn_r _ [25, 19, 20, 16, 21, 26, 27, 28, 29, 13, 14, 15, 17, 18, 30, 31, 32, 33, 34, 75, 76, 77, 78, 79, 80, 81, 82] (by decide +kernel) (by decide +kernel)
set_option maxRecDepth 20000 in
theorem gX11_changes_X11_lacking : GoodIn wsX11_changes (wsV RX11 53 RX11 yX11_lacking wsX11_lacking) := goodIn_app (goodIn_of _ (by decide +kernel)) ggX11_changes_X11_lacking
set_option maxRecDepth 20000 in
theorem ggX11_changes_X9_replace : GoodIn wsX11_changes wsX9_replace := goodIn_r _ [38, 7, 8, 9, 10, 5, 11, 12, 83, 84, 85] (by decide +kernel) (by decide +kernel)
set_option maxRecDepth 20000 in
theorem gX11_changes_X9_replace : GoodIn wsX11_changes (wsV RX11 109 RX9 yX9_replace wsX9_replace) := goodIn_app (goodIn_of _ (by decide +kernel)) ggX11_changes_X9_replace
set_option maxRecDepth 20000 in
theorem ggX11_changes_X0_kind : GoodIn wsX11_changes wsX0_kind := goodIn_r _ [43] (by decide +kernel) (by decide +kernel)
set_option maxRecDepth 20000 in
theorem gX11_changes_X0_kind : GoodIn wsX11_changes (wsV RX11 84 RX0 yX0_kind wsX0_kind) := goodIn_app (goodIn_of _ (by decide +kernel)) ggX11_changes_X0_kind
set_option maxRecDepth 20000 in
theorem ggX11_changes_X1_kind : GoodIn wsX11_changes wsX1_kind := goodIn_r _ [50] (by decide +kernel) (by decide +kernel)
set_option maxRecDepth 20000 in
theorem gX11_changes_X1_kind_u84X1 : GoodIn wsX11_changes (va_wsO RX11 84 RX1 "AboveIsShut$Drawer" ⟨"AboveIsShut$Drawer", "kind", "()I"⟩ yX1_kind wsX1_kind) := goodIn_app (goodIn_of _ (by decide +kernel)) ggX11_changes_X1_kind
set_option maxRecDepth 20000 in
theorem ggX11_changes_X2_kind : GoodIn wsX11_changes wsX2_kind := goodIn_r _ [54] (by decide +kernel) (by decide +kernel)
set_option maxRecDepth 20000 in
theorem gX11_changes_X2_kind_u84X2 : GoodIn wsX11_changes (va_wsO RX11 84 RX2 "AboveIsShut$Drawer" ⟨"AboveIsShut$Drawer", "kind", "()I"⟩ yX2_kind wsX2_kind) := goodIn_app (goodIn_of _ (by decide +kernel)) ggX11_changes_X2_kind
set_option maxRecDepth 20000 in
theorem ggX11_changes_X3_kind : GoodIn wsX11_changes wsX3_kind := goodIn_r _ [58] (by decide +kernel) (by decide +kernel)
set_option maxRecDepth 20000 in
theorem gX11_changes_X3_kind_u84X3 : GoodIn wsX11_changes (va_wsO RX11 84 RX3 "AboveIsShut$Drawer" ⟨"AboveIsShut$Drawer", "kind", "()I"⟩ yX3_kind wsX3_kind) := goodIn_app (goodIn_of _ (by decide +kernel)) ggX11_changes_X3_kind
set_option maxRecDepth 20000 in
theorem ggX11_changes_X4_kind : GoodIn wsX11_changes wsX4_kind := goodIn_r _ [62] (by decide +kernel) (by decide +kernel)
set_option maxRecDepth 20000 in
theorem gX11_changes_X4_kind_u84X4 : GoodIn wsX11_changes (va_wsO RX11 84 RX4 "AboveIsShut$Drawer" ⟨"AboveIsShut$Drawer", "kind", "()I"⟩ yX4_kind wsX4_kind) := goodIn_app (goodIn_of _ (by decide +kernel)) ggX11_changes_X4_kind
set_option maxRecDepth 20000 in
theorem ggX11_changes_X5_kind : GoodIn wsX11_changes wsX5_kind := goodIn_r _ [66] (by decide +kernel) (by decide +kernel)
set_option maxRecDepth 20000 in
theorem gX11_changes_X5_kind_u84X5 : GoodIn wsX11_changes (va_wsO RX11 84 RX5 "AboveIsShut$Drawer" ⟨"AboveIsShut$Drawer", "kind", "()I"⟩ yX5_kind wsX5_kind) := goodIn_app (goodIn_of _ (by decide +kernel)) ggX11_changes_X5_kind
set_option maxRecDepth 20000 in
theorem ggX11_changes_X7_kind : GoodIn wsX11_changes wsX7_kind := goodIn_r _ [70] (by decide +kernel) (by decide +kernel)
set_option maxRecDepth 20000 in
theorem gX11_changes_X7_kind_u84X7 : GoodIn wsX11_changes (va_wsO RX11 84 RX7 "AboveIsShut$Drawer" ⟨"AboveIsShut$Drawer", "kind", "()I"⟩ yX7_kind wsX7_kind) := goodIn_app (goodIn_of _ (by decide +kernel)) ggX11_changes_X7_kind
set_option maxRecDepth 20000 in
theorem ggX11_changes_X8_kind : GoodIn wsX11_changes wsX8_kind := goodIn_r _ [74] (by decide +kernel) (by decide +kernel)
set_option maxRecDepth 20000 in
theorem gX11_changes_X8_kind_u84X8 : GoodIn wsX11_changes (va_wsO RX11 84 RX8 "AboveIsShut$Drawer" ⟨"AboveIsShut$Drawer", "kind", "()I"⟩ yX8_kind wsX8_kind) := goodIn_app (goodIn_of _ (by decide +kernel)) ggX11_changes_X8_kind
theorem dX11_changes_0 : decode cX11_changes 0 = .ok (.aload_n 0, 1) := by decide +kernel
theorem dX11_changes_1 : decode cX11_changes 1 = .ok (.getfield 10, 3) := by decide +kernel
theorem dX11_changes_4 : decode cX11_changes 4 = .ok (.iload_n 2, 1) := by decide +kernel
theorem dX11_changes_5 : decode cX11_changes 5 = .ok (.invokevirtual 80, 3) := by decide +kernel
theorem dX11_changes_8 : decode cX11_changes 8 = .ok (.astore_n 3, 1) := by decide +kernel
theorem dX11_changes_9 : decode cX11_changes 9 = .ok (.aload_n 3, 1) := by decide +kernel
theorem dX11_changes_10 : decode cX11_changes 10 = .ok (.ifnonnull 5, 3) := by decide +kernel
theorem dX11_changes_13 : decode cX11_changes 13 = .ok (.iconst (-1), 1) := by decide +kernel
theorem dX11_changes_14 : decode cX11_changes 14 = .ok (.ireturn, 1) := by decide +kernel
theorem dX11_changes_15 : decode cX11_changes 15 = .ok (.aload_n 0, 1) := by decide +kernel
theorem dX11_changes_16 : decode cX11_changes 16 = .ok (.iload_n 1, 1) := by decide +kernel
theorem dX11_changes_17 : decode cX11_changes 17 = .ok (.invokevirtual 101, 3) := by decide +kernel
theorem dX11_changes_20 : decode cX11_changes 20 = .ok (.astore 4, 2) := by decide +kernel
theorem dX11_changes_22 : decode cX11_changes 22 = .ok (.aload 4, 2) := by decide +kernel
theorem dX11_changes_24 : decode cX11_changes 24 = .ok (.ifnonnull 9, 3) := by decide +kernel
theorem dX11_changes_27 : decode cX11_changes 27 = .ok (.aload_n 0, 1) := by decide +kernel
theorem dX11_changes_28 : decode cX11_changes 28 = .ok (.iload_n 1, 1) := by decide +kernel
theorem dX11_changes_29 : decode cX11_changes 29 = .ok (.invokevirtual 53, 3) := by decide +kernel
theorem dX11_changes_32 : decode cX11_changes 32 = .ok (.ireturn, 1) := by decide +kernel
theorem dX11_changes_33 : decode cX11_changes 33 = .ok (.aload_n 0, 1) := by decide +kernel
theorem dX11_changes_34 : decode cX11_changes 34 = .ok (.getfield 10, 3) := by decide +kernel
theorem dX11_changes_37 : decode cX11_changes 37 = .ok (.iload_n 2, 1) := by decide +kernel
theorem dX11_changes_38 : decode cX11_changes 38 = .ok (.aload 4, 2) := by decide +kernel
theorem dX11_changes_40 : decode cX11_changes 40 = .ok (.invokevirtual 109, 3) := by decide +kernel
theorem dX11_changes_43 : decode cX11_changes 43 = .ok (.aload_n 3, 1) := by decide +kernel
theorem dX11_changes_44 : decode cX11_changes 44 = .ok (.invokevirtual 84, 3) := by decide +kernel
theorem dX11_changes_47 : decode cX11_changes 47 = .ok (.ireturn, 1) := by decide +kernel
set_option maxRecDepth 20000 in
theorem ggX11_pull_X9_drawerAt : GoodIn wsX11_pull wsX9_drawerAt := goodIn_r _ [7, 8, 9, 10, 11, 6, 12, 13, 94, 95, 96] (by decide +kernel) (by decide +kernel)
set_option maxRecDepth 20000 in
theorem gX11_pull_X9_drawerAt : GoodIn wsX11_pull (wsV RX11 80 RX9 yX9_drawerAt wsX9_drawerAt) := goodIn_app (goodIn_of _ (by decide +kernel)) ggX11_pull_X9_drawerAt
set_option maxRecDepth 20000 in
theorem ggX11_pull_X9_pulled : GoodIn wsX11_pull wsX9_pulled := goodIn_r _ [17, 18, 19, 20, 21, 6, 22, 23, 4, 5, 7, 8, 9, 10, 11, 12, 13, 24, 25, 26, 27, 28, 29, 30, 31, 32, 33, 34, 35, 36, 37, 38, 39, 40, 41, 42, 43, 44, 45, 46, 47, 48, 49, 50, 51, 52, 53, 54, 55, 56, 57, 58, 59, 60, 61, 62, 63, 64, 65, 66, 67, 68, 69, 70, 71, 72, 73, 74, 75, 76, 77, 78, 79, 80, 81, 82, 83, 84, 85, 94, 95, 96, 97, 98, 99, 100, 101, 102, 103, 104] (by decide +kernel) (by decide +kernel)
set_option maxRecDepth 20000 in
theorem gX11_pull_X9_pulled : GoodIn wsX11_pull (wsV RX11 113 RX9 yX9_pulled wsX9_pulled) := goodIn_app (goodIn_of _ (by decide +kernel)) ggX11_pull_X9_pulled
theorem dX11_pull_0 : decode cX11_pull 0 = .ok (.aload_n 0, 1) := by decide +kernel
theorem dX11_pull_1 : decode cX11_pull 1 = .ok (.getfield 10, 3) := by decide +kernel
theorem dX11_pull_4 : decode cX11_pull 4 = .ok (.iload_n 1, 1) := by decide +kernel
theorem dX11_pull_5 : decode cX11_pull 5 = .ok (.invokevirtual 80, 3) := by decide +kernel
theorem dX11_pull_8 : decode cX11_pull 8 = .ok (.ifnonnull 5, 3) := by decide +kernel
theorem dX11_pull_11 : decode cX11_pull 11 = .ok (.iconst (-1), 1) := by decide +kernel
theorem dX11_pull_12 : decode cX11_pull 12 = .ok (.ireturn, 1) := by decide +kernel
theorem dX11_pull_13 : decode cX11_pull 13 = .ok (.aload_n 0, 1) := by decide +kernel
theorem dX11_pull_14 : decode cX11_pull 14 = .ok (.getfield 10, 3) := by decide +kernel
theorem dX11_pull_17 : decode cX11_pull 17 = .ok (.iload_n 1, 1) := by decide +kernel
theorem dX11_pull_18 : decode cX11_pull 18 = .ok (.invokevirtual 113, 3) := by decide +kernel
theorem dX11_pull_21 : decode cX11_pull 21 = .ok (.ifCond .eq 13, 3) := by decide +kernel
theorem dX11_pull_24 : decode cX11_pull 24 = .ok (.aload_n 0, 1) := by decide +kernel
theorem dX11_pull_25 : decode cX11_pull 25 = .ok (.getfield 10, 3) := by decide +kernel
theorem dX11_pull_28 : decode cX11_pull 28 = .ok (.getfield 91, 3) := by decide +kernel
theorem dX11_pull_31 : decode cX11_pull 31 = .ok (.goto 5, 3) := by decide +kernel
theorem dX11_pull_34 : decode cX11_pull 34 = .ok (.bipush (-3), 2) := by decide +kernel
theorem dX11_pull_36 : decode cX11_pull 36 = .ok (.ireturn, 1) := by decide +kernel
set_option maxRecDepth 20000 in
theorem ggX11_standing_X9_mayBits : GoodIn wsX11_standing wsX9_mayBits := goodIn_r _ [7, 8, 9, 10, 11, 6, 12, 13, 14, 15, 16, 17, 18, 19, 20, 21, 22, 23, 24, 25, 26, 27, 28, 29, 30, 31, 32, 33, 34, 35, 36, 37, 38, 39, 40, 41, 42, 43, 44, 45, 46, 47, 48, 49, 50, 51, 52, 53, 54, 55, 56, 57, 58, 59, 60, 61, 62, 63, 64, 65, 66, 67, 68, 69, 70, 71, 72, 73, 74, 75, 76, 77, 78, 79, 80, 81, 90, 91, 92, 93, 94, 95, 96, 97, 98, 99, 100] (by decide +kernel) (by decide +kernel)
set_option maxRecDepth 20000 in
theorem gX11_standing_X9_mayBits : GoodIn wsX11_standing (wsV RX11 117 RX9 yX9_mayBits wsX9_mayBits) := goodIn_app (goodIn_of _ (by decide +kernel)) ggX11_standing_X9_mayBits
theorem dX11_standing_0 : decode cX11_standing 0 = .ok (.iload_n 1, 1) := by decide +kernel
theorem dX11_standing_1 : decode cX11_standing 1 = .ok (.lookupswitch 50 #[(0, 27), (1, 35)], 27) := by decide +kernel
theorem dX11_standing_28 : decode cX11_standing 28 = .ok (.aload_n 0, 1) := by decide +kernel
theorem dX11_standing_29 : decode cX11_standing 29 = .ok (.getfield 10, 3) := by decide +kernel
theorem dX11_standing_32 : decode cX11_standing 32 = .ok (.getfield 91, 3) := by decide +kernel
theorem dX11_standing_35 : decode cX11_standing 35 = .ok (.ireturn, 1) := by decide +kernel
theorem dX11_standing_36 : decode cX11_standing 36 = .ok (.aload_n 0, 1) := by decide +kernel
theorem dX11_standing_37 : decode cX11_standing 37 = .ok (.getfield 10, 3) := by decide +kernel
theorem dX11_standing_40 : decode cX11_standing 40 = .ok (.aload_n 0, 1) := by decide +kernel
theorem dX11_standing_41 : decode cX11_standing 41 = .ok (.getfield 10, 3) := by decide +kernel
theorem dX11_standing_44 : decode cX11_standing 44 = .ok (.getfield 91, 3) := by decide +kernel
theorem dX11_standing_47 : decode cX11_standing 47 = .ok (.invokevirtual 117, 3) := by decide +kernel
theorem dX11_standing_50 : decode cX11_standing 50 = .ok (.ireturn, 1) := by decide +kernel
theorem dX11_standing_51 : decode cX11_standing 51 = .ok (.iconst (-1), 1) := by decide +kernel
theorem dX11_standing_52 : decode cX11_standing 52 = .ok (.ireturn, 1) := by decide +kernel
set_option maxRecDepth 20000 in
theorem ggX11_stand_X9_canStand : GoodIn wsX11_stand wsX9_canStand := goodIn_r _ [7, 8, 9, 10, 6, 11, 12, 21, 22, 23] (by decide +kernel) (by decide +kernel)
set_option maxRecDepth 20000 in
theorem gX11_stand_X9_canStand : GoodIn wsX11_stand (wsV RX11 120 RX9 yX9_canStand wsX9_canStand) := goodIn_app (goodIn_of _ (by decide +kernel)) ggX11_stand_X9_canStand
theorem dX11_stand_0 : decode cX11_stand 0 = .ok (.aload_n 0, 1) := by decide +kernel
theorem dX11_stand_1 : decode cX11_stand 1 = .ok (.getfield 10, 3) := by decide +kernel
theorem dX11_stand_4 : decode cX11_stand 4 = .ok (.iload_n 1, 1) := by decide +kernel
theorem dX11_stand_5 : decode cX11_stand 5 = .ok (.invokevirtual 120, 3) := by decide +kernel
theorem dX11_stand_8 : decode cX11_stand 8 = .ok (.ifCond .ne 5, 3) := by decide +kernel
theorem dX11_stand_11 : decode cX11_stand 11 = .ok (.iconst (-1), 1) := by decide +kernel
theorem dX11_stand_12 : decode cX11_stand 12 = .ok (.ireturn, 1) := by decide +kernel
theorem dX11_stand_13 : decode cX11_stand 13 = .ok (.aload_n 0, 1) := by decide +kernel
theorem dX11_stand_14 : decode cX11_stand 14 = .ok (.getfield 10, 3) := by decide +kernel
theorem dX11_stand_17 : decode cX11_stand 17 = .ok (.getfield 91, 3) := by decide +kernel
theorem dX11_stand_20 : decode cX11_stand 20 = .ok (.istore_n 2, 1) := by decide +kernel
theorem dX11_stand_21 : decode cX11_stand 21 = .ok (.aload_n 0, 1) := by decide +kernel
theorem dX11_stand_22 : decode cX11_stand 22 = .ok (.getfield 10, 3) := by decide +kernel
theorem dX11_stand_25 : decode cX11_stand 25 = .ok (.iload_n 1, 1) := by decide +kernel
theorem dX11_stand_26 : decode cX11_stand 26 = .ok (.putfield 91, 3) := by decide +kernel
theorem dX11_stand_29 : decode cX11_stand 29 = .ok (.iload_n 2, 1) := by decide +kernel
theorem dX11_stand_30 : decode cX11_stand 30 = .ok (.ireturn, 1) := by decide +kernel
set_option maxRecDepth 20000 in
theorem ggX11_fewest_X9_canStand : GoodIn wsX11_fewest wsX9_canStand := goodIn_r _ [7, 8, 9, 10, 6, 11, 12, 134, 135, 136] (by decide +kernel) (by decide +kernel)
set_option maxRecDepth 20000 in
theorem gX11_fewest_X9_canStand : GoodIn wsX11_fewest (wsV RX11 120 RX9 yX9_canStand wsX9_canStand) := goodIn_app (goodIn_of _ (by decide +kernel)) ggX11_fewest_X9_canStand
set_option maxRecDepth 20000 in
theorem ggX11_fewest_X10_learn : GoodIn wsX11_fewest wsX10_learn := goodIn_r _ [17, 18, 19, 4, 5, 6, 7, 8, 9, 10, 11, 12, 20, 21, 22, 23, 24, 25, 26, 27, 28, 29, 30, 31, 32, 33, 34, 35, 36, 37, 38, 39, 40, 41, 42, 43, 44, 45, 46, 47, 48, 49, 50, 51, 52, 53, 54, 55, 56, 57, 58, 59, 60, 61, 62, 63, 64, 65, 66, 67, 68, 69, 70, 71, 72, 73, 74, 75, 76, 77, 78, 79, 80, 81, 82, 83, 84, 85, 86, 87, 88, 89, 90, 91, 92, 93, 94, 95, 96, 137, 138, 139, 140, 141, 142, 134, 135, 136, 143, 144, 145, 146, 147, 148, 149, 150] (by decide +kernel) (by decide +kernel)
set_option maxRecDepth 20000 in
theorem gX11_fewest_X10_learn : GoodIn wsX11_fewest (wsV RX11 123 RX10 yX10_learn wsX10_learn) := goodIn_app (goodIn_of _ (by decide +kernel)) ggX11_fewest_X10_learn
set_option maxRecDepth 20000 in
theorem ggX11_fewest_X10_pullsTo : GoodIn wsX11_fewest wsX10_pullsTo := goodIn_r _ [100, 101, 102, 103, 104, 105, 106, 16, 107, 108, 109, 110, 111, 112, 113, 114, 43, 115, 116, 117, 118, 119, 120, 121, 122, 123, 18, 124, 125, 137, 138, 139, 140, 141, 142] (by decide +kernel) (by decide +kernel)
set_option maxRecDepth 20000 in
theorem gX11_fewest_X10_pullsTo : GoodIn wsX11_fewest (wsV RX11 126 RX10 yX10_pullsTo wsX10_pullsTo) := goodIn_app (goodIn_of _ (by decide +kernel)) ggX11_fewest_X10_pullsTo
theorem dX11_fewest_0 : decode cX11_fewest 0 = .ok (.aload_n 0, 1) := by decide +kernel
theorem dX11_fewest_1 : decode cX11_fewest 1 = .ok (.getfield 10, 3) := by decide +kernel
theorem dX11_fewest_4 : decode cX11_fewest 4 = .ok (.iload_n 1, 1) := by decide +kernel
theorem dX11_fewest_5 : decode cX11_fewest 5 = .ok (.invokevirtual 120, 3) := by decide +kernel
theorem dX11_fewest_8 : decode cX11_fewest 8 = .ok (.ifCond .eq 14, 3) := by decide +kernel
theorem dX11_fewest_11 : decode cX11_fewest 11 = .ok (.aload_n 0, 1) := by decide +kernel
theorem dX11_fewest_12 : decode cX11_fewest 12 = .ok (.getfield 10, 3) := by decide +kernel
theorem dX11_fewest_15 : decode cX11_fewest 15 = .ok (.iload_n 2, 1) := by decide +kernel
theorem dX11_fewest_16 : decode cX11_fewest 16 = .ok (.invokevirtual 120, 3) := by decide +kernel
theorem dX11_fewest_19 : decode cX11_fewest 19 = .ok (.ifCond .ne 5, 3) := by decide +kernel
theorem dX11_fewest_22 : decode cX11_fewest 22 = .ok (.iconst (-1), 1) := by decide +kernel
theorem dX11_fewest_23 : decode cX11_fewest 23 = .ok (.ireturn, 1) := by decide +kernel
theorem dX11_fewest_24 : decode cX11_fewest 24 = .ok (.aload_n 0, 1) := by decide +kernel
theorem dX11_fewest_25 : decode cX11_fewest 25 = .ok (.getfield 25, 3) := by decide +kernel
theorem dX11_fewest_28 : decode cX11_fewest 28 = .ok (.aload_n 0, 1) := by decide +kernel
theorem dX11_fewest_29 : decode cX11_fewest 29 = .ok (.getfield 10, 3) := by decide +kernel
theorem dX11_fewest_32 : decode cX11_fewest 32 = .ok (.invokevirtual 123, 3) := by decide +kernel
theorem dX11_fewest_35 : decode cX11_fewest 35 = .ok (.aload_n 0, 1) := by decide +kernel
theorem dX11_fewest_36 : decode cX11_fewest 36 = .ok (.getfield 25, 3) := by decide +kernel
theorem dX11_fewest_39 : decode cX11_fewest 39 = .ok (.iload_n 1, 1) := by decide +kernel
theorem dX11_fewest_40 : decode cX11_fewest 40 = .ok (.iload_n 2, 1) := by decide +kernel
theorem dX11_fewest_41 : decode cX11_fewest 41 = .ok (.invokevirtual 126, 3) := by decide +kernel
theorem dX11_fewest_44 : decode cX11_fewest 44 = .ok (.ireturn, 1) := by decide +kernel
set_option maxRecDepth 20000 in
theorem ggX11_first_X9_canStand : GoodIn wsX11_first wsX9_canStand := goodIn_r _ [8, 9, 10, 11, 7, 12, 13, 137, 138, 139] (by decide +kernel) (by decide +kernel)
set_option maxRecDepth 20000 in
theorem gX11_first_X9_canStand : GoodIn wsX11_first (wsV RX11 120 RX9 yX9_canStand wsX9_canStand) := goodIn_app (goodIn_of _ (by decide +kernel)) ggX11_first_X9_canStand
set_option maxRecDepth 20000 in
theorem ggX11_first_X10_learn : GoodIn wsX11_first wsX10_learn := goodIn_r _ [18, 19, 20, 5, 6, 7, 8, 9, 10, 11, 12, 13, 21, 22, 23, 24, 25, 26, 27, 28, 29, 30, 31, 32, 33, 34, 35, 36, 37, 38, 39, 40, 41, 42, 43, 44, 45, 46, 47, 48, 49, 50, 51, 52, 53, 54, 55, 56, 57, 58, 59, 60, 61, 62, 63, 64, 65, 66, 67, 68, 69, 70, 71, 72, 73, 74, 75, 76, 77, 78, 79, 80, 81, 82, 83, 84, 85, 86, 87, 88, 89, 90, 91, 92, 93, 94, 95, 96, 97, 140, 141, 142, 143, 144, 145, 137, 138, 139, 146, 147, 148, 149, 150, 151, 152, 153] (by decide +kernel) (by decide +kernel)
set_option maxRecDepth 20000 in
theorem gX11_first_X10_learn : GoodIn wsX11_first (wsV RX11 123 RX10 yX10_learn wsX10_learn) := goodIn_app (goodIn_of _ (by decide +kernel)) ggX11_first_X10_learn
set_option maxRecDepth 20000 in
theorem ggX11_first_X10_pullsTo : GoodIn wsX11_first wsX10_pullsTo := goodIn_r _ [101, 102, 103, 104, 105, 106, 107, 17, 108, 109, 110, 111, 112, 113, 114, 115, 44, 116, 117, 118, 119, 120, 121, 122, 123, 124, 19, 125, 126, 140, 141, 142, 143, 144, 145] (by decide +kernel) (by decide +kernel)
set_option maxRecDepth 20000 in
theorem gX11_first_X10_pullsTo : GoodIn wsX11_first (wsV RX11 126 RX10 yX10_pullsTo wsX10_pullsTo) := goodIn_app (goodIn_of _ (by decide +kernel)) ggX11_first_X10_pullsTo
set_option maxRecDepth 20000 in
theorem ggX11_first_X9_may : GoodIn wsX11_first wsX9_may := goodIn_r _ [28, 29, 30, 31, 7, 32, 33, 34, 35, 36, 37, 13, 38, 39, 40, 41, 42, 43, 44, 45, 46, 47, 48, 49, 50, 51, 52, 53, 54, 55, 56, 57, 58, 59, 60, 61, 62, 63, 64, 65, 66, 67, 68, 69, 70, 71, 72, 73, 74, 75, 76, 77, 78, 79, 80, 81, 82, 83, 84, 85, 86, 87, 88, 89, 90, 91, 92, 93, 94, 95, 96, 97, 137, 138, 139, 146, 147, 148, 149, 150, 151, 152, 153] (by decide +kernel) (by decide +kernel)
set_option maxRecDepth 20000 in
theorem gX11_first_X9_may : GoodIn wsX11_first (wsV RX11 98 RX9 yX9_may wsX9_may) := goodIn_app (goodIn_of _ (by decide +kernel)) ggX11_first_X9_may
set_option maxRecDepth 20000 in
theorem ggX11_first_X11_turned : GoodIn wsX11_first wsX11_turned := goodIn_r _ [126] (by decide +kernel) (by decide +kernel)
set_option maxRecDepth 20000 in
theorem gX11_first_X11_turned : GoodIn wsX11_first (va_wsS RX11 129 yX11_turned wsX11_turned) := goodIn_app (goodIn_of _ (by decide +kernel)) ggX11_first_X11_turned
theorem dX11_first_0 : decode cX11_first 0 = .ok (.aload_n 0, 1) := by decide +kernel
theorem dX11_first_1 : decode cX11_first 1 = .ok (.getfield 10, 3) := by decide +kernel
theorem dX11_first_4 : decode cX11_first 4 = .ok (.iload_n 1, 1) := by decide +kernel
theorem dX11_first_5 : decode cX11_first 5 = .ok (.invokevirtual 120, 3) := by decide +kernel
theorem dX11_first_8 : decode cX11_first 8 = .ok (.ifCond .eq 14, 3) := by decide +kernel
theorem dX11_first_11 : decode cX11_first 11 = .ok (.aload_n 0, 1) := by decide +kernel
theorem dX11_first_12 : decode cX11_first 12 = .ok (.getfield 10, 3) := by decide +kernel
theorem dX11_first_15 : decode cX11_first 15 = .ok (.iload_n 2, 1) := by decide +kernel
theorem dX11_first_16 : decode cX11_first 16 = .ok (.invokevirtual 120, 3) := by decide +kernel
theorem dX11_first_19 : decode cX11_first 19 = .ok (.ifCond .ne 5, 3) := by decide +kernel
theorem dX11_first_22 : decode cX11_first 22 = .ok (.iconst (-1), 1) := by decide +kernel
theorem dX11_first_23 : decode cX11_first 23 = .ok (.ireturn, 1) := by decide +kernel
theorem dX11_first_24 : decode cX11_first 24 = .ok (.aload_n 0, 1) := by decide +kernel
theorem dX11_first_25 : decode cX11_first 25 = .ok (.getfield 25, 3) := by decide +kernel
theorem dX11_first_28 : decode cX11_first 28 = .ok (.aload_n 0, 1) := by decide +kernel
theorem dX11_first_29 : decode cX11_first 29 = .ok (.getfield 10, 3) := by decide +kernel
theorem dX11_first_32 : decode cX11_first 32 = .ok (.invokevirtual 123, 3) := by decide +kernel
theorem dX11_first_35 : decode cX11_first 35 = .ok (.aload_n 0, 1) := by decide +kernel
theorem dX11_first_36 : decode cX11_first 36 = .ok (.getfield 25, 3) := by decide +kernel
theorem dX11_first_39 : decode cX11_first 39 = .ok (.iload_n 1, 1) := by decide +kernel
theorem dX11_first_40 : decode cX11_first 40 = .ok (.iload_n 2, 1) := by decide +kernel
theorem dX11_first_41 : decode cX11_first 41 = .ok (.invokevirtual 126, 3) := by decide +kernel
theorem dX11_first_44 : decode cX11_first 44 = .ok (.istore_n 3, 1) := by decide +kernel
theorem dX11_first_45 : decode cX11_first 45 = .ok (.iload_n 3, 1) := by decide +kernel
theorem dX11_first_46 : decode cX11_first 46 = .ok (.ifCond .gt 6, 3) := by decide +kernel
theorem dX11_first_49 : decode cX11_first 49 = .ok (.bipush (-4), 2) := by decide +kernel
theorem dX11_first_51 : decode cX11_first 51 = .ok (.ireturn, 1) := by decide +kernel
theorem dX11_first_52 : decode cX11_first 52 = .ok (.iconst 0, 1) := by decide +kernel
theorem dX11_first_53 : decode cX11_first 53 = .ok (.istore 4, 2) := by decide +kernel
theorem dX11_first_55 : decode cX11_first 55 = .ok (.iload 4, 2) := by decide +kernel
theorem dX11_first_57 : decode cX11_first 57 = .ok (.aload_n 0, 1) := by decide +kernel
theorem dX11_first_58 : decode cX11_first 58 = .ok (.getfield 10, 3) := by decide +kernel
theorem dX11_first_61 : decode cX11_first 61 = .ok (.getfield 104, 3) := by decide +kernel
theorem dX11_first_64 : decode cX11_first 64 = .ok (.if_icmp .ge 45, 3) := by decide +kernel
theorem dX11_first_67 : decode cX11_first 67 = .ok (.aload_n 0, 1) := by decide +kernel
theorem dX11_first_68 : decode cX11_first 68 = .ok (.getfield 10, 3) := by decide +kernel
theorem dX11_first_71 : decode cX11_first 71 = .ok (.iload 4, 2) := by decide +kernel
theorem dX11_first_73 : decode cX11_first 73 = .ok (.iload_n 1, 1) := by decide +kernel
theorem dX11_first_74 : decode cX11_first 74 = .ok (.invokevirtual 98, 3) := by decide +kernel
theorem dX11_first_77 : decode cX11_first 77 = .ok (.ifCond .eq 26, 3) := by decide +kernel
theorem dX11_first_80 : decode cX11_first 80 = .ok (.aload_n 0, 1) := by decide +kernel
theorem dX11_first_81 : decode cX11_first 81 = .ok (.getfield 25, 3) := by decide +kernel
theorem dX11_first_84 : decode cX11_first 84 = .ok (.iload_n 1, 1) := by decide +kernel
theorem dX11_first_85 : decode cX11_first 85 = .ok (.iload 4, 2) := by decide +kernel
theorem dX11_first_87 : decode cX11_first 87 = .ok (.invokestatic 129, 3) := by decide +kernel
theorem dX11_first_90 : decode cX11_first 90 = .ok (.iload_n 2, 1) := by decide +kernel
theorem dX11_first_91 : decode cX11_first 91 = .ok (.invokevirtual 126, 3) := by decide +kernel
theorem dX11_first_94 : decode cX11_first 94 = .ok (.iload_n 3, 1) := by decide +kernel
theorem dX11_first_95 : decode cX11_first 95 = .ok (.iconst 1, 1) := by decide +kernel
theorem dX11_first_96 : decode cX11_first 96 = .ok (.isub, 1) := by decide +kernel
theorem dX11_first_97 : decode cX11_first 97 = .ok (.if_icmp .ne 6, 3) := by decide +kernel
theorem dX11_first_100 : decode cX11_first 100 = .ok (.iload 4, 2) := by decide +kernel
theorem dX11_first_102 : decode cX11_first 102 = .ok (.ireturn, 1) := by decide +kernel
theorem dX11_first_103 : decode cX11_first 103 = .ok (.iinc 4 1, 3) := by decide +kernel
theorem dX11_first_106 : decode cX11_first 106 = .ok (.goto (-51), 3) := by decide +kernel
theorem dX11_first_109 : decode cX11_first 109 = .ok (.bipush (-4), 2) := by decide +kernel
theorem dX11_first_111 : decode cX11_first 111 = .ok (.ireturn, 1) := by decide +kernel
set_option maxRecDepth 20000 in
theorem ggX11_far_X10_learn : GoodIn wsX11_far wsX10_learn := goodIn_r _ [9, 10, 11, 12, 13, 14, 15, 16, 17, 18, 19, 20, 21, 22, 23, 24, 25, 26, 27, 28, 29, 30, 31, 32, 33, 34, 35, 36, 37, 38, 39, 40, 41, 42, 43, 44, 45, 46, 47, 48, 49, 50, 51, 52, 53, 54, 55, 56, 57, 58, 59, 60, 61, 62, 63, 64, 65, 66, 67, 68, 69, 70, 71, 72, 73, 74, 75, 76, 77, 78, 79, 80, 81, 82, 83, 84, 85, 86, 87, 88, 89, 90, 91, 92, 93, 94, 95, 96, 97, 151, 152, 153, 154, 155, 156, 148, 149, 150, 157, 158, 159, 160, 161, 162, 163, 164] (by decide +kernel) (by decide +kernel)
set_option maxRecDepth 20000 in
theorem gX11_far_X10_learn : GoodIn wsX11_far (wsV RX11 123 RX10 yX10_learn wsX10_learn) := goodIn_app (goodIn_of _ (by decide +kernel)) ggX11_far_X10_learn
set_option maxRecDepth 20000 in
theorem ggX11_far_X10_spread : GoodIn wsX11_far wsX10_spread := goodIn_r _ [101, 102, 103, 104, 105, 8, 106, 107, 108, 109, 110, 111, 112, 113, 114, 115, 44, 116, 117, 118, 119, 120, 121, 122, 123, 124, 10, 125, 126, 151, 152, 153, 154, 155, 156] (by decide +kernel) (by decide +kernel)
set_option maxRecDepth 20000 in
theorem gX11_far_X10_spread : GoodIn wsX11_far (wsV RX11 132 RX10 yX10_spread wsX10_spread) := goodIn_app (goodIn_of _ (by decide +kernel)) ggX11_far_X10_spread
set_option maxRecDepth 20000 in
theorem ggX11_far_X10_mostPulls : GoodIn wsX11_far wsX10_mostPulls := goodIn_r _ [130, 102, 114, 151, 152, 153, 154, 155, 156] (by decide +kernel) (by decide +kernel)
set_option maxRecDepth 20000 in
theorem gX11_far_X10_mostPulls : GoodIn wsX11_far (wsV RX11 139 RX10 yX10_mostPulls wsX10_mostPulls) := goodIn_app (goodIn_of _ (by decide +kernel)) ggX11_far_X10_mostPulls
set_option maxRecDepth 20000 in
theorem ggX11_far_X10_leastFarthest : GoodIn wsX11_far wsX10_leastFarthest := goodIn_r _ [134, 102, 114, 112, 135, 136, 137, 138, 139, 128, 129, 8, 130, 151, 152, 153, 154, 155, 156] (by decide +kernel) (by decide +kernel)
set_option maxRecDepth 20000 in
theorem gX11_far_X10_leastFarthest : GoodIn wsX11_far (wsV RX11 142 RX10 yX10_leastFarthest wsX10_leastFarthest) := goodIn_app (goodIn_of _ (by decide +kernel)) ggX11_far_X10_leastFarthest
theorem dX11_far_0 : decode cX11_far 0 = .ok (.iload_n 1, 1) := by decide +kernel
theorem dX11_far_1 : decode cX11_far 1 = .ok (.ifCond .lt 8, 3) := by decide +kernel
theorem dX11_far_4 : decode cX11_far 4 = .ok (.iload_n 1, 1) := by decide +kernel
theorem dX11_far_5 : decode cX11_far 5 = .ok (.iconst 2, 1) := by decide +kernel
theorem dX11_far_6 : decode cX11_far 6 = .ok (.if_icmp .le 5, 3) := by decide +kernel
theorem dX11_far_9 : decode cX11_far 9 = .ok (.iconst (-1), 1) := by decide +kernel
theorem dX11_far_10 : decode cX11_far 10 = .ok (.ireturn, 1) := by decide +kernel
theorem dX11_far_11 : decode cX11_far 11 = .ok (.aload_n 0, 1) := by decide +kernel
theorem dX11_far_12 : decode cX11_far 12 = .ok (.getfield 25, 3) := by decide +kernel
theorem dX11_far_15 : decode cX11_far 15 = .ok (.aload_n 0, 1) := by decide +kernel
theorem dX11_far_16 : decode cX11_far 16 = .ok (.getfield 10, 3) := by decide +kernel
theorem dX11_far_19 : decode cX11_far 19 = .ok (.invokevirtual 123, 3) := by decide +kernel
theorem dX11_far_22 : decode cX11_far 22 = .ok (.aload_n 0, 1) := by decide +kernel
theorem dX11_far_23 : decode cX11_far 23 = .ok (.getfield 25, 3) := by decide +kernel
theorem dX11_far_26 : decode cX11_far 26 = .ok (.aload_n 0, 1) := by decide +kernel
theorem dX11_far_27 : decode cX11_far 27 = .ok (.getfield 10, 3) := by decide +kernel
theorem dX11_far_30 : decode cX11_far 30 = .ok (.getfield 91, 3) := by decide +kernel
theorem dX11_far_33 : decode cX11_far 33 = .ok (.invokevirtual 132, 3) := by decide +kernel
theorem dX11_far_36 : decode cX11_far 36 = .ok (.iload_n 1, 1) := by decide +kernel
theorem dX11_far_37 : decode cX11_far 37 = .ok (.ifCond .ne 11, 3) := by decide +kernel
theorem dX11_far_40 : decode cX11_far 40 = .ok (.aload_n 0, 1) := by decide +kernel
theorem dX11_far_41 : decode cX11_far 41 = .ok (.getfield 25, 3) := by decide +kernel
theorem dX11_far_44 : decode cX11_far 44 = .ok (.getfield 136, 3) := by decide +kernel
theorem dX11_far_47 : decode cX11_far 47 = .ok (.ireturn, 1) := by decide +kernel
theorem dX11_far_48 : decode cX11_far 48 = .ok (.iload_n 1, 1) := by decide +kernel
theorem dX11_far_49 : decode cX11_far 49 = .ok (.iconst 1, 1) := by decide +kernel
theorem dX11_far_50 : decode cX11_far 50 = .ok (.if_icmp .ne 13, 3) := by decide +kernel
theorem dX11_far_53 : decode cX11_far 53 = .ok (.aload_n 0, 1) := by decide +kernel
theorem dX11_far_54 : decode cX11_far 54 = .ok (.getfield 25, 3) := by decide +kernel
theorem dX11_far_57 : decode cX11_far 57 = .ok (.invokevirtual 139, 3) := by decide +kernel
theorem dX11_far_60 : decode cX11_far 60 = .ok (.goto 10, 3) := by decide +kernel
theorem dX11_far_63 : decode cX11_far 63 = .ok (.aload_n 0, 1) := by decide +kernel
theorem dX11_far_64 : decode cX11_far 64 = .ok (.getfield 25, 3) := by decide +kernel
theorem dX11_far_67 : decode cX11_far 67 = .ok (.invokevirtual 142, 3) := by decide +kernel
theorem dX11_far_70 : decode cX11_far 70 = .ok (.ireturn, 1) := by decide +kernel
set_option maxRecDepth 20000 in
theorem ggX11_never_X10_learn : GoodIn wsX11_never wsX10_learn := goodIn_r _ [8, 9, 10, 11, 12, 13, 14, 15, 16, 17, 18, 19, 20, 21, 22, 23, 24, 25, 26, 27, 28, 29, 30, 31, 32, 33, 34, 35, 36, 37, 38, 39, 40, 41, 42, 43, 44, 45, 46, 47, 48, 49, 50, 51, 52, 53, 54, 55, 56, 57, 58, 59, 60, 61, 62, 63, 64, 65, 66, 67, 68, 69, 70, 71, 72, 73, 74, 75, 76, 77, 78, 79, 80, 81, 82, 83, 84, 85, 86, 87, 88, 89, 90, 91, 92, 93, 94, 95, 96, 142, 143, 144, 145, 146, 147, 139, 140, 141, 148, 149, 150, 151, 152, 153, 154, 155] (by decide +kernel) (by decide +kernel)
set_option maxRecDepth 20000 in
theorem gX11_never_X10_learn : GoodIn wsX11_never (wsV RX11 123 RX10 yX10_learn wsX10_learn) := goodIn_app (goodIn_of _ (by decide +kernel)) ggX11_never_X10_learn
set_option maxRecDepth 20000 in
theorem ggX11_never_X10_spread : GoodIn wsX11_never wsX10_spread := goodIn_r _ [100, 101, 102, 103, 104, 7, 105, 106, 107, 108, 109, 110, 111, 112, 113, 114, 43, 115, 116, 117, 118, 119, 120, 121, 122, 123, 9, 124, 125, 142, 143, 144, 145, 146, 147] (by decide +kernel) (by decide +kernel)
set_option maxRecDepth 20000 in
theorem gX11_never_X10_spread : GoodIn wsX11_never (wsV RX11 132 RX10 yX10_spread wsX10_spread) := goodIn_app (goodIn_of _ (by decide +kernel)) ggX11_never_X10_spread
set_option maxRecDepth 20000 in
theorem ggX11_never_X9_allBits : GoodIn wsX11_never wsX9_allBits := goodIn_r _ [18, 19, 139, 140, 141] (by decide +kernel) (by decide +kernel)
set_option maxRecDepth 20000 in
theorem gX11_never_X9_allBits : GoodIn wsX11_never (wsV RX11 145 RX9 yX9_allBits wsX9_allBits) := goodIn_app (goodIn_of _ (by decide +kernel)) ggX11_never_X9_allBits
set_option maxRecDepth 20000 in
theorem ggX11_never_X10_everMay : GoodIn wsX11_never wsX10_everMay := goodIn_r _ [130, 101, 111, 120, 121, 122, 7, 123, 9, 142, 143, 144, 145, 146, 147] (by decide +kernel) (by decide +kernel)
set_option maxRecDepth 20000 in
theorem gX11_never_X10_everMay : GoodIn wsX11_never (wsV RX11 148 RX10 yX10_everMay wsX10_everMay) := goodIn_app (goodIn_of _ (by decide +kernel)) ggX11_never_X10_everMay
theorem dX11_never_0 : decode cX11_never 0 = .ok (.aload_n 0, 1) := by decide +kernel
theorem dX11_never_1 : decode cX11_never 1 = .ok (.getfield 25, 3) := by decide +kernel
theorem dX11_never_4 : decode cX11_never 4 = .ok (.aload_n 0, 1) := by decide +kernel
theorem dX11_never_5 : decode cX11_never 5 = .ok (.getfield 10, 3) := by decide +kernel
theorem dX11_never_8 : decode cX11_never 8 = .ok (.invokevirtual 123, 3) := by decide +kernel
theorem dX11_never_11 : decode cX11_never 11 = .ok (.aload_n 0, 1) := by decide +kernel
theorem dX11_never_12 : decode cX11_never 12 = .ok (.getfield 25, 3) := by decide +kernel
theorem dX11_never_15 : decode cX11_never 15 = .ok (.aload_n 0, 1) := by decide +kernel
theorem dX11_never_16 : decode cX11_never 16 = .ok (.getfield 10, 3) := by decide +kernel
theorem dX11_never_19 : decode cX11_never 19 = .ok (.getfield 91, 3) := by decide +kernel
theorem dX11_never_22 : decode cX11_never 22 = .ok (.invokevirtual 132, 3) := by decide +kernel
theorem dX11_never_25 : decode cX11_never 25 = .ok (.aload_n 0, 1) := by decide +kernel
theorem dX11_never_26 : decode cX11_never 26 = .ok (.getfield 10, 3) := by decide +kernel
theorem dX11_never_29 : decode cX11_never 29 = .ok (.invokevirtual 145, 3) := by decide +kernel
theorem dX11_never_32 : decode cX11_never 32 = .ok (.aload_n 0, 1) := by decide +kernel
theorem dX11_never_33 : decode cX11_never 33 = .ok (.getfield 25, 3) := by decide +kernel
theorem dX11_never_36 : decode cX11_never 36 = .ok (.invokevirtual 148, 3) := by decide +kernel
theorem dX11_never_39 : decode cX11_never 39 = .ok (.iconst (-1), 1) := by decide +kernel
theorem dX11_never_40 : decode cX11_never 40 = .ok (.ixor, 1) := by decide +kernel
theorem dX11_never_41 : decode cX11_never 41 = .ok (.iand, 1) := by decide +kernel
theorem dX11_never_42 : decode cX11_never 42 = .ok (.ireturn, 1) := by decide +kernel
set_option maxRecDepth 20000 in
theorem ggX11_place_X9_canStand : GoodIn wsX11_place wsX9_canStand := goodIn_r _ [7, 8, 9, 10, 6, 11, 12, 171, 172, 173] (by decide +kernel) (by decide +kernel)
set_option maxRecDepth 20000 in
theorem gX11_place_X9_canStand : GoodIn wsX11_place (wsV RX11 120 RX9 yX9_canStand wsX9_canStand) := goodIn_app (goodIn_of _ (by decide +kernel)) ggX11_place_X9_canStand
set_option maxRecDepth 20000 in
theorem ggX11_place_X9_isJoiners : GoodIn wsX11_place wsX9_isJoiners := goodIn_r _ [16, 12, 17, 18, 19, 6, 20, 21, 22, 23, 24, 25, 26, 27, 28, 29, 30, 31, 32, 33, 34, 35, 36, 37, 38, 39, 40, 41, 42, 43, 44, 45, 46, 47, 48, 49, 50, 51, 52, 53, 54, 55, 56, 57, 58, 59, 60, 61, 62, 63, 64, 65, 171, 172, 173] (by decide +kernel) (by decide +kernel)
set_option maxRecDepth 20000 in
theorem gX11_place_X9_isJoiners : GoodIn wsX11_place (wsV RX11 151 RX9 yX9_isJoiners wsX9_isJoiners) := goodIn_app (goodIn_of _ (by decide +kernel)) ggX11_place_X9_isJoiners
set_option maxRecDepth 20000 in
theorem ggX11_place_X10_learn : GoodIn wsX11_place wsX10_learn := goodIn_r _ [70, 71, 72, 4, 5, 6, 7, 8, 9, 10, 11, 12, 73, 74, 75, 76, 77, 78, 79, 80, 21, 22, 23, 24, 25, 26, 27, 28, 29, 81, 82, 83, 33, 84, 85, 86, 87, 88, 89, 90, 91, 92, 40, 93, 94, 95, 44, 96, 97, 98, 99, 100, 48, 101, 102, 103, 104, 105, 106, 107, 64, 108, 109, 110, 111, 112, 113, 114, 115, 116, 117, 52, 118, 119, 120, 121, 122, 123, 56, 124, 125, 126, 127, 128, 129, 130, 60, 131, 132, 174, 175, 176, 177, 178, 179, 171, 172, 173, 180, 181, 182, 183, 184, 185, 186, 187] (by decide +kernel) (by decide +kernel)
set_option maxRecDepth 20000 in
theorem gX11_place_X10_learn : GoodIn wsX11_place (wsV RX11 123 RX10 yX10_learn wsX10_learn) := goodIn_app (goodIn_of _ (by decide +kernel)) ggX11_place_X10_learn
set_option maxRecDepth 20000 in
theorem ggX11_place_X9_allBits : GoodIn wsX11_place wsX9_allBits := goodIn_r _ [11, 12, 171, 172, 173] (by decide +kernel) (by decide +kernel)
set_option maxRecDepth 20000 in
theorem gX11_place_X9_allBits : GoodIn wsX11_place (wsV RX11 145 RX9 yX9_allBits wsX9_allBits) := goodIn_app (goodIn_of _ (by decide +kernel)) ggX11_place_X9_allBits
set_option maxRecDepth 20000 in
theorem ggX11_place_X10_pullsTo : GoodIn wsX11_place wsX10_pullsTo := goodIn_r _ [137, 138, 139, 140, 141, 142, 143, 69, 144, 145, 146, 147, 148, 149, 150, 151, 86, 152, 153, 154, 155, 156, 157, 158, 159, 160, 71, 161, 162, 174, 175, 176, 177, 178, 179] (by decide +kernel) (by decide +kernel)
set_option maxRecDepth 20000 in
theorem gX11_place_X10_pullsTo : GoodIn wsX11_place (wsV RX11 126 RX10 yX10_pullsTo wsX10_pullsTo) := goodIn_app (goodIn_of _ (by decide +kernel)) ggX11_place_X10_pullsTo
theorem dX11_place_0 : decode cX11_place 0 = .ok (.aload_n 0, 1) := by decide +kernel
theorem dX11_place_1 : decode cX11_place 1 = .ok (.getfield 10, 3) := by decide +kernel
theorem dX11_place_4 : decode cX11_place 4 = .ok (.iload_n 1, 1) := by decide +kernel
theorem dX11_place_5 : decode cX11_place 5 = .ok (.invokevirtual 120, 3) := by decide +kernel
theorem dX11_place_8 : decode cX11_place 8 = .ok (.ifCond .ne 5, 3) := by decide +kernel
theorem dX11_place_11 : decode cX11_place 11 = .ok (.iconst (-1), 1) := by decide +kernel
theorem dX11_place_12 : decode cX11_place 12 = .ok (.ireturn, 1) := by decide +kernel
theorem dX11_place_13 : decode cX11_place 13 = .ok (.aload_n 0, 1) := by decide +kernel
theorem dX11_place_14 : decode cX11_place 14 = .ok (.getfield 10, 3) := by decide +kernel
theorem dX11_place_17 : decode cX11_place 17 = .ok (.invokevirtual 151, 3) := by decide +kernel
theorem dX11_place_20 : decode cX11_place 20 = .ok (.ifCond .ne 6, 3) := by decide +kernel
theorem dX11_place_23 : decode cX11_place 23 = .ok (.bipush (-3), 2) := by decide +kernel
theorem dX11_place_25 : decode cX11_place 25 = .ok (.ireturn, 1) := by decide +kernel
theorem dX11_place_26 : decode cX11_place 26 = .ok (.aload_n 0, 1) := by decide +kernel
theorem dX11_place_27 : decode cX11_place 27 = .ok (.getfield 25, 3) := by decide +kernel
theorem dX11_place_30 : decode cX11_place 30 = .ok (.aload_n 0, 1) := by decide +kernel
theorem dX11_place_31 : decode cX11_place 31 = .ok (.getfield 10, 3) := by decide +kernel
theorem dX11_place_34 : decode cX11_place 34 = .ok (.invokevirtual 123, 3) := by decide +kernel
theorem dX11_place_37 : decode cX11_place 37 = .ok (.aload_n 0, 1) := by decide +kernel
theorem dX11_place_38 : decode cX11_place 38 = .ok (.getfield 25, 3) := by decide +kernel
theorem dX11_place_41 : decode cX11_place 41 = .ok (.aload_n 0, 1) := by decide +kernel
theorem dX11_place_42 : decode cX11_place 42 = .ok (.getfield 10, 3) := by decide +kernel
theorem dX11_place_45 : decode cX11_place 45 = .ok (.invokevirtual 145, 3) := by decide +kernel
theorem dX11_place_48 : decode cX11_place 48 = .ok (.iload_n 1, 1) := by decide +kernel
theorem dX11_place_49 : decode cX11_place 49 = .ok (.invokevirtual 126, 3) := by decide +kernel
theorem dX11_place_52 : decode cX11_place 52 = .ok (.ireturn, 1) := by decide +kernel
set_option maxRecDepth 20000 in
theorem ggX11_at_X9_isJoiners : GoodIn wsX11_at wsX9_isJoiners := goodIn_r _ [7, 8, 9, 10, 11, 6, 12, 13, 14, 15, 16, 17, 18, 19, 20, 21, 22, 23, 24, 25, 26, 27, 28, 29, 30, 31, 32, 33, 34, 35, 36, 37, 38, 39, 40, 41, 42, 43, 44, 45, 46, 47, 48, 49, 50, 51, 52, 53, 54, 55, 56, 57, 174, 175, 176] (by decide +kernel) (by decide +kernel)
set_option maxRecDepth 20000 in
theorem gX11_at_X9_isJoiners : GoodIn wsX11_at (wsV RX11 151 RX9 yX9_isJoiners wsX9_isJoiners) := goodIn_app (goodIn_of _ (by decide +kernel)) ggX11_at_X9_isJoiners
set_option maxRecDepth 20000 in
theorem ggX11_at_X10_learn : GoodIn wsX11_at wsX10_learn := goodIn_r _ [62, 63, 64, 65, 66, 6, 67, 68, 69, 70, 71, 8, 72, 73, 74, 75, 76, 77, 78, 79, 13, 14, 15, 16, 17, 18, 19, 20, 21, 80, 81, 82, 25, 83, 84, 85, 86, 87, 88, 89, 90, 91, 32, 92, 93, 94, 36, 95, 96, 97, 98, 99, 40, 100, 101, 102, 103, 104, 105, 106, 56, 107, 108, 109, 110, 111, 112, 113, 114, 115, 116, 44, 117, 118, 119, 120, 121, 122, 48, 123, 124, 125, 126, 127, 128, 129, 52, 130, 131, 177, 178, 179, 180, 181, 182, 174, 175, 176, 183, 184, 185, 186, 187, 188, 189, 190] (by decide +kernel) (by decide +kernel)
set_option maxRecDepth 20000 in
theorem gX11_at_X10_learn : GoodIn wsX11_at (wsV RX11 123 RX10 yX10_learn wsX10_learn) := goodIn_app (goodIn_of _ (by decide +kernel)) ggX11_at_X10_learn
set_option maxRecDepth 20000 in
theorem ggX11_at_X9_allBits : GoodIn wsX11_at wsX9_allBits := goodIn_r _ [71, 8, 174, 175, 176] (by decide +kernel) (by decide +kernel)
set_option maxRecDepth 20000 in
theorem gX11_at_X9_allBits : GoodIn wsX11_at (wsV RX11 145 RX9 yX9_allBits wsX9_allBits) := goodIn_app (goodIn_of _ (by decide +kernel)) ggX11_at_X9_allBits
set_option maxRecDepth 20000 in
theorem ggX11_at_X10_spread : GoodIn wsX11_at wsX10_spread := goodIn_r _ [136, 137, 138, 139, 140, 61, 141, 142, 143, 144, 145, 146, 147, 148, 149, 150, 85, 151, 152, 153, 154, 155, 156, 157, 158, 159, 63, 160, 161, 177, 178, 179, 180, 181, 182] (by decide +kernel) (by decide +kernel)
set_option maxRecDepth 20000 in
theorem gX11_at_X10_spread : GoodIn wsX11_at (wsV RX11 132 RX10 yX10_spread wsX10_spread) := goodIn_app (goodIn_of _ (by decide +kernel)) ggX11_at_X10_spread
set_option maxRecDepth 20000 in
theorem ggX11_at_X10_standingBehind : GoodIn wsX11_at wsX10_standingBehind := goodIn_r _ [165, 137, 149, 147, 177, 178, 179, 180, 181, 182] (by decide +kernel) (by decide +kernel)
set_option maxRecDepth 20000 in
theorem gX11_at_X10_standingBehind : GoodIn wsX11_at (wsV RX11 155 RX10 yX10_standingBehind wsX10_standingBehind) := goodIn_app (goodIn_of _ (by decide +kernel)) ggX11_at_X10_standingBehind
theorem dX11_at_0 : decode cX11_at 0 = .ok (.iload_n 1, 1) := by decide +kernel
theorem dX11_at_1 : decode cX11_at 1 = .ok (.ifCond .ge 5, 3) := by decide +kernel
theorem dX11_at_4 : decode cX11_at 4 = .ok (.iconst (-1), 1) := by decide +kernel
theorem dX11_at_5 : decode cX11_at 5 = .ok (.ireturn, 1) := by decide +kernel
theorem dX11_at_6 : decode cX11_at 6 = .ok (.aload_n 0, 1) := by decide +kernel
theorem dX11_at_7 : decode cX11_at 7 = .ok (.getfield 10, 3) := by decide +kernel
theorem dX11_at_10 : decode cX11_at 10 = .ok (.invokevirtual 151, 3) := by decide +kernel
theorem dX11_at_13 : decode cX11_at 13 = .ok (.ifCond .ne 6, 3) := by decide +kernel
theorem dX11_at_16 : decode cX11_at 16 = .ok (.bipush (-3), 2) := by decide +kernel
theorem dX11_at_18 : decode cX11_at 18 = .ok (.ireturn, 1) := by decide +kernel
theorem dX11_at_19 : decode cX11_at 19 = .ok (.aload_n 0, 1) := by decide +kernel
theorem dX11_at_20 : decode cX11_at 20 = .ok (.getfield 25, 3) := by decide +kernel
theorem dX11_at_23 : decode cX11_at 23 = .ok (.aload_n 0, 1) := by decide +kernel
theorem dX11_at_24 : decode cX11_at 24 = .ok (.getfield 10, 3) := by decide +kernel
theorem dX11_at_27 : decode cX11_at 27 = .ok (.invokevirtual 123, 3) := by decide +kernel
theorem dX11_at_30 : decode cX11_at 30 = .ok (.aload_n 0, 1) := by decide +kernel
theorem dX11_at_31 : decode cX11_at 31 = .ok (.getfield 25, 3) := by decide +kernel
theorem dX11_at_34 : decode cX11_at 34 = .ok (.aload_n 0, 1) := by decide +kernel
theorem dX11_at_35 : decode cX11_at 35 = .ok (.getfield 10, 3) := by decide +kernel
theorem dX11_at_38 : decode cX11_at 38 = .ok (.invokevirtual 145, 3) := by decide +kernel
theorem dX11_at_41 : decode cX11_at 41 = .ok (.invokevirtual 132, 3) := by decide +kernel
theorem dX11_at_44 : decode cX11_at 44 = .ok (.aload_n 0, 1) := by decide +kernel
theorem dX11_at_45 : decode cX11_at 45 = .ok (.getfield 25, 3) := by decide +kernel
theorem dX11_at_48 : decode cX11_at 48 = .ok (.iload_n 1, 1) := by decide +kernel
theorem dX11_at_49 : decode cX11_at 49 = .ok (.invokevirtual 155, 3) := by decide +kernel
theorem dX11_at_52 : decode cX11_at 52 = .ok (.ireturn, 1) := by decide +kernel
set_option maxRecDepth 20000 in
theorem ggX11_had_X9_canStand : GoodIn wsX11_had wsX9_canStand := goodIn_r _ [8, 9, 10, 11, 7, 12, 13, 135, 136, 137] (by decide +kernel) (by decide +kernel)
set_option maxRecDepth 20000 in
theorem gX11_had_X9_canStand : GoodIn wsX11_had (wsV RX11 120 RX9 yX9_canStand wsX9_canStand) := goodIn_app (goodIn_of _ (by decide +kernel)) ggX11_had_X9_canStand
set_option maxRecDepth 20000 in
theorem ggX11_had_X10_learn : GoodIn wsX11_had wsX10_learn := goodIn_r _ [18, 19, 20, 5, 6, 7, 8, 9, 10, 11, 12, 13, 21, 22, 23, 24, 25, 26, 27, 28, 29, 30, 31, 32, 33, 34, 35, 36, 37, 38, 39, 40, 41, 42, 43, 44, 45, 46, 47, 48, 49, 50, 51, 52, 53, 54, 55, 56, 57, 58, 59, 60, 61, 62, 63, 64, 65, 66, 67, 68, 69, 70, 71, 72, 73, 74, 75, 76, 77, 78, 79, 80, 81, 82, 83, 84, 85, 86, 87, 88, 89, 90, 91, 92, 93, 94, 95, 96, 97, 138, 139, 140, 141, 142, 143, 135, 136, 137, 144, 145, 146, 147, 148, 149, 150, 151] (by decide +kernel) (by decide +kernel)
set_option maxRecDepth 20000 in
theorem gX11_had_X10_learn : GoodIn wsX11_had (wsV RX11 123 RX10 yX10_learn wsX10_learn) := goodIn_app (goodIn_of _ (by decide +kernel)) ggX11_had_X10_learn
set_option maxRecDepth 20000 in
theorem ggX11_had_X10_pullsToHave : GoodIn wsX11_had wsX10_pullsToHave := goodIn_r _ [101, 102, 103, 104, 105, 106, 107, 17, 108, 109, 110, 111, 112, 113, 114, 115, 44, 116, 117, 118, 119, 120, 121, 122, 123, 124, 19, 125, 126, 138, 139, 140, 141, 142, 143] (by decide +kernel) (by decide +kernel)
set_option maxRecDepth 20000 in
theorem gX11_had_X10_pullsToHave : GoodIn wsX11_had (wsV RX11 158 RX10 yX10_pullsToHave wsX10_pullsToHave) := goodIn_app (goodIn_of _ (by decide +kernel)) ggX11_had_X10_pullsToHave
theorem dX11_had_0 : decode cX11_had 0 = .ok (.aload_n 0, 1) := by decide +kernel
theorem dX11_had_1 : decode cX11_had 1 = .ok (.getfield 10, 3) := by decide +kernel
theorem dX11_had_4 : decode cX11_had 4 = .ok (.iload_n 1, 1) := by decide +kernel
theorem dX11_had_5 : decode cX11_had 5 = .ok (.invokevirtual 120, 3) := by decide +kernel
theorem dX11_had_8 : decode cX11_had 8 = .ok (.ifCond .ne 5, 3) := by decide +kernel
theorem dX11_had_11 : decode cX11_had 11 = .ok (.iconst (-1), 1) := by decide +kernel
theorem dX11_had_12 : decode cX11_had 12 = .ok (.ireturn, 1) := by decide +kernel
theorem dX11_had_13 : decode cX11_had 13 = .ok (.aload_n 0, 1) := by decide +kernel
theorem dX11_had_14 : decode cX11_had 14 = .ok (.getfield 25, 3) := by decide +kernel
theorem dX11_had_17 : decode cX11_had 17 = .ok (.aload_n 0, 1) := by decide +kernel
theorem dX11_had_18 : decode cX11_had 18 = .ok (.getfield 10, 3) := by decide +kernel
theorem dX11_had_21 : decode cX11_had 21 = .ok (.invokevirtual 123, 3) := by decide +kernel
theorem dX11_had_24 : decode cX11_had 24 = .ok (.aload_n 0, 1) := by decide +kernel
theorem dX11_had_25 : decode cX11_had 25 = .ok (.getfield 25, 3) := by decide +kernel
theorem dX11_had_28 : decode cX11_had 28 = .ok (.aload_n 0, 1) := by decide +kernel
theorem dX11_had_29 : decode cX11_had 29 = .ok (.getfield 10, 3) := by decide +kernel
theorem dX11_had_32 : decode cX11_had 32 = .ok (.getfield 91, 3) := by decide +kernel
theorem dX11_had_35 : decode cX11_had 35 = .ok (.iload_n 1, 1) := by decide +kernel
theorem dX11_had_36 : decode cX11_had 36 = .ok (.invokevirtual 158, 3) := by decide +kernel
theorem dX11_had_39 : decode cX11_had 39 = .ok (.ireturn, 1) := by decide +kernel
set_option maxRecDepth 20000 in
theorem ggX11_freed_X9_canStand : GoodIn wsX11_freed wsX9_canStand := goodIn_r _ [10, 11, 12, 13, 9, 14, 15, 207, 208, 209] (by decide +kernel) (by decide +kernel)
set_option maxRecDepth 20000 in
theorem gX11_freed_X9_canStand : GoodIn wsX11_freed (wsV RX11 120 RX9 yX9_canStand wsX9_canStand) := goodIn_app (goodIn_of _ (by decide +kernel)) ggX11_freed_X9_canStand
set_option maxRecDepth 20000 in
theorem ggX11_freed_X11_made : GoodIn wsX11_freed wsX11_made := goodIn_r _ [19, 20, 21, 22, 23, 24, 25, 26, 27, 28, 29, 30, 31, 32, 33, 34, 35, 36, 37, 38, 39, 40, 41, 42, 43, 44, 45, 46, 47, 48, 49, 50, 51, 52, 53, 54, 55, 56, 57, 58, 59, 60, 61, 62, 63, 64, 65, 66, 67, 68, 69, 70, 71, 72, 73, 74, 75, 76, 77, 78, 210, 211, 212, 213, 214, 215, 216, 217] (by decide +kernel) (by decide +kernel)
set_option maxRecDepth 20000 in
theorem gX11_freed_X11_made : GoodIn wsX11_freed (va_wsS RX11 161 yX11_made wsX11_made) := goodIn_app (goodIn_of _ (by decide +kernel)) ggX11_freed_X11_made
set_option maxRecDepth 20000 in
theorem ggX11_freed_X9_allBits : GoodIn wsX11_freed wsX9_allBits := goodIn_r _ [14, 15, 207, 208, 209] (by decide +kernel) (by decide +kernel)
set_option maxRecDepth 20000 in
theorem gX11_freed_X9_allBits : GoodIn wsX11_freed (wsV RX11 145 RX9 yX9_allBits wsX9_allBits) := goodIn_app (goodIn_of _ (by decide +kernel)) ggX11_freed_X9_allBits
set_option maxRecDepth 20000 in
theorem ggX11_freed_J6_bitCount_0f7a4 : GoodIn wsX11_freed wsJ6_bitCount_0f7a4 := goodIn_r _ [83, 84, 85, 86] (by decide +kernel) (by decide +kernel)
set_option maxRecDepth 20000 in
theorem gX11_freed_J6_bitCount_0f7a4 : GoodIn wsX11_freed (va_wsS RX11 165 yJ6_bitCount_0f7a4 wsJ6_bitCount_0f7a4) := goodIn_app (goodIn_of _ (by decide +kernel)) ggX11_freed_J6_bitCount_0f7a4
set_option maxRecDepth 20000 in
theorem ggX11_freed_X11_freeInMind : GoodIn wsX11_freed wsX11_freeInMind := goodIn_r _ [90, 4, 1, 2, 91, 92, 93, 9, 94, 95, 15, 96, 97, 98, 18, 99, 100, 101, 102, 103, 104, 105, 106, 107, 199, 200, 201, 202, 203, 204, 205, 206, 207, 208, 209] (by decide +kernel) (by decide +kernel)
set_option maxRecDepth 20000 in
theorem gX11_freed_X11_freeInMind : GoodIn wsX11_freed (wsV RX11 170 RX11 yX11_freeInMind wsX11_freeInMind) := goodIn_app (goodIn_of _ (by decide +kernel)) ggX11_freed_X11_freeInMind
set_option maxRecDepth 20000 in
theorem ggX11_freed_X10_learn : GoodIn wsX11_freed wsX10_learn := goodIn_r _ [112, 113, 114, 7, 8, 9, 10, 11, 12, 13, 14, 15, 115, 116, 117, 118, 119, 120, 121, 122, 123, 124, 125, 126, 95, 104, 105, 106, 107, 127, 128, 129, 43, 130, 98, 18, 99, 131, 132, 133, 134, 135, 22, 136, 137, 138, 40, 139, 140, 141, 142, 143, 34, 144, 145, 146, 147, 148, 149, 150, 28, 151, 152, 81, 82, 83, 84, 85, 86, 153, 154, 37, 155, 156, 157, 158, 159, 160, 31, 161, 162, 163, 164, 165, 166, 167, 25, 168, 169, 218, 219, 220, 221, 222, 223, 207, 208, 209, 217, 210, 216, 214, 215, 213, 211, 212] (by decide +kernel) (by decide +kernel)
set_option maxRecDepth 20000 in
theorem gX11_freed_X10_learn : GoodIn wsX11_freed (wsV RX11 123 RX10 yX10_learn wsX10_learn) := goodIn_app (goodIn_of _ (by decide +kernel)) ggX11_freed_X10_learn
set_option maxRecDepth 20000 in
theorem ggX11_freed_X10_pullsToHave : GoodIn wsX11_freed wsX10_pullsToHave := goodIn_r _ [173, 174, 175, 176, 177, 178, 179, 111, 180, 181, 182, 183, 184, 185, 186, 187, 18, 188, 189, 190, 191, 192, 193, 194, 195, 196, 113, 197, 198, 218, 219, 220, 221, 222, 223] (by decide +kernel) (by decide +kernel)
set_option maxRecDepth 20000 in
theorem gX11_freed_X10_pullsToHave : GoodIn wsX11_freed (wsV RX11 158 RX10 yX10_pullsToHave wsX10_pullsToHave) := goodIn_app (goodIn_of _ (by decide +kernel)) ggX11_freed_X10_pullsToHave
theorem dX11_freed_0 : decode cX11_freed 0 = .ok (.aload_n 0, 1) := by decide +kernel
theorem dX11_freed_1 : decode cX11_freed 1 = .ok (.getfield 10, 3) := by decide +kernel
theorem dX11_freed_4 : decode cX11_freed 4 = .ok (.iload_n 1, 1) := by decide +kernel
theorem dX11_freed_5 : decode cX11_freed 5 = .ok (.invokevirtual 120, 3) := by decide +kernel
theorem dX11_freed_8 : decode cX11_freed 8 = .ok (.ifCond .ne 5, 3) := by decide +kernel
theorem dX11_freed_11 : decode cX11_freed 11 = .ok (.iconst (-1), 1) := by decide +kernel
theorem dX11_freed_12 : decode cX11_freed 12 = .ok (.ireturn, 1) := by decide +kernel
theorem dX11_freed_13 : decode cX11_freed 13 = .ok (.iconst 1, 1) := by decide +kernel
theorem dX11_freed_14 : decode cX11_freed 14 = .ok (.iconst 0, 1) := by decide +kernel
theorem dX11_freed_15 : decode cX11_freed 15 = .ok (.invokestatic 161, 3) := by decide +kernel
theorem dX11_freed_18 : decode cX11_freed 18 = .ok (.astore_n 2, 1) := by decide +kernel
theorem dX11_freed_19 : decode cX11_freed 19 = .ok (.iconst 0, 1) := by decide +kernel
theorem dX11_freed_20 : decode cX11_freed 20 = .ok (.istore_n 3, 1) := by decide +kernel
theorem dX11_freed_21 : decode cX11_freed 21 = .ok (.iload_n 3, 1) := by decide +kernel
theorem dX11_freed_22 : decode cX11_freed 22 = .ok (.aload_n 0, 1) := by decide +kernel
theorem dX11_freed_23 : decode cX11_freed 23 = .ok (.getfield 10, 3) := by decide +kernel
theorem dX11_freed_26 : decode cX11_freed 26 = .ok (.getfield 104, 3) := by decide +kernel
theorem dX11_freed_29 : decode cX11_freed 29 = .ok (.if_icmp .gt 78, 3) := by decide +kernel
theorem dX11_freed_32 : decode cX11_freed 32 = .ok (.iconst 0, 1) := by decide +kernel
theorem dX11_freed_33 : decode cX11_freed 33 = .ok (.istore 4, 2) := by decide +kernel
theorem dX11_freed_35 : decode cX11_freed 35 = .ok (.iload 4, 2) := by decide +kernel
theorem dX11_freed_37 : decode cX11_freed 37 = .ok (.aload_n 0, 1) := by decide +kernel
theorem dX11_freed_38 : decode cX11_freed 38 = .ok (.getfield 10, 3) := by decide +kernel
theorem dX11_freed_41 : decode cX11_freed 41 = .ok (.invokevirtual 145, 3) := by decide +kernel
theorem dX11_freed_44 : decode cX11_freed 44 = .ok (.if_icmp .gt 57, 3) := by decide +kernel
theorem dX11_freed_47 : decode cX11_freed 47 = .ok (.iload 4, 2) := by decide +kernel
theorem dX11_freed_49 : decode cX11_freed 49 = .ok (.invokestatic 165, 3) := by decide +kernel
theorem dX11_freed_52 : decode cX11_freed 52 = .ok (.iload_n 3, 1) := by decide +kernel
theorem dX11_freed_53 : decode cX11_freed 53 = .ok (.if_icmp .ne 42, 3) := by decide +kernel
theorem dX11_freed_56 : decode cX11_freed 56 = .ok (.aload_n 0, 1) := by decide +kernel
theorem dX11_freed_57 : decode cX11_freed 57 = .ok (.iload 4, 2) := by decide +kernel
theorem dX11_freed_59 : decode cX11_freed 59 = .ok (.aload_n 2, 1) := by decide +kernel
theorem dX11_freed_60 : decode cX11_freed 60 = .ok (.invokevirtual 170, 3) := by decide +kernel
theorem dX11_freed_63 : decode cX11_freed 63 = .ok (.aload_n 0, 1) := by decide +kernel
theorem dX11_freed_64 : decode cX11_freed 64 = .ok (.getfield 25, 3) := by decide +kernel
theorem dX11_freed_67 : decode cX11_freed 67 = .ok (.aload_n 0, 1) := by decide +kernel
theorem dX11_freed_68 : decode cX11_freed 68 = .ok (.getfield 19, 3) := by decide +kernel
theorem dX11_freed_71 : decode cX11_freed 71 = .ok (.invokevirtual 123, 3) := by decide +kernel
theorem dX11_freed_74 : decode cX11_freed 74 = .ok (.aload_n 0, 1) := by decide +kernel
theorem dX11_freed_75 : decode cX11_freed 75 = .ok (.getfield 25, 3) := by decide +kernel
theorem dX11_freed_78 : decode cX11_freed 78 = .ok (.aload_n 0, 1) := by decide +kernel
theorem dX11_freed_79 : decode cX11_freed 79 = .ok (.getfield 19, 3) := by decide +kernel
theorem dX11_freed_82 : decode cX11_freed 82 = .ok (.getfield 91, 3) := by decide +kernel
theorem dX11_freed_85 : decode cX11_freed 85 = .ok (.iload_n 1, 1) := by decide +kernel
theorem dX11_freed_86 : decode cX11_freed 86 = .ok (.invokevirtual 158, 3) := by decide +kernel
theorem dX11_freed_89 : decode cX11_freed 89 = .ok (.ifCond .lt 6, 3) := by decide +kernel
theorem dX11_freed_92 : decode cX11_freed 92 = .ok (.iload 4, 2) := by decide +kernel
theorem dX11_freed_94 : decode cX11_freed 94 = .ok (.ireturn, 1) := by decide +kernel
theorem dX11_freed_95 : decode cX11_freed 95 = .ok (.iinc 4 1, 3) := by decide +kernel
theorem dX11_freed_98 : decode cX11_freed 98 = .ok (.goto (-63), 3) := by decide +kernel
theorem dX11_freed_101 : decode cX11_freed 101 = .ok (.iinc 3 1, 3) := by decide +kernel
theorem dX11_freed_104 : decode cX11_freed 104 = .ok (.goto (-83), 3) := by decide +kernel
theorem dX11_freed_107 : decode cX11_freed 107 = .ok (.bipush (-4), 2) := by decide +kernel
theorem dX11_freed_109 : decode cX11_freed 109 = .ok (.ireturn, 1) := by decide +kernel
set_option maxRecDepth 20000 in
theorem ggX11_longest_X9_has : GoodIn wsX11_longest wsX9_has := goodIn_r _ [9, 10, 202, 203, 204] (by decide +kernel) (by decide +kernel)
set_option maxRecDepth 20000 in
theorem gX11_longest_X9_has : GoodIn wsX11_longest (wsV RX11 173 RX9 yX9_has wsX9_has) := goodIn_app (goodIn_of _ (by decide +kernel)) ggX11_longest_X9_has
set_option maxRecDepth 20000 in
theorem ggX11_longest_X11_isFigure : GoodIn wsX11_longest wsX11_isFigure := goodIn_r _ [14] (by decide +kernel) (by decide +kernel)
set_option maxRecDepth 20000 in
theorem gX11_longest_X11_isFigure : GoodIn wsX11_longest (va_wsS RX11 176 yX11_isFigure wsX11_isFigure) := goodIn_app (goodIn_of _ (by decide +kernel)) ggX11_longest_X11_isFigure
set_option maxRecDepth 20000 in
theorem ggX11_longest_X9_takeFrom : GoodIn wsX11_longest wsX9_takeFrom := goodIn_r _ [18, 19, 10, 20, 202, 203, 204] (by decide +kernel) (by decide +kernel)
set_option maxRecDepth 20000 in
theorem gX11_longest_X9_takeFrom : GoodIn wsX11_longest (wsV RX11 65 RX9 yX9_takeFrom wsX9_takeFrom) := goodIn_app (goodIn_of _ (by decide +kernel)) ggX11_longest_X9_takeFrom
set_option maxRecDepth 20000 in
theorem ggX11_longest_X11_made : GoodIn wsX11_longest wsX11_made := goodIn_r _ [23, 24, 25, 26, 27, 28, 29, 30, 31, 32, 33, 34, 35, 36, 37, 38, 39, 40, 41, 42, 43, 44, 45, 46, 47, 48, 49, 50, 51, 52, 53, 54, 55, 56, 57, 58, 59, 60, 61, 62, 63, 64, 65, 66, 67, 68, 69, 70, 71, 72, 73, 74, 75, 76, 77, 78, 79, 80, 81, 82, 205, 206, 207, 208, 209, 210, 211, 212] (by decide +kernel) (by decide +kernel)
set_option maxRecDepth 20000 in
theorem gX11_longest_X11_made : GoodIn wsX11_longest (va_wsS RX11 161 yX11_made wsX11_made) := goodIn_app (goodIn_of _ (by decide +kernel)) ggX11_longest_X11_made
set_option maxRecDepth 20000 in
theorem ggX11_longest_X9_replace : GoodIn wsX11_longest wsX9_replace := goodIn_r _ [86, 19, 87, 6, 7, 8, 9, 10, 202, 203, 204] (by decide +kernel) (by decide +kernel)
set_option maxRecDepth 20000 in
theorem gX11_longest_X9_replace : GoodIn wsX11_longest (wsV RX11 109 RX9 yX9_replace wsX9_replace) := goodIn_app (goodIn_of _ (by decide +kernel)) ggX11_longest_X9_replace
set_option maxRecDepth 20000 in
theorem ggX11_longest_X10_learn : GoodIn wsX11_longest wsX10_learn := goodIn_r _ [92, 93, 94, 95, 96, 8, 97, 98, 99, 100, 101, 10, 102, 103, 104, 105, 106, 107, 108, 109, 110, 111, 112, 113, 19, 87, 6, 7, 9, 114, 115, 116, 47, 117, 118, 13, 119, 120, 121, 122, 123, 124, 26, 125, 126, 127, 44, 128, 129, 130, 131, 132, 38, 133, 134, 135, 136, 137, 138, 139, 32, 140, 141, 142, 143, 144, 145, 146, 147, 148, 149, 41, 150, 151, 152, 153, 154, 155, 35, 156, 157, 158, 159, 160, 161, 162, 29, 163, 164, 213, 214, 215, 216, 217, 218, 202, 203, 204, 212, 205, 211, 209, 210, 208, 206, 207] (by decide +kernel) (by decide +kernel)
set_option maxRecDepth 20000 in
theorem gX11_longest_X10_learn : GoodIn wsX11_longest (wsV RX11 123 RX10 yX10_learn wsX10_learn) := goodIn_app (goodIn_of _ (by decide +kernel)) ggX11_longest_X10_learn
set_option maxRecDepth 20000 in
theorem ggX11_longest_X10_pullsToHave : GoodIn wsX11_longest wsX10_pullsToHave := goodIn_r _ [168, 169, 170, 171, 172, 173, 174, 91, 175, 176, 177, 178, 179, 180, 181, 182, 13, 183, 184, 185, 186, 187, 188, 189, 190, 191, 93, 192, 193, 213, 214, 215, 216, 217, 218] (by decide +kernel) (by decide +kernel)
set_option maxRecDepth 20000 in
theorem gX11_longest_X10_pullsToHave : GoodIn wsX11_longest (wsV RX11 158 RX10 yX10_pullsToHave wsX10_pullsToHave) := goodIn_app (goodIn_of _ (by decide +kernel)) ggX11_longest_X10_pullsToHave
theorem dX11_longest_0 : decode cX11_longest 0 = .ok (.aload_n 0, 1) := by decide +kernel
theorem dX11_longest_1 : decode cX11_longest 1 = .ok (.getfield 10, 3) := by decide +kernel
theorem dX11_longest_4 : decode cX11_longest 4 = .ok (.iload_n 1, 1) := by decide +kernel
theorem dX11_longest_5 : decode cX11_longest 5 = .ok (.invokevirtual 173, 3) := by decide +kernel
theorem dX11_longest_8 : decode cX11_longest 8 = .ok (.ifCond .eq 32, 3) := by decide +kernel
theorem dX11_longest_11 : decode cX11_longest 11 = .ok (.iload_n 2, 1) := by decide +kernel
theorem dX11_longest_12 : decode cX11_longest 12 = .ok (.invokestatic 176, 3) := by decide +kernel
theorem dX11_longest_15 : decode cX11_longest 15 = .ok (.ifCond .eq 25, 3) := by decide +kernel
theorem dX11_longest_18 : decode cX11_longest 18 = .ok (.aload_n 0, 1) := by decide +kernel
theorem dX11_longest_19 : decode cX11_longest 19 = .ok (.getfield 10, 3) := by decide +kernel
theorem dX11_longest_22 : decode cX11_longest 22 = .ok (.iload_n 3, 1) := by decide +kernel
theorem dX11_longest_23 : decode cX11_longest 23 = .ok (.invokevirtual 173, 3) := by decide +kernel
theorem dX11_longest_26 : decode cX11_longest 26 = .ok (.ifCond .eq 14, 3) := by decide +kernel
theorem dX11_longest_29 : decode cX11_longest 29 = .ok (.iload 4, 2) := by decide +kernel
theorem dX11_longest_31 : decode cX11_longest 31 = .ok (.ifCond .lt 9, 3) := by decide +kernel
theorem dX11_longest_34 : decode cX11_longest 34 = .ok (.iload 4, 2) := by decide +kernel
theorem dX11_longest_36 : decode cX11_longest 36 = .ok (.iconst 1, 1) := by decide +kernel
theorem dX11_longest_37 : decode cX11_longest 37 = .ok (.if_icmp .le 5, 3) := by decide +kernel
theorem dX11_longest_40 : decode cX11_longest 40 = .ok (.iconst (-1), 1) := by decide +kernel
theorem dX11_longest_41 : decode cX11_longest 41 = .ok (.ireturn, 1) := by decide +kernel
theorem dX11_longest_42 : decode cX11_longest 42 = .ok (.bipush (-4), 2) := by decide +kernel
theorem dX11_longest_44 : decode cX11_longest 44 = .ok (.istore 5, 2) := by decide +kernel
theorem dX11_longest_46 : decode cX11_longest 46 = .ok (.bipush (-4), 2) := by decide +kernel
theorem dX11_longest_48 : decode cX11_longest 48 = .ok (.istore 6, 2) := by decide +kernel
theorem dX11_longest_50 : decode cX11_longest 50 = .ok (.iconst 0, 1) := by decide +kernel
theorem dX11_longest_51 : decode cX11_longest 51 = .ok (.istore 7, 2) := by decide +kernel
theorem dX11_longest_53 : decode cX11_longest 53 = .ok (.iload 7, 2) := by decide +kernel
theorem dX11_longest_55 : decode cX11_longest 55 = .ok (.bipush 8, 2) := by decide +kernel
theorem dX11_longest_57 : decode cX11_longest 57 = .ok (.if_icmp .ge 79, 3) := by decide +kernel
theorem dX11_longest_60 : decode cX11_longest 60 = .ok (.aload_n 0, 1) := by decide +kernel
theorem dX11_longest_61 : decode cX11_longest 61 = .ok (.getfield 19, 3) := by decide +kernel
theorem dX11_longest_64 : decode cX11_longest 64 = .ok (.aload_n 0, 1) := by decide +kernel
theorem dX11_longest_65 : decode cX11_longest 65 = .ok (.getfield 10, 3) := by decide +kernel
theorem dX11_longest_68 : decode cX11_longest 68 = .ok (.invokevirtual 65, 3) := by decide +kernel
theorem dX11_longest_71 : decode cX11_longest 71 = .ok (.aload_n 0, 1) := by decide +kernel
theorem dX11_longest_72 : decode cX11_longest 72 = .ok (.getfield 19, 3) := by decide +kernel
theorem dX11_longest_75 : decode cX11_longest 75 = .ok (.iload_n 1, 1) := by decide +kernel
theorem dX11_longest_76 : decode cX11_longest 76 = .ok (.iload 7, 2) := by decide +kernel
theorem dX11_longest_78 : decode cX11_longest 78 = .ok (.iload_n 2, 1) := by decide +kernel
theorem dX11_longest_79 : decode cX11_longest 79 = .ok (.invokestatic 161, 3) := by decide +kernel
theorem dX11_longest_82 : decode cX11_longest 82 = .ok (.invokevirtual 109, 3) := by decide +kernel
theorem dX11_longest_85 : decode cX11_longest 85 = .ok (.aload_n 0, 1) := by decide +kernel
theorem dX11_longest_86 : decode cX11_longest 86 = .ok (.getfield 25, 3) := by decide +kernel
theorem dX11_longest_89 : decode cX11_longest 89 = .ok (.aload_n 0, 1) := by decide +kernel
theorem dX11_longest_90 : decode cX11_longest 90 = .ok (.getfield 19, 3) := by decide +kernel
theorem dX11_longest_93 : decode cX11_longest 93 = .ok (.invokevirtual 123, 3) := by decide +kernel
theorem dX11_longest_96 : decode cX11_longest 96 = .ok (.aload_n 0, 1) := by decide +kernel
theorem dX11_longest_97 : decode cX11_longest 97 = .ok (.getfield 25, 3) := by decide +kernel
theorem dX11_longest_100 : decode cX11_longest 100 = .ok (.aload_n 0, 1) := by decide +kernel
theorem dX11_longest_101 : decode cX11_longest 101 = .ok (.getfield 19, 3) := by decide +kernel
theorem dX11_longest_104 : decode cX11_longest 104 = .ok (.getfield 91, 3) := by decide +kernel
theorem dX11_longest_107 : decode cX11_longest 107 = .ok (.iconst 1, 1) := by decide +kernel
theorem dX11_longest_108 : decode cX11_longest 108 = .ok (.iload_n 3, 1) := by decide +kernel
theorem dX11_longest_109 : decode cX11_longest 109 = .ok (.ishl, 1) := by decide +kernel
theorem dX11_longest_110 : decode cX11_longest 110 = .ok (.invokevirtual 158, 3) := by decide +kernel
theorem dX11_longest_113 : decode cX11_longest 113 = .ok (.istore 8, 2) := by decide +kernel
theorem dX11_longest_115 : decode cX11_longest 115 = .ok (.iload 8, 2) := by decide +kernel
theorem dX11_longest_117 : decode cX11_longest 117 = .ok (.iload 6, 2) := by decide +kernel
theorem dX11_longest_119 : decode cX11_longest 119 = .ok (.if_icmp .le 11, 3) := by decide +kernel
theorem dX11_longest_122 : decode cX11_longest 122 = .ok (.iload 8, 2) := by decide +kernel
theorem dX11_longest_124 : decode cX11_longest 124 = .ok (.istore 6, 2) := by decide +kernel
theorem dX11_longest_126 : decode cX11_longest 126 = .ok (.iload 7, 2) := by decide +kernel
theorem dX11_longest_128 : decode cX11_longest 128 = .ok (.istore 5, 2) := by decide +kernel
theorem dX11_longest_130 : decode cX11_longest 130 = .ok (.iinc 7 1, 3) := by decide +kernel
theorem dX11_longest_133 : decode cX11_longest 133 = .ok (.goto (-80), 3) := by decide +kernel
theorem dX11_longest_136 : decode cX11_longest 136 = .ok (.iload 4, 2) := by decide +kernel
theorem dX11_longest_138 : decode cX11_longest 138 = .ok (.ifCond .ne 8, 3) := by decide +kernel
theorem dX11_longest_141 : decode cX11_longest 141 = .ok (.iload 5, 2) := by decide +kernel
theorem dX11_longest_143 : decode cX11_longest 143 = .ok (.goto 5, 3) := by decide +kernel
theorem dX11_longest_146 : decode cX11_longest 146 = .ok (.iload 6, 2) := by decide +kernel
theorem dX11_longest_148 : decode cX11_longest 148 = .ok (.ireturn, 1) := by decide +kernel
set_option maxRecDepth 20000 in
theorem ggX11_tried_X11_isShelf : GoodIn wsX11_tried wsX11_isShelf := goodIn_r _ [6] (by decide +kernel) (by decide +kernel)
set_option maxRecDepth 20000 in
theorem gX11_tried_X11_isShelf : GoodIn wsX11_tried (va_wsS RX11 179 yX11_isShelf wsX11_isShelf) := goodIn_app (goodIn_of _ (by decide +kernel)) ggX11_tried_X11_isShelf
set_option maxRecDepth 20000 in
theorem ggX11_tried_X9_has : GoodIn wsX11_tried wsX9_has := goodIn_r _ [11, 12, 204, 205, 206] (by decide +kernel) (by decide +kernel)
set_option maxRecDepth 20000 in
theorem gX11_tried_X9_has : GoodIn wsX11_tried (wsV RX11 173 RX9 yX9_has wsX9_has) := goodIn_app (goodIn_of _ (by decide +kernel)) ggX11_tried_X9_has
set_option maxRecDepth 20000 in
theorem ggX11_tried_X11_isFigure : GoodIn wsX11_tried wsX11_isFigure := goodIn_r _ [15] (by decide +kernel) (by decide +kernel)
set_option maxRecDepth 20000 in
theorem gX11_tried_X11_isFigure : GoodIn wsX11_tried (va_wsS RX11 176 yX11_isFigure wsX11_isFigure) := goodIn_app (goodIn_of _ (by decide +kernel)) ggX11_tried_X11_isFigure
set_option maxRecDepth 20000 in
theorem ggX11_tried_X11_bytesOn : GoodIn wsX11_tried wsX11_bytesOn := goodIn_r _ [19, 20, 21, 22, 23, 5, 24, 25, 3, 4, 6, 207, 208, 209, 196, 197, 198, 199, 200, 201, 202, 203] (by decide +kernel) (by decide +kernel)
set_option maxRecDepth 20000 in
theorem gX11_tried_X11_bytesOn : GoodIn wsX11_tried (wsV RX11 49 RX11 yX11_bytesOn wsX11_bytesOn) := goodIn_app (goodIn_of _ (by decide +kernel)) ggX11_tried_X11_bytesOn
set_option maxRecDepth 20000 in
theorem ggX11_tried_X11_lacking : GoodIn wsX11_tried wsX11_lacking := goodIn_r _ [29, 3, 4, 5, 6, 30, 31, 32, 33, 34, 35, 36, 37, 38, 21, 22, 23, 24, 25, 196, 197, 198, 199, 200, 201, 202, 203] (by decide +kernel) (by decide +kernel)
set_option maxRecDepth 20000 in
theorem gX11_tried_X11_lacking : GoodIn wsX11_tried (wsV RX11 53 RX11 yX11_lacking wsX11_lacking) := goodIn_app (goodIn_of _ (by decide +kernel)) ggX11_tried_X11_lacking
set_option maxRecDepth 20000 in
theorem ggX11_tried_X11_areTrials : GoodIn wsX11_tried wsX11_areTrials := goodIn_r _ [42, 43, 1, 44, 45, 46, 47, 48, 49, 50, 51, 52, 53, 7, 8, 9, 10, 11, 12, 207, 208, 209, 196, 197, 198, 199, 200, 201, 202, 203, 204, 205, 206] (by decide +kernel) (by decide +kernel)
set_option maxRecDepth 20000 in
theorem gX11_tried_X11_areTrials : GoodIn wsX11_tried (wsV RX11 182 RX11 yX11_areTrials wsX11_areTrials) := goodIn_app (goodIn_of _ (by decide +kernel)) ggX11_tried_X11_areTrials
set_option maxRecDepth 20000 in
theorem ggX11_tried_X9_takeFrom : GoodIn wsX11_tried wsX9_takeFrom := goodIn_r _ [57, 58, 12, 59, 204, 205, 206] (by decide +kernel) (by decide +kernel)
set_option maxRecDepth 20000 in
theorem gX11_tried_X9_takeFrom : GoodIn wsX11_tried (wsV RX11 65 RX9 yX9_takeFrom wsX9_takeFrom) := goodIn_app (goodIn_of _ (by decide +kernel)) ggX11_tried_X9_takeFrom
set_option maxRecDepth 20000 in
theorem ggX11_tried_X11_made : GoodIn wsX11_tried wsX11_made := goodIn_r _ [62, 63, 64, 65, 66, 67, 68, 69, 70, 71, 72, 73, 74, 75, 76, 77, 78, 79, 80, 81, 82, 83, 84, 85, 86, 87, 88, 89, 90, 91, 92, 93, 94, 95, 96, 97, 98, 99, 100, 101, 102, 103, 104, 105, 106, 107, 108, 109, 110, 111, 112, 113, 114, 115, 116, 117, 118, 119, 120, 121, 210, 211, 212, 213, 214, 215, 216, 217] (by decide +kernel) (by decide +kernel)
set_option maxRecDepth 20000 in
theorem gX11_tried_X11_made : GoodIn wsX11_tried (va_wsS RX11 161 yX11_made wsX11_made) := goodIn_app (goodIn_of _ (by decide +kernel)) ggX11_tried_X11_made
set_option maxRecDepth 20000 in
theorem ggX11_tried_X9_replace : GoodIn wsX11_tried wsX9_replace := goodIn_r _ [125, 58, 126, 8, 9, 10, 11, 12, 204, 205, 206] (by decide +kernel) (by decide +kernel)
set_option maxRecDepth 20000 in
theorem gX11_tried_X9_replace : GoodIn wsX11_tried (wsV RX11 109 RX9 yX9_replace wsX9_replace) := goodIn_app (goodIn_of _ (by decide +kernel)) ggX11_tried_X9_replace
set_option maxRecDepth 20000 in
theorem ggX11_tried_X11_fits : GoodIn wsX11_tried wsX11_fits := goodIn_r _ [130, 43, 2, 44, 45, 46, 47, 48, 49, 50, 51, 52, 53, 131, 132, 133, 10, 134, 59, 135, 136, 137, 138, 139, 140, 141, 142, 58, 126, 8, 9, 11, 12, 143, 144, 145, 86, 146, 147, 5, 148, 149, 150, 151, 152, 153, 65, 154, 155, 156, 83, 157, 158, 159, 160, 161, 77, 162, 163, 164, 165, 166, 167, 168, 71, 169, 170, 171, 172, 173, 174, 175, 176, 177, 178, 80, 179, 180, 181, 182, 183, 184, 74, 185, 186, 187, 188, 189, 190, 191, 68, 192, 193, 194, 195, 207, 208, 209, 196, 197, 198, 199, 200, 201, 202, 203, 204, 205, 206, 217, 210, 216, 214, 215, 213, 211, 212] (by decide +kernel) (by decide +kernel)
set_option maxRecDepth 20000 in
theorem gX11_tried_X11_fits : GoodIn wsX11_tried (wsV RX11 186 RX11 yX11_fits wsX11_fits) := goodIn_app (goodIn_of _ (by decide +kernel)) ggX11_tried_X11_fits
theorem dX11_tried_0 : decode cX11_tried 0 = .ok (.iload_n 1, 1) := by decide +kernel
theorem dX11_tried_1 : decode cX11_tried 1 = .ok (.invokestatic 179, 3) := by decide +kernel
theorem dX11_tried_4 : decode cX11_tried 4 = .ok (.ifCond .eq 21, 3) := by decide +kernel
theorem dX11_tried_7 : decode cX11_tried 7 = .ok (.aload_n 0, 1) := by decide +kernel
theorem dX11_tried_8 : decode cX11_tried 8 = .ok (.getfield 10, 3) := by decide +kernel
theorem dX11_tried_11 : decode cX11_tried 11 = .ok (.iload_n 2, 1) := by decide +kernel
theorem dX11_tried_12 : decode cX11_tried 12 = .ok (.invokevirtual 173, 3) := by decide +kernel
theorem dX11_tried_15 : decode cX11_tried 15 = .ok (.ifCond .eq 10, 3) := by decide +kernel
theorem dX11_tried_18 : decode cX11_tried 18 = .ok (.iload_n 3, 1) := by decide +kernel
theorem dX11_tried_19 : decode cX11_tried 19 = .ok (.invokestatic 176, 3) := by decide +kernel
theorem dX11_tried_22 : decode cX11_tried 22 = .ok (.ifCond .ne 5, 3) := by decide +kernel
theorem dX11_tried_25 : decode cX11_tried 25 = .ok (.iconst (-1), 1) := by decide +kernel
theorem dX11_tried_26 : decode cX11_tried 26 = .ok (.ireturn, 1) := by decide +kernel
theorem dX11_tried_27 : decode cX11_tried 27 = .ok (.aload_n 0, 1) := by decide +kernel
theorem dX11_tried_28 : decode cX11_tried 28 = .ok (.iload_n 1, 1) := by decide +kernel
theorem dX11_tried_29 : decode cX11_tried 29 = .ok (.invokevirtual 49, 3) := by decide +kernel
theorem dX11_tried_32 : decode cX11_tried 32 = .ok (.astore 4, 2) := by decide +kernel
theorem dX11_tried_34 : decode cX11_tried 34 = .ok (.aload 4, 2) := by decide +kernel
theorem dX11_tried_36 : decode cX11_tried 36 = .ok (.ifnonnull 9, 3) := by decide +kernel
theorem dX11_tried_39 : decode cX11_tried 39 = .ok (.aload_n 0, 1) := by decide +kernel
theorem dX11_tried_40 : decode cX11_tried 40 = .ok (.iload_n 1, 1) := by decide +kernel
theorem dX11_tried_41 : decode cX11_tried 41 = .ok (.invokevirtual 53, 3) := by decide +kernel
theorem dX11_tried_44 : decode cX11_tried 44 = .ok (.ireturn, 1) := by decide +kernel
theorem dX11_tried_45 : decode cX11_tried 45 = .ok (.aload_n 0, 1) := by decide +kernel
theorem dX11_tried_46 : decode cX11_tried 46 = .ok (.aload 4, 2) := by decide +kernel
theorem dX11_tried_48 : decode cX11_tried 48 = .ok (.invokevirtual 182, 3) := by decide +kernel
theorem dX11_tried_51 : decode cX11_tried 51 = .ok (.ifCond .ne 6, 3) := by decide +kernel
theorem dX11_tried_54 : decode cX11_tried 54 = .ok (.bipush (-13), 2) := by decide +kernel
theorem dX11_tried_56 : decode cX11_tried 56 = .ok (.ireturn, 1) := by decide +kernel
theorem dX11_tried_57 : decode cX11_tried 57 = .ok (.iconst 0, 1) := by decide +kernel
theorem dX11_tried_58 : decode cX11_tried 58 = .ok (.istore 5, 2) := by decide +kernel
theorem dX11_tried_60 : decode cX11_tried 60 = .ok (.iconst 0, 1) := by decide +kernel
theorem dX11_tried_61 : decode cX11_tried 61 = .ok (.istore 6, 2) := by decide +kernel
theorem dX11_tried_63 : decode cX11_tried 63 = .ok (.iload 6, 2) := by decide +kernel
theorem dX11_tried_65 : decode cX11_tried 65 = .ok (.bipush 8, 2) := by decide +kernel
theorem dX11_tried_67 : decode cX11_tried 67 = .ok (.if_icmp .ge 52, 3) := by decide +kernel
theorem dX11_tried_70 : decode cX11_tried 70 = .ok (.aload_n 0, 1) := by decide +kernel
theorem dX11_tried_71 : decode cX11_tried 71 = .ok (.getfield 19, 3) := by decide +kernel
theorem dX11_tried_74 : decode cX11_tried 74 = .ok (.aload_n 0, 1) := by decide +kernel
theorem dX11_tried_75 : decode cX11_tried 75 = .ok (.getfield 10, 3) := by decide +kernel
theorem dX11_tried_78 : decode cX11_tried 78 = .ok (.invokevirtual 65, 3) := by decide +kernel
theorem dX11_tried_81 : decode cX11_tried 81 = .ok (.aload_n 0, 1) := by decide +kernel
theorem dX11_tried_82 : decode cX11_tried 82 = .ok (.getfield 19, 3) := by decide +kernel
theorem dX11_tried_85 : decode cX11_tried 85 = .ok (.iload_n 2, 1) := by decide +kernel
theorem dX11_tried_86 : decode cX11_tried 86 = .ok (.iload 6, 2) := by decide +kernel
theorem dX11_tried_88 : decode cX11_tried 88 = .ok (.iload_n 3, 1) := by decide +kernel
theorem dX11_tried_89 : decode cX11_tried 89 = .ok (.invokestatic 161, 3) := by decide +kernel
theorem dX11_tried_92 : decode cX11_tried 92 = .ok (.invokevirtual 109, 3) := by decide +kernel
theorem dX11_tried_95 : decode cX11_tried 95 = .ok (.aload_n 0, 1) := by decide +kernel
theorem dX11_tried_96 : decode cX11_tried 96 = .ok (.aload 4, 2) := by decide +kernel
theorem dX11_tried_98 : decode cX11_tried 98 = .ok (.invokevirtual 186, 3) := by decide +kernel
theorem dX11_tried_101 : decode cX11_tried 101 = .ok (.ifCond .eq 12, 3) := by decide +kernel
theorem dX11_tried_104 : decode cX11_tried 104 = .ok (.iload 5, 2) := by decide +kernel
theorem dX11_tried_106 : decode cX11_tried 106 = .ok (.iconst 1, 1) := by decide +kernel
theorem dX11_tried_107 : decode cX11_tried 107 = .ok (.iload 6, 2) := by decide +kernel
theorem dX11_tried_109 : decode cX11_tried 109 = .ok (.ishl, 1) := by decide +kernel
theorem dX11_tried_110 : decode cX11_tried 110 = .ok (.ior, 1) := by decide +kernel
theorem dX11_tried_111 : decode cX11_tried 111 = .ok (.istore 5, 2) := by decide +kernel
theorem dX11_tried_113 : decode cX11_tried 113 = .ok (.iinc 6 1, 3) := by decide +kernel
theorem dX11_tried_116 : decode cX11_tried 116 = .ok (.goto (-53), 3) := by decide +kernel
theorem dX11_tried_119 : decode cX11_tried 119 = .ok (.iload 5, 2) := by decide +kernel
theorem dX11_tried_121 : decode cX11_tried 121 = .ok (.ireturn, 1) := by decide +kernel
set_option maxRecDepth 20000 in
theorem ggX11_next_X9_has : GoodIn wsX11_next wsX9_has := goodIn_r _ [11, 12, 147, 148, 149] (by decide +kernel) (by decide +kernel)
set_option maxRecDepth 20000 in
theorem gX11_next_X9_has : GoodIn wsX11_next (wsV RX11 173 RX9 yX9_has wsX9_has) := goodIn_app (goodIn_of _ (by decide +kernel)) ggX11_next_X9_has
set_option maxRecDepth 20000 in
theorem ggX11_next_X11_isFigure : GoodIn wsX11_next wsX11_isFigure := goodIn_r _ [16] (by decide +kernel) (by decide +kernel)
set_option maxRecDepth 20000 in
theorem gX11_next_X11_isFigure : GoodIn wsX11_next (va_wsS RX11 176 yX11_isFigure wsX11_isFigure) := goodIn_app (goodIn_of _ (by decide +kernel)) ggX11_next_X11_isFigure
set_option maxRecDepth 20000 in
theorem ggX11_next_X11_countThoseThatMay : GoodIn wsX11_next wsX11_countThoseThatMay := goodIn_r _ [20, 2, 21, 22, 15, 23, 24, 25, 26, 27, 28, 29, 30, 31, 32, 33, 34, 35, 36, 37, 38, 39, 40, 41, 42, 43, 44, 45, 46, 47, 48, 49, 50, 51, 52, 53, 54, 55, 56, 57, 58, 59, 60, 61, 62, 63, 64, 65, 66, 67, 68, 69, 70, 71, 72, 73, 74, 75, 76, 77, 78, 79, 80, 81, 82, 83, 84, 85, 86, 87, 88, 89, 90, 91, 92, 93, 94, 95, 96, 97, 98, 99, 100, 101, 102, 103, 104, 105, 106, 107, 108, 109, 110, 111, 112, 113, 114, 115, 116, 117, 118, 119, 120, 121, 122, 123, 124, 125, 126, 127, 128, 129, 130, 131, 132, 133, 139, 140, 141, 142, 143, 144, 145, 146, 150, 151, 152, 153, 154, 155, 156, 157] (by decide +kernel) (by decide +kernel)
set_option maxRecDepth 20000 in
theorem gX11_next_X11_countThoseThatMay : GoodIn wsX11_next (wsV RX11 189 RX11 yX11_countThoseThatMay wsX11_countThoseThatMay) := goodIn_app (goodIn_of _ (by decide +kernel)) ggX11_next_X11_countThoseThatMay
set_option maxRecDepth 20000 in
theorem ggX11_next_J6_bitCount_0f7a4 : GoodIn wsX11_next wsJ6_bitCount_0f7a4 := goodIn_r _ [113, 114, 115, 116] (by decide +kernel) (by decide +kernel)
set_option maxRecDepth 20000 in
theorem gX11_next_J6_bitCount_0f7a4 : GoodIn wsX11_next (va_wsS RX11 165 yJ6_bitCount_0f7a4 wsJ6_bitCount_0f7a4) := goodIn_app (goodIn_of _ (by decide +kernel)) ggX11_next_J6_bitCount_0f7a4
set_option maxRecDepth 20000 in
theorem ggX11_next_X9_allBits : GoodIn wsX11_next wsX9_allBits := goodIn_r _ [138, 12, 147, 148, 149] (by decide +kernel) (by decide +kernel)
set_option maxRecDepth 20000 in
theorem gX11_next_X9_allBits : GoodIn wsX11_next (wsV RX11 145 RX9 yX9_allBits wsX9_allBits) := goodIn_app (goodIn_of _ (by decide +kernel)) ggX11_next_X9_allBits
theorem dX11_next_0 : decode cX11_next 0 = .ok (.aload_n 0, 1) := by decide +kernel
theorem dX11_next_1 : decode cX11_next 1 = .ok (.getfield 10, 3) := by decide +kernel
theorem dX11_next_4 : decode cX11_next 4 = .ok (.iload_n 1, 1) := by decide +kernel
theorem dX11_next_5 : decode cX11_next 5 = .ok (.invokevirtual 173, 3) := by decide +kernel
theorem dX11_next_8 : decode cX11_next 8 = .ok (.ifCond .eq 33, 3) := by decide +kernel
theorem dX11_next_11 : decode cX11_next 11 = .ok (.iload_n 2, 1) := by decide +kernel
theorem dX11_next_12 : decode cX11_next 12 = .ok (.invokestatic 176, 3) := by decide +kernel
theorem dX11_next_15 : decode cX11_next 15 = .ok (.ifCond .eq 26, 3) := by decide +kernel
theorem dX11_next_18 : decode cX11_next 18 = .ok (.iload_n 3, 1) := by decide +kernel
theorem dX11_next_19 : decode cX11_next 19 = .ok (.iconst 1, 1) := by decide +kernel
theorem dX11_next_20 : decode cX11_next 20 = .ok (.if_icmp .lt 21, 3) := by decide +kernel
theorem dX11_next_23 : decode cX11_next 23 = .ok (.iload_n 3, 1) := by decide +kernel
theorem dX11_next_24 : decode cX11_next 24 = .ok (.sipush 256, 3) := by decide +kernel
theorem dX11_next_27 : decode cX11_next 27 = .ok (.if_icmp .ge 14, 3) := by decide +kernel
theorem dX11_next_30 : decode cX11_next 30 = .ok (.iload 4, 2) := by decide +kernel
theorem dX11_next_32 : decode cX11_next 32 = .ok (.ifCond .lt 9, 3) := by decide +kernel
theorem dX11_next_35 : decode cX11_next 35 = .ok (.iload 4, 2) := by decide +kernel
theorem dX11_next_37 : decode cX11_next 37 = .ok (.iconst 1, 1) := by decide +kernel
theorem dX11_next_38 : decode cX11_next 38 = .ok (.if_icmp .le 5, 3) := by decide +kernel
theorem dX11_next_41 : decode cX11_next 41 = .ok (.iconst (-1), 1) := by decide +kernel
theorem dX11_next_42 : decode cX11_next 42 = .ok (.ireturn, 1) := by decide +kernel
theorem dX11_next_43 : decode cX11_next 43 = .ok (.aload_n 0, 1) := by decide +kernel
theorem dX11_next_44 : decode cX11_next 44 = .ok (.iload_n 1, 1) := by decide +kernel
theorem dX11_next_45 : decode cX11_next 45 = .ok (.iload_n 2, 1) := by decide +kernel
theorem dX11_next_46 : decode cX11_next 46 = .ok (.iload_n 3, 1) := by decide +kernel
theorem dX11_next_47 : decode cX11_next 47 = .ok (.invokevirtual 189, 3) := by decide +kernel
theorem dX11_next_50 : decode cX11_next 50 = .ok (.iload_n 3, 1) := by decide +kernel
theorem dX11_next_51 : decode cX11_next 51 = .ok (.invokestatic 165, 3) := by decide +kernel
theorem dX11_next_54 : decode cX11_next 54 = .ok (.istore 5, 2) := by decide +kernel
theorem dX11_next_56 : decode cX11_next 56 = .ok (.iconst 0, 1) := by decide +kernel
theorem dX11_next_57 : decode cX11_next 57 = .ok (.istore 6, 2) := by decide +kernel
theorem dX11_next_59 : decode cX11_next 59 = .ok (.iload 5, 2) := by decide +kernel
theorem dX11_next_61 : decode cX11_next 61 = .ok (.iconst 1, 1) := by decide +kernel
theorem dX11_next_62 : decode cX11_next 62 = .ok (.iadd, 1) := by decide +kernel
theorem dX11_next_63 : decode cX11_next 63 = .ok (.istore 7, 2) := by decide +kernel
theorem dX11_next_65 : decode cX11_next 65 = .ok (.iconst 0, 1) := by decide +kernel
theorem dX11_next_66 : decode cX11_next 66 = .ok (.istore 8, 2) := by decide +kernel
theorem dX11_next_68 : decode cX11_next 68 = .ok (.iload 8, 2) := by decide +kernel
theorem dX11_next_70 : decode cX11_next 70 = .ok (.aload_n 0, 1) := by decide +kernel
theorem dX11_next_71 : decode cX11_next 71 = .ok (.getfield 10, 3) := by decide +kernel
theorem dX11_next_74 : decode cX11_next 74 = .ok (.invokevirtual 145, 3) := by decide +kernel
theorem dX11_next_77 : decode cX11_next 77 = .ok (.if_icmp .gt 53, 3) := by decide +kernel
theorem dX11_next_80 : decode cX11_next 80 = .ok (.iload 8, 2) := by decide +kernel
theorem dX11_next_82 : decode cX11_next 82 = .ok (.bipush 64, 2) := by decide +kernel
theorem dX11_next_84 : decode cX11_next 84 = .ok (.if_icmp .ge 46, 3) := by decide +kernel
theorem dX11_next_87 : decode cX11_next 87 = .ok (.aload_n 0, 1) := by decide +kernel
theorem dX11_next_88 : decode cX11_next 88 = .ok (.getfield 41, 3) := by decide +kernel
theorem dX11_next_91 : decode cX11_next 91 = .ok (.iload 8, 2) := by decide +kernel
theorem dX11_next_93 : decode cX11_next 93 = .ok (.iaload, 1) := by decide +kernel
theorem dX11_next_94 : decode cX11_next 94 = .ok (.iload 5, 2) := by decide +kernel
theorem dX11_next_96 : decode cX11_next 96 = .ok (.aload_n 0, 1) := by decide +kernel
theorem dX11_next_97 : decode cX11_next 97 = .ok (.getfield 41, 3) := by decide +kernel
theorem dX11_next_100 : decode cX11_next 100 = .ok (.iload 8, 2) := by decide +kernel
theorem dX11_next_102 : decode cX11_next 102 = .ok (.iaload, 1) := by decide +kernel
theorem dX11_next_103 : decode cX11_next 103 = .ok (.isub, 1) := by decide +kernel
theorem dX11_next_104 : decode cX11_next 104 = .ok (.invokestatic 193, 3) := by decide +kernel
theorem dX11_next_107 : decode cX11_next 107 = .ok (.istore 9, 2) := by decide +kernel
theorem dX11_next_109 : decode cX11_next 109 = .ok (.iload 9, 2) := by decide +kernel
theorem dX11_next_111 : decode cX11_next 111 = .ok (.iload 7, 2) := by decide +kernel
theorem dX11_next_113 : decode cX11_next 113 = .ok (.if_icmp .ge 11, 3) := by decide +kernel
theorem dX11_next_116 : decode cX11_next 116 = .ok (.iload 9, 2) := by decide +kernel
theorem dX11_next_118 : decode cX11_next 118 = .ok (.istore 7, 2) := by decide +kernel
theorem dX11_next_120 : decode cX11_next 120 = .ok (.iload 8, 2) := by decide +kernel
theorem dX11_next_122 : decode cX11_next 122 = .ok (.istore 6, 2) := by decide +kernel
theorem dX11_next_124 : decode cX11_next 124 = .ok (.iinc 8 1, 3) := by decide +kernel
theorem dX11_next_127 : decode cX11_next 127 = .ok (.goto (-59), 3) := by decide +kernel
theorem dX11_next_130 : decode cX11_next 130 = .ok (.iload 4, 2) := by decide +kernel
theorem dX11_next_132 : decode cX11_next 132 = .ok (.ifCond .ne 8, 3) := by decide +kernel
theorem dX11_next_135 : decode cX11_next 135 = .ok (.iload 6, 2) := by decide +kernel
theorem dX11_next_137 : decode cX11_next 137 = .ok (.goto 5, 3) := by decide +kernel
theorem dX11_next_140 : decode cX11_next 140 = .ok (.iload 7, 2) := by decide +kernel
theorem dX11_next_142 : decode cX11_next 142 = .ok (.ireturn, 1) := by decide +kernel
set_option maxRecDepth 20000 in
theorem ggX11_game_X9_has : GoodIn wsX11_game wsX9_has := goodIn_r _ [7, 8, 103, 104, 105] (by decide +kernel) (by decide +kernel)
set_option maxRecDepth 20000 in
theorem gX11_game_X9_has : GoodIn wsX11_game (wsV RX11 173 RX9 yX9_has wsX9_has) := goodIn_app (goodIn_of _ (by decide +kernel)) ggX11_game_X9_has
set_option maxRecDepth 20000 in
theorem ggX11_game_X9_allBits : GoodIn wsX11_game wsX9_allBits := goodIn_r _ [12, 8, 103, 104, 105] (by decide +kernel) (by decide +kernel)
set_option maxRecDepth 20000 in
theorem gX11_game_X9_allBits : GoodIn wsX11_game (wsV RX11 145 RX9 yX9_allBits wsX9_allBits) := goodIn_app (goodIn_of _ (by decide +kernel)) ggX11_game_X9_allBits
set_option maxRecDepth 20000 in
theorem ggX11_game_X11_isOpen : GoodIn wsX11_game wsX11_isOpen := goodIn_r _ [16] (by decide +kernel) (by decide +kernel)
set_option maxRecDepth 20000 in
theorem gX11_game_X11_isOpen : GoodIn wsX11_game (va_wsS RX11 94 yX11_isOpen wsX11_isOpen) := goodIn_app (goodIn_of _ (by decide +kernel)) ggX11_game_X11_isOpen
set_option maxRecDepth 20000 in
theorem ggX11_game_X11_wonBefore : GoodIn wsX11_game wsX11_wonBefore := goodIn_r _ [20, 1, 21, 9, 10, 11, 6, 12, 8, 22, 23, 15, 24, 25, 26, 27, 28, 29, 30, 31, 32, 33, 34, 4, 5, 7, 35, 36, 37, 38, 39, 14, 16, 40, 41, 42, 43, 44, 45, 46, 47, 48, 49, 50, 51, 52, 53, 54, 55, 56, 57, 58, 59, 60, 61, 62, 63, 64, 65, 66, 67, 68, 69, 70, 71, 72, 73, 74, 75, 76, 77, 78, 79, 80, 81, 82, 83, 84, 85, 86, 87, 88, 89, 90, 91, 92, 93, 94, 95, 96, 97, 98, 99, 100, 101, 102, 103, 104, 105, 106, 107, 108, 109, 110, 111, 112, 113] (by decide +kernel) (by decide +kernel)
set_option maxRecDepth 20000 in
theorem gX11_game_X11_wonBefore : GoodIn wsX11_game (wsV RX11 198 RX11 yX11_wonBefore wsX11_wonBefore) := goodIn_app (goodIn_of _ (by decide +kernel)) ggX11_game_X11_wonBefore
set_option maxRecDepth 20000 in
theorem ggX11_game_X11_isAmong : GoodIn wsX11_game wsX11_isAmong := goodIn_r _ [24] (by decide +kernel) (by decide +kernel)
set_option maxRecDepth 20000 in
theorem gX11_game_X11_isAmong : GoodIn wsX11_game (va_wsS RX11 202 yX11_isAmong wsX11_isAmong) := goodIn_app (goodIn_of _ (by decide +kernel)) ggX11_game_X11_isAmong
theorem dX11_game_0 : decode cX11_game 0 = .ok (.aload_n 0, 1) := by decide +kernel
theorem dX11_game_1 : decode cX11_game 1 = .ok (.getfield 10, 3) := by decide +kernel
theorem dX11_game_4 : decode cX11_game 4 = .ok (.iload_n 1, 1) := by decide +kernel
theorem dX11_game_5 : decode cX11_game 5 = .ok (.invokevirtual 173, 3) := by decide +kernel
theorem dX11_game_8 : decode cX11_game 8 = .ok (.ifCond .eq 12, 3) := by decide +kernel
theorem dX11_game_11 : decode cX11_game 11 = .ok (.iload_n 2, 1) := by decide +kernel
theorem dX11_game_12 : decode cX11_game 12 = .ok (.ifCond .lt 8, 3) := by decide +kernel
theorem dX11_game_15 : decode cX11_game 15 = .ok (.iload_n 2, 1) := by decide +kernel
theorem dX11_game_16 : decode cX11_game 16 = .ok (.iconst 5, 1) := by decide +kernel
theorem dX11_game_17 : decode cX11_game 17 = .ok (.if_icmp .le 5, 3) := by decide +kernel
theorem dX11_game_20 : decode cX11_game 20 = .ok (.iconst (-1), 1) := by decide +kernel
theorem dX11_game_21 : decode cX11_game 21 = .ok (.ireturn, 1) := by decide +kernel
theorem dX11_game_22 : decode cX11_game 22 = .ok (.lconst 0, 1) := by decide +kernel
theorem dX11_game_23 : decode cX11_game 23 = .ok (.lstore_n 3, 1) := by decide +kernel
theorem dX11_game_24 : decode cX11_game 24 = .ok (.iconst 0, 1) := by decide +kernel
theorem dX11_game_25 : decode cX11_game 25 = .ok (.istore 5, 2) := by decide +kernel
theorem dX11_game_27 : decode cX11_game 27 = .ok (.iload 5, 2) := by decide +kernel
theorem dX11_game_29 : decode cX11_game 29 = .ok (.aload_n 0, 1) := by decide +kernel
theorem dX11_game_30 : decode cX11_game 30 = .ok (.getfield 10, 3) := by decide +kernel
theorem dX11_game_33 : decode cX11_game 33 = .ok (.invokevirtual 145, 3) := by decide +kernel
theorem dX11_game_36 : decode cX11_game 36 = .ok (.if_icmp .gt 25, 3) := by decide +kernel
theorem dX11_game_39 : decode cX11_game 39 = .ok (.iload 5, 2) := by decide +kernel
theorem dX11_game_41 : decode cX11_game 41 = .ok (.iload_n 1, 1) := by decide +kernel
theorem dX11_game_42 : decode cX11_game 42 = .ok (.invokestatic 94, 3) := by decide +kernel
theorem dX11_game_45 : decode cX11_game 45 = .ok (.ifCond .eq 10, 3) := by decide +kernel
theorem dX11_game_48 : decode cX11_game 48 = .ok (.lload_n 3, 1) := by decide +kernel
theorem dX11_game_49 : decode cX11_game 49 = .ok (.lconst 1, 1) := by decide +kernel
theorem dX11_game_50 : decode cX11_game 50 = .ok (.iload 5, 2) := by decide +kernel
theorem dX11_game_52 : decode cX11_game 52 = .ok (.lshl, 1) := by decide +kernel
theorem dX11_game_53 : decode cX11_game 53 = .ok (.lor, 1) := by decide +kernel
theorem dX11_game_54 : decode cX11_game 54 = .ok (.lstore_n 3, 1) := by decide +kernel
theorem dX11_game_55 : decode cX11_game 55 = .ok (.iinc 5 1, 3) := by decide +kernel
theorem dX11_game_58 : decode cX11_game 58 = .ok (.goto (-31), 3) := by decide +kernel
theorem dX11_game_61 : decode cX11_game 61 = .ok (.iload_n 2, 1) := by decide +kernel
theorem dX11_game_62 : decode cX11_game 62 = .ok (.iconst 1, 1) := by decide +kernel
theorem dX11_game_63 : decode cX11_game 63 = .ok (.isub, 1) := by decide +kernel
theorem dX11_game_64 : decode cX11_game 64 = .ok (.istore 5, 2) := by decide +kernel
theorem dX11_game_66 : decode cX11_game 66 = .ok (.iload 5, 2) := by decide +kernel
theorem dX11_game_68 : decode cX11_game 68 = .ok (.ifCond .lt 27, 3) := by decide +kernel
theorem dX11_game_71 : decode cX11_game 71 = .ok (.aload_n 0, 1) := by decide +kernel
theorem dX11_game_72 : decode cX11_game 72 = .ok (.lload_n 3, 1) := by decide +kernel
theorem dX11_game_73 : decode cX11_game 73 = .ok (.iload 5, 2) := by decide +kernel
theorem dX11_game_75 : decode cX11_game 75 = .ok (.iconst 2, 1) := by decide +kernel
theorem dX11_game_76 : decode cX11_game 76 = .ok (.irem, 1) := by decide +kernel
theorem dX11_game_77 : decode cX11_game 77 = .ok (.ifCond .ne 7, 3) := by decide +kernel
theorem dX11_game_80 : decode cX11_game 80 = .ok (.iconst 1, 1) := by decide +kernel
theorem dX11_game_81 : decode cX11_game 81 = .ok (.goto 4, 3) := by decide +kernel
theorem dX11_game_84 : decode cX11_game 84 = .ok (.iconst 0, 1) := by decide +kernel
theorem dX11_game_85 : decode cX11_game 85 = .ok (.invokevirtual 198, 3) := by decide +kernel
theorem dX11_game_88 : decode cX11_game 88 = .ok (.lstore_n 3, 1) := by decide +kernel
theorem dX11_game_89 : decode cX11_game 89 = .ok (.iinc 5 (-1), 3) := by decide +kernel
theorem dX11_game_92 : decode cX11_game 92 = .ok (.goto (-26), 3) := by decide +kernel
theorem dX11_game_95 : decode cX11_game 95 = .ok (.lload_n 3, 1) := by decide +kernel
theorem dX11_game_96 : decode cX11_game 96 = .ok (.aload_n 0, 1) := by decide +kernel
theorem dX11_game_97 : decode cX11_game 97 = .ok (.getfield 10, 3) := by decide +kernel
theorem dX11_game_100 : decode cX11_game 100 = .ok (.getfield 91, 3) := by decide +kernel
theorem dX11_game_103 : decode cX11_game 103 = .ok (.invokestatic 202, 3) := by decide +kernel
theorem dX11_game_106 : decode cX11_game 106 = .ok (.ifCond .eq 7, 3) := by decide +kernel
theorem dX11_game_109 : decode cX11_game 109 = .ok (.iconst 1, 1) := by decide +kernel
theorem dX11_game_110 : decode cX11_game 110 = .ok (.goto 4, 3) := by decide +kernel
theorem dX11_game_113 : decode cX11_game 113 = .ok (.iconst 0, 1) := by decide +kernel
theorem dX11_game_114 : decode cX11_game 114 = .ok (.ireturn, 1) := by decide +kernel
set_option maxRecDepth 20000 in
theorem ggX11_run_X11_isShelf : GoodIn wsX11_run wsX11_isShelf := goodIn_r _ [8] (by decide +kernel) (by decide +kernel)
set_option maxRecDepth 20000 in
theorem gX11_run_X11_isShelf : GoodIn wsX11_run (va_wsS RX11 179 yX11_isShelf wsX11_isShelf) := goodIn_app (goodIn_of _ (by decide +kernel)) ggX11_run_X11_isShelf
set_option maxRecDepth 20000 in
theorem ggX11_run_X11_bytesOn : GoodIn wsX11_run wsX11_bytesOn := goodIn_r _ [12, 13, 14, 15, 16, 7, 17, 18, 5, 6, 8, 128, 129, 130, 131, 132, 133, 134, 135, 136, 137, 138] (by decide +kernel) (by decide +kernel)
set_option maxRecDepth 20000 in
theorem gX11_run_X11_bytesOn : GoodIn wsX11_run (wsV RX11 49 RX11 yX11_bytesOn wsX11_bytesOn) := goodIn_app (goodIn_of _ (by decide +kernel)) ggX11_run_X11_bytesOn
set_option maxRecDepth 20000 in
theorem ggX11_run_X11_lacking : GoodIn wsX11_run wsX11_lacking := goodIn_r _ [22, 5, 6, 7, 8, 23, 24, 25, 26, 27, 28, 29, 30, 31, 14, 15, 16, 17, 18, 131, 132, 133, 134, 135, 136, 137, 138] (by decide +kernel) (by decide +kernel)
set_option maxRecDepth 20000 in
theorem gX11_run_X11_lacking : GoodIn wsX11_run (wsV RX11 53 RX11 yX11_lacking wsX11_lacking) := goodIn_app (goodIn_of _ (by decide +kernel)) ggX11_run_X11_lacking
set_option maxRecDepth 20000 in
theorem ggX11_run_X6_valueAt : GoodIn wsX11_run wsX6_valueAt := goodIn_r _ [36, 37, 38, 39, 40, 35, 41, 128, 129, 130] (by decide +kernel) (by decide +kernel)
set_option maxRecDepth 20000 in
theorem gX11_run_X6_valueAt : GoodIn wsX11_run (wsV RX11 73 RX6 yX6_valueAt wsX6_valueAt) := goodIn_app (goodIn_of _ (by decide +kernel)) ggX11_run_X6_valueAt
set_option maxRecDepth 20000 in
theorem ggX11_run_X9_has : GoodIn wsX11_run wsX9_has := goodIn_r _ [46, 47, 139, 140, 141] (by decide +kernel) (by decide +kernel)
set_option maxRecDepth 20000 in
theorem gX11_run_X9_has : GoodIn wsX11_run (wsV RX11 173 RX9 yX9_has wsX9_has) := goodIn_app (goodIn_of _ (by decide +kernel)) ggX11_run_X9_has
set_option maxRecDepth 20000 in
theorem ggX11_run_X9_takeFrom : GoodIn wsX11_run wsX9_takeFrom := goodIn_r _ [51, 52, 47, 53, 139, 140, 141] (by decide +kernel) (by decide +kernel)
set_option maxRecDepth 20000 in
theorem gX11_run_X9_takeFrom : GoodIn wsX11_run (wsV RX11 65 RX9 yX9_takeFrom wsX9_takeFrom) := goodIn_app (goodIn_of _ (by decide +kernel)) ggX11_run_X9_takeFrom
set_option maxRecDepth 20000 in
theorem ggX11_run_X9_pulled : GoodIn wsX11_run wsX9_pulled := goodIn_r _ [57, 53, 58, 59, 60, 45, 61, 62, 63, 64, 65, 52, 66, 43, 44, 46, 47, 67, 68, 69, 70, 71, 72, 7, 73, 74, 75, 76, 77, 78, 79, 80, 81, 82, 83, 84, 85, 86, 87, 88, 89, 90, 91, 92, 93, 94, 95, 96, 97, 98, 99, 100, 101, 102, 103, 104, 105, 106, 107, 108, 109, 110, 111, 112, 113, 114, 115, 116, 117, 118, 119, 120, 121, 122, 123, 124, 125, 126, 127, 139, 140, 141, 142, 143, 144, 145, 146, 147, 148, 149] (by decide +kernel) (by decide +kernel)
set_option maxRecDepth 20000 in
theorem gX11_run_X9_pulled : GoodIn wsX11_run (wsV RX11 113 RX9 yX9_pulled wsX9_pulled) := goodIn_app (goodIn_of _ (by decide +kernel)) ggX11_run_X9_pulled
theorem dX11_run_0 : decode cX11_run 0 = .ok (.iload_n 1, 1) := by decide +kernel
theorem dX11_run_1 : decode cX11_run 1 = .ok (.invokestatic 179, 3) := by decide +kernel
theorem dX11_run_4 : decode cX11_run 4 = .ok (.ifCond .eq 12, 3) := by decide +kernel
theorem dX11_run_7 : decode cX11_run 7 = .ok (.iload_n 2, 1) := by decide +kernel
theorem dX11_run_8 : decode cX11_run 8 = .ok (.ifCond .lt 8, 3) := by decide +kernel
theorem dX11_run_11 : decode cX11_run 11 = .ok (.iload_n 2, 1) := by decide +kernel
theorem dX11_run_12 : decode cX11_run 12 = .ok (.iconst 1, 1) := by decide +kernel
theorem dX11_run_13 : decode cX11_run 13 = .ok (.if_icmp .le 5, 3) := by decide +kernel
theorem dX11_run_16 : decode cX11_run 16 = .ok (.iconst (-1), 1) := by decide +kernel
theorem dX11_run_17 : decode cX11_run 17 = .ok (.ireturn, 1) := by decide +kernel
theorem dX11_run_18 : decode cX11_run 18 = .ok (.aload_n 0, 1) := by decide +kernel
theorem dX11_run_19 : decode cX11_run 19 = .ok (.iload_n 1, 1) := by decide +kernel
theorem dX11_run_20 : decode cX11_run 20 = .ok (.invokevirtual 49, 3) := by decide +kernel
theorem dX11_run_23 : decode cX11_run 23 = .ok (.astore_n 3, 1) := by decide +kernel
theorem dX11_run_24 : decode cX11_run 24 = .ok (.aload_n 3, 1) := by decide +kernel
theorem dX11_run_25 : decode cX11_run 25 = .ok (.ifnonnull 9, 3) := by decide +kernel
theorem dX11_run_28 : decode cX11_run 28 = .ok (.aload_n 0, 1) := by decide +kernel
theorem dX11_run_29 : decode cX11_run 29 = .ok (.iload_n 1, 1) := by decide +kernel
theorem dX11_run_30 : decode cX11_run 30 = .ok (.invokevirtual 53, 3) := by decide +kernel
theorem dX11_run_33 : decode cX11_run 33 = .ok (.ireturn, 1) := by decide +kernel
theorem dX11_run_34 : decode cX11_run 34 = .ok (.iconst 0, 1) := by decide +kernel
theorem dX11_run_35 : decode cX11_run 35 = .ok (.istore 4, 2) := by decide +kernel
theorem dX11_run_37 : decode cX11_run 37 = .ok (.iload 4, 2) := by decide +kernel
theorem dX11_run_39 : decode cX11_run 39 = .ok (.aload_n 3, 1) := by decide +kernel
theorem dX11_run_40 : decode cX11_run 40 = .ok (.getfield 69, 3) := by decide +kernel
theorem dX11_run_43 : decode cX11_run 43 = .ok (.if_icmp .ge 28, 3) := by decide +kernel
theorem dX11_run_46 : decode cX11_run 46 = .ok (.aload_n 0, 1) := by decide +kernel
theorem dX11_run_47 : decode cX11_run 47 = .ok (.getfield 10, 3) := by decide +kernel
