theorem dX12_init_0 : decode cX12_init 0 = .ok (.aload_n 0, 1) := by decide +kernel
theorem dX12_init_1 : decode cX12_init 1 = .ok (.invokespecial 1, 3) := by decide +kernel
theorem dX12_init_4 : decode cX12_init 4 = .ok (.aload_n 0, 1) := by decide +kernel
theorem dX12_init_5 : decode cX12_init 5 = .ok (.bipush 14, 2) := by decide +kernel
theorem dX12_init_7 : decode cX12_init 7 = .ok (.newarray .int, 2) := by decide +kernel
theorem dX12_init_9 : decode cX12_init 9 = .ok (.putfield 9, 3) := by decide +kernel
theorem dX12_init_12 : decode cX12_init 12 = .ok (.aload_n 0, 1) := by decide +kernel
theorem dX12_init_13 : decode cX12_init 13 = .ok (.bipush 14, 2) := by decide +kernel
theorem dX12_init_15 : decode cX12_init 15 = .ok (.newarray .int, 2) := by decide +kernel
theorem dX12_init_17 : decode cX12_init 17 = .ok (.putfield 13, 3) := by decide +kernel
theorem dX12_init_20 : decode cX12_init 20 = .ok (.aload_n 0, 1) := by decide +kernel
theorem dX12_init_21 : decode cX12_init 21 = .ok (.bipush 14, 2) := by decide +kernel
theorem dX12_init_23 : decode cX12_init 23 = .ok (.newarray .int, 2) := by decide +kernel
theorem dX12_init_25 : decode cX12_init 25 = .ok (.putfield 16, 3) := by decide +kernel
theorem dX12_init_28 : decode cX12_init 28 = .ok (.aload_n 0, 1) := by decide +kernel
theorem dX12_init_29 : decode cX12_init 29 = .ok (.bipush 14, 2) := by decide +kernel
theorem dX12_init_31 : decode cX12_init 31 = .ok (.newarray .int, 2) := by decide +kernel
theorem dX12_init_33 : decode cX12_init 33 = .ok (.putfield 19, 3) := by decide +kernel
theorem dX12_init_36 : decode cX12_init 36 = .ok (.aload_n 0, 1) := by decide +kernel
theorem dX12_init_37 : decode cX12_init 37 = .ok (.bipush 8, 2) := by decide +kernel
theorem dX12_init_39 : decode cX12_init 39 = .ok (.newarray .int, 2) := by decide +kernel
theorem dX12_init_41 : decode cX12_init 41 = .ok (.putfield 22, 3) := by decide +kernel
theorem dX12_init_44 : decode cX12_init 44 = .ok (.aload_n 0, 1) := by decide +kernel
theorem dX12_init_45 : decode cX12_init 45 = .ok (.bipush 8, 2) := by decide +kernel
theorem dX12_init_47 : decode cX12_init 47 = .ok (.newarray .int, 2) := by decide +kernel
theorem dX12_init_49 : decode cX12_init 49 = .ok (.putfield 25, 3) := by decide +kernel
theorem dX12_init_52 : decode cX12_init 52 = .ok (.aload_n 0, 1) := by decide +kernel
theorem dX12_init_53 : decode cX12_init 53 = .ok (.bipush 8, 2) := by decide +kernel
theorem dX12_init_55 : decode cX12_init 55 = .ok (.newarray .int, 2) := by decide +kernel
theorem dX12_init_57 : decode cX12_init 57 = .ok (.putfield 28, 3) := by decide +kernel
theorem dX12_init_60 : decode cX12_init 60 = .ok (.aload_n 0, 1) := by decide +kernel
theorem dX12_init_61 : decode cX12_init 61 = .ok (.sipush 800, 3) := by decide +kernel
theorem dX12_init_64 : decode cX12_init 64 = .ok (.newarray .int, 2) := by decide +kernel
theorem dX12_init_66 : decode cX12_init 66 = .ok (.putfield 31, 3) := by decide +kernel
theorem dX12_init_69 : decode cX12_init 69 = .ok (.aload_n 0, 1) := by decide +kernel
theorem dX12_init_70 : decode cX12_init 70 = .ok (.bipush 8, 2) := by decide +kernel
theorem dX12_init_72 : decode cX12_init 72 = .ok (.newarray .int, 2) := by decide +kernel
theorem dX12_init_74 : decode cX12_init 74 = .ok (.putfield 34, 3) := by decide +kernel
theorem dX12_init_77 : decode cX12_init 77 = .ok (.aload_n 0, 1) := by decide +kernel
theorem dX12_init_78 : decode cX12_init 78 = .ok (.bipush 8, 2) := by decide +kernel
theorem dX12_init_80 : decode cX12_init 80 = .ok (.newarray .int, 2) := by decide +kernel
theorem dX12_init_82 : decode cX12_init 82 = .ok (.putfield 37, 3) := by decide +kernel
theorem dX12_init_85 : decode cX12_init 85 = .ok (.aload_n 0, 1) := by decide +kernel
theorem dX12_init_86 : decode cX12_init 86 = .ok (.iconst 2, 1) := by decide +kernel
theorem dX12_init_87 : decode cX12_init 87 = .ok (.newarray .int, 2) := by decide +kernel
theorem dX12_init_89 : decode cX12_init 89 = .ok (.putfield 40, 3) := by decide +kernel
theorem dX12_init_92 : decode cX12_init 92 = .ok (.aload_n 0, 1) := by decide +kernel
theorem dX12_init_93 : decode cX12_init 93 = .ok (.bipush 64, 2) := by decide +kernel
theorem dX12_init_95 : decode cX12_init 95 = .ok (.newarray .int, 2) := by decide +kernel
theorem dX12_init_97 : decode cX12_init 97 = .ok (.putfield 43, 3) := by decide +kernel
theorem dX12_init_100 : decode cX12_init 100 = .ok (.aload_n 0, 1) := by decide +kernel
theorem dX12_init_101 : decode cX12_init 101 = .ok (.sipush 4096, 3) := by decide +kernel
theorem dX12_init_104 : decode cX12_init 104 = .ok (.newarray .int, 2) := by decide +kernel
theorem dX12_init_106 : decode cX12_init 106 = .ok (.putfield 46, 3) := by decide +kernel
theorem dX12_init_109 : decode cX12_init 109 = .ok (.return_, 1) := by decide +kernel
theorem dX12_thrown_0 : decode cX12_thrown 0 = .ok (.aload_n 0, 1) := by decide +kernel
theorem dX12_thrown_1 : decode cX12_thrown 1 = .ok (.getfield 49, 3) := by decide +kernel
theorem dX12_thrown_4 : decode cX12_thrown 4 = .ok (.ireturn, 1) := by decide +kernel
theorem dX12_isIn_0 : decode cX12_isIn 0 = .ok (.lload_n 0, 1) := by decide +kernel
theorem dX12_isIn_1 : decode cX12_isIn 1 = .ok (.lload_n 2, 1) := by decide +kernel
theorem dX12_isIn_2 : decode cX12_isIn 2 = .ok (.lcmp, 1) := by decide +kernel
theorem dX12_isIn_3 : decode cX12_isIn 3 = .ok (.ifCond .lt 14, 3) := by decide +kernel
theorem dX12_isIn_6 : decode cX12_isIn 6 = .ok (.lload_n 0, 1) := by decide +kernel
theorem dX12_isIn_7 : decode cX12_isIn 7 = .ok (.lload 4, 2) := by decide +kernel
theorem dX12_isIn_9 : decode cX12_isIn 9 = .ok (.lcmp, 1) := by decide +kernel
theorem dX12_isIn_10 : decode cX12_isIn 10 = .ok (.ifCond .gt 7, 3) := by decide +kernel
theorem dX12_isIn_13 : decode cX12_isIn 13 = .ok (.iconst 1, 1) := by decide +kernel
theorem dX12_isIn_14 : decode cX12_isIn 14 = .ok (.goto 4, 3) := by decide +kernel
theorem dX12_isIn_17 : decode cX12_isIn 17 = .ok (.iconst 0, 1) := by decide +kernel
theorem dX12_isIn_18 : decode cX12_isIn 18 = .ok (.ireturn, 1) := by decide +kernel
set_option maxRecDepth 20000 in
theorem ggX12_isShelf_X12_isIn : GoodIn wsX12_isShelf wsX12_isIn := goodIn_r _ [5] (by decide +kernel) (by decide +kernel)
set_option maxRecDepth 20000 in
theorem gX12_isShelf_X12_isIn : GoodIn wsX12_isShelf (va_wsS RX12 55 yX12_isIn wsX12_isIn) := goodIn_app (goodIn_of _ (by decide +kernel)) ggX12_isShelf_X12_isIn
theorem dX12_isShelf_0 : decode cX12_isShelf 0 = .ok (.iload_n 0, 1) := by decide +kernel
theorem dX12_isShelf_1 : decode cX12_isShelf 1 = .ok (.i2l, 1) := by decide +kernel
theorem dX12_isShelf_2 : decode cX12_isShelf 2 = .ok (.lconst 0, 1) := by decide +kernel
theorem dX12_isShelf_3 : decode cX12_isShelf 3 = .ok (.ldc2_w 53, 3) := by decide +kernel
theorem dX12_isShelf_6 : decode cX12_isShelf 6 = .ok (.invokestatic 55, 3) := by decide +kernel
theorem dX12_isShelf_9 : decode cX12_isShelf 9 = .ok (.ireturn, 1) := by decide +kernel
set_option maxRecDepth 20000 in
theorem ggX12_isDrawer_X12_isIn : GoodIn wsX12_isDrawer wsX12_isIn := goodIn_r _ [5] (by decide +kernel) (by decide +kernel)
set_option maxRecDepth 20000 in
theorem gX12_isDrawer_X12_isIn : GoodIn wsX12_isDrawer (va_wsS RX12 55 yX12_isIn wsX12_isIn) := goodIn_app (goodIn_of _ (by decide +kernel)) ggX12_isDrawer_X12_isIn
theorem dX12_isDrawer_0 : decode cX12_isDrawer 0 = .ok (.iload_n 1, 1) := by decide +kernel
theorem dX12_isDrawer_1 : decode cX12_isDrawer 1 = .ok (.i2l, 1) := by decide +kernel
theorem dX12_isDrawer_2 : decode cX12_isDrawer 2 = .ok (.lconst 0, 1) := by decide +kernel
theorem dX12_isDrawer_3 : decode cX12_isDrawer 3 = .ok (.aload_n 0, 1) := by decide +kernel
theorem dX12_isDrawer_4 : decode cX12_isDrawer 4 = .ok (.getfield 9, 3) := by decide +kernel
theorem dX12_isDrawer_7 : decode cX12_isDrawer 7 = .ok (.iconst 0, 1) := by decide +kernel
theorem dX12_isDrawer_8 : decode cX12_isDrawer 8 = .ok (.iaload, 1) := by decide +kernel
theorem dX12_isDrawer_9 : decode cX12_isDrawer 9 = .ok (.iconst 1, 1) := by decide +kernel
theorem dX12_isDrawer_10 : decode cX12_isDrawer 10 = .ok (.isub, 1) := by decide +kernel
theorem dX12_isDrawer_11 : decode cX12_isDrawer 11 = .ok (.i2l, 1) := by decide +kernel
theorem dX12_isDrawer_12 : decode cX12_isDrawer 12 = .ok (.invokestatic 55, 3) := by decide +kernel
theorem dX12_isDrawer_15 : decode cX12_isDrawer 15 = .ok (.ireturn, 1) := by decide +kernel
theorem dX12_everything_0 : decode cX12_everything 0 = .ok (.iconst 1, 1) := by decide +kernel
theorem dX12_everything_1 : decode cX12_everything 1 = .ok (.aload_n 0, 1) := by decide +kernel
theorem dX12_everything_2 : decode cX12_everything 2 = .ok (.getfield 9, 3) := by decide +kernel
theorem dX12_everything_5 : decode cX12_everything 5 = .ok (.iconst 0, 1) := by decide +kernel
theorem dX12_everything_6 : decode cX12_everything 6 = .ok (.iaload, 1) := by decide +kernel
theorem dX12_everything_7 : decode cX12_everything 7 = .ok (.ishl, 1) := by decide +kernel
theorem dX12_everything_8 : decode cX12_everything 8 = .ok (.iconst 1, 1) := by decide +kernel
theorem dX12_everything_9 : decode cX12_everything 9 = .ok (.isub, 1) := by decide +kernel
theorem dX12_everything_10 : decode cX12_everything 10 = .ok (.ireturn, 1) := by decide +kernel
set_option maxRecDepth 20000 in
theorem ggX12_areDrawers_X12_everything : GoodIn wsX12_areDrawers wsX12_everything := goodIn_r _ [5, 6, 10, 11, 12, 13, 14, 15, 16, 17, 18, 19, 20, 21, 22, 23, 24, 25, 26, 27, 28] (by decide +kernel) (by decide +kernel)
set_option maxRecDepth 20000 in
theorem gX12_areDrawers_X12_everything : GoodIn wsX12_areDrawers (wsV RX12 59 RX12 yX12_everything wsX12_everything) := goodIn_app (goodIn_of _ (by decide +kernel)) ggX12_areDrawers_X12_everything
set_option maxRecDepth 20000 in
theorem ggX12_areDrawers_X12_isIn : GoodIn wsX12_areDrawers wsX12_isIn := goodIn_r _ [9] (by decide +kernel) (by decide +kernel)
set_option maxRecDepth 20000 in
theorem gX12_areDrawers_X12_isIn : GoodIn wsX12_areDrawers (va_wsS RX12 55 yX12_isIn wsX12_isIn) := goodIn_app (goodIn_of _ (by decide +kernel)) ggX12_areDrawers_X12_isIn
theorem dX12_areDrawers_0 : decode cX12_areDrawers 0 = .ok (.iload_n 1, 1) := by decide +kernel
theorem dX12_areDrawers_1 : decode cX12_areDrawers 1 = .ok (.i2l, 1) := by decide +kernel
theorem dX12_areDrawers_2 : decode cX12_areDrawers 2 = .ok (.lconst 0, 1) := by decide +kernel
theorem dX12_areDrawers_3 : decode cX12_areDrawers 3 = .ok (.aload_n 0, 1) := by decide +kernel
theorem dX12_areDrawers_4 : decode cX12_areDrawers 4 = .ok (.invokevirtual 59, 3) := by decide +kernel
theorem dX12_areDrawers_7 : decode cX12_areDrawers 7 = .ok (.i2l, 1) := by decide +kernel
theorem dX12_areDrawers_8 : decode cX12_areDrawers 8 = .ok (.invokestatic 55, 3) := by decide +kernel
theorem dX12_areDrawers_11 : decode cX12_areDrawers 11 = .ok (.ireturn, 1) := by decide +kernel
theorem dX12_kind_0 : decode cX12_kind 0 = .ok (.aload_n 0, 1) := by decide +kernel
theorem dX12_kind_1 : decode cX12_kind 1 = .ok (.getfield 9, 3) := by decide +kernel
theorem dX12_kind_4 : decode cX12_kind 4 = .ok (.iconst 2, 1) := by decide +kernel
theorem dX12_kind_5 : decode cX12_kind 5 = .ok (.iconst 2, 1) := by decide +kernel
theorem dX12_kind_6 : decode cX12_kind 6 = .ok (.iload_n 1, 1) := by decide +kernel
theorem dX12_kind_7 : decode cX12_kind 7 = .ok (.imul, 1) := by decide +kernel
theorem dX12_kind_8 : decode cX12_kind 8 = .ok (.iadd, 1) := by decide +kernel
theorem dX12_kind_9 : decode cX12_kind 9 = .ok (.iaload, 1) := by decide +kernel
theorem dX12_kind_10 : decode cX12_kind 10 = .ok (.ireturn, 1) := by decide +kernel
theorem dX12_figure_0 : decode cX12_figure 0 = .ok (.aload_n 0, 1) := by decide +kernel
theorem dX12_figure_1 : decode cX12_figure 1 = .ok (.getfield 9, 3) := by decide +kernel
theorem dX12_figure_4 : decode cX12_figure 4 = .ok (.iconst 2, 1) := by decide +kernel
theorem dX12_figure_5 : decode cX12_figure 5 = .ok (.iconst 2, 1) := by decide +kernel
theorem dX12_figure_6 : decode cX12_figure 6 = .ok (.iload_n 1, 1) := by decide +kernel
theorem dX12_figure_7 : decode cX12_figure 7 = .ok (.imul, 1) := by decide +kernel
theorem dX12_figure_8 : decode cX12_figure 8 = .ok (.iadd, 1) := by decide +kernel
theorem dX12_figure_9 : decode cX12_figure 9 = .ok (.iconst 1, 1) := by decide +kernel
theorem dX12_figure_10 : decode cX12_figure 10 = .ok (.iadd, 1) := by decide +kernel
theorem dX12_figure_11 : decode cX12_figure 11 = .ok (.iaload, 1) := by decide +kernel
theorem dX12_figure_12 : decode cX12_figure 12 = .ok (.ireturn, 1) := by decide +kernel
theorem dX12_setDrawer_0 : decode cX12_setDrawer 0 = .ok (.aload_n 0, 1) := by decide +kernel
theorem dX12_setDrawer_1 : decode cX12_setDrawer 1 = .ok (.getfield 9, 3) := by decide +kernel
theorem dX12_setDrawer_4 : decode cX12_setDrawer 4 = .ok (.iconst 2, 1) := by decide +kernel
theorem dX12_setDrawer_5 : decode cX12_setDrawer 5 = .ok (.iconst 2, 1) := by decide +kernel
theorem dX12_setDrawer_6 : decode cX12_setDrawer 6 = .ok (.iload_n 1, 1) := by decide +kernel
theorem dX12_setDrawer_7 : decode cX12_setDrawer 7 = .ok (.imul, 1) := by decide +kernel
theorem dX12_setDrawer_8 : decode cX12_setDrawer 8 = .ok (.iadd, 1) := by decide +kernel
theorem dX12_setDrawer_9 : decode cX12_setDrawer 9 = .ok (.iload_n 2, 1) := by decide +kernel
theorem dX12_setDrawer_10 : decode cX12_setDrawer 10 = .ok (.iastore, 1) := by decide +kernel
theorem dX12_setDrawer_11 : decode cX12_setDrawer 11 = .ok (.aload_n 0, 1) := by decide +kernel
theorem dX12_setDrawer_12 : decode cX12_setDrawer 12 = .ok (.getfield 9, 3) := by decide +kernel
theorem dX12_setDrawer_15 : decode cX12_setDrawer 15 = .ok (.iconst 2, 1) := by decide +kernel
theorem dX12_setDrawer_16 : decode cX12_setDrawer 16 = .ok (.iconst 2, 1) := by decide +kernel
theorem dX12_setDrawer_17 : decode cX12_setDrawer 17 = .ok (.iload_n 1, 1) := by decide +kernel
theorem dX12_setDrawer_18 : decode cX12_setDrawer 18 = .ok (.imul, 1) := by decide +kernel
theorem dX12_setDrawer_19 : decode cX12_setDrawer 19 = .ok (.iadd, 1) := by decide +kernel
theorem dX12_setDrawer_20 : decode cX12_setDrawer 20 = .ok (.iconst 1, 1) := by decide +kernel
theorem dX12_setDrawer_21 : decode cX12_setDrawer 21 = .ok (.iadd, 1) := by decide +kernel
theorem dX12_setDrawer_22 : decode cX12_setDrawer 22 = .ok (.iload_n 3, 1) := by decide +kernel
theorem dX12_setDrawer_23 : decode cX12_setDrawer 23 = .ok (.iastore, 1) := by decide +kernel
theorem dX12_setDrawer_24 : decode cX12_setDrawer 24 = .ok (.return_, 1) := by decide +kernel
theorem dX12_lays_0 : decode cX12_lays 0 = .ok (.iconst 0, 1) := by decide +kernel
theorem dX12_lays_1 : decode cX12_lays 1 = .ok (.istore_n 2, 1) := by decide +kernel
theorem dX12_lays_2 : decode cX12_lays 2 = .ok (.iload_n 2, 1) := by decide +kernel
theorem dX12_lays_3 : decode cX12_lays 3 = .ok (.bipush 14, 2) := by decide +kernel
theorem dX12_lays_5 : decode cX12_lays 5 = .ok (.if_icmp .ge 15, 3) := by decide +kernel
theorem dX12_lays_8 : decode cX12_lays 8 = .ok (.aload_n 1, 1) := by decide +kernel
theorem dX12_lays_9 : decode cX12_lays 9 = .ok (.iload_n 2, 1) := by decide +kernel
theorem dX12_lays_10 : decode cX12_lays 10 = .ok (.aload_n 0, 1) := by decide +kernel
theorem dX12_lays_11 : decode cX12_lays 11 = .ok (.iload_n 2, 1) := by decide +kernel
theorem dX12_lays_12 : decode cX12_lays 12 = .ok (.iaload, 1) := by decide +kernel
theorem dX12_lays_13 : decode cX12_lays 13 = .ok (.iastore, 1) := by decide +kernel
theorem dX12_lays_14 : decode cX12_lays 14 = .ok (.iinc 2 1, 3) := by decide +kernel
theorem dX12_lays_17 : decode cX12_lays 17 = .ok (.goto (-15), 3) := by decide +kernel
theorem dX12_lays_20 : decode cX12_lays 20 = .ok (.return_, 1) := by decide +kernel
set_option maxRecDepth 20000 in
theorem ggX12_begins_X12_lays : GoodIn wsX12_begins wsX12_lays := goodIn_r _ [6] (by decide +kernel) (by decide +kernel)
set_option maxRecDepth 20000 in
theorem gX12_begins_X12_lays : GoodIn wsX12_begins (va_wsS RX12 63 yX12_lays wsX12_lays) := goodIn_app (goodIn_of _ (by decide +kernel)) ggX12_begins_X12_lays
theorem dX12_begins_0 : decode cX12_begins 0 = .ok (.aload_n 0, 1) := by decide +kernel
theorem dX12_begins_1 : decode cX12_begins 1 = .ok (.getfield 9, 3) := by decide +kernel
theorem dX12_begins_4 : decode cX12_begins 4 = .ok (.aload_n 0, 1) := by decide +kernel
theorem dX12_begins_5 : decode cX12_begins 5 = .ok (.getfield 19, 3) := by decide +kernel
theorem dX12_begins_8 : decode cX12_begins 8 = .ok (.invokestatic 63, 3) := by decide +kernel
theorem dX12_begins_11 : decode cX12_begins 11 = .ok (.return_, 1) := by decide +kernel
set_option maxRecDepth 20000 in
theorem ggX12_ends_X12_lays : GoodIn wsX12_ends wsX12_lays := goodIn_r _ [6] (by decide +kernel) (by decide +kernel)
set_option maxRecDepth 20000 in
theorem gX12_ends_X12_lays : GoodIn wsX12_ends (va_wsS RX12 63 yX12_lays wsX12_lays) := goodIn_app (goodIn_of _ (by decide +kernel)) ggX12_ends_X12_lays
theorem dX12_ends_0 : decode cX12_ends 0 = .ok (.aload_n 0, 1) := by decide +kernel
theorem dX12_ends_1 : decode cX12_ends 1 = .ok (.getfield 19, 3) := by decide +kernel
theorem dX12_ends_4 : decode cX12_ends 4 = .ok (.aload_n 0, 1) := by decide +kernel
theorem dX12_ends_5 : decode cX12_ends 5 = .ok (.getfield 9, 3) := by decide +kernel
theorem dX12_ends_8 : decode cX12_ends 8 = .ok (.invokestatic 63, 3) := by decide +kernel
theorem dX12_ends_11 : decode cX12_ends 11 = .ok (.return_, 1) := by decide +kernel
theorem dX12_bits_0 : decode cX12_bits 0 = .ok (.iconst 0, 1) := by decide +kernel
theorem dX12_bits_1 : decode cX12_bits 1 = .ok (.istore_n 1, 1) := by decide +kernel
theorem dX12_bits_2 : decode cX12_bits 2 = .ok (.iload_n 0, 1) := by decide +kernel
theorem dX12_bits_3 : decode cX12_bits 3 = .ok (.istore_n 2, 1) := by decide +kernel
theorem dX12_bits_4 : decode cX12_bits 4 = .ok (.iload_n 2, 1) := by decide +kernel
theorem dX12_bits_5 : decode cX12_bits 5 = .ok (.ifCond .le 16, 3) := by decide +kernel
theorem dX12_bits_8 : decode cX12_bits 8 = .ok (.iload_n 1, 1) := by decide +kernel
theorem dX12_bits_9 : decode cX12_bits 9 = .ok (.iload_n 2, 1) := by decide +kernel
theorem dX12_bits_10 : decode cX12_bits 10 = .ok (.iconst 1, 1) := by decide +kernel
theorem dX12_bits_11 : decode cX12_bits 11 = .ok (.iand, 1) := by decide +kernel
theorem dX12_bits_12 : decode cX12_bits 12 = .ok (.iadd, 1) := by decide +kernel
theorem dX12_bits_13 : decode cX12_bits 13 = .ok (.istore_n 1, 1) := by decide +kernel
theorem dX12_bits_14 : decode cX12_bits 14 = .ok (.iload_n 2, 1) := by decide +kernel
theorem dX12_bits_15 : decode cX12_bits 15 = .ok (.iconst 1, 1) := by decide +kernel
theorem dX12_bits_16 : decode cX12_bits 16 = .ok (.ishr, 1) := by decide +kernel
theorem dX12_bits_17 : decode cX12_bits 17 = .ok (.istore_n 2, 1) := by decide +kernel
theorem dX12_bits_18 : decode cX12_bits 18 = .ok (.goto (-14), 3) := by decide +kernel
theorem dX12_bits_21 : decode cX12_bits 21 = .ok (.iload_n 1, 1) := by decide +kernel
theorem dX12_bits_22 : decode cX12_bits 22 = .ok (.ireturn, 1) := by decide +kernel
theorem dX12_byJoiner_0 : decode cX12_byJoiner 0 = .ok (.iload_n 0, 1) := by decide +kernel
theorem dX12_byJoiner_1 : decode cX12_byJoiner 1 = .ok (.ifCond .eq 20, 3) := by decide +kernel
theorem dX12_byJoiner_4 : decode cX12_byJoiner 4 = .ok (.iload_n 1, 1) := by decide +kernel
theorem dX12_byJoiner_5 : decode cX12_byJoiner 5 = .ok (.iconst 1, 1) := by decide +kernel
theorem dX12_byJoiner_6 : decode cX12_byJoiner 6 = .ok (.iload_n 0, 1) := by decide +kernel
theorem dX12_byJoiner_7 : decode cX12_byJoiner 7 = .ok (.ishl, 1) := by decide +kernel
theorem dX12_byJoiner_8 : decode cX12_byJoiner 8 = .ok (.iconst 1, 1) := by decide +kernel
theorem dX12_byJoiner_9 : decode cX12_byJoiner 9 = .ok (.isub, 1) := by decide +kernel
theorem dX12_byJoiner_10 : decode cX12_byJoiner 10 = .ok (.iand, 1) := by decide +kernel
theorem dX12_byJoiner_11 : decode cX12_byJoiner 11 = .ok (.iconst 1, 1) := by decide +kernel
theorem dX12_byJoiner_12 : decode cX12_byJoiner 12 = .ok (.iload_n 0, 1) := by decide +kernel
theorem dX12_byJoiner_13 : decode cX12_byJoiner 13 = .ok (.iconst 1, 1) := by decide +kernel
theorem dX12_byJoiner_14 : decode cX12_byJoiner 14 = .ok (.isub, 1) := by decide +kernel
theorem dX12_byJoiner_15 : decode cX12_byJoiner 15 = .ok (.ishl, 1) := by decide +kernel
theorem dX12_byJoiner_16 : decode cX12_byJoiner 16 = .ok (.iconst 1, 1) := by decide +kernel
theorem dX12_byJoiner_17 : decode cX12_byJoiner 17 = .ok (.isub, 1) := by decide +kernel
theorem dX12_byJoiner_18 : decode cX12_byJoiner 18 = .ok (.if_icmp .ne 7, 3) := by decide +kernel
theorem dX12_byJoiner_21 : decode cX12_byJoiner 21 = .ok (.iconst 1, 1) := by decide +kernel
theorem dX12_byJoiner_22 : decode cX12_byJoiner 22 = .ok (.goto 4, 3) := by decide +kernel
theorem dX12_byJoiner_25 : decode cX12_byJoiner 25 = .ok (.iconst 0, 1) := by decide +kernel
theorem dX12_byJoiner_26 : decode cX12_byJoiner 26 = .ok (.ireturn, 1) := by decide +kernel
theorem dX12_underShut_0 : decode cX12_underShut 0 = .ok (.iload_n 0, 1) := by decide +kernel
theorem dX12_underShut_1 : decode cX12_underShut 1 = .ok (.ifCond .eq 13, 3) := by decide +kernel
theorem dX12_underShut_4 : decode cX12_underShut 4 = .ok (.iload_n 1, 1) := by decide +kernel
theorem dX12_underShut_5 : decode cX12_underShut 5 = .ok (.iload_n 0, 1) := by decide +kernel
theorem dX12_underShut_6 : decode cX12_underShut 6 = .ok (.iconst 1, 1) := by decide +kernel
theorem dX12_underShut_7 : decode cX12_underShut 7 = .ok (.isub, 1) := by decide +kernel
theorem dX12_underShut_8 : decode cX12_underShut 8 = .ok (.ishr, 1) := by decide +kernel
theorem dX12_underShut_9 : decode cX12_underShut 9 = .ok (.iconst 1, 1) := by decide +kernel
theorem dX12_underShut_10 : decode cX12_underShut 10 = .ok (.iand, 1) := by decide +kernel
theorem dX12_underShut_11 : decode cX12_underShut 11 = .ok (.ifCond .ne 7, 3) := by decide +kernel
theorem dX12_underShut_14 : decode cX12_underShut 14 = .ok (.iconst 1, 1) := by decide +kernel
theorem dX12_underShut_15 : decode cX12_underShut 15 = .ok (.goto 4, 3) := by decide +kernel
theorem dX12_underShut_18 : decode cX12_underShut 18 = .ok (.iconst 0, 1) := by decide +kernel
theorem dX12_underShut_19 : decode cX12_underShut 19 = .ok (.ireturn, 1) := by decide +kernel
set_option maxRecDepth 20000 in
theorem ggX12_may_X12_figure : GoodIn wsX12_may wsX12_figure := goodIn_r _ [5, 6, 20, 21, 22, 23, 24, 25, 26, 27, 28, 29, 30, 31, 32, 33, 34, 35, 36, 37, 38] (by decide +kernel) (by decide +kernel)
set_option maxRecDepth 20000 in
theorem gX12_may_X12_figure : GoodIn wsX12_may (wsV RX12 67 RX12 yX12_figure wsX12_figure) := goodIn_app (goodIn_of _ (by decide +kernel)) ggX12_may_X12_figure
set_option maxRecDepth 20000 in
theorem ggX12_may_X12_kind : GoodIn wsX12_may wsX12_kind := goodIn_r _ [10, 6, 20, 21, 22, 23, 24, 25, 26, 27, 28, 29, 30, 31, 32, 33, 34, 35, 36, 37, 38] (by decide +kernel) (by decide +kernel)
set_option maxRecDepth 20000 in
theorem gX12_may_X12_kind : GoodIn wsX12_may (wsV RX12 71 RX12 yX12_kind wsX12_kind) := goodIn_app (goodIn_of _ (by decide +kernel)) ggX12_may_X12_kind
set_option maxRecDepth 20000 in
theorem ggX12_may_X12_underShut : GoodIn wsX12_may wsX12_underShut := goodIn_r _ [13] (by decide +kernel) (by decide +kernel)
set_option maxRecDepth 20000 in
theorem gX12_may_X12_underShut : GoodIn wsX12_may (va_wsS RX12 74 yX12_underShut wsX12_underShut) := goodIn_app (goodIn_of _ (by decide +kernel)) ggX12_may_X12_underShut
set_option maxRecDepth 20000 in
theorem ggX12_may_X12_byJoiner : GoodIn wsX12_may wsX12_byJoiner := goodIn_r _ [16] (by decide +kernel) (by decide +kernel)
set_option maxRecDepth 20000 in
theorem gX12_may_X12_byJoiner : GoodIn wsX12_may (va_wsS RX12 78 yX12_byJoiner wsX12_byJoiner) := goodIn_app (goodIn_of _ (by decide +kernel)) ggX12_may_X12_byJoiner
set_option maxRecDepth 20000 in
theorem ggX12_may_X12_bits : GoodIn wsX12_may wsX12_bits := goodIn_r _ [19] (by decide +kernel) (by decide +kernel)
set_option maxRecDepth 20000 in
theorem gX12_may_X12_bits : GoodIn wsX12_may (va_wsS RX12 81 yX12_bits wsX12_bits) := goodIn_app (goodIn_of _ (by decide +kernel)) ggX12_may_X12_bits
theorem dX12_may_0 : decode cX12_may 0 = .ok (.aload_n 0, 1) := by decide +kernel
theorem dX12_may_1 : decode cX12_may 1 = .ok (.iload_n 1, 1) := by decide +kernel
theorem dX12_may_2 : decode cX12_may 2 = .ok (.invokevirtual 67, 3) := by decide +kernel
theorem dX12_may_5 : decode cX12_may 5 = .ok (.istore_n 3, 1) := by decide +kernel
theorem dX12_may_6 : decode cX12_may 6 = .ok (.iload_n 2, 1) := by decide +kernel
theorem dX12_may_7 : decode cX12_may 7 = .ok (.iload_n 1, 1) := by decide +kernel
theorem dX12_may_8 : decode cX12_may 8 = .ok (.ishr, 1) := by decide +kernel
theorem dX12_may_9 : decode cX12_may 9 = .ok (.iconst 1, 1) := by decide +kernel
theorem dX12_may_10 : decode cX12_may 10 = .ok (.iand, 1) := by decide +kernel
theorem dX12_may_11 : decode cX12_may 11 = .ok (.iconst 1, 1) := by decide +kernel
theorem dX12_may_12 : decode cX12_may 12 = .ok (.if_icmp .ne 7, 3) := by decide +kernel
theorem dX12_may_15 : decode cX12_may 15 = .ok (.iconst 1, 1) := by decide +kernel
theorem dX12_may_16 : decode cX12_may 16 = .ok (.goto 4, 3) := by decide +kernel
theorem dX12_may_19 : decode cX12_may 19 = .ok (.iconst 0, 1) := by decide +kernel
theorem dX12_may_20 : decode cX12_may 20 = .ok (.istore 4, 2) := by decide +kernel
theorem dX12_may_22 : decode cX12_may 22 = .ok (.aload_n 0, 1) := by decide +kernel
theorem dX12_may_23 : decode cX12_may 23 = .ok (.iload_n 1, 1) := by decide +kernel
theorem dX12_may_24 : decode cX12_may 24 = .ok (.invokevirtual 71, 3) := by decide +kernel
theorem dX12_may_27 : decode cX12_may 27 = .ok (.tableswitch 137 1 7 #[41, 43, 45, 51, 73, 95, 118], 41) := by decide +kernel
theorem dX12_may_68 : decode cX12_may 68 = .ok (.iconst 1, 1) := by decide +kernel
theorem dX12_may_69 : decode cX12_may 69 = .ok (.ireturn, 1) := by decide +kernel
theorem dX12_may_70 : decode cX12_may 70 = .ok (.iconst 0, 1) := by decide +kernel
theorem dX12_may_71 : decode cX12_may 71 = .ok (.ireturn, 1) := by decide +kernel
theorem dX12_may_72 : decode cX12_may 72 = .ok (.iload_n 1, 1) := by decide +kernel
theorem dX12_may_73 : decode cX12_may 73 = .ok (.iload_n 2, 1) := by decide +kernel
theorem dX12_may_74 : decode cX12_may 74 = .ok (.invokestatic 74, 3) := by decide +kernel
theorem dX12_may_77 : decode cX12_may 77 = .ok (.ireturn, 1) := by decide +kernel
theorem dX12_may_78 : decode cX12_may 78 = .ok (.iload_n 1, 1) := by decide +kernel
theorem dX12_may_79 : decode cX12_may 79 = .ok (.iload_n 2, 1) := by decide +kernel
theorem dX12_may_80 : decode cX12_may 80 = .ok (.invokestatic 78, 3) := by decide +kernel
theorem dX12_may_83 : decode cX12_may 83 = .ok (.ifCond .eq 15, 3) := by decide +kernel
theorem dX12_may_86 : decode cX12_may 86 = .ok (.iload_n 2, 1) := by decide +kernel
theorem dX12_may_87 : decode cX12_may 87 = .ok (.iload_n 3, 1) := by decide +kernel
theorem dX12_may_88 : decode cX12_may 88 = .ok (.ishr, 1) := by decide +kernel
theorem dX12_may_89 : decode cX12_may 89 = .ok (.iconst 1, 1) := by decide +kernel
theorem dX12_may_90 : decode cX12_may 90 = .ok (.iand, 1) := by decide +kernel
theorem dX12_may_91 : decode cX12_may 91 = .ok (.ifCond .ne 7, 3) := by decide +kernel
theorem dX12_may_94 : decode cX12_may 94 = .ok (.iconst 1, 1) := by decide +kernel
theorem dX12_may_95 : decode cX12_may 95 = .ok (.goto 4, 3) := by decide +kernel
theorem dX12_may_98 : decode cX12_may 98 = .ok (.iconst 0, 1) := by decide +kernel
theorem dX12_may_99 : decode cX12_may 99 = .ok (.ireturn, 1) := by decide +kernel
theorem dX12_may_100 : decode cX12_may 100 = .ok (.iload_n 1, 1) := by decide +kernel
theorem dX12_may_101 : decode cX12_may 101 = .ok (.iload_n 2, 1) := by decide +kernel
theorem dX12_may_102 : decode cX12_may 102 = .ok (.invokestatic 74, 3) := by decide +kernel
theorem dX12_may_105 : decode cX12_may 105 = .ok (.ifCond .ne 11, 3) := by decide +kernel
theorem dX12_may_108 : decode cX12_may 108 = .ok (.iload_n 2, 1) := by decide +kernel
theorem dX12_may_109 : decode cX12_may 109 = .ok (.invokestatic 81, 3) := by decide +kernel
theorem dX12_may_112 : decode cX12_may 112 = .ok (.iload_n 3, 1) := by decide +kernel
theorem dX12_may_113 : decode cX12_may 113 = .ok (.if_icmp .lt 7, 3) := by decide +kernel
theorem dX12_may_116 : decode cX12_may 116 = .ok (.iconst 1, 1) := by decide +kernel
theorem dX12_may_117 : decode cX12_may 117 = .ok (.goto 4, 3) := by decide +kernel
theorem dX12_may_120 : decode cX12_may 120 = .ok (.iconst 0, 1) := by decide +kernel
theorem dX12_may_121 : decode cX12_may 121 = .ok (.ireturn, 1) := by decide +kernel
theorem dX12_may_122 : decode cX12_may 122 = .ok (.iload_n 2, 1) := by decide +kernel
theorem dX12_may_123 : decode cX12_may 123 = .ok (.iconst 1, 1) := by decide +kernel
theorem dX12_may_124 : decode cX12_may 124 = .ok (.iload_n 1, 1) := by decide +kernel
theorem dX12_may_125 : decode cX12_may 125 = .ok (.ishl, 1) := by decide +kernel
theorem dX12_may_126 : decode cX12_may 126 = .ok (.iconst (-1), 1) := by decide +kernel
theorem dX12_may_127 : decode cX12_may 127 = .ok (.ixor, 1) := by decide +kernel
theorem dX12_may_128 : decode cX12_may 128 = .ok (.iand, 1) := by decide +kernel
theorem dX12_may_129 : decode cX12_may 129 = .ok (.invokestatic 81, 3) := by decide +kernel
theorem dX12_may_132 : decode cX12_may 132 = .ok (.iload_n 3, 1) := by decide +kernel
theorem dX12_may_133 : decode cX12_may 133 = .ok (.iadd, 1) := by decide +kernel
theorem dX12_may_134 : decode cX12_may 134 = .ok (.iconst 2, 1) := by decide +kernel
theorem dX12_may_135 : decode cX12_may 135 = .ok (.irem, 1) := by decide +kernel
theorem dX12_may_136 : decode cX12_may 136 = .ok (.ifCond .ne 7, 3) := by decide +kernel
theorem dX12_may_139 : decode cX12_may 139 = .ok (.iconst 1, 1) := by decide +kernel
theorem dX12_may_140 : decode cX12_may 140 = .ok (.goto 4, 3) := by decide +kernel
theorem dX12_may_143 : decode cX12_may 143 = .ok (.iconst 0, 1) := by decide +kernel
theorem dX12_may_144 : decode cX12_may 144 = .ok (.ireturn, 1) := by decide +kernel
theorem dX12_may_145 : decode cX12_may 145 = .ok (.iload 4, 2) := by decide +kernel
theorem dX12_may_147 : decode cX12_may 147 = .ok (.ifCond .ne 11, 3) := by decide +kernel
theorem dX12_may_150 : decode cX12_may 150 = .ok (.iload_n 1, 1) := by decide +kernel
theorem dX12_may_151 : decode cX12_may 151 = .ok (.iload_n 2, 1) := by decide +kernel
theorem dX12_may_152 : decode cX12_may 152 = .ok (.invokestatic 78, 3) := by decide +kernel
theorem dX12_may_155 : decode cX12_may 155 = .ok (.ifCond .eq 7, 3) := by decide +kernel
theorem dX12_may_158 : decode cX12_may 158 = .ok (.iconst 1, 1) := by decide +kernel
theorem dX12_may_159 : decode cX12_may 159 = .ok (.goto 4, 3) := by decide +kernel
theorem dX12_may_162 : decode cX12_may 162 = .ok (.iconst 0, 1) := by decide +kernel
theorem dX12_may_163 : decode cX12_may 163 = .ok (.ireturn, 1) := by decide +kernel
theorem dX12_may_164 : decode cX12_may 164 = .ok (.iload_n 1, 1) := by decide +kernel
theorem dX12_may_165 : decode cX12_may 165 = .ok (.iload_n 2, 1) := by decide +kernel
theorem dX12_may_166 : decode cX12_may 166 = .ok (.invokestatic 78, 3) := by decide +kernel
theorem dX12_may_169 : decode cX12_may 169 = .ok (.ireturn, 1) := by decide +kernel
set_option maxRecDepth 20000 in
theorem ggX12_allMay_X12_may : GoodIn wsX12_allMay wsX12_may := goodIn_r _ [6, 7, 8, 9, 5, 10, 1, 11, 12, 13, 14, 15, 16, 17, 18, 19, 20, 21, 22, 23, 24, 25, 26, 27, 28, 29, 30, 31, 32, 33, 34, 35, 36, 37, 38, 39, 40, 41, 42] (by decide +kernel) (by decide +kernel)
set_option maxRecDepth 20000 in
theorem gX12_allMay_X12_may : GoodIn wsX12_allMay (wsV RX12 84 RX12 yX12_may wsX12_may) := goodIn_app (goodIn_of _ (by decide +kernel)) ggX12_allMay_X12_may
theorem dX12_allMay_0 : decode cX12_allMay 0 = .ok (.iconst 0, 1) := by decide +kernel
theorem dX12_allMay_1 : decode cX12_allMay 1 = .ok (.istore_n 2, 1) := by decide +kernel
theorem dX12_allMay_2 : decode cX12_allMay 2 = .ok (.iconst 0, 1) := by decide +kernel
theorem dX12_allMay_3 : decode cX12_allMay 3 = .ok (.istore_n 3, 1) := by decide +kernel
theorem dX12_allMay_4 : decode cX12_allMay 4 = .ok (.iload_n 3, 1) := by decide +kernel
theorem dX12_allMay_5 : decode cX12_allMay 5 = .ok (.aload_n 0, 1) := by decide +kernel
theorem dX12_allMay_6 : decode cX12_allMay 6 = .ok (.getfield 9, 3) := by decide +kernel
theorem dX12_allMay_9 : decode cX12_allMay 9 = .ok (.iconst 0, 1) := by decide +kernel
theorem dX12_allMay_10 : decode cX12_allMay 10 = .ok (.iaload, 1) := by decide +kernel
theorem dX12_allMay_11 : decode cX12_allMay 11 = .ok (.if_icmp .ge 28, 3) := by decide +kernel
theorem dX12_allMay_14 : decode cX12_allMay 14 = .ok (.iload_n 2, 1) := by decide +kernel
theorem dX12_allMay_15 : decode cX12_allMay 15 = .ok (.aload_n 0, 1) := by decide +kernel
theorem dX12_allMay_16 : decode cX12_allMay 16 = .ok (.iload_n 3, 1) := by decide +kernel
theorem dX12_allMay_17 : decode cX12_allMay 17 = .ok (.iload_n 1, 1) := by decide +kernel
theorem dX12_allMay_18 : decode cX12_allMay 18 = .ok (.invokevirtual 84, 3) := by decide +kernel
theorem dX12_allMay_21 : decode cX12_allMay 21 = .ok (.ifCond .eq 9, 3) := by decide +kernel
theorem dX12_allMay_24 : decode cX12_allMay 24 = .ok (.iconst 1, 1) := by decide +kernel
theorem dX12_allMay_25 : decode cX12_allMay 25 = .ok (.iload_n 3, 1) := by decide +kernel
theorem dX12_allMay_26 : decode cX12_allMay 26 = .ok (.ishl, 1) := by decide +kernel
theorem dX12_allMay_27 : decode cX12_allMay 27 = .ok (.goto 4, 3) := by decide +kernel
theorem dX12_allMay_30 : decode cX12_allMay 30 = .ok (.iconst 0, 1) := by decide +kernel
theorem dX12_allMay_31 : decode cX12_allMay 31 = .ok (.ior, 1) := by decide +kernel
theorem dX12_allMay_32 : decode cX12_allMay 32 = .ok (.istore_n 2, 1) := by decide +kernel
theorem dX12_allMay_33 : decode cX12_allMay 33 = .ok (.iinc 3 1, 3) := by decide +kernel
theorem dX12_allMay_36 : decode cX12_allMay 36 = .ok (.goto (-32), 3) := by decide +kernel
theorem dX12_allMay_39 : decode cX12_allMay 39 = .ok (.iload_n 2, 1) := by decide +kernel
theorem dX12_allMay_40 : decode cX12_allMay 40 = .ok (.ireturn, 1) := by decide +kernel
set_option maxRecDepth 20000 in
theorem ggX12_pulls_X12_may : GoodIn wsX12_pulls wsX12_may := goodIn_r _ [6, 7, 8, 9, 5, 10, 1, 11, 12, 13, 14, 15, 16, 17, 18, 19, 20, 21, 22, 23, 24, 25, 26, 27, 28, 29, 30, 31, 32, 33, 34, 35, 36, 37, 38, 39, 40, 41, 42] (by decide +kernel) (by decide +kernel)
set_option maxRecDepth 20000 in
theorem gX12_pulls_X12_may : GoodIn wsX12_pulls (wsV RX12 84 RX12 yX12_may wsX12_may) := goodIn_app (goodIn_of _ (by decide +kernel)) ggX12_pulls_X12_may
theorem dX12_pulls_0 : decode cX12_pulls 0 = .ok (.aload_n 0, 1) := by decide +kernel
theorem dX12_pulls_1 : decode cX12_pulls 1 = .ok (.iload_n 1, 1) := by decide +kernel
theorem dX12_pulls_2 : decode cX12_pulls 2 = .ok (.aload_n 0, 1) := by decide +kernel
theorem dX12_pulls_3 : decode cX12_pulls 3 = .ok (.getfield 9, 3) := by decide +kernel
theorem dX12_pulls_6 : decode cX12_pulls 6 = .ok (.iconst 1, 1) := by decide +kernel
theorem dX12_pulls_7 : decode cX12_pulls 7 = .ok (.iaload, 1) := by decide +kernel
theorem dX12_pulls_8 : decode cX12_pulls 8 = .ok (.invokevirtual 84, 3) := by decide +kernel
theorem dX12_pulls_11 : decode cX12_pulls 11 = .ok (.ifCond .ne 5, 3) := by decide +kernel
theorem dX12_pulls_14 : decode cX12_pulls 14 = .ok (.iconst 0, 1) := by decide +kernel
theorem dX12_pulls_15 : decode cX12_pulls 15 = .ok (.ireturn, 1) := by decide +kernel
theorem dX12_pulls_16 : decode cX12_pulls 16 = .ok (.aload_n 0, 1) := by decide +kernel
theorem dX12_pulls_17 : decode cX12_pulls 17 = .ok (.getfield 9, 3) := by decide +kernel
theorem dX12_pulls_20 : decode cX12_pulls 20 = .ok (.iconst 1, 1) := by decide +kernel
theorem dX12_pulls_21 : decode cX12_pulls 21 = .ok (.dup2, 1) := by decide +kernel
theorem dX12_pulls_22 : decode cX12_pulls 22 = .ok (.iaload, 1) := by decide +kernel
theorem dX12_pulls_23 : decode cX12_pulls 23 = .ok (.iconst 1, 1) := by decide +kernel
theorem dX12_pulls_24 : decode cX12_pulls 24 = .ok (.iload_n 1, 1) := by decide +kernel
theorem dX12_pulls_25 : decode cX12_pulls 25 = .ok (.ishl, 1) := by decide +kernel
theorem dX12_pulls_26 : decode cX12_pulls 26 = .ok (.ixor, 1) := by decide +kernel
theorem dX12_pulls_27 : decode cX12_pulls 27 = .ok (.iastore, 1) := by decide +kernel
theorem dX12_pulls_28 : decode cX12_pulls 28 = .ok (.iconst 1, 1) := by decide +kernel
theorem dX12_pulls_29 : decode cX12_pulls 29 = .ok (.ireturn, 1) := by decide +kernel
theorem dX12_here_0 : decode cX12_here 0 = .ok (.aload_n 0, 1) := by decide +kernel
theorem dX12_here_1 : decode cX12_here 1 = .ok (.getfield 87, 3) := by decide +kernel
theorem dX12_here_4 : decode cX12_here 4 = .ok (.aload_n 0, 1) := by decide +kernel
theorem dX12_here_5 : decode cX12_here 5 = .ok (.getfield 90, 3) := by decide +kernel
theorem dX12_here_8 : decode cX12_here 8 = .ok (.if_icmp .ge 20, 3) := by decide +kernel
theorem dX12_here_11 : decode cX12_here 11 = .ok (.aload_n 0, 1) := by decide +kernel
theorem dX12_here_12 : decode cX12_here 12 = .ok (.getfield 31, 3) := by decide +kernel
theorem dX12_here_15 : decode cX12_here 15 = .ok (.aload_n 0, 1) := by decide +kernel
theorem dX12_here_16 : decode cX12_here 16 = .ok (.getfield 93, 3) := by decide +kernel
theorem dX12_here_19 : decode cX12_here 19 = .ok (.aload_n 0, 1) := by decide +kernel
theorem dX12_here_20 : decode cX12_here 20 = .ok (.getfield 87, 3) := by decide +kernel
theorem dX12_here_23 : decode cX12_here 23 = .ok (.iadd, 1) := by decide +kernel
theorem dX12_here_24 : decode cX12_here 24 = .ok (.iaload, 1) := by decide +kernel
theorem dX12_here_25 : decode cX12_here 25 = .ok (.goto 6, 3) := by decide +kernel
theorem dX12_here_28 : decode cX12_here 28 = .ok (.sipush (-1000), 3) := by decide +kernel
theorem dX12_here_31 : decode cX12_here 31 = .ok (.ireturn, 1) := by decide +kernel
set_option maxRecDepth 20000 in
theorem ggX12_readsDigits_X12_here : GoodIn wsX12_readsDigits wsX12_here := goodIn_r _ [9, 4, 10, 11, 12, 16, 17, 18, 19, 20, 21, 22, 23, 24, 25, 26, 27, 28, 29, 30, 31, 32, 33, 34] (by decide +kernel) (by decide +kernel)
set_option maxRecDepth 20000 in
theorem gX12_readsDigits_X12_here : GoodIn wsX12_readsDigits (wsV RX12 96 RX12 yX12_here wsX12_here) := goodIn_app (goodIn_of _ (by decide +kernel)) ggX12_readsDigits_X12_here
set_option maxRecDepth 20000 in
theorem ggX12_readsDigits_X12_isIn : GoodIn wsX12_readsDigits wsX12_isIn := goodIn_r _ [15] (by decide +kernel) (by decide +kernel)
set_option maxRecDepth 20000 in
theorem gX12_readsDigits_X12_isIn : GoodIn wsX12_readsDigits (va_wsS RX12 55 yX12_isIn wsX12_isIn) := goodIn_app (goodIn_of _ (by decide +kernel)) ggX12_readsDigits_X12_isIn
theorem dX12_readsDigits_0 : decode cX12_readsDigits 0 = .ok (.iconst 0, 1) := by decide +kernel
theorem dX12_readsDigits_1 : decode cX12_readsDigits 1 = .ok (.istore_n 2, 1) := by decide +kernel
theorem dX12_readsDigits_2 : decode cX12_readsDigits 2 = .ok (.iload_n 2, 1) := by decide +kernel
theorem dX12_readsDigits_3 : decode cX12_readsDigits 3 = .ok (.iload_n 1, 1) := by decide +kernel
theorem dX12_readsDigits_4 : decode cX12_readsDigits 4 = .ok (.if_icmp .ge 51, 3) := by decide +kernel
theorem dX12_readsDigits_7 : decode cX12_readsDigits 7 = .ok (.aload_n 0, 1) := by decide +kernel
theorem dX12_readsDigits_8 : decode cX12_readsDigits 8 = .ok (.invokevirtual 96, 3) := by decide +kernel
theorem dX12_readsDigits_11 : decode cX12_readsDigits 11 = .ok (.i2l, 1) := by decide +kernel
theorem dX12_readsDigits_12 : decode cX12_readsDigits 12 = .ok (.ldc2_w 99, 3) := by decide +kernel
theorem dX12_readsDigits_15 : decode cX12_readsDigits 15 = .ok (.ldc2_w 101, 3) := by decide +kernel
theorem dX12_readsDigits_18 : decode cX12_readsDigits 18 = .ok (.invokestatic 55, 3) := by decide +kernel
theorem dX12_readsDigits_21 : decode cX12_readsDigits 21 = .ok (.ifCond .ne 5, 3) := by decide +kernel
theorem dX12_readsDigits_24 : decode cX12_readsDigits 24 = .ok (.iconst 0, 1) := by decide +kernel
theorem dX12_readsDigits_25 : decode cX12_readsDigits 25 = .ok (.ireturn, 1) := by decide +kernel
theorem dX12_readsDigits_26 : decode cX12_readsDigits 26 = .ok (.aload_n 0, 1) := by decide +kernel
theorem dX12_readsDigits_27 : decode cX12_readsDigits 27 = .ok (.getfield 40, 3) := by decide +kernel
theorem dX12_readsDigits_30 : decode cX12_readsDigits 30 = .ok (.iload_n 2, 1) := by decide +kernel
theorem dX12_readsDigits_31 : decode cX12_readsDigits 31 = .ok (.aload_n 0, 1) := by decide +kernel
theorem dX12_readsDigits_32 : decode cX12_readsDigits 32 = .ok (.invokevirtual 96, 3) := by decide +kernel
theorem dX12_readsDigits_35 : decode cX12_readsDigits 35 = .ok (.bipush 48, 2) := by decide +kernel
theorem dX12_readsDigits_37 : decode cX12_readsDigits 37 = .ok (.isub, 1) := by decide +kernel
theorem dX12_readsDigits_38 : decode cX12_readsDigits 38 = .ok (.iastore, 1) := by decide +kernel
theorem dX12_readsDigits_39 : decode cX12_readsDigits 39 = .ok (.aload_n 0, 1) := by decide +kernel
theorem dX12_readsDigits_40 : decode cX12_readsDigits 40 = .ok (.dup, 1) := by decide +kernel
theorem dX12_readsDigits_41 : decode cX12_readsDigits 41 = .ok (.getfield 87, 3) := by decide +kernel
theorem dX12_readsDigits_44 : decode cX12_readsDigits 44 = .ok (.iconst 1, 1) := by decide +kernel
theorem dX12_readsDigits_45 : decode cX12_readsDigits 45 = .ok (.iadd, 1) := by decide +kernel
theorem dX12_readsDigits_46 : decode cX12_readsDigits 46 = .ok (.putfield 87, 3) := by decide +kernel
theorem dX12_readsDigits_49 : decode cX12_readsDigits 49 = .ok (.iinc 2 1, 3) := by decide +kernel
theorem dX12_readsDigits_52 : decode cX12_readsDigits 52 = .ok (.goto (-50), 3) := by decide +kernel
theorem dX12_readsDigits_55 : decode cX12_readsDigits 55 = .ok (.iconst 1, 1) := by decide +kernel
theorem dX12_readsDigits_56 : decode cX12_readsDigits 56 = .ok (.ireturn, 1) := by decide +kernel
set_option maxRecDepth 20000 in
theorem ggX12_readsStatement_X12_here : GoodIn wsX12_readsStatement wsX12_here := goodIn_r _ [6, 1, 7, 8, 9, 20, 21, 22, 23, 24, 25, 26, 27, 28, 29, 30, 31, 32, 33, 34, 35, 36, 37, 38] (by decide +kernel) (by decide +kernel)
set_option maxRecDepth 20000 in
theorem gX12_readsStatement_X12_here : GoodIn wsX12_readsStatement (wsV RX12 96 RX12 yX12_here wsX12_here) := goodIn_app (goodIn_of _ (by decide +kernel)) ggX12_readsStatement_X12_here
set_option maxRecDepth 20000 in
theorem ggX12_readsStatement_X12_readsDigits : GoodIn wsX12_readsStatement wsX12_readsDigits := goodIn_r _ [13, 14, 15, 16, 1, 2, 3, 4, 5, 6, 7, 8, 9, 17, 18, 19, 20, 21, 22, 23, 24, 25, 26, 27, 28, 29, 30, 31, 32, 33, 34, 35, 36, 37, 38] (by decide +kernel) (by decide +kernel)
set_option maxRecDepth 20000 in
theorem gX12_readsStatement_X12_readsDigits : GoodIn wsX12_readsStatement (wsV RX12 103 RX12 yX12_readsDigits wsX12_readsDigits) := goodIn_app (goodIn_of _ (by decide +kernel)) ggX12_readsStatement_X12_readsDigits
theorem dX12_readsStatement_0 : decode cX12_readsStatement 0 = .ok (.aload_n 0, 1) := by decide +kernel
theorem dX12_readsStatement_1 : decode cX12_readsStatement 1 = .ok (.invokevirtual 96, 3) := by decide +kernel
theorem dX12_readsStatement_4 : decode cX12_readsStatement 4 = .ok (.istore_n 1, 1) := by decide +kernel
theorem dX12_readsStatement_5 : decode cX12_readsStatement 5 = .ok (.iload_n 1, 1) := by decide +kernel
theorem dX12_readsStatement_6 : decode cX12_readsStatement 6 = .ok (.bipush 100, 2) := by decide +kernel
theorem dX12_readsStatement_8 : decode cX12_readsStatement 8 = .ok (.if_icmp .ne 7, 3) := by decide +kernel
theorem dX12_readsStatement_11 : decode cX12_readsStatement 11 = .ok (.iconst 2, 1) := by decide +kernel
theorem dX12_readsStatement_12 : decode cX12_readsStatement 12 = .ok (.goto 26, 3) := by decide +kernel
theorem dX12_readsStatement_15 : decode cX12_readsStatement 15 = .ok (.iload_n 1, 1) := by decide +kernel
theorem dX12_readsStatement_16 : decode cX12_readsStatement 16 = .ok (.bipush 111, 2) := by decide +kernel
theorem dX12_readsStatement_18 : decode cX12_readsStatement 18 = .ok (.if_icmp .eq 15, 3) := by decide +kernel
theorem dX12_readsStatement_21 : decode cX12_readsStatement 21 = .ok (.iload_n 1, 1) := by decide +kernel
theorem dX12_readsStatement_22 : decode cX12_readsStatement 22 = .ok (.bipush 115, 2) := by decide +kernel
theorem dX12_readsStatement_24 : decode cX12_readsStatement 24 = .ok (.if_icmp .eq 9, 3) := by decide +kernel
theorem dX12_readsStatement_27 : decode cX12_readsStatement 27 = .ok (.iload_n 1, 1) := by decide +kernel
theorem dX12_readsStatement_28 : decode cX12_readsStatement 28 = .ok (.bipush 112, 2) := by decide +kernel
theorem dX12_readsStatement_30 : decode cX12_readsStatement 30 = .ok (.if_icmp .ne 7, 3) := by decide +kernel
theorem dX12_readsStatement_33 : decode cX12_readsStatement 33 = .ok (.iconst 1, 1) := by decide +kernel
theorem dX12_readsStatement_34 : decode cX12_readsStatement 34 = .ok (.goto 4, 3) := by decide +kernel
theorem dX12_readsStatement_37 : decode cX12_readsStatement 37 = .ok (.iconst 0, 1) := by decide +kernel
theorem dX12_readsStatement_38 : decode cX12_readsStatement 38 = .ok (.istore_n 2, 1) := by decide +kernel
theorem dX12_readsStatement_39 : decode cX12_readsStatement 39 = .ok (.iload_n 2, 1) := by decide +kernel
theorem dX12_readsStatement_40 : decode cX12_readsStatement 40 = .ok (.ifCond .ne 5, 3) := by decide +kernel
theorem dX12_readsStatement_43 : decode cX12_readsStatement 43 = .ok (.iconst 0, 1) := by decide +kernel
theorem dX12_readsStatement_44 : decode cX12_readsStatement 44 = .ok (.ireturn, 1) := by decide +kernel
theorem dX12_readsStatement_45 : decode cX12_readsStatement 45 = .ok (.aload_n 0, 1) := by decide +kernel
theorem dX12_readsStatement_46 : decode cX12_readsStatement 46 = .ok (.dup, 1) := by decide +kernel
theorem dX12_readsStatement_47 : decode cX12_readsStatement 47 = .ok (.getfield 87, 3) := by decide +kernel
theorem dX12_readsStatement_50 : decode cX12_readsStatement 50 = .ok (.iconst 1, 1) := by decide +kernel
theorem dX12_readsStatement_51 : decode cX12_readsStatement 51 = .ok (.iadd, 1) := by decide +kernel
theorem dX12_readsStatement_52 : decode cX12_readsStatement 52 = .ok (.putfield 87, 3) := by decide +kernel
theorem dX12_readsStatement_55 : decode cX12_readsStatement 55 = .ok (.aload_n 0, 1) := by decide +kernel
theorem dX12_readsStatement_56 : decode cX12_readsStatement 56 = .ok (.iload_n 2, 1) := by decide +kernel
theorem dX12_readsStatement_57 : decode cX12_readsStatement 57 = .ok (.invokevirtual 103, 3) := by decide +kernel
theorem dX12_readsStatement_60 : decode cX12_readsStatement 60 = .ok (.ifCond .eq 12, 3) := by decide +kernel
theorem dX12_readsStatement_63 : decode cX12_readsStatement 63 = .ok (.aload_n 0, 1) := by decide +kernel
theorem dX12_readsStatement_64 : decode cX12_readsStatement 64 = .ok (.invokevirtual 96, 3) := by decide +kernel
theorem dX12_readsStatement_67 : decode cX12_readsStatement 67 = .ok (.bipush 59, 2) := by decide +kernel
theorem dX12_readsStatement_69 : decode cX12_readsStatement 69 = .ok (.if_icmp .eq 5, 3) := by decide +kernel
theorem dX12_readsStatement_72 : decode cX12_readsStatement 72 = .ok (.iconst 0, 1) := by decide +kernel
theorem dX12_readsStatement_73 : decode cX12_readsStatement 73 = .ok (.ireturn, 1) := by decide +kernel
theorem dX12_readsStatement_74 : decode cX12_readsStatement 74 = .ok (.aload_n 0, 1) := by decide +kernel
theorem dX12_readsStatement_75 : decode cX12_readsStatement 75 = .ok (.dup, 1) := by decide +kernel
theorem dX12_readsStatement_76 : decode cX12_readsStatement 76 = .ok (.getfield 87, 3) := by decide +kernel
theorem dX12_readsStatement_79 : decode cX12_readsStatement 79 = .ok (.iconst 1, 1) := by decide +kernel
theorem dX12_readsStatement_80 : decode cX12_readsStatement 80 = .ok (.iadd, 1) := by decide +kernel
theorem dX12_readsStatement_81 : decode cX12_readsStatement 81 = .ok (.putfield 87, 3) := by decide +kernel
theorem dX12_readsStatement_84 : decode cX12_readsStatement 84 = .ok (.iconst 1, 1) := by decide +kernel
theorem dX12_readsStatement_85 : decode cX12_readsStatement 85 = .ok (.ireturn, 1) := by decide +kernel
set_option maxRecDepth 20000 in
theorem ggX12_adds_X12_setDrawer : GoodIn wsX12_adds wsX12_setDrawer := goodIn_r _ [6, 1, 7, 8, 9, 10, 11, 12, 13, 14, 15, 16, 17, 18, 19, 20, 21, 22, 23, 24, 25] (by decide +kernel) (by decide +kernel)
set_option maxRecDepth 20000 in
theorem gX12_adds_X12_setDrawer : GoodIn wsX12_adds (wsV RX12 107 RX12 yX12_setDrawer wsX12_setDrawer) := goodIn_app (goodIn_of _ (by decide +kernel)) ggX12_adds_X12_setDrawer
theorem dX12_adds_0 : decode cX12_adds 0 = .ok (.aload_n 0, 1) := by decide +kernel
theorem dX12_adds_1 : decode cX12_adds 1 = .ok (.getfield 9, 3) := by decide +kernel
theorem dX12_adds_4 : decode cX12_adds 4 = .ok (.iconst 0, 1) := by decide +kernel
theorem dX12_adds_5 : decode cX12_adds 5 = .ok (.iaload, 1) := by decide +kernel
theorem dX12_adds_6 : decode cX12_adds 6 = .ok (.bipush 6, 2) := by decide +kernel
theorem dX12_adds_8 : decode cX12_adds 8 = .ok (.if_icmp .ne 5, 3) := by decide +kernel
theorem dX12_adds_11 : decode cX12_adds 11 = .ok (.iconst 0, 1) := by decide +kernel
theorem dX12_adds_12 : decode cX12_adds 12 = .ok (.ireturn, 1) := by decide +kernel
theorem dX12_adds_13 : decode cX12_adds 13 = .ok (.aload_n 0, 1) := by decide +kernel
theorem dX12_adds_14 : decode cX12_adds 14 = .ok (.aload_n 0, 1) := by decide +kernel
theorem dX12_adds_15 : decode cX12_adds 15 = .ok (.getfield 9, 3) := by decide +kernel
theorem dX12_adds_18 : decode cX12_adds 18 = .ok (.iconst 0, 1) := by decide +kernel
theorem dX12_adds_19 : decode cX12_adds 19 = .ok (.iaload, 1) := by decide +kernel
theorem dX12_adds_20 : decode cX12_adds 20 = .ok (.iload_n 1, 1) := by decide +kernel
theorem dX12_adds_21 : decode cX12_adds 21 = .ok (.iload_n 2, 1) := by decide +kernel
theorem dX12_adds_22 : decode cX12_adds 22 = .ok (.invokevirtual 107, 3) := by decide +kernel
theorem dX12_adds_25 : decode cX12_adds 25 = .ok (.aload_n 0, 1) := by decide +kernel
theorem dX12_adds_26 : decode cX12_adds 26 = .ok (.getfield 9, 3) := by decide +kernel
theorem dX12_adds_29 : decode cX12_adds 29 = .ok (.iconst 0, 1) := by decide +kernel
theorem dX12_adds_30 : decode cX12_adds 30 = .ok (.dup2, 1) := by decide +kernel
theorem dX12_adds_31 : decode cX12_adds 31 = .ok (.iaload, 1) := by decide +kernel
theorem dX12_adds_32 : decode cX12_adds 32 = .ok (.iconst 1, 1) := by decide +kernel
theorem dX12_adds_33 : decode cX12_adds 33 = .ok (.iadd, 1) := by decide +kernel
theorem dX12_adds_34 : decode cX12_adds 34 = .ok (.iastore, 1) := by decide +kernel
theorem dX12_adds_35 : decode cX12_adds 35 = .ok (.iconst 1, 1) := by decide +kernel
theorem dX12_adds_36 : decode cX12_adds 36 = .ok (.ireturn, 1) := by decide +kernel
set_option maxRecDepth 20000 in
theorem ggX12_comesTold_X12_adds : GoodIn wsX12_comesTold wsX12_adds := goodIn_r _ [7, 2, 8, 9, 10, 6, 11, 44, 45, 46, 47, 48, 49, 50, 51, 52, 53, 54, 55, 56, 57, 58, 59, 60, 61, 62] (by decide +kernel) (by decide +kernel)
set_option maxRecDepth 20000 in
theorem gX12_comesTold_X12_adds : GoodIn wsX12_comesTold (wsV RX12 111 RX12 yX12_adds wsX12_adds) := goodIn_app (goodIn_of _ (by decide +kernel)) ggX12_comesTold_X12_adds
set_option maxRecDepth 20000 in
theorem ggX12_comesTold_X12_isDrawer : GoodIn wsX12_comesTold wsX12_isDrawer := goodIn_r _ [15, 2, 16, 17, 6, 18, 44, 45, 46, 47, 48, 49, 50, 51, 52, 53, 54, 55, 56, 57, 58, 59, 60, 61, 62] (by decide +kernel) (by decide +kernel)
set_option maxRecDepth 20000 in
theorem gX12_comesTold_X12_isDrawer : GoodIn wsX12_comesTold (wsV RX12 114 RX12 yX12_isDrawer wsX12_isDrawer) := goodIn_app (goodIn_of _ (by decide +kernel)) ggX12_comesTold_X12_isDrawer
set_option maxRecDepth 20000 in
theorem ggX12_comesTold_X12_pulls : GoodIn wsX12_comesTold wsX12_pulls := goodIn_r _ [22, 2, 23, 24, 25, 6, 26, 27, 28, 29, 30, 31, 32, 33, 34, 35, 36, 37, 38, 39, 40, 41, 42, 43, 44, 45, 46, 47, 48, 49, 50, 51, 52, 53, 54, 55, 56, 57, 58, 59, 60, 61, 62] (by decide +kernel) (by decide +kernel)
set_option maxRecDepth 20000 in
theorem gX12_comesTold_X12_pulls : GoodIn wsX12_comesTold (wsV RX12 117 RX12 yX12_pulls wsX12_pulls) := goodIn_app (goodIn_of _ (by decide +kernel)) ggX12_comesTold_X12_pulls
theorem dX12_comesTold_0 : decode cX12_comesTold 0 = .ok (.aload_n 0, 1) := by decide +kernel
theorem dX12_comesTold_1 : decode cX12_comesTold 1 = .ok (.getfield 40, 3) := by decide +kernel
theorem dX12_comesTold_4 : decode cX12_comesTold 4 = .ok (.iconst 0, 1) := by decide +kernel
theorem dX12_comesTold_5 : decode cX12_comesTold 5 = .ok (.iaload, 1) := by decide +kernel
theorem dX12_comesTold_6 : decode cX12_comesTold 6 = .ok (.istore_n 2, 1) := by decide +kernel
theorem dX12_comesTold_7 : decode cX12_comesTold 7 = .ok (.iload_n 1, 1) := by decide +kernel
theorem dX12_comesTold_8 : decode cX12_comesTold 8 = .ok (.bipush 100, 2) := by decide +kernel
theorem dX12_comesTold_10 : decode cX12_comesTold 10 = .ok (.if_icmp .ne 29, 3) := by decide +kernel
theorem dX12_comesTold_13 : decode cX12_comesTold 13 = .ok (.iload_n 2, 1) := by decide +kernel
theorem dX12_comesTold_14 : decode cX12_comesTold 14 = .ok (.bipush 8, 2) := by decide +kernel
theorem dX12_comesTold_16 : decode cX12_comesTold 16 = .ok (.if_icmp .ge 21, 3) := by decide +kernel
theorem dX12_comesTold_19 : decode cX12_comesTold 19 = .ok (.aload_n 0, 1) := by decide +kernel
theorem dX12_comesTold_20 : decode cX12_comesTold 20 = .ok (.iload_n 2, 1) := by decide +kernel
theorem dX12_comesTold_21 : decode cX12_comesTold 21 = .ok (.aload_n 0, 1) := by decide +kernel
theorem dX12_comesTold_22 : decode cX12_comesTold 22 = .ok (.getfield 40, 3) := by decide +kernel
theorem dX12_comesTold_25 : decode cX12_comesTold 25 = .ok (.iconst 1, 1) := by decide +kernel
theorem dX12_comesTold_26 : decode cX12_comesTold 26 = .ok (.iaload, 1) := by decide +kernel
theorem dX12_comesTold_27 : decode cX12_comesTold 27 = .ok (.invokevirtual 111, 3) := by decide +kernel
theorem dX12_comesTold_30 : decode cX12_comesTold 30 = .ok (.ifCond .eq 7, 3) := by decide +kernel
theorem dX12_comesTold_33 : decode cX12_comesTold 33 = .ok (.iconst 1, 1) := by decide +kernel
theorem dX12_comesTold_34 : decode cX12_comesTold 34 = .ok (.goto 4, 3) := by decide +kernel
theorem dX12_comesTold_37 : decode cX12_comesTold 37 = .ok (.iconst 0, 1) := by decide +kernel
theorem dX12_comesTold_38 : decode cX12_comesTold 38 = .ok (.ireturn, 1) := by decide +kernel
theorem dX12_comesTold_39 : decode cX12_comesTold 39 = .ok (.aload_n 0, 1) := by decide +kernel
theorem dX12_comesTold_40 : decode cX12_comesTold 40 = .ok (.iload_n 2, 1) := by decide +kernel
theorem dX12_comesTold_41 : decode cX12_comesTold 41 = .ok (.invokevirtual 114, 3) := by decide +kernel
theorem dX12_comesTold_44 : decode cX12_comesTold 44 = .ok (.ifCond .ne 5, 3) := by decide +kernel
theorem dX12_comesTold_47 : decode cX12_comesTold 47 = .ok (.iconst 0, 1) := by decide +kernel
theorem dX12_comesTold_48 : decode cX12_comesTold 48 = .ok (.ireturn, 1) := by decide +kernel
theorem dX12_comesTold_49 : decode cX12_comesTold 49 = .ok (.iload_n 1, 1) := by decide +kernel
theorem dX12_comesTold_50 : decode cX12_comesTold 50 = .ok (.bipush 112, 2) := by decide +kernel
theorem dX12_comesTold_52 : decode cX12_comesTold 52 = .ok (.if_icmp .ne 9, 3) := by decide +kernel
theorem dX12_comesTold_55 : decode cX12_comesTold 55 = .ok (.aload_n 0, 1) := by decide +kernel
theorem dX12_comesTold_56 : decode cX12_comesTold 56 = .ok (.iload_n 2, 1) := by decide +kernel
theorem dX12_comesTold_57 : decode cX12_comesTold 57 = .ok (.invokevirtual 117, 3) := by decide +kernel
theorem dX12_comesTold_60 : decode cX12_comesTold 60 = .ok (.ireturn, 1) := by decide +kernel
theorem dX12_comesTold_61 : decode cX12_comesTold 61 = .ok (.aload_n 0, 1) := by decide +kernel
theorem dX12_comesTold_62 : decode cX12_comesTold 62 = .ok (.getfield 9, 3) := by decide +kernel
theorem dX12_comesTold_65 : decode cX12_comesTold 65 = .ok (.iconst 1, 1) := by decide +kernel
theorem dX12_comesTold_66 : decode cX12_comesTold 66 = .ok (.iload_n 1, 1) := by decide +kernel
theorem dX12_comesTold_67 : decode cX12_comesTold 67 = .ok (.bipush 111, 2) := by decide +kernel
theorem dX12_comesTold_69 : decode cX12_comesTold 69 = .ok (.if_icmp .ne 16, 3) := by decide +kernel
theorem dX12_comesTold_72 : decode cX12_comesTold 72 = .ok (.aload_n 0, 1) := by decide +kernel
theorem dX12_comesTold_73 : decode cX12_comesTold 73 = .ok (.getfield 9, 3) := by decide +kernel
theorem dX12_comesTold_76 : decode cX12_comesTold 76 = .ok (.iconst 1, 1) := by decide +kernel
theorem dX12_comesTold_77 : decode cX12_comesTold 77 = .ok (.iaload, 1) := by decide +kernel
theorem dX12_comesTold_78 : decode cX12_comesTold 78 = .ok (.iconst 1, 1) := by decide +kernel
theorem dX12_comesTold_79 : decode cX12_comesTold 79 = .ok (.iload_n 2, 1) := by decide +kernel
theorem dX12_comesTold_80 : decode cX12_comesTold 80 = .ok (.ishl, 1) := by decide +kernel
theorem dX12_comesTold_81 : decode cX12_comesTold 81 = .ok (.ior, 1) := by decide +kernel
theorem dX12_comesTold_82 : decode cX12_comesTold 82 = .ok (.goto 15, 3) := by decide +kernel
theorem dX12_comesTold_85 : decode cX12_comesTold 85 = .ok (.aload_n 0, 1) := by decide +kernel
theorem dX12_comesTold_86 : decode cX12_comesTold 86 = .ok (.getfield 9, 3) := by decide +kernel
theorem dX12_comesTold_89 : decode cX12_comesTold 89 = .ok (.iconst 1, 1) := by decide +kernel
theorem dX12_comesTold_90 : decode cX12_comesTold 90 = .ok (.iaload, 1) := by decide +kernel
theorem dX12_comesTold_91 : decode cX12_comesTold 91 = .ok (.iconst 1, 1) := by decide +kernel
theorem dX12_comesTold_92 : decode cX12_comesTold 92 = .ok (.iload_n 2, 1) := by decide +kernel
theorem dX12_comesTold_93 : decode cX12_comesTold 93 = .ok (.ishl, 1) := by decide +kernel
theorem dX12_comesTold_94 : decode cX12_comesTold 94 = .ok (.iconst (-1), 1) := by decide +kernel
theorem dX12_comesTold_95 : decode cX12_comesTold 95 = .ok (.ixor, 1) := by decide +kernel
theorem dX12_comesTold_96 : decode cX12_comesTold 96 = .ok (.iand, 1) := by decide +kernel
theorem dX12_comesTold_97 : decode cX12_comesTold 97 = .ok (.iastore, 1) := by decide +kernel
theorem dX12_comesTold_98 : decode cX12_comesTold 98 = .ok (.iconst 1, 1) := by decide +kernel
theorem dX12_comesTold_99 : decode cX12_comesTold 99 = .ok (.ireturn, 1) := by decide +kernel
set_option maxRecDepth 20000 in
theorem ggX12_wrongRow_X12_isShelf : GoodIn wsX12_wrongRow wsX12_isShelf := goodIn_r _ [6, 7, 8, 9, 5, 10] (by decide +kernel) (by decide +kernel)
set_option maxRecDepth 20000 in
theorem gX12_wrongRow_X12_isShelf : GoodIn wsX12_wrongRow (va_wsS RX12 119 yX12_isShelf wsX12_isShelf) := goodIn_app (goodIn_of _ (by decide +kernel)) ggX12_wrongRow_X12_isShelf
theorem dX12_wrongRow_0 : decode cX12_wrongRow 0 = .ok (.iload_n 1, 1) := by decide +kernel
theorem dX12_wrongRow_1 : decode cX12_wrongRow 1 = .ok (.invokestatic 119, 3) := by decide +kernel
theorem dX12_wrongRow_4 : decode cX12_wrongRow 4 = .ok (.ifCond .ne 7, 3) := by decide +kernel
theorem dX12_wrongRow_7 : decode cX12_wrongRow 7 = .ok (.iconst (-1), 1) := by decide +kernel
theorem dX12_wrongRow_8 : decode cX12_wrongRow 8 = .ok (.goto 47, 3) := by decide +kernel
theorem dX12_wrongRow_11 : decode cX12_wrongRow 11 = .ok (.aload_n 0, 1) := by decide +kernel
theorem dX12_wrongRow_12 : decode cX12_wrongRow 12 = .ok (.getfield 22, 3) := by decide +kernel
theorem dX12_wrongRow_15 : decode cX12_wrongRow 15 = .ok (.iload_n 1, 1) := by decide +kernel
theorem dX12_wrongRow_16 : decode cX12_wrongRow 16 = .ok (.iaload, 1) := by decide +kernel
theorem dX12_wrongRow_17 : decode cX12_wrongRow 17 = .ok (.ifCond .ne 8, 3) := by decide +kernel
theorem dX12_wrongRow_20 : decode cX12_wrongRow 20 = .ok (.bipush (-11), 2) := by decide +kernel
theorem dX12_wrongRow_22 : decode cX12_wrongRow 22 = .ok (.goto 33, 3) := by decide +kernel
theorem dX12_wrongRow_25 : decode cX12_wrongRow 25 = .ok (.aload_n 0, 1) := by decide +kernel
theorem dX12_wrongRow_26 : decode cX12_wrongRow 26 = .ok (.getfield 22, 3) := by decide +kernel
theorem dX12_wrongRow_29 : decode cX12_wrongRow 29 = .ok (.iload_n 1, 1) := by decide +kernel
theorem dX12_wrongRow_30 : decode cX12_wrongRow 30 = .ok (.iaload, 1) := by decide +kernel
theorem dX12_wrongRow_31 : decode cX12_wrongRow 31 = .ok (.iconst 2, 1) := by decide +kernel
theorem dX12_wrongRow_32 : decode cX12_wrongRow 32 = .ok (.if_icmp .ne 17, 3) := by decide +kernel
theorem dX12_wrongRow_35 : decode cX12_wrongRow 35 = .ok (.iload_n 2, 1) := by decide +kernel
theorem dX12_wrongRow_36 : decode cX12_wrongRow 36 = .ok (.ifCond .lt 18, 3) := by decide +kernel
theorem dX12_wrongRow_39 : decode cX12_wrongRow 39 = .ok (.aload_n 0, 1) := by decide +kernel
theorem dX12_wrongRow_40 : decode cX12_wrongRow 40 = .ok (.getfield 25, 3) := by decide +kernel
theorem dX12_wrongRow_43 : decode cX12_wrongRow 43 = .ok (.iload_n 1, 1) := by decide +kernel
theorem dX12_wrongRow_44 : decode cX12_wrongRow 44 = .ok (.iaload, 1) := by decide +kernel
theorem dX12_wrongRow_45 : decode cX12_wrongRow 45 = .ok (.iload_n 2, 1) := by decide +kernel
theorem dX12_wrongRow_46 : decode cX12_wrongRow 46 = .ok (.if_icmp .eq 8, 3) := by decide +kernel
theorem dX12_wrongRow_49 : decode cX12_wrongRow 49 = .ok (.bipush (-12), 2) := by decide +kernel
theorem dX12_wrongRow_51 : decode cX12_wrongRow 51 = .ok (.goto 4, 3) := by decide +kernel
theorem dX12_wrongRow_54 : decode cX12_wrongRow 54 = .ok (.iconst 0, 1) := by decide +kernel
theorem dX12_wrongRow_55 : decode cX12_wrongRow 55 = .ok (.ireturn, 1) := by decide +kernel
set_option maxRecDepth 20000 in
theorem ggX12_wall_X12_wrongRow : GoodIn wsX12_wall wsX12_wrongRow := goodIn_r _ [11, 12, 13, 14, 15, 10, 16, 17, 18, 19, 20, 81, 82, 83, 84, 85, 86, 87, 88, 89, 90, 91, 92, 93, 94, 95, 96, 97, 98, 99] (by decide +kernel) (by decide +kernel)
set_option maxRecDepth 20000 in
theorem gX12_wall_X12_wrongRow : GoodIn wsX12_wall (wsV RX12 122 RX12 yX12_wrongRow wsX12_wrongRow) := goodIn_app (goodIn_of _ (by decide +kernel)) ggX12_wall_X12_wrongRow
set_option maxRecDepth 20000 in
theorem ggX12_wall_X12_readsStatement : GoodIn wsX12_wall wsX12_readsStatement := goodIn_r _ [24, 4, 25, 26, 27, 10, 28, 3, 29, 1, 30, 31, 32, 33, 34, 35, 36, 18, 19, 20, 81, 82, 83, 84, 85, 86, 87, 88, 89, 90, 91, 92, 93, 94, 95, 96, 97, 98, 99] (by decide +kernel) (by decide +kernel)
set_option maxRecDepth 20000 in
theorem gX12_wall_X12_readsStatement : GoodIn wsX12_wall (wsV RX12 126 RX12 yX12_readsStatement wsX12_readsStatement) := goodIn_app (goodIn_of _ (by decide +kernel)) ggX12_wall_X12_readsStatement
set_option maxRecDepth 20000 in
theorem ggX12_wall_X12_lays : GoodIn wsX12_wall wsX12_lays := goodIn_r _ [39] (by decide +kernel) (by decide +kernel)
set_option maxRecDepth 20000 in
theorem gX12_wall_X12_lays : GoodIn wsX12_wall (va_wsS RX12 63 yX12_lays wsX12_lays) := goodIn_app (goodIn_of _ (by decide +kernel)) ggX12_wall_X12_lays
set_option maxRecDepth 20000 in
theorem ggX12_wall_X12_here : GoodIn wsX12_wall wsX12_here := goodIn_r _ [28, 4, 3, 29, 1, 81, 82, 83, 84, 85, 86, 87, 88, 89, 90, 91, 92, 93, 94, 95, 96, 97, 98, 99] (by decide +kernel) (by decide +kernel)
set_option maxRecDepth 20000 in
theorem gX12_wall_X12_here : GoodIn wsX12_wall (wsV RX12 96 RX12 yX12_here wsX12_here) := goodIn_app (goodIn_of _ (by decide +kernel)) ggX12_wall_X12_here
set_option maxRecDepth 20000 in
theorem ggX12_wall_X12_comesTold : GoodIn wsX12_wall wsX12_comesTold := goodIn_r _ [43, 36, 5, 44, 45, 46, 10, 47, 48, 49, 50, 51, 52, 53, 54, 55, 18, 19, 20, 56, 57, 58, 59, 60, 61, 62, 63, 64, 65, 66, 67, 68, 69, 70, 71, 72, 73, 74, 75, 76, 77, 78, 79, 80, 81, 82, 83, 84, 85, 86, 87, 88, 89, 90, 91, 92, 93, 94, 95, 96, 97, 98, 99] (by decide +kernel) (by decide +kernel)
set_option maxRecDepth 20000 in
theorem gX12_wall_X12_comesTold : GoodIn wsX12_wall (wsV RX12 130 RX12 yX12_comesTold wsX12_comesTold) := goodIn_app (goodIn_of _ (by decide +kernel)) ggX12_wall_X12_comesTold
theorem dX12_wall_0 : decode cX12_wall 0 = .ok (.aload_n 0, 1) := by decide +kernel
theorem dX12_wall_1 : decode cX12_wall 1 = .ok (.iload_n 1, 1) := by decide +kernel
theorem dX12_wall_2 : decode cX12_wall 2 = .ok (.iconst 0, 1) := by decide +kernel
theorem dX12_wall_3 : decode cX12_wall 3 = .ok (.invokevirtual 122, 3) := by decide +kernel
theorem dX12_wall_6 : decode cX12_wall 6 = .ok (.istore_n 2, 1) := by decide +kernel
theorem dX12_wall_7 : decode cX12_wall 7 = .ok (.iload_n 2, 1) := by decide +kernel
theorem dX12_wall_8 : decode cX12_wall 8 = .ok (.ifCond .eq 5, 3) := by decide +kernel
theorem dX12_wall_11 : decode cX12_wall 11 = .ok (.iload_n 2, 1) := by decide +kernel
theorem dX12_wall_12 : decode cX12_wall 12 = .ok (.ireturn, 1) := by decide +kernel
theorem dX12_wall_13 : decode cX12_wall 13 = .ok (.aload_n 0, 1) := by decide +kernel
theorem dX12_wall_14 : decode cX12_wall 14 = .ok (.bipush 100, 2) := by decide +kernel
theorem dX12_wall_16 : decode cX12_wall 16 = .ok (.iload_n 1, 1) := by decide +kernel
theorem dX12_wall_17 : decode cX12_wall 17 = .ok (.imul, 1) := by decide +kernel
theorem dX12_wall_18 : decode cX12_wall 18 = .ok (.putfield 93, 3) := by decide +kernel
theorem dX12_wall_21 : decode cX12_wall 21 = .ok (.aload_n 0, 1) := by decide +kernel
theorem dX12_wall_22 : decode cX12_wall 22 = .ok (.aload_n 0, 1) := by decide +kernel
theorem dX12_wall_23 : decode cX12_wall 23 = .ok (.getfield 28, 3) := by decide +kernel
theorem dX12_wall_26 : decode cX12_wall 26 = .ok (.iload_n 1, 1) := by decide +kernel
theorem dX12_wall_27 : decode cX12_wall 27 = .ok (.iaload, 1) := by decide +kernel
theorem dX12_wall_28 : decode cX12_wall 28 = .ok (.putfield 90, 3) := by decide +kernel
theorem dX12_wall_31 : decode cX12_wall 31 = .ok (.aload_n 0, 1) := by decide +kernel
theorem dX12_wall_32 : decode cX12_wall 32 = .ok (.iconst 0, 1) := by decide +kernel
theorem dX12_wall_33 : decode cX12_wall 33 = .ok (.putfield 87, 3) := by decide +kernel
theorem dX12_wall_36 : decode cX12_wall 36 = .ok (.iconst 0, 1) := by decide +kernel
theorem dX12_wall_37 : decode cX12_wall 37 = .ok (.istore_n 3, 1) := by decide +kernel
theorem dX12_wall_38 : decode cX12_wall 38 = .ok (.aload_n 0, 1) := by decide +kernel
theorem dX12_wall_39 : decode cX12_wall 39 = .ok (.invokevirtual 126, 3) := by decide +kernel
theorem dX12_wall_42 : decode cX12_wall 42 = .ok (.ifCond .ne 12, 3) := by decide +kernel
theorem dX12_wall_45 : decode cX12_wall 45 = .ok (.sipush (-1000), 3) := by decide +kernel
theorem dX12_wall_48 : decode cX12_wall 48 = .ok (.aload_n 0, 1) := by decide +kernel
theorem dX12_wall_49 : decode cX12_wall 49 = .ok (.getfield 87, 3) := by decide +kernel
theorem dX12_wall_52 : decode cX12_wall 52 = .ok (.isub, 1) := by decide +kernel
theorem dX12_wall_53 : decode cX12_wall 53 = .ok (.ireturn, 1) := by decide +kernel
theorem dX12_wall_54 : decode cX12_wall 54 = .ok (.iinc 3 1, 3) := by decide +kernel
theorem dX12_wall_57 : decode cX12_wall 57 = .ok (.aload_n 0, 1) := by decide +kernel
theorem dX12_wall_58 : decode cX12_wall 58 = .ok (.getfield 87, 3) := by decide +kernel
theorem dX12_wall_61 : decode cX12_wall 61 = .ok (.aload_n 0, 1) := by decide +kernel
theorem dX12_wall_62 : decode cX12_wall 62 = .ok (.getfield 90, 3) := by decide +kernel
theorem dX12_wall_65 : decode cX12_wall 65 = .ok (.if_icmp .lt (-27), 3) := by decide +kernel
theorem dX12_wall_68 : decode cX12_wall 68 = .ok (.aload_n 0, 1) := by decide +kernel
theorem dX12_wall_69 : decode cX12_wall 69 = .ok (.getfield 9, 3) := by decide +kernel
theorem dX12_wall_72 : decode cX12_wall 72 = .ok (.aload_n 0, 1) := by decide +kernel
theorem dX12_wall_73 : decode cX12_wall 73 = .ok (.getfield 16, 3) := by decide +kernel
theorem dX12_wall_76 : decode cX12_wall 76 = .ok (.invokestatic 63, 3) := by decide +kernel
theorem dX12_wall_79 : decode cX12_wall 79 = .ok (.aload_n 0, 1) := by decide +kernel
theorem dX12_wall_80 : decode cX12_wall 80 = .ok (.iconst 0, 1) := by decide +kernel
theorem dX12_wall_81 : decode cX12_wall 81 = .ok (.putfield 87, 3) := by decide +kernel
theorem dX12_wall_84 : decode cX12_wall 84 = .ok (.aload_n 0, 1) := by decide +kernel
theorem dX12_wall_85 : decode cX12_wall 85 = .ok (.getfield 87, 3) := by decide +kernel
theorem dX12_wall_88 : decode cX12_wall 88 = .ok (.aload_n 0, 1) := by decide +kernel
theorem dX12_wall_89 : decode cX12_wall 89 = .ok (.getfield 90, 3) := by decide +kernel
theorem dX12_wall_92 : decode cX12_wall 92 = .ok (.if_icmp .ge 51, 3) := by decide +kernel
theorem dX12_wall_95 : decode cX12_wall 95 = .ok (.aload_n 0, 1) := by decide +kernel
theorem dX12_wall_96 : decode cX12_wall 96 = .ok (.getfield 87, 3) := by decide +kernel
theorem dX12_wall_99 : decode cX12_wall 99 = .ok (.istore 4, 2) := by decide +kernel
theorem dX12_wall_101 : decode cX12_wall 101 = .ok (.aload_n 0, 1) := by decide +kernel
theorem dX12_wall_102 : decode cX12_wall 102 = .ok (.invokevirtual 96, 3) := by decide +kernel
theorem dX12_wall_105 : decode cX12_wall 105 = .ok (.istore 5, 2) := by decide +kernel
theorem dX12_wall_107 : decode cX12_wall 107 = .ok (.aload_n 0, 1) := by decide +kernel
theorem dX12_wall_108 : decode cX12_wall 108 = .ok (.invokevirtual 126, 3) := by decide +kernel
theorem dX12_wall_111 : decode cX12_wall 111 = .ok (.istore 6, 2) := by decide +kernel
theorem dX12_wall_113 : decode cX12_wall 113 = .ok (.aload_n 0, 1) := by decide +kernel
theorem dX12_wall_114 : decode cX12_wall 114 = .ok (.iload 5, 2) := by decide +kernel
theorem dX12_wall_116 : decode cX12_wall 116 = .ok (.invokevirtual 130, 3) := by decide +kernel
theorem dX12_wall_119 : decode cX12_wall 119 = .ok (.ifCond .ne 21, 3) := by decide +kernel
theorem dX12_wall_122 : decode cX12_wall 122 = .ok (.aload_n 0, 1) := by decide +kernel
theorem dX12_wall_123 : decode cX12_wall 123 = .ok (.getfield 16, 3) := by decide +kernel
theorem dX12_wall_126 : decode cX12_wall 126 = .ok (.aload_n 0, 1) := by decide +kernel
theorem dX12_wall_127 : decode cX12_wall 127 = .ok (.getfield 9, 3) := by decide +kernel
theorem dX12_wall_130 : decode cX12_wall 130 = .ok (.invokestatic 63, 3) := by decide +kernel
theorem dX12_wall_133 : decode cX12_wall 133 = .ok (.sipush (-2000), 3) := by decide +kernel
theorem dX12_wall_136 : decode cX12_wall 136 = .ok (.iload 4, 2) := by decide +kernel
theorem dX12_wall_138 : decode cX12_wall 138 = .ok (.isub, 1) := by decide +kernel
theorem dX12_wall_139 : decode cX12_wall 139 = .ok (.ireturn, 1) := by decide +kernel
theorem dX12_wall_140 : decode cX12_wall 140 = .ok (.goto (-56), 3) := by decide +kernel
theorem dX12_wall_143 : decode cX12_wall 143 = .ok (.iload_n 3, 1) := by decide +kernel
theorem dX12_wall_144 : decode cX12_wall 144 = .ok (.ireturn, 1) := by decide +kernel
set_option maxRecDepth 20000 in
theorem ggX12_drawer_X12_isDrawer : GoodIn wsX12_drawer wsX12_isDrawer := goodIn_r _ [6, 1, 7, 8, 5, 9, 31, 32, 33, 34, 35, 36, 37, 38, 39, 40, 41, 42, 43, 44, 45, 46, 47, 48, 49] (by decide +kernel) (by decide +kernel)
set_option maxRecDepth 20000 in
theorem gX12_drawer_X12_isDrawer : GoodIn wsX12_drawer (wsV RX12 114 RX12 yX12_isDrawer wsX12_isDrawer) := goodIn_app (goodIn_of _ (by decide +kernel)) ggX12_drawer_X12_isDrawer
set_option maxRecDepth 20000 in
theorem ggX12_drawer_X12_kind : GoodIn wsX12_drawer wsX12_kind := goodIn_r _ [13, 1, 31, 32, 33, 34, 35, 36, 37, 38, 39, 40, 41, 42, 43, 44, 45, 46, 47, 48, 49] (by decide +kernel) (by decide +kernel)
set_option maxRecDepth 20000 in
theorem gX12_drawer_X12_kind : GoodIn wsX12_drawer (wsV RX12 71 RX12 yX12_kind wsX12_kind) := goodIn_app (goodIn_of _ (by decide +kernel)) ggX12_drawer_X12_kind
set_option maxRecDepth 20000 in
theorem ggX12_drawer_X12_figure : GoodIn wsX12_drawer wsX12_figure := goodIn_r _ [17, 1, 31, 32, 33, 34, 35, 36, 37, 38, 39, 40, 41, 42, 43, 44, 45, 46, 47, 48, 49] (by decide +kernel) (by decide +kernel)
set_option maxRecDepth 20000 in
theorem gX12_drawer_X12_figure : GoodIn wsX12_drawer (wsV RX12 67 RX12 yX12_figure wsX12_figure) := goodIn_app (goodIn_of _ (by decide +kernel)) ggX12_drawer_X12_figure
set_option maxRecDepth 20000 in
theorem ggX12_drawer_X12_may : GoodIn wsX12_drawer wsX12_may := goodIn_r _ [21, 14, 15, 16, 5, 17, 1, 10, 11, 12, 13, 22, 23, 24, 25, 26, 27, 28, 29, 30, 31, 32, 33, 34, 35, 36, 37, 38, 39, 40, 41, 42, 43, 44, 45, 46, 47, 48, 49] (by decide +kernel) (by decide +kernel)
set_option maxRecDepth 20000 in
theorem gX12_drawer_X12_may : GoodIn wsX12_drawer (wsV RX12 84 RX12 yX12_may wsX12_may) := goodIn_app (goodIn_of _ (by decide +kernel)) ggX12_drawer_X12_may
theorem dX12_drawer_0 : decode cX12_drawer 0 = .ok (.aload_n 0, 1) := by decide +kernel
theorem dX12_drawer_1 : decode cX12_drawer 1 = .ok (.iload_n 1, 1) := by decide +kernel
theorem dX12_drawer_2 : decode cX12_drawer 2 = .ok (.invokevirtual 114, 3) := by decide +kernel
theorem dX12_drawer_5 : decode cX12_drawer 5 = .ok (.ifCond .ne 5, 3) := by decide +kernel
theorem dX12_drawer_8 : decode cX12_drawer 8 = .ok (.iconst (-1), 1) := by decide +kernel
theorem dX12_drawer_9 : decode cX12_drawer 9 = .ok (.ireturn, 1) := by decide +kernel
theorem dX12_drawer_10 : decode cX12_drawer 10 = .ok (.iload_n 2, 1) := by decide +kernel
theorem dX12_drawer_11 : decode cX12_drawer 11 = .ok (.tableswitch 72 0 3 #[29, 35, 41, 52], 29) := by decide +kernel
theorem dX12_drawer_40 : decode cX12_drawer 40 = .ok (.aload_n 0, 1) := by decide +kernel
theorem dX12_drawer_41 : decode cX12_drawer 41 = .ok (.iload_n 1, 1) := by decide +kernel
theorem dX12_drawer_42 : decode cX12_drawer 42 = .ok (.invokevirtual 71, 3) := by decide +kernel
theorem dX12_drawer_45 : decode cX12_drawer 45 = .ok (.ireturn, 1) := by decide +kernel
theorem dX12_drawer_46 : decode cX12_drawer 46 = .ok (.aload_n 0, 1) := by decide +kernel
theorem dX12_drawer_47 : decode cX12_drawer 47 = .ok (.iload_n 1, 1) := by decide +kernel
theorem dX12_drawer_48 : decode cX12_drawer 48 = .ok (.invokevirtual 67, 3) := by decide +kernel
theorem dX12_drawer_51 : decode cX12_drawer 51 = .ok (.ireturn, 1) := by decide +kernel
theorem dX12_drawer_52 : decode cX12_drawer 52 = .ok (.aload_n 0, 1) := by decide +kernel
theorem dX12_drawer_53 : decode cX12_drawer 53 = .ok (.getfield 9, 3) := by decide +kernel
theorem dX12_drawer_56 : decode cX12_drawer 56 = .ok (.iconst 1, 1) := by decide +kernel
theorem dX12_drawer_57 : decode cX12_drawer 57 = .ok (.iaload, 1) := by decide +kernel
theorem dX12_drawer_58 : decode cX12_drawer 58 = .ok (.iload_n 1, 1) := by decide +kernel
theorem dX12_drawer_59 : decode cX12_drawer 59 = .ok (.ishr, 1) := by decide +kernel
theorem dX12_drawer_60 : decode cX12_drawer 60 = .ok (.iconst 1, 1) := by decide +kernel
theorem dX12_drawer_61 : decode cX12_drawer 61 = .ok (.iand, 1) := by decide +kernel
theorem dX12_drawer_62 : decode cX12_drawer 62 = .ok (.ireturn, 1) := by decide +kernel
theorem dX12_drawer_63 : decode cX12_drawer 63 = .ok (.aload_n 0, 1) := by decide +kernel
theorem dX12_drawer_64 : decode cX12_drawer 64 = .ok (.iload_n 1, 1) := by decide +kernel
theorem dX12_drawer_65 : decode cX12_drawer 65 = .ok (.aload_n 0, 1) := by decide +kernel
theorem dX12_drawer_66 : decode cX12_drawer 66 = .ok (.getfield 9, 3) := by decide +kernel
theorem dX12_drawer_69 : decode cX12_drawer 69 = .ok (.iconst 1, 1) := by decide +kernel
theorem dX12_drawer_70 : decode cX12_drawer 70 = .ok (.iaload, 1) := by decide +kernel
theorem dX12_drawer_71 : decode cX12_drawer 71 = .ok (.invokevirtual 84, 3) := by decide +kernel
theorem dX12_drawer_74 : decode cX12_drawer 74 = .ok (.ifCond .eq 7, 3) := by decide +kernel
theorem dX12_drawer_77 : decode cX12_drawer 77 = .ok (.iconst 1, 1) := by decide +kernel
theorem dX12_drawer_78 : decode cX12_drawer 78 = .ok (.goto 4, 3) := by decide +kernel
theorem dX12_drawer_81 : decode cX12_drawer 81 = .ok (.iconst 0, 1) := by decide +kernel
theorem dX12_drawer_82 : decode cX12_drawer 82 = .ok (.ireturn, 1) := by decide +kernel
theorem dX12_drawer_83 : decode cX12_drawer 83 = .ok (.iconst (-1), 1) := by decide +kernel
theorem dX12_drawer_84 : decode cX12_drawer 84 = .ok (.ireturn, 1) := by decide +kernel
set_option maxRecDepth 20000 in
theorem ggX12_wrongKept_X12_isShelf : GoodIn wsX12_wrongKept wsX12_isShelf := goodIn_r _ [5, 6, 7, 8, 4, 9] (by decide +kernel) (by decide +kernel)
set_option maxRecDepth 20000 in
theorem gX12_wrongKept_X12_isShelf : GoodIn wsX12_wrongKept (va_wsS RX12 119 yX12_isShelf wsX12_isShelf) := goodIn_app (goodIn_of _ (by decide +kernel)) ggX12_wrongKept_X12_isShelf
theorem dX12_wrongKept_0 : decode cX12_wrongKept 0 = .ok (.iload_n 1, 1) := by decide +kernel
theorem dX12_wrongKept_1 : decode cX12_wrongKept 1 = .ok (.invokestatic 119, 3) := by decide +kernel
theorem dX12_wrongKept_4 : decode cX12_wrongKept 4 = .ok (.ifCond .ne 7, 3) := by decide +kernel
theorem dX12_wrongKept_7 : decode cX12_wrongKept 7 = .ok (.iconst (-1), 1) := by decide +kernel
theorem dX12_wrongKept_8 : decode cX12_wrongKept 8 = .ok (.goto 33, 3) := by decide +kernel
theorem dX12_wrongKept_11 : decode cX12_wrongKept 11 = .ok (.aload_n 0, 1) := by decide +kernel
theorem dX12_wrongKept_12 : decode cX12_wrongKept 12 = .ok (.getfield 22, 3) := by decide +kernel
theorem dX12_wrongKept_15 : decode cX12_wrongKept 15 = .ok (.iload_n 1, 1) := by decide +kernel
theorem dX12_wrongKept_16 : decode cX12_wrongKept 16 = .ok (.iaload, 1) := by decide +kernel
theorem dX12_wrongKept_17 : decode cX12_wrongKept 17 = .ok (.ifCond .ne 8, 3) := by decide +kernel
theorem dX12_wrongKept_20 : decode cX12_wrongKept 20 = .ok (.bipush (-11), 2) := by decide +kernel
theorem dX12_wrongKept_22 : decode cX12_wrongKept 22 = .ok (.goto 19, 3) := by decide +kernel
theorem dX12_wrongKept_25 : decode cX12_wrongKept 25 = .ok (.aload_n 0, 1) := by decide +kernel
theorem dX12_wrongKept_26 : decode cX12_wrongKept 26 = .ok (.getfield 22, 3) := by decide +kernel
theorem dX12_wrongKept_29 : decode cX12_wrongKept 29 = .ok (.iload_n 1, 1) := by decide +kernel
theorem dX12_wrongKept_30 : decode cX12_wrongKept 30 = .ok (.iaload, 1) := by decide +kernel
theorem dX12_wrongKept_31 : decode cX12_wrongKept 31 = .ok (.iconst 1, 1) := by decide +kernel
theorem dX12_wrongKept_32 : decode cX12_wrongKept 32 = .ok (.if_icmp .ne 7, 3) := by decide +kernel
theorem dX12_wrongKept_35 : decode cX12_wrongKept 35 = .ok (.iconst 0, 1) := by decide +kernel
theorem dX12_wrongKept_36 : decode cX12_wrongKept 36 = .ok (.goto 5, 3) := by decide +kernel
theorem dX12_wrongKept_39 : decode cX12_wrongKept 39 = .ok (.bipush (-12), 2) := by decide +kernel
theorem dX12_wrongKept_41 : decode cX12_wrongKept 41 = .ok (.ireturn, 1) := by decide +kernel
set_option maxRecDepth 20000 in
theorem ggX12_comes_X12_wrongKept : GoodIn wsX12_comes wsX12_wrongKept := goodIn_r _ [8, 9, 10, 11, 7, 12, 13, 14, 15, 16, 25, 26, 27, 28, 29, 30, 31, 32, 33, 34, 35, 36, 37, 38, 39, 40, 41, 42, 43] (by decide +kernel) (by decide +kernel)
set_option maxRecDepth 20000 in
theorem gX12_comes_X12_wrongKept : GoodIn wsX12_comes (wsV RX12 133 RX12 yX12_wrongKept wsX12_wrongKept) := goodIn_app (goodIn_of _ (by decide +kernel)) ggX12_comes_X12_wrongKept
set_option maxRecDepth 20000 in
theorem ggX12_comes_X12_adds : GoodIn wsX12_comes wsX12_adds := goodIn_r _ [20, 3, 21, 22, 23, 7, 24, 25, 26, 27, 28, 29, 30, 31, 32, 33, 34, 35, 36, 37, 38, 39, 40, 41, 42, 43] (by decide +kernel) (by decide +kernel)
set_option maxRecDepth 20000 in
theorem gX12_comes_X12_adds : GoodIn wsX12_comes (wsV RX12 111 RX12 yX12_adds wsX12_adds) := goodIn_app (goodIn_of _ (by decide +kernel)) ggX12_comes_X12_adds
theorem dX12_comes_0 : decode cX12_comes 0 = .ok (.aload_n 0, 1) := by decide +kernel
theorem dX12_comes_1 : decode cX12_comes 1 = .ok (.iload_n 1, 1) := by decide +kernel
theorem dX12_comes_2 : decode cX12_comes 2 = .ok (.invokevirtual 133, 3) := by decide +kernel
theorem dX12_comes_5 : decode cX12_comes 5 = .ok (.istore_n 2, 1) := by decide +kernel
theorem dX12_comes_6 : decode cX12_comes 6 = .ok (.iload_n 2, 1) := by decide +kernel
theorem dX12_comes_7 : decode cX12_comes 7 = .ok (.ifCond .eq 5, 3) := by decide +kernel
theorem dX12_comes_10 : decode cX12_comes 10 = .ok (.iload_n 2, 1) := by decide +kernel
theorem dX12_comes_11 : decode cX12_comes 11 = .ok (.ireturn, 1) := by decide +kernel
theorem dX12_comes_12 : decode cX12_comes 12 = .ok (.aload_n 0, 1) := by decide +kernel
theorem dX12_comes_13 : decode cX12_comes 13 = .ok (.aload_n 0, 1) := by decide +kernel
theorem dX12_comes_14 : decode cX12_comes 14 = .ok (.getfield 34, 3) := by decide +kernel
theorem dX12_comes_17 : decode cX12_comes 17 = .ok (.iload_n 1, 1) := by decide +kernel
theorem dX12_comes_18 : decode cX12_comes 18 = .ok (.iaload, 1) := by decide +kernel
theorem dX12_comes_19 : decode cX12_comes 19 = .ok (.aload_n 0, 1) := by decide +kernel
theorem dX12_comes_20 : decode cX12_comes 20 = .ok (.getfield 37, 3) := by decide +kernel
theorem dX12_comes_23 : decode cX12_comes 23 = .ok (.iload_n 1, 1) := by decide +kernel
theorem dX12_comes_24 : decode cX12_comes 24 = .ok (.iaload, 1) := by decide +kernel
theorem dX12_comes_25 : decode cX12_comes 25 = .ok (.invokevirtual 111, 3) := by decide +kernel
theorem dX12_comes_28 : decode cX12_comes 28 = .ok (.ifCond .eq 14, 3) := by decide +kernel
theorem dX12_comes_31 : decode cX12_comes 31 = .ok (.aload_n 0, 1) := by decide +kernel
theorem dX12_comes_32 : decode cX12_comes 32 = .ok (.getfield 9, 3) := by decide +kernel
theorem dX12_comes_35 : decode cX12_comes 35 = .ok (.iconst 0, 1) := by decide +kernel
theorem dX12_comes_36 : decode cX12_comes 36 = .ok (.iaload, 1) := by decide +kernel
theorem dX12_comes_37 : decode cX12_comes 37 = .ok (.iconst 1, 1) := by decide +kernel
theorem dX12_comes_38 : decode cX12_comes 38 = .ok (.isub, 1) := by decide +kernel
theorem dX12_comes_39 : decode cX12_comes 39 = .ok (.goto 5, 3) := by decide +kernel
theorem dX12_comes_42 : decode cX12_comes 42 = .ok (.bipush (-2), 2) := by decide +kernel
theorem dX12_comes_44 : decode cX12_comes 44 = .ok (.ireturn, 1) := by decide +kernel
set_option maxRecDepth 20000 in
theorem ggX12_changes_X12_isDrawer : GoodIn wsX12_changes wsX12_isDrawer := goodIn_r _ [7, 8, 9, 10, 6, 11, 29, 30, 31, 32, 33, 34, 35, 36, 37, 38, 39, 40, 41, 42, 43, 44, 45, 46, 47] (by decide +kernel) (by decide +kernel)
set_option maxRecDepth 20000 in
theorem gX12_changes_X12_isDrawer : GoodIn wsX12_changes (wsV RX12 114 RX12 yX12_isDrawer wsX12_isDrawer) := goodIn_app (goodIn_of _ (by decide +kernel)) ggX12_changes_X12_isDrawer
set_option maxRecDepth 20000 in
theorem ggX12_changes_X12_wrongKept : GoodIn wsX12_changes wsX12_wrongKept := goodIn_r _ [15, 16, 17, 18, 6, 19, 20, 9, 10, 11, 29, 30, 31, 32, 33, 34, 35, 36, 37, 38, 39, 40, 41, 42, 43, 44, 45, 46, 47] (by decide +kernel) (by decide +kernel)
set_option maxRecDepth 20000 in
theorem gX12_changes_X12_wrongKept : GoodIn wsX12_changes (wsV RX12 133 RX12 yX12_wrongKept wsX12_wrongKept) := goodIn_app (goodIn_of _ (by decide +kernel)) ggX12_changes_X12_wrongKept
set_option maxRecDepth 20000 in
theorem ggX12_changes_X12_kind : GoodIn wsX12_changes wsX12_kind := goodIn_r _ [24, 8, 29, 30, 31, 32, 33, 34, 35, 36, 37, 38, 39, 40, 41, 42, 43, 44, 45, 46, 47] (by decide +kernel) (by decide +kernel)
set_option maxRecDepth 20000 in
theorem gX12_changes_X12_kind : GoodIn wsX12_changes (wsV RX12 71 RX12 yX12_kind wsX12_kind) := goodIn_app (goodIn_of _ (by decide +kernel)) ggX12_changes_X12_kind
set_option maxRecDepth 20000 in
theorem ggX12_changes_X12_setDrawer : GoodIn wsX12_changes wsX12_setDrawer := goodIn_r _ [28, 8, 29, 30, 31, 32, 33, 34, 35, 36, 37, 38, 39, 40, 41, 42, 43, 44, 45, 46, 47] (by decide +kernel) (by decide +kernel)
set_option maxRecDepth 20000 in
theorem gX12_changes_X12_setDrawer : GoodIn wsX12_changes (wsV RX12 107 RX12 yX12_setDrawer wsX12_setDrawer) := goodIn_app (goodIn_of _ (by decide +kernel)) ggX12_changes_X12_setDrawer
theorem dX12_changes_0 : decode cX12_changes 0 = .ok (.aload_n 0, 1) := by decide +kernel
theorem dX12_changes_1 : decode cX12_changes 1 = .ok (.iload_n 2, 1) := by decide +kernel
theorem dX12_changes_2 : decode cX12_changes 2 = .ok (.invokevirtual 114, 3) := by decide +kernel
theorem dX12_changes_5 : decode cX12_changes 5 = .ok (.ifCond .ne 7, 3) := by decide +kernel
theorem dX12_changes_8 : decode cX12_changes 8 = .ok (.iconst (-1), 1) := by decide +kernel
theorem dX12_changes_9 : decode cX12_changes 9 = .ok (.goto 8, 3) := by decide +kernel
theorem dX12_changes_12 : decode cX12_changes 12 = .ok (.aload_n 0, 1) := by decide +kernel
theorem dX12_changes_13 : decode cX12_changes 13 = .ok (.iload_n 1, 1) := by decide +kernel
theorem dX12_changes_14 : decode cX12_changes 14 = .ok (.invokevirtual 133, 3) := by decide +kernel
theorem dX12_changes_17 : decode cX12_changes 17 = .ok (.istore_n 3, 1) := by decide +kernel
theorem dX12_changes_18 : decode cX12_changes 18 = .ok (.iload_n 3, 1) := by decide +kernel
theorem dX12_changes_19 : decode cX12_changes 19 = .ok (.ifCond .eq 5, 3) := by decide +kernel
theorem dX12_changes_22 : decode cX12_changes 22 = .ok (.iload_n 3, 1) := by decide +kernel
theorem dX12_changes_23 : decode cX12_changes 23 = .ok (.ireturn, 1) := by decide +kernel
theorem dX12_changes_24 : decode cX12_changes 24 = .ok (.aload_n 0, 1) := by decide +kernel
theorem dX12_changes_25 : decode cX12_changes 25 = .ok (.iload_n 2, 1) := by decide +kernel
theorem dX12_changes_26 : decode cX12_changes 26 = .ok (.invokevirtual 71, 3) := by decide +kernel
theorem dX12_changes_29 : decode cX12_changes 29 = .ok (.istore 4, 2) := by decide +kernel
theorem dX12_changes_31 : decode cX12_changes 31 = .ok (.aload_n 0, 1) := by decide +kernel
theorem dX12_changes_32 : decode cX12_changes 32 = .ok (.iload_n 2, 1) := by decide +kernel
theorem dX12_changes_33 : decode cX12_changes 33 = .ok (.aload_n 0, 1) := by decide +kernel
theorem dX12_changes_34 : decode cX12_changes 34 = .ok (.getfield 34, 3) := by decide +kernel
theorem dX12_changes_37 : decode cX12_changes 37 = .ok (.iload_n 1, 1) := by decide +kernel
theorem dX12_changes_38 : decode cX12_changes 38 = .ok (.iaload, 1) := by decide +kernel
theorem dX12_changes_39 : decode cX12_changes 39 = .ok (.aload_n 0, 1) := by decide +kernel
theorem dX12_changes_40 : decode cX12_changes 40 = .ok (.getfield 37, 3) := by decide +kernel
theorem dX12_changes_43 : decode cX12_changes 43 = .ok (.iload_n 1, 1) := by decide +kernel
theorem dX12_changes_44 : decode cX12_changes 44 = .ok (.iaload, 1) := by decide +kernel
theorem dX12_changes_45 : decode cX12_changes 45 = .ok (.invokevirtual 107, 3) := by decide +kernel
theorem dX12_changes_48 : decode cX12_changes 48 = .ok (.iload 4, 2) := by decide +kernel
theorem dX12_changes_50 : decode cX12_changes 50 = .ok (.ireturn, 1) := by decide +kernel
set_option maxRecDepth 20000 in
theorem ggX12_pull_X12_isDrawer : GoodIn wsX12_pull wsX12_isDrawer := goodIn_r _ [6, 1, 7, 8, 5, 9, 35, 36, 37, 38, 39, 40, 41, 42, 43, 44, 45, 46, 47, 48, 49, 50, 51, 52, 53] (by decide +kernel) (by decide +kernel)
set_option maxRecDepth 20000 in
theorem gX12_pull_X12_isDrawer : GoodIn wsX12_pull (wsV RX12 114 RX12 yX12_isDrawer wsX12_isDrawer) := goodIn_app (goodIn_of _ (by decide +kernel)) ggX12_pull_X12_isDrawer
set_option maxRecDepth 20000 in
theorem ggX12_pull_X12_pulls : GoodIn wsX12_pull wsX12_pulls := goodIn_r _ [13, 1, 14, 15, 16, 5, 17, 18, 19, 20, 21, 22, 23, 24, 25, 26, 27, 28, 29, 30, 31, 32, 33, 34, 35, 36, 37, 38, 39, 40, 41, 42, 43, 44, 45, 46, 47, 48, 49, 50, 51, 52, 53] (by decide +kernel) (by decide +kernel)
set_option maxRecDepth 20000 in
theorem gX12_pull_X12_pulls : GoodIn wsX12_pull (wsV RX12 117 RX12 yX12_pulls wsX12_pulls) := goodIn_app (goodIn_of _ (by decide +kernel)) ggX12_pull_X12_pulls
theorem dX12_pull_0 : decode cX12_pull 0 = .ok (.aload_n 0, 1) := by decide +kernel
theorem dX12_pull_1 : decode cX12_pull 1 = .ok (.iload_n 1, 1) := by decide +kernel
theorem dX12_pull_2 : decode cX12_pull 2 = .ok (.invokevirtual 114, 3) := by decide +kernel
theorem dX12_pull_5 : decode cX12_pull 5 = .ok (.ifCond .ne 7, 3) := by decide +kernel
theorem dX12_pull_8 : decode cX12_pull 8 = .ok (.iconst (-1), 1) := by decide +kernel
theorem dX12_pull_9 : decode cX12_pull 9 = .ok (.goto 22, 3) := by decide +kernel
theorem dX12_pull_12 : decode cX12_pull 12 = .ok (.aload_n 0, 1) := by decide +kernel
theorem dX12_pull_13 : decode cX12_pull 13 = .ok (.iload_n 1, 1) := by decide +kernel
theorem dX12_pull_14 : decode cX12_pull 14 = .ok (.invokevirtual 117, 3) := by decide +kernel
theorem dX12_pull_17 : decode cX12_pull 17 = .ok (.ifCond .eq 12, 3) := by decide +kernel
theorem dX12_pull_20 : decode cX12_pull 20 = .ok (.aload_n 0, 1) := by decide +kernel
theorem dX12_pull_21 : decode cX12_pull 21 = .ok (.getfield 9, 3) := by decide +kernel
theorem dX12_pull_24 : decode cX12_pull 24 = .ok (.iconst 1, 1) := by decide +kernel
theorem dX12_pull_25 : decode cX12_pull 25 = .ok (.iaload, 1) := by decide +kernel
theorem dX12_pull_26 : decode cX12_pull 26 = .ok (.goto 5, 3) := by decide +kernel
theorem dX12_pull_29 : decode cX12_pull 29 = .ok (.bipush (-3), 2) := by decide +kernel
theorem dX12_pull_31 : decode cX12_pull 31 = .ok (.ireturn, 1) := by decide +kernel
set_option maxRecDepth 20000 in
theorem ggX12_standing_X12_allMay : GoodIn wsX12_standing wsX12_allMay := goodIn_r _ [6, 1, 7, 8, 9, 5, 10, 11, 12, 13, 14, 15, 16, 17, 18, 19, 20, 21, 22, 23, 24, 25, 26, 27, 28, 29, 30, 31, 32, 33, 34, 35, 36, 37, 38, 39, 40, 41, 42, 43, 44, 45, 46] (by decide +kernel) (by decide +kernel)
set_option maxRecDepth 20000 in
theorem gX12_standing_X12_allMay : GoodIn wsX12_standing (wsV RX12 136 RX12 yX12_allMay wsX12_allMay) := goodIn_app (goodIn_of _ (by decide +kernel)) ggX12_standing_X12_allMay
theorem dX12_standing_0 : decode cX12_standing 0 = .ok (.iload_n 1, 1) := by decide +kernel
theorem dX12_standing_1 : decode cX12_standing 1 = .ok (.ifCond .ne 12, 3) := by decide +kernel
theorem dX12_standing_4 : decode cX12_standing 4 = .ok (.aload_n 0, 1) := by decide +kernel
theorem dX12_standing_5 : decode cX12_standing 5 = .ok (.getfield 9, 3) := by decide +kernel
theorem dX12_standing_8 : decode cX12_standing 8 = .ok (.iconst 1, 1) := by decide +kernel
theorem dX12_standing_9 : decode cX12_standing 9 = .ok (.iaload, 1) := by decide +kernel
theorem dX12_standing_10 : decode cX12_standing 10 = .ok (.goto 22, 3) := by decide +kernel
theorem dX12_standing_13 : decode cX12_standing 13 = .ok (.iload_n 1, 1) := by decide +kernel
theorem dX12_standing_14 : decode cX12_standing 14 = .ok (.iconst 1, 1) := by decide +kernel
theorem dX12_standing_15 : decode cX12_standing 15 = .ok (.if_icmp .ne 16, 3) := by decide +kernel
theorem dX12_standing_18 : decode cX12_standing 18 = .ok (.aload_n 0, 1) := by decide +kernel
theorem dX12_standing_19 : decode cX12_standing 19 = .ok (.aload_n 0, 1) := by decide +kernel
theorem dX12_standing_20 : decode cX12_standing 20 = .ok (.getfield 9, 3) := by decide +kernel
theorem dX12_standing_23 : decode cX12_standing 23 = .ok (.iconst 1, 1) := by decide +kernel
theorem dX12_standing_24 : decode cX12_standing 24 = .ok (.iaload, 1) := by decide +kernel
theorem dX12_standing_25 : decode cX12_standing 25 = .ok (.invokevirtual 136, 3) := by decide +kernel
theorem dX12_standing_28 : decode cX12_standing 28 = .ok (.goto 4, 3) := by decide +kernel
theorem dX12_standing_31 : decode cX12_standing 31 = .ok (.iconst (-1), 1) := by decide +kernel
theorem dX12_standing_32 : decode cX12_standing 32 = .ok (.ireturn, 1) := by decide +kernel
set_option maxRecDepth 20000 in
theorem ggX12_stand_X12_areDrawers : GoodIn wsX12_stand wsX12_areDrawers := goodIn_r _ [6, 7, 8, 9, 5, 10, 1, 11, 12, 13, 14, 15, 16, 17, 18, 19, 20, 21, 22, 23, 24, 25, 26, 27, 28, 29, 30, 31, 32] (by decide +kernel) (by decide +kernel)
set_option maxRecDepth 20000 in
theorem gX12_stand_X12_areDrawers : GoodIn wsX12_stand (wsV RX12 139 RX12 yX12_areDrawers wsX12_areDrawers) := goodIn_app (goodIn_of _ (by decide +kernel)) ggX12_stand_X12_areDrawers
theorem dX12_stand_0 : decode cX12_stand 0 = .ok (.aload_n 0, 1) := by decide +kernel
theorem dX12_stand_1 : decode cX12_stand 1 = .ok (.iload_n 1, 1) := by decide +kernel
theorem dX12_stand_2 : decode cX12_stand 2 = .ok (.invokevirtual 139, 3) := by decide +kernel
theorem dX12_stand_5 : decode cX12_stand 5 = .ok (.ifCond .ne 5, 3) := by decide +kernel
theorem dX12_stand_8 : decode cX12_stand 8 = .ok (.iconst (-1), 1) := by decide +kernel
theorem dX12_stand_9 : decode cX12_stand 9 = .ok (.ireturn, 1) := by decide +kernel
theorem dX12_stand_10 : decode cX12_stand 10 = .ok (.aload_n 0, 1) := by decide +kernel
theorem dX12_stand_11 : decode cX12_stand 11 = .ok (.getfield 9, 3) := by decide +kernel
theorem dX12_stand_14 : decode cX12_stand 14 = .ok (.iconst 1, 1) := by decide +kernel
theorem dX12_stand_15 : decode cX12_stand 15 = .ok (.iaload, 1) := by decide +kernel
theorem dX12_stand_16 : decode cX12_stand 16 = .ok (.istore_n 2, 1) := by decide +kernel
theorem dX12_stand_17 : decode cX12_stand 17 = .ok (.aload_n 0, 1) := by decide +kernel
theorem dX12_stand_18 : decode cX12_stand 18 = .ok (.getfield 9, 3) := by decide +kernel
theorem dX12_stand_21 : decode cX12_stand 21 = .ok (.iconst 1, 1) := by decide +kernel
theorem dX12_stand_22 : decode cX12_stand 22 = .ok (.iload_n 1, 1) := by decide +kernel
theorem dX12_stand_23 : decode cX12_stand 23 = .ok (.iastore, 1) := by decide +kernel
theorem dX12_stand_24 : decode cX12_stand 24 = .ok (.iload_n 2, 1) := by decide +kernel
theorem dX12_stand_25 : decode cX12_stand 25 = .ok (.ireturn, 1) := by decide +kernel
set_option maxRecDepth 20000 in
theorem ggX12_findsPulls_X12_everything : GoodIn wsX12_findsPulls wsX12_everything := goodIn_r _ [7, 2, 29, 30, 31, 32, 33, 34, 35, 36, 37, 38, 39, 40, 41, 42, 43, 44, 45, 46, 47] (by decide +kernel) (by decide +kernel)
set_option maxRecDepth 20000 in
theorem gX12_findsPulls_X12_everything : GoodIn wsX12_findsPulls (wsV RX12 59 RX12 yX12_everything wsX12_everything) := goodIn_app (goodIn_of _ (by decide +kernel)) ggX12_findsPulls_X12_everything
set_option maxRecDepth 20000 in
theorem ggX12_findsPulls_X12_may : GoodIn wsX12_findsPulls wsX12_may := goodIn_r _ [11, 12, 13, 14, 6, 15, 2, 16, 17, 18, 19, 20, 21, 22, 23, 24, 25, 26, 27, 28, 29, 30, 31, 32, 33, 34, 35, 36, 37, 38, 39, 40, 41, 42, 43, 44, 45, 46, 47] (by decide +kernel) (by decide +kernel)
set_option maxRecDepth 20000 in
theorem gX12_findsPulls_X12_may : GoodIn wsX12_findsPulls (wsV RX12 84 RX12 yX12_may wsX12_may) := goodIn_app (goodIn_of _ (by decide +kernel)) ggX12_findsPulls_X12_may
theorem dX12_findsPulls_0 : decode cX12_findsPulls 0 = .ok (.iconst 0, 1) := by decide +kernel
theorem dX12_findsPulls_1 : decode cX12_findsPulls 1 = .ok (.istore_n 2, 1) := by decide +kernel
theorem dX12_findsPulls_2 : decode cX12_findsPulls 2 = .ok (.iload_n 2, 1) := by decide +kernel
theorem dX12_findsPulls_3 : decode cX12_findsPulls 3 = .ok (.bipush 64, 2) := by decide +kernel
theorem dX12_findsPulls_5 : decode cX12_findsPulls 5 = .ok (.if_icmp .ge 26, 3) := by decide +kernel
theorem dX12_findsPulls_8 : decode cX12_findsPulls 8 = .ok (.aload_n 0, 1) := by decide +kernel
theorem dX12_findsPulls_9 : decode cX12_findsPulls 9 = .ok (.getfield 43, 3) := by decide +kernel
theorem dX12_findsPulls_12 : decode cX12_findsPulls 12 = .ok (.iload_n 2, 1) := by decide +kernel
theorem dX12_findsPulls_13 : decode cX12_findsPulls 13 = .ok (.iload_n 2, 1) := by decide +kernel
theorem dX12_findsPulls_14 : decode cX12_findsPulls 14 = .ok (.iload_n 1, 1) := by decide +kernel
theorem dX12_findsPulls_15 : decode cX12_findsPulls 15 = .ok (.if_icmp .ne 7, 3) := by decide +kernel
theorem dX12_findsPulls_18 : decode cX12_findsPulls 18 = .ok (.iconst 0, 1) := by decide +kernel
theorem dX12_findsPulls_19 : decode cX12_findsPulls 19 = .ok (.goto 5, 3) := by decide +kernel
theorem dX12_findsPulls_22 : decode cX12_findsPulls 22 = .ok (.bipush (-4), 2) := by decide +kernel
theorem dX12_findsPulls_24 : decode cX12_findsPulls 24 = .ok (.iastore, 1) := by decide +kernel
theorem dX12_findsPulls_25 : decode cX12_findsPulls 25 = .ok (.iinc 2 1, 3) := by decide +kernel
theorem dX12_findsPulls_28 : decode cX12_findsPulls 28 = .ok (.goto (-26), 3) := by decide +kernel
theorem dX12_findsPulls_31 : decode cX12_findsPulls 31 = .ok (.iconst 1, 1) := by decide +kernel
theorem dX12_findsPulls_32 : decode cX12_findsPulls 32 = .ok (.istore_n 2, 1) := by decide +kernel
theorem dX12_findsPulls_33 : decode cX12_findsPulls 33 = .ok (.iconst 0, 1) := by decide +kernel
theorem dX12_findsPulls_34 : decode cX12_findsPulls 34 = .ok (.istore_n 3, 1) := by decide +kernel
theorem dX12_findsPulls_35 : decode cX12_findsPulls 35 = .ok (.iload_n 2, 1) := by decide +kernel
theorem dX12_findsPulls_36 : decode cX12_findsPulls 36 = .ok (.ifCond .eq 109, 3) := by decide +kernel
theorem dX12_findsPulls_39 : decode cX12_findsPulls 39 = .ok (.iconst 0, 1) := by decide +kernel
theorem dX12_findsPulls_40 : decode cX12_findsPulls 40 = .ok (.istore_n 2, 1) := by decide +kernel
theorem dX12_findsPulls_41 : decode cX12_findsPulls 41 = .ok (.iconst 0, 1) := by decide +kernel
theorem dX12_findsPulls_42 : decode cX12_findsPulls 42 = .ok (.istore 4, 2) := by decide +kernel
theorem dX12_findsPulls_44 : decode cX12_findsPulls 44 = .ok (.iload 4, 2) := by decide +kernel
theorem dX12_findsPulls_46 : decode cX12_findsPulls 46 = .ok (.aload_n 0, 1) := by decide +kernel
theorem dX12_findsPulls_47 : decode cX12_findsPulls 47 = .ok (.invokevirtual 59, 3) := by decide +kernel
theorem dX12_findsPulls_50 : decode cX12_findsPulls 50 = .ok (.if_icmp .gt 89, 3) := by decide +kernel
theorem dX12_findsPulls_53 : decode cX12_findsPulls 53 = .ok (.aload_n 0, 1) := by decide +kernel
theorem dX12_findsPulls_54 : decode cX12_findsPulls 54 = .ok (.getfield 43, 3) := by decide +kernel
theorem dX12_findsPulls_57 : decode cX12_findsPulls 57 = .ok (.iload 4, 2) := by decide +kernel
theorem dX12_findsPulls_59 : decode cX12_findsPulls 59 = .ok (.iaload, 1) := by decide +kernel
theorem dX12_findsPulls_60 : decode cX12_findsPulls 60 = .ok (.iload_n 3, 1) := by decide +kernel
theorem dX12_findsPulls_61 : decode cX12_findsPulls 61 = .ok (.if_icmp .eq 6, 3) := by decide +kernel
theorem dX12_findsPulls_64 : decode cX12_findsPulls 64 = .ok (.goto 69, 3) := by decide +kernel
theorem dX12_findsPulls_67 : decode cX12_findsPulls 67 = .ok (.iconst 0, 1) := by decide +kernel
theorem dX12_findsPulls_68 : decode cX12_findsPulls 68 = .ok (.istore 5, 2) := by decide +kernel
theorem dX12_findsPulls_70 : decode cX12_findsPulls 70 = .ok (.iload 5, 2) := by decide +kernel
theorem dX12_findsPulls_72 : decode cX12_findsPulls 72 = .ok (.aload_n 0, 1) := by decide +kernel
theorem dX12_findsPulls_73 : decode cX12_findsPulls 73 = .ok (.getfield 9, 3) := by decide +kernel
theorem dX12_findsPulls_76 : decode cX12_findsPulls 76 = .ok (.iconst 0, 1) := by decide +kernel
theorem dX12_findsPulls_77 : decode cX12_findsPulls 77 = .ok (.iaload, 1) := by decide +kernel
theorem dX12_findsPulls_78 : decode cX12_findsPulls 78 = .ok (.if_icmp .ge 55, 3) := by decide +kernel
theorem dX12_findsPulls_81 : decode cX12_findsPulls 81 = .ok (.aload_n 0, 1) := by decide +kernel
theorem dX12_findsPulls_82 : decode cX12_findsPulls 82 = .ok (.iload 5, 2) := by decide +kernel
theorem dX12_findsPulls_84 : decode cX12_findsPulls 84 = .ok (.iload 4, 2) := by decide +kernel
theorem dX12_findsPulls_86 : decode cX12_findsPulls 86 = .ok (.invokevirtual 84, 3) := by decide +kernel
theorem dX12_findsPulls_89 : decode cX12_findsPulls 89 = .ok (.ifCond .eq 38, 3) := by decide +kernel
theorem dX12_findsPulls_92 : decode cX12_findsPulls 92 = .ok (.aload_n 0, 1) := by decide +kernel
theorem dX12_findsPulls_93 : decode cX12_findsPulls 93 = .ok (.getfield 43, 3) := by decide +kernel
theorem dX12_findsPulls_96 : decode cX12_findsPulls 96 = .ok (.iload 4, 2) := by decide +kernel
theorem dX12_findsPulls_98 : decode cX12_findsPulls 98 = .ok (.iconst 1, 1) := by decide +kernel
theorem dX12_findsPulls_99 : decode cX12_findsPulls 99 = .ok (.iload 5, 2) := by decide +kernel
theorem dX12_findsPulls_101 : decode cX12_findsPulls 101 = .ok (.ishl, 1) := by decide +kernel
theorem dX12_findsPulls_102 : decode cX12_findsPulls 102 = .ok (.ixor, 1) := by decide +kernel
theorem dX12_findsPulls_103 : decode cX12_findsPulls 103 = .ok (.iaload, 1) := by decide +kernel
theorem dX12_findsPulls_104 : decode cX12_findsPulls 104 = .ok (.ifCond .lt 6, 3) := by decide +kernel
theorem dX12_findsPulls_107 : decode cX12_findsPulls 107 = .ok (.goto 20, 3) := by decide +kernel
theorem dX12_findsPulls_110 : decode cX12_findsPulls 110 = .ok (.aload_n 0, 1) := by decide +kernel
theorem dX12_findsPulls_111 : decode cX12_findsPulls 111 = .ok (.getfield 43, 3) := by decide +kernel
theorem dX12_findsPulls_114 : decode cX12_findsPulls 114 = .ok (.iload 4, 2) := by decide +kernel
theorem dX12_findsPulls_116 : decode cX12_findsPulls 116 = .ok (.iconst 1, 1) := by decide +kernel
theorem dX12_findsPulls_117 : decode cX12_findsPulls 117 = .ok (.iload 5, 2) := by decide +kernel
theorem dX12_findsPulls_119 : decode cX12_findsPulls 119 = .ok (.ishl, 1) := by decide +kernel
theorem dX12_findsPulls_120 : decode cX12_findsPulls 120 = .ok (.ixor, 1) := by decide +kernel
theorem dX12_findsPulls_121 : decode cX12_findsPulls 121 = .ok (.iload_n 3, 1) := by decide +kernel
theorem dX12_findsPulls_122 : decode cX12_findsPulls 122 = .ok (.iconst 1, 1) := by decide +kernel
theorem dX12_findsPulls_123 : decode cX12_findsPulls 123 = .ok (.iadd, 1) := by decide +kernel
theorem dX12_findsPulls_124 : decode cX12_findsPulls 124 = .ok (.iastore, 1) := by decide +kernel
theorem dX12_findsPulls_125 : decode cX12_findsPulls 125 = .ok (.iconst 1, 1) := by decide +kernel
theorem dX12_findsPulls_126 : decode cX12_findsPulls 126 = .ok (.istore_n 2, 1) := by decide +kernel
theorem dX12_findsPulls_127 : decode cX12_findsPulls 127 = .ok (.iinc 5 1, 3) := by decide +kernel
theorem dX12_findsPulls_130 : decode cX12_findsPulls 130 = .ok (.goto (-60), 3) := by decide +kernel
theorem dX12_findsPulls_133 : decode cX12_findsPulls 133 = .ok (.iinc 4 1, 3) := by decide +kernel
theorem dX12_findsPulls_136 : decode cX12_findsPulls 136 = .ok (.goto (-92), 3) := by decide +kernel
theorem dX12_findsPulls_139 : decode cX12_findsPulls 139 = .ok (.iinc 3 1, 3) := by decide +kernel
theorem dX12_findsPulls_142 : decode cX12_findsPulls 142 = .ok (.goto (-107), 3) := by decide +kernel
theorem dX12_findsPulls_145 : decode cX12_findsPulls 145 = .ok (.return_, 1) := by decide +kernel
set_option maxRecDepth 20000 in
theorem ggX12_fewest_X12_areDrawers : GoodIn wsX12_fewest wsX12_areDrawers := goodIn_r _ [6, 7, 8, 9, 5, 10, 11, 12, 13, 14, 40, 41, 42, 43, 44, 45, 46, 47, 48, 49, 50, 51, 52, 53, 54, 55, 56, 57, 58] (by decide +kernel) (by decide +kernel)
set_option maxRecDepth 20000 in
theorem gX12_fewest_X12_areDrawers : GoodIn wsX12_fewest (wsV RX12 139 RX12 yX12_areDrawers wsX12_areDrawers) := goodIn_app (goodIn_of _ (by decide +kernel)) ggX12_fewest_X12_areDrawers
set_option maxRecDepth 20000 in
theorem ggX12_fewest_X12_findsPulls : GoodIn wsX12_fewest wsX12_findsPulls := goodIn_r _ [18, 1, 11, 7, 8, 9, 5, 10, 19, 20, 21, 22, 23, 24, 25, 26, 27, 28, 29, 30, 31, 32, 33, 34, 35, 36, 37, 38, 39, 40, 41, 42, 43, 44, 45, 46, 47, 48, 49, 50, 51, 52, 53, 54, 55, 56, 57, 58] (by decide +kernel) (by decide +kernel)
set_option maxRecDepth 20000 in
theorem gX12_fewest_X12_findsPulls : GoodIn wsX12_fewest (wsV RX12 142 RX12 yX12_findsPulls wsX12_findsPulls) := goodIn_app (goodIn_of _ (by decide +kernel)) ggX12_fewest_X12_findsPulls
theorem dX12_fewest_0 : decode cX12_fewest 0 = .ok (.aload_n 0, 1) := by decide +kernel
theorem dX12_fewest_1 : decode cX12_fewest 1 = .ok (.iload_n 1, 1) := by decide +kernel
theorem dX12_fewest_2 : decode cX12_fewest 2 = .ok (.invokevirtual 139, 3) := by decide +kernel
theorem dX12_fewest_5 : decode cX12_fewest 5 = .ok (.ifCond .eq 11, 3) := by decide +kernel
theorem dX12_fewest_8 : decode cX12_fewest 8 = .ok (.aload_n 0, 1) := by decide +kernel
theorem dX12_fewest_9 : decode cX12_fewest 9 = .ok (.iload_n 2, 1) := by decide +kernel
theorem dX12_fewest_10 : decode cX12_fewest 10 = .ok (.invokevirtual 139, 3) := by decide +kernel
theorem dX12_fewest_13 : decode cX12_fewest 13 = .ok (.ifCond .ne 5, 3) := by decide +kernel
theorem dX12_fewest_16 : decode cX12_fewest 16 = .ok (.iconst (-1), 1) := by decide +kernel
theorem dX12_fewest_17 : decode cX12_fewest 17 = .ok (.ireturn, 1) := by decide +kernel
theorem dX12_fewest_18 : decode cX12_fewest 18 = .ok (.aload_n 0, 1) := by decide +kernel
theorem dX12_fewest_19 : decode cX12_fewest 19 = .ok (.iload_n 1, 1) := by decide +kernel
theorem dX12_fewest_20 : decode cX12_fewest 20 = .ok (.invokevirtual 142, 3) := by decide +kernel
theorem dX12_fewest_23 : decode cX12_fewest 23 = .ok (.aload_n 0, 1) := by decide +kernel
theorem dX12_fewest_24 : decode cX12_fewest 24 = .ok (.getfield 43, 3) := by decide +kernel
theorem dX12_fewest_27 : decode cX12_fewest 27 = .ok (.iload_n 2, 1) := by decide +kernel
theorem dX12_fewest_28 : decode cX12_fewest 28 = .ok (.iaload, 1) := by decide +kernel
theorem dX12_fewest_29 : decode cX12_fewest 29 = .ok (.ireturn, 1) := by decide +kernel
set_option maxRecDepth 20000 in
theorem ggX12_first_X12_areDrawers : GoodIn wsX12_first wsX12_areDrawers := goodIn_r _ [7, 8, 9, 10, 6, 11, 2, 12, 13, 14, 40, 41, 42, 43, 44, 45, 46, 47, 48, 49, 50, 51, 52, 53, 54, 55, 56, 57, 58] (by decide +kernel) (by decide +kernel)
set_option maxRecDepth 20000 in
theorem gX12_first_X12_areDrawers : GoodIn wsX12_first (wsV RX12 139 RX12 yX12_areDrawers wsX12_areDrawers) := goodIn_app (goodIn_of _ (by decide +kernel)) ggX12_first_X12_areDrawers
set_option maxRecDepth 20000 in
theorem ggX12_first_X12_findsPulls : GoodIn wsX12_first wsX12_findsPulls := goodIn_r _ [18, 1, 2, 8, 9, 10, 6, 11, 19, 20, 21, 22, 23, 24, 25, 26, 27, 28, 29, 30, 31, 32, 33, 34, 35, 36, 37, 38, 39, 40, 41, 42, 43, 44, 45, 46, 47, 48, 49, 50, 51, 52, 53, 54, 55, 56, 57, 58] (by decide +kernel) (by decide +kernel)
set_option maxRecDepth 20000 in
theorem gX12_first_X12_findsPulls : GoodIn wsX12_first (wsV RX12 142 RX12 yX12_findsPulls wsX12_findsPulls) := goodIn_app (goodIn_of _ (by decide +kernel)) ggX12_first_X12_findsPulls
set_option maxRecDepth 20000 in
theorem ggX12_first_X12_may : GoodIn wsX12_first wsX12_may := goodIn_r _ [22, 23, 24, 25, 6, 26, 2, 27, 28, 29, 30, 31, 32, 33, 34, 35, 36, 37, 38, 39, 40, 41, 42, 43, 44, 45, 46, 47, 48, 49, 50, 51, 52, 53, 54, 55, 56, 57, 58] (by decide +kernel) (by decide +kernel)
set_option maxRecDepth 20000 in
theorem gX12_first_X12_may : GoodIn wsX12_first (wsV RX12 84 RX12 yX12_may wsX12_may) := goodIn_app (goodIn_of _ (by decide +kernel)) ggX12_first_X12_may
theorem dX12_first_0 : decode cX12_first 0 = .ok (.aload_n 0, 1) := by decide +kernel
theorem dX12_first_1 : decode cX12_first 1 = .ok (.iload_n 1, 1) := by decide +kernel
theorem dX12_first_2 : decode cX12_first 2 = .ok (.invokevirtual 139, 3) := by decide +kernel
theorem dX12_first_5 : decode cX12_first 5 = .ok (.ifCond .eq 11, 3) := by decide +kernel
theorem dX12_first_8 : decode cX12_first 8 = .ok (.aload_n 0, 1) := by decide +kernel
theorem dX12_first_9 : decode cX12_first 9 = .ok (.iload_n 2, 1) := by decide +kernel
theorem dX12_first_10 : decode cX12_first 10 = .ok (.invokevirtual 139, 3) := by decide +kernel
theorem dX12_first_13 : decode cX12_first 13 = .ok (.ifCond .ne 5, 3) := by decide +kernel
theorem dX12_first_16 : decode cX12_first 16 = .ok (.iconst (-1), 1) := by decide +kernel
theorem dX12_first_17 : decode cX12_first 17 = .ok (.ireturn, 1) := by decide +kernel
theorem dX12_first_18 : decode cX12_first 18 = .ok (.aload_n 0, 1) := by decide +kernel
theorem dX12_first_19 : decode cX12_first 19 = .ok (.iload_n 1, 1) := by decide +kernel
theorem dX12_first_20 : decode cX12_first 20 = .ok (.invokevirtual 142, 3) := by decide +kernel
theorem dX12_first_23 : decode cX12_first 23 = .ok (.aload_n 0, 1) := by decide +kernel
theorem dX12_first_24 : decode cX12_first 24 = .ok (.getfield 43, 3) := by decide +kernel
theorem dX12_first_27 : decode cX12_first 27 = .ok (.iload_n 2, 1) := by decide +kernel
theorem dX12_first_28 : decode cX12_first 28 = .ok (.iaload, 1) := by decide +kernel
theorem dX12_first_29 : decode cX12_first 29 = .ok (.istore_n 3, 1) := by decide +kernel
theorem dX12_first_30 : decode cX12_first 30 = .ok (.iconst 0, 1) := by decide +kernel
theorem dX12_first_31 : decode cX12_first 31 = .ok (.istore 4, 2) := by decide +kernel
theorem dX12_first_33 : decode cX12_first 33 = .ok (.iload 4, 2) := by decide +kernel
theorem dX12_first_35 : decode cX12_first 35 = .ok (.aload_n 0, 1) := by decide +kernel
theorem dX12_first_36 : decode cX12_first 36 = .ok (.getfield 9, 3) := by decide +kernel
theorem dX12_first_39 : decode cX12_first 39 = .ok (.iconst 0, 1) := by decide +kernel
theorem dX12_first_40 : decode cX12_first 40 = .ok (.iaload, 1) := by decide +kernel
theorem dX12_first_41 : decode cX12_first 41 = .ok (.if_icmp .ge 51, 3) := by decide +kernel
theorem dX12_first_44 : decode cX12_first 44 = .ok (.iload_n 3, 1) := by decide +kernel
theorem dX12_first_45 : decode cX12_first 45 = .ok (.ifCond .le 47, 3) := by decide +kernel
theorem dX12_first_48 : decode cX12_first 48 = .ok (.aload_n 0, 1) := by decide +kernel
theorem dX12_first_49 : decode cX12_first 49 = .ok (.iload 4, 2) := by decide +kernel
theorem dX12_first_51 : decode cX12_first 51 = .ok (.iload_n 1, 1) := by decide +kernel
theorem dX12_first_52 : decode cX12_first 52 = .ok (.invokevirtual 84, 3) := by decide +kernel
theorem dX12_first_55 : decode cX12_first 55 = .ok (.ifCond .ne 6, 3) := by decide +kernel
theorem dX12_first_58 : decode cX12_first 58 = .ok (.goto 28, 3) := by decide +kernel
theorem dX12_first_61 : decode cX12_first 61 = .ok (.aload_n 0, 1) := by decide +kernel
theorem dX12_first_62 : decode cX12_first 62 = .ok (.iload_n 1, 1) := by decide +kernel
theorem dX12_first_63 : decode cX12_first 63 = .ok (.iconst 1, 1) := by decide +kernel
theorem dX12_first_64 : decode cX12_first 64 = .ok (.iload 4, 2) := by decide +kernel
theorem dX12_first_66 : decode cX12_first 66 = .ok (.ishl, 1) := by decide +kernel
theorem dX12_first_67 : decode cX12_first 67 = .ok (.ixor, 1) := by decide +kernel
theorem dX12_first_68 : decode cX12_first 68 = .ok (.invokevirtual 142, 3) := by decide +kernel
theorem dX12_first_71 : decode cX12_first 71 = .ok (.aload_n 0, 1) := by decide +kernel
theorem dX12_first_72 : decode cX12_first 72 = .ok (.getfield 43, 3) := by decide +kernel
theorem dX12_first_75 : decode cX12_first 75 = .ok (.iload_n 2, 1) := by decide +kernel
theorem dX12_first_76 : decode cX12_first 76 = .ok (.iaload, 1) := by decide +kernel
theorem dX12_first_77 : decode cX12_first 77 = .ok (.iload_n 3, 1) := by decide +kernel
theorem dX12_first_78 : decode cX12_first 78 = .ok (.iconst 1, 1) := by decide +kernel
theorem dX12_first_79 : decode cX12_first 79 = .ok (.isub, 1) := by decide +kernel
theorem dX12_first_80 : decode cX12_first 80 = .ok (.if_icmp .ne 6, 3) := by decide +kernel
theorem dX12_first_83 : decode cX12_first 83 = .ok (.iload 4, 2) := by decide +kernel
theorem dX12_first_85 : decode cX12_first 85 = .ok (.ireturn, 1) := by decide +kernel
theorem dX12_first_86 : decode cX12_first 86 = .ok (.iinc 4 1, 3) := by decide +kernel
theorem dX12_first_89 : decode cX12_first 89 = .ok (.goto (-56), 3) := by decide +kernel
theorem dX12_first_92 : decode cX12_first 92 = .ok (.bipush (-4), 2) := by decide +kernel
theorem dX12_first_94 : decode cX12_first 94 = .ok (.ireturn, 1) := by decide +kernel
set_option maxRecDepth 20000 in
theorem ggX12_far_X12_isIn : GoodIn wsX12_far wsX12_isIn := goodIn_r _ [7] (by decide +kernel) (by decide +kernel)
set_option maxRecDepth 20000 in
theorem gX12_far_X12_isIn : GoodIn wsX12_far (va_wsS RX12 55 yX12_isIn wsX12_isIn) := goodIn_app (goodIn_of _ (by decide +kernel)) ggX12_far_X12_isIn
set_option maxRecDepth 20000 in
theorem ggX12_far_X12_findsPulls : GoodIn wsX12_far wsX12_findsPulls := goodIn_r _ [11, 3, 2, 12, 13, 14, 6, 15, 16, 17, 18, 19, 20, 21, 22, 23, 24, 25, 26, 27, 28, 29, 30, 31, 32, 33, 34, 35, 36, 37, 38, 39, 40, 41, 42, 43, 44, 45, 46, 47, 48, 49, 50, 51, 52, 53, 54, 55] (by decide +kernel) (by decide +kernel)
set_option maxRecDepth 20000 in
theorem gX12_far_X12_findsPulls : GoodIn wsX12_far (wsV RX12 142 RX12 yX12_findsPulls wsX12_findsPulls) := goodIn_app (goodIn_of _ (by decide +kernel)) ggX12_far_X12_findsPulls
set_option maxRecDepth 20000 in
theorem ggX12_far_X12_everything : GoodIn wsX12_far wsX12_everything := goodIn_r _ [15, 2, 37, 38, 39, 40, 41, 42, 43, 44, 45, 46, 47, 48, 49, 50, 51, 52, 53, 54, 55] (by decide +kernel) (by decide +kernel)
set_option maxRecDepth 20000 in
theorem gX12_far_X12_everything : GoodIn wsX12_far (wsV RX12 59 RX12 yX12_everything wsX12_everything) := goodIn_app (goodIn_of _ (by decide +kernel)) ggX12_far_X12_everything
theorem dX12_far_0 : decode cX12_far 0 = .ok (.iload_n 1, 1) := by decide +kernel
theorem dX12_far_1 : decode cX12_far 1 = .ok (.i2l, 1) := by decide +kernel
theorem dX12_far_2 : decode cX12_far 2 = .ok (.lconst 0, 1) := by decide +kernel
theorem dX12_far_3 : decode cX12_far 3 = .ok (.ldc2_w 146, 3) := by decide +kernel
theorem dX12_far_6 : decode cX12_far 6 = .ok (.invokestatic 55, 3) := by decide +kernel
theorem dX12_far_9 : decode cX12_far 9 = .ok (.ifCond .ne 5, 3) := by decide +kernel
theorem dX12_far_12 : decode cX12_far 12 = .ok (.iconst (-1), 1) := by decide +kernel
theorem dX12_far_13 : decode cX12_far 13 = .ok (.ireturn, 1) := by decide +kernel
theorem dX12_far_14 : decode cX12_far 14 = .ok (.aload_n 0, 1) := by decide +kernel
theorem dX12_far_15 : decode cX12_far 15 = .ok (.aload_n 0, 1) := by decide +kernel
theorem dX12_far_16 : decode cX12_far 16 = .ok (.getfield 9, 3) := by decide +kernel
theorem dX12_far_19 : decode cX12_far 19 = .ok (.iconst 1, 1) := by decide +kernel
theorem dX12_far_20 : decode cX12_far 20 = .ok (.iaload, 1) := by decide +kernel
theorem dX12_far_21 : decode cX12_far 21 = .ok (.invokevirtual 142, 3) := by decide +kernel
theorem dX12_far_24 : decode cX12_far 24 = .ok (.iconst 0, 1) := by decide +kernel
theorem dX12_far_25 : decode cX12_far 25 = .ok (.istore_n 2, 1) := by decide +kernel
theorem dX12_far_26 : decode cX12_far 26 = .ok (.iconst 0, 1) := by decide +kernel
theorem dX12_far_27 : decode cX12_far 27 = .ok (.istore_n 3, 1) := by decide +kernel
theorem dX12_far_28 : decode cX12_far 28 = .ok (.iconst (-1), 1) := by decide +kernel
theorem dX12_far_29 : decode cX12_far 29 = .ok (.istore 4, 2) := by decide +kernel
theorem dX12_far_31 : decode cX12_far 31 = .ok (.iconst 0, 1) := by decide +kernel
theorem dX12_far_32 : decode cX12_far 32 = .ok (.istore 5, 2) := by decide +kernel
theorem dX12_far_34 : decode cX12_far 34 = .ok (.iload 5, 2) := by decide +kernel
theorem dX12_far_36 : decode cX12_far 36 = .ok (.aload_n 0, 1) := by decide +kernel
theorem dX12_far_37 : decode cX12_far 37 = .ok (.invokevirtual 59, 3) := by decide +kernel
theorem dX12_far_40 : decode cX12_far 40 = .ok (.if_icmp .gt 54, 3) := by decide +kernel
theorem dX12_far_43 : decode cX12_far 43 = .ok (.iload_n 2, 1) := by decide +kernel
theorem dX12_far_44 : decode cX12_far 44 = .ok (.aload_n 0, 1) := by decide +kernel
theorem dX12_far_45 : decode cX12_far 45 = .ok (.getfield 43, 3) := by decide +kernel
theorem dX12_far_48 : decode cX12_far 48 = .ok (.iload 5, 2) := by decide +kernel
theorem dX12_far_50 : decode cX12_far 50 = .ok (.iaload, 1) := by decide +kernel
theorem dX12_far_51 : decode cX12_far 51 = .ok (.ifCond .lt 7, 3) := by decide +kernel
theorem dX12_far_54 : decode cX12_far 54 = .ok (.iconst 1, 1) := by decide +kernel
theorem dX12_far_55 : decode cX12_far 55 = .ok (.goto 4, 3) := by decide +kernel
theorem dX12_far_58 : decode cX12_far 58 = .ok (.iconst 0, 1) := by decide +kernel
theorem dX12_far_59 : decode cX12_far 59 = .ok (.iadd, 1) := by decide +kernel
theorem dX12_far_60 : decode cX12_far 60 = .ok (.istore_n 2, 1) := by decide +kernel
theorem dX12_far_61 : decode cX12_far 61 = .ok (.aload_n 0, 1) := by decide +kernel
theorem dX12_far_62 : decode cX12_far 62 = .ok (.getfield 43, 3) := by decide +kernel
theorem dX12_far_65 : decode cX12_far 65 = .ok (.iload 5, 2) := by decide +kernel
theorem dX12_far_67 : decode cX12_far 67 = .ok (.iaload, 1) := by decide +kernel
theorem dX12_far_68 : decode cX12_far 68 = .ok (.iload 4, 2) := by decide +kernel
theorem dX12_far_70 : decode cX12_far 70 = .ok (.if_icmp .gt 6, 3) := by decide +kernel
theorem dX12_far_73 : decode cX12_far 73 = .ok (.goto 15, 3) := by decide +kernel
theorem dX12_far_76 : decode cX12_far 76 = .ok (.iload 5, 2) := by decide +kernel
theorem dX12_far_78 : decode cX12_far 78 = .ok (.istore_n 3, 1) := by decide +kernel
theorem dX12_far_79 : decode cX12_far 79 = .ok (.aload_n 0, 1) := by decide +kernel
theorem dX12_far_80 : decode cX12_far 80 = .ok (.getfield 43, 3) := by decide +kernel
theorem dX12_far_83 : decode cX12_far 83 = .ok (.iload 5, 2) := by decide +kernel
theorem dX12_far_85 : decode cX12_far 85 = .ok (.iaload, 1) := by decide +kernel
theorem dX12_far_86 : decode cX12_far 86 = .ok (.istore 4, 2) := by decide +kernel
theorem dX12_far_88 : decode cX12_far 88 = .ok (.iinc 5 1, 3) := by decide +kernel
theorem dX12_far_91 : decode cX12_far 91 = .ok (.goto (-57), 3) := by decide +kernel
theorem dX12_far_94 : decode cX12_far 94 = .ok (.iload_n 1, 1) := by decide +kernel
theorem dX12_far_95 : decode cX12_far 95 = .ok (.ifCond .ne 7, 3) := by decide +kernel
theorem dX12_far_98 : decode cX12_far 98 = .ok (.iload_n 2, 1) := by decide +kernel
theorem dX12_far_99 : decode cX12_far 99 = .ok (.goto 14, 3) := by decide +kernel
theorem dX12_far_102 : decode cX12_far 102 = .ok (.iload_n 1, 1) := by decide +kernel
theorem dX12_far_103 : decode cX12_far 103 = .ok (.iconst 1, 1) := by decide +kernel
theorem dX12_far_104 : decode cX12_far 104 = .ok (.if_icmp .ne 8, 3) := by decide +kernel
theorem dX12_far_107 : decode cX12_far 107 = .ok (.iload 4, 2) := by decide +kernel
theorem dX12_far_109 : decode cX12_far 109 = .ok (.goto 4, 3) := by decide +kernel
theorem dX12_far_112 : decode cX12_far 112 = .ok (.iload_n 3, 1) := by decide +kernel
theorem dX12_far_113 : decode cX12_far 113 = .ok (.ireturn, 1) := by decide +kernel
set_option maxRecDepth 20000 in
theorem ggX12_never_X12_findsPulls : GoodIn wsX12_never wsX12_findsPulls := goodIn_r _ [7, 2, 1, 8, 9, 10, 6, 11, 12, 13, 14, 15, 16, 17, 18, 19, 20, 21, 22, 23, 24, 25, 26, 27, 28, 29, 30, 31, 32, 37, 38, 39, 40, 41, 42, 43, 44, 45, 46, 47, 48, 49, 50, 51, 52, 53, 54, 55] (by decide +kernel) (by decide +kernel)
set_option maxRecDepth 20000 in
theorem gX12_never_X12_findsPulls : GoodIn wsX12_never (wsV RX12 142 RX12 yX12_findsPulls wsX12_findsPulls) := goodIn_app (goodIn_of _ (by decide +kernel)) ggX12_never_X12_findsPulls
set_option maxRecDepth 20000 in
theorem ggX12_never_X12_everything : GoodIn wsX12_never wsX12_everything := goodIn_r _ [11, 1, 37, 38, 39, 40, 41, 42, 43, 44, 45, 46, 47, 48, 49, 50, 51, 52, 53, 54, 55] (by decide +kernel) (by decide +kernel)
set_option maxRecDepth 20000 in
theorem gX12_never_X12_everything : GoodIn wsX12_never (wsV RX12 59 RX12 yX12_everything wsX12_everything) := goodIn_app (goodIn_of _ (by decide +kernel)) ggX12_never_X12_everything
set_option maxRecDepth 20000 in
theorem ggX12_never_X12_allMay : GoodIn wsX12_never wsX12_allMay := goodIn_r _ [36, 1, 12, 13, 14, 6, 15, 16, 17, 18, 19, 20, 21, 22, 23, 24, 25, 26, 27, 28, 29, 30, 31, 32, 37, 38, 39, 40, 41, 42, 43, 44, 45, 46, 47, 48, 49, 50, 51, 52, 53, 54, 55] (by decide +kernel) (by decide +kernel)
set_option maxRecDepth 20000 in
theorem gX12_never_X12_allMay : GoodIn wsX12_never (wsV RX12 136 RX12 yX12_allMay wsX12_allMay) := goodIn_app (goodIn_of _ (by decide +kernel)) ggX12_never_X12_allMay
theorem dX12_never_0 : decode cX12_never 0 = .ok (.aload_n 0, 1) := by decide +kernel
theorem dX12_never_1 : decode cX12_never 1 = .ok (.aload_n 0, 1) := by decide +kernel
theorem dX12_never_2 : decode cX12_never 2 = .ok (.getfield 9, 3) := by decide +kernel
theorem dX12_never_5 : decode cX12_never 5 = .ok (.iconst 1, 1) := by decide +kernel
theorem dX12_never_6 : decode cX12_never 6 = .ok (.iaload, 1) := by decide +kernel
theorem dX12_never_7 : decode cX12_never 7 = .ok (.invokevirtual 142, 3) := by decide +kernel
theorem dX12_never_10 : decode cX12_never 10 = .ok (.aload_n 0, 1) := by decide +kernel
theorem dX12_never_11 : decode cX12_never 11 = .ok (.invokevirtual 59, 3) := by decide +kernel
theorem dX12_never_14 : decode cX12_never 14 = .ok (.istore_n 1, 1) := by decide +kernel
theorem dX12_never_15 : decode cX12_never 15 = .ok (.iconst 0, 1) := by decide +kernel
theorem dX12_never_16 : decode cX12_never 16 = .ok (.istore_n 2, 1) := by decide +kernel
theorem dX12_never_17 : decode cX12_never 17 = .ok (.iload_n 2, 1) := by decide +kernel
theorem dX12_never_18 : decode cX12_never 18 = .ok (.aload_n 0, 1) := by decide +kernel
theorem dX12_never_19 : decode cX12_never 19 = .ok (.invokevirtual 59, 3) := by decide +kernel
theorem dX12_never_22 : decode cX12_never 22 = .ok (.if_icmp .gt 28, 3) := by decide +kernel
theorem dX12_never_25 : decode cX12_never 25 = .ok (.aload_n 0, 1) := by decide +kernel
theorem dX12_never_26 : decode cX12_never 26 = .ok (.getfield 43, 3) := by decide +kernel
theorem dX12_never_29 : decode cX12_never 29 = .ok (.iload_n 2, 1) := by decide +kernel
theorem dX12_never_30 : decode cX12_never 30 = .ok (.iaload, 1) := by decide +kernel
theorem dX12_never_31 : decode cX12_never 31 = .ok (.ifCond .lt 13, 3) := by decide +kernel
theorem dX12_never_34 : decode cX12_never 34 = .ok (.iload_n 1, 1) := by decide +kernel
theorem dX12_never_35 : decode cX12_never 35 = .ok (.aload_n 0, 1) := by decide +kernel
theorem dX12_never_36 : decode cX12_never 36 = .ok (.iload_n 2, 1) := by decide +kernel
theorem dX12_never_37 : decode cX12_never 37 = .ok (.invokevirtual 136, 3) := by decide +kernel
theorem dX12_never_40 : decode cX12_never 40 = .ok (.iconst (-1), 1) := by decide +kernel
theorem dX12_never_41 : decode cX12_never 41 = .ok (.ixor, 1) := by decide +kernel
theorem dX12_never_42 : decode cX12_never 42 = .ok (.iand, 1) := by decide +kernel
theorem dX12_never_43 : decode cX12_never 43 = .ok (.istore_n 1, 1) := by decide +kernel
theorem dX12_never_44 : decode cX12_never 44 = .ok (.iinc 2 1, 3) := by decide +kernel
theorem dX12_never_47 : decode cX12_never 47 = .ok (.goto (-30), 3) := by decide +kernel
theorem dX12_never_50 : decode cX12_never 50 = .ok (.iload_n 1, 1) := by decide +kernel
theorem dX12_never_51 : decode cX12_never 51 = .ok (.ireturn, 1) := by decide +kernel
set_option maxRecDepth 20000 in
theorem ggX12_isJoiners_X12_kind : GoodIn wsX12_isJoiners wsX12_kind := goodIn_r _ [6, 1, 7, 8, 9, 10, 11, 12, 13, 14, 15, 16, 17, 18, 19, 20, 21, 22, 23, 24, 25] (by decide +kernel) (by decide +kernel)
set_option maxRecDepth 20000 in
theorem gX12_isJoiners_X12_kind : GoodIn wsX12_isJoiners (wsV RX12 71 RX12 yX12_kind wsX12_kind) := goodIn_app (goodIn_of _ (by decide +kernel)) ggX12_isJoiners_X12_kind
theorem dX12_isJoiners_0 : decode cX12_isJoiners 0 = .ok (.iconst 0, 1) := by decide +kernel
theorem dX12_isJoiners_1 : decode cX12_isJoiners 1 = .ok (.istore_n 1, 1) := by decide +kernel
theorem dX12_isJoiners_2 : decode cX12_isJoiners 2 = .ok (.iload_n 1, 1) := by decide +kernel
theorem dX12_isJoiners_3 : decode cX12_isJoiners 3 = .ok (.aload_n 0, 1) := by decide +kernel
theorem dX12_isJoiners_4 : decode cX12_isJoiners 4 = .ok (.getfield 9, 3) := by decide +kernel
theorem dX12_isJoiners_7 : decode cX12_isJoiners 7 = .ok (.iconst 0, 1) := by decide +kernel
theorem dX12_isJoiners_8 : decode cX12_isJoiners 8 = .ok (.iaload, 1) := by decide +kernel
theorem dX12_isJoiners_9 : decode cX12_isJoiners 9 = .ok (.if_icmp .ge 19, 3) := by decide +kernel
theorem dX12_isJoiners_12 : decode cX12_isJoiners 12 = .ok (.aload_n 0, 1) := by decide +kernel
theorem dX12_isJoiners_13 : decode cX12_isJoiners 13 = .ok (.iload_n 1, 1) := by decide +kernel
theorem dX12_isJoiners_14 : decode cX12_isJoiners 14 = .ok (.invokevirtual 71, 3) := by decide +kernel
theorem dX12_isJoiners_17 : decode cX12_isJoiners 17 = .ok (.ifCond .eq 5, 3) := by decide +kernel
theorem dX12_isJoiners_20 : decode cX12_isJoiners 20 = .ok (.iconst 0, 1) := by decide +kernel
theorem dX12_isJoiners_21 : decode cX12_isJoiners 21 = .ok (.ireturn, 1) := by decide +kernel
theorem dX12_isJoiners_22 : decode cX12_isJoiners 22 = .ok (.iinc 1 1, 3) := by decide +kernel
theorem dX12_isJoiners_25 : decode cX12_isJoiners 25 = .ok (.goto (-23), 3) := by decide +kernel
theorem dX12_isJoiners_28 : decode cX12_isJoiners 28 = .ok (.iconst 1, 1) := by decide +kernel
theorem dX12_isJoiners_29 : decode cX12_isJoiners 29 = .ok (.ireturn, 1) := by decide +kernel
set_option maxRecDepth 20000 in
theorem ggX12_place_X12_areDrawers : GoodIn wsX12_place wsX12_areDrawers := goodIn_r _ [6, 7, 8, 9, 5, 10, 11, 12, 13, 14, 44, 45, 46, 47, 48, 49, 50, 51, 52, 53, 54, 55, 56, 57, 58, 59, 60, 61, 62] (by decide +kernel) (by decide +kernel)
set_option maxRecDepth 20000 in
theorem gX12_place_X12_areDrawers : GoodIn wsX12_place (wsV RX12 139 RX12 yX12_areDrawers wsX12_areDrawers) := goodIn_app (goodIn_of _ (by decide +kernel)) ggX12_place_X12_areDrawers
set_option maxRecDepth 20000 in
theorem ggX12_place_X12_isJoiners : GoodIn wsX12_place wsX12_isJoiners := goodIn_r _ [18, 11, 19, 20, 21, 5, 22, 44, 45, 46, 47, 48, 49, 50, 51, 52, 53, 54, 55, 56, 57, 58, 59, 60, 61, 62] (by decide +kernel) (by decide +kernel)
set_option maxRecDepth 20000 in
theorem gX12_place_X12_isJoiners : GoodIn wsX12_place (wsV RX12 148 RX12 yX12_isJoiners wsX12_isJoiners) := goodIn_app (goodIn_of _ (by decide +kernel)) ggX12_place_X12_isJoiners
set_option maxRecDepth 20000 in
theorem ggX12_place_X12_everything : GoodIn wsX12_place wsX12_everything := goodIn_r _ [10, 11, 44, 45, 46, 47, 48, 49, 50, 51, 52, 53, 54, 55, 56, 57, 58, 59, 60, 61, 62] (by decide +kernel) (by decide +kernel)
set_option maxRecDepth 20000 in
theorem gX12_place_X12_everything : GoodIn wsX12_place (wsV RX12 59 RX12 yX12_everything wsX12_everything) := goodIn_app (goodIn_of _ (by decide +kernel)) ggX12_place_X12_everything
set_option maxRecDepth 20000 in
theorem ggX12_place_X12_findsPulls : GoodIn wsX12_place wsX12_findsPulls := goodIn_r _ [26, 1, 11, 7, 8, 9, 5, 10, 27, 28, 29, 30, 31, 32, 33, 34, 19, 20, 21, 22, 35, 36, 37, 38, 39, 40, 41, 42, 43, 44, 45, 46, 47, 48, 49, 50, 51, 52, 53, 54, 55, 56, 57, 58, 59, 60, 61, 62] (by decide +kernel) (by decide +kernel)
set_option maxRecDepth 20000 in
theorem gX12_place_X12_findsPulls : GoodIn wsX12_place (wsV RX12 142 RX12 yX12_findsPulls wsX12_findsPulls) := goodIn_app (goodIn_of _ (by decide +kernel)) ggX12_place_X12_findsPulls
theorem dX12_place_0 : decode cX12_place 0 = .ok (.aload_n 0, 1) := by decide +kernel
theorem dX12_place_1 : decode cX12_place 1 = .ok (.iload_n 1, 1) := by decide +kernel
theorem dX12_place_2 : decode cX12_place 2 = .ok (.invokevirtual 139, 3) := by decide +kernel
theorem dX12_place_5 : decode cX12_place 5 = .ok (.ifCond .ne 5, 3) := by decide +kernel
theorem dX12_place_8 : decode cX12_place 8 = .ok (.iconst (-1), 1) := by decide +kernel
theorem dX12_place_9 : decode cX12_place 9 = .ok (.ireturn, 1) := by decide +kernel
theorem dX12_place_10 : decode cX12_place 10 = .ok (.aload_n 0, 1) := by decide +kernel
theorem dX12_place_11 : decode cX12_place 11 = .ok (.invokevirtual 148, 3) := by decide +kernel
theorem dX12_place_14 : decode cX12_place 14 = .ok (.ifCond .ne 6, 3) := by decide +kernel
theorem dX12_place_17 : decode cX12_place 17 = .ok (.bipush (-3), 2) := by decide +kernel
theorem dX12_place_19 : decode cX12_place 19 = .ok (.ireturn, 1) := by decide +kernel
theorem dX12_place_20 : decode cX12_place 20 = .ok (.aload_n 0, 1) := by decide +kernel
theorem dX12_place_21 : decode cX12_place 21 = .ok (.aload_n 0, 1) := by decide +kernel
theorem dX12_place_22 : decode cX12_place 22 = .ok (.invokevirtual 59, 3) := by decide +kernel
theorem dX12_place_25 : decode cX12_place 25 = .ok (.invokevirtual 142, 3) := by decide +kernel
theorem dX12_place_28 : decode cX12_place 28 = .ok (.aload_n 0, 1) := by decide +kernel
theorem dX12_place_29 : decode cX12_place 29 = .ok (.getfield 43, 3) := by decide +kernel
theorem dX12_place_32 : decode cX12_place 32 = .ok (.iload_n 1, 1) := by decide +kernel
theorem dX12_place_33 : decode cX12_place 33 = .ok (.iaload, 1) := by decide +kernel
theorem dX12_place_34 : decode cX12_place 34 = .ok (.ireturn, 1) := by decide +kernel
set_option maxRecDepth 20000 in
theorem ggX12_at_X12_isJoiners : GoodIn wsX12_at wsX12_isJoiners := goodIn_r _ [6, 7, 8, 9, 10, 5, 11, 37, 38, 39, 40, 41, 42, 43, 44, 45, 46, 47, 48, 49, 50, 51, 52, 53, 54, 55] (by decide +kernel) (by decide +kernel)
set_option maxRecDepth 20000 in
theorem gX12_at_X12_isJoiners : GoodIn wsX12_at (wsV RX12 148 RX12 yX12_isJoiners wsX12_isJoiners) := goodIn_app (goodIn_of _ (by decide +kernel)) ggX12_at_X12_isJoiners
set_option maxRecDepth 20000 in
theorem ggX12_at_X12_everything : GoodIn wsX12_at wsX12_everything := goodIn_r _ [15, 7, 37, 38, 39, 40, 41, 42, 43, 44, 45, 46, 47, 48, 49, 50, 51, 52, 53, 54, 55] (by decide +kernel) (by decide +kernel)
set_option maxRecDepth 20000 in
theorem gX12_at_X12_everything : GoodIn wsX12_at (wsV RX12 59 RX12 yX12_everything wsX12_everything) := goodIn_app (goodIn_of _ (by decide +kernel)) ggX12_at_X12_everything
set_option maxRecDepth 20000 in
theorem ggX12_at_X12_findsPulls : GoodIn wsX12_at wsX12_findsPulls := goodIn_r _ [19, 1, 7, 12, 13, 14, 5, 15, 20, 21, 22, 23, 24, 25, 26, 27, 8, 9, 10, 11, 28, 29, 30, 31, 32, 33, 34, 35, 36, 37, 38, 39, 40, 41, 42, 43, 44, 45, 46, 47, 48, 49, 50, 51, 52, 53, 54, 55] (by decide +kernel) (by decide +kernel)
set_option maxRecDepth 20000 in
theorem gX12_at_X12_findsPulls : GoodIn wsX12_at (wsV RX12 142 RX12 yX12_findsPulls wsX12_findsPulls) := goodIn_app (goodIn_of _ (by decide +kernel)) ggX12_at_X12_findsPulls
theorem dX12_at_0 : decode cX12_at 0 = .ok (.iload_n 1, 1) := by decide +kernel
theorem dX12_at_1 : decode cX12_at 1 = .ok (.ifCond .ge 5, 3) := by decide +kernel
theorem dX12_at_4 : decode cX12_at 4 = .ok (.iconst (-1), 1) := by decide +kernel
theorem dX12_at_5 : decode cX12_at 5 = .ok (.ireturn, 1) := by decide +kernel
theorem dX12_at_6 : decode cX12_at 6 = .ok (.aload_n 0, 1) := by decide +kernel
theorem dX12_at_7 : decode cX12_at 7 = .ok (.invokevirtual 148, 3) := by decide +kernel
theorem dX12_at_10 : decode cX12_at 10 = .ok (.ifCond .ne 6, 3) := by decide +kernel
theorem dX12_at_13 : decode cX12_at 13 = .ok (.bipush (-3), 2) := by decide +kernel
theorem dX12_at_15 : decode cX12_at 15 = .ok (.ireturn, 1) := by decide +kernel
theorem dX12_at_16 : decode cX12_at 16 = .ok (.aload_n 0, 1) := by decide +kernel
theorem dX12_at_17 : decode cX12_at 17 = .ok (.aload_n 0, 1) := by decide +kernel
theorem dX12_at_18 : decode cX12_at 18 = .ok (.invokevirtual 59, 3) := by decide +kernel
theorem dX12_at_21 : decode cX12_at 21 = .ok (.invokevirtual 142, 3) := by decide +kernel
theorem dX12_at_24 : decode cX12_at 24 = .ok (.iconst 0, 1) := by decide +kernel
theorem dX12_at_25 : decode cX12_at 25 = .ok (.istore_n 2, 1) := by decide +kernel
theorem dX12_at_26 : decode cX12_at 26 = .ok (.iload_n 2, 1) := by decide +kernel
theorem dX12_at_27 : decode cX12_at 27 = .ok (.aload_n 0, 1) := by decide +kernel
theorem dX12_at_28 : decode cX12_at 28 = .ok (.invokevirtual 59, 3) := by decide +kernel
theorem dX12_at_31 : decode cX12_at 31 = .ok (.if_icmp .gt 21, 3) := by decide +kernel
theorem dX12_at_34 : decode cX12_at 34 = .ok (.aload_n 0, 1) := by decide +kernel
theorem dX12_at_35 : decode cX12_at 35 = .ok (.getfield 43, 3) := by decide +kernel
theorem dX12_at_38 : decode cX12_at 38 = .ok (.iload_n 2, 1) := by decide +kernel
theorem dX12_at_39 : decode cX12_at 39 = .ok (.iaload, 1) := by decide +kernel
theorem dX12_at_40 : decode cX12_at 40 = .ok (.iload_n 1, 1) := by decide +kernel
theorem dX12_at_41 : decode cX12_at 41 = .ok (.if_icmp .ne 5, 3) := by decide +kernel
theorem dX12_at_44 : decode cX12_at 44 = .ok (.iload_n 2, 1) := by decide +kernel
theorem dX12_at_45 : decode cX12_at 45 = .ok (.ireturn, 1) := by decide +kernel
theorem dX12_at_46 : decode cX12_at 46 = .ok (.iinc 2 1, 3) := by decide +kernel
theorem dX12_at_49 : decode cX12_at 49 = .ok (.goto (-23), 3) := by decide +kernel
theorem dX12_at_52 : decode cX12_at 52 = .ok (.bipush (-4), 2) := by decide +kernel
theorem dX12_at_54 : decode cX12_at 54 = .ok (.ireturn, 1) := by decide +kernel
set_option maxRecDepth 20000 in
theorem ggX12_hadOf_X12_may : GoodIn wsX12_hadOf wsX12_may := goodIn_r _ [7, 8, 9, 10, 6, 11, 2, 12, 13, 14, 15, 16, 17, 18, 19, 20, 21, 22, 23, 24, 25, 26, 27, 28, 29, 30, 31, 32, 33, 34, 35, 36, 37, 38, 39, 40, 41, 42, 43] (by decide +kernel) (by decide +kernel)
set_option maxRecDepth 20000 in
theorem gX12_hadOf_X12_may : GoodIn wsX12_hadOf (wsV RX12 84 RX12 yX12_may wsX12_may) := goodIn_app (goodIn_of _ (by decide +kernel)) ggX12_hadOf_X12_may
theorem dX12_hadOf_0 : decode cX12_hadOf 0 = .ok (.iconst 0, 1) := by decide +kernel
theorem dX12_hadOf_1 : decode cX12_hadOf 1 = .ok (.istore_n 2, 1) := by decide +kernel
theorem dX12_hadOf_2 : decode cX12_hadOf 2 = .ok (.iload_n 2, 1) := by decide +kernel
theorem dX12_hadOf_3 : decode cX12_hadOf 3 = .ok (.sipush 4096, 3) := by decide +kernel
theorem dX12_hadOf_6 : decode cX12_hadOf 6 = .ok (.if_icmp .ge 17, 3) := by decide +kernel
theorem dX12_hadOf_9 : decode cX12_hadOf 9 = .ok (.aload_n 0, 1) := by decide +kernel
theorem dX12_hadOf_10 : decode cX12_hadOf 10 = .ok (.getfield 46, 3) := by decide +kernel
theorem dX12_hadOf_13 : decode cX12_hadOf 13 = .ok (.iload_n 2, 1) := by decide +kernel
theorem dX12_hadOf_14 : decode cX12_hadOf 14 = .ok (.bipush (-4), 2) := by decide +kernel
theorem dX12_hadOf_16 : decode cX12_hadOf 16 = .ok (.iastore, 1) := by decide +kernel
theorem dX12_hadOf_17 : decode cX12_hadOf 17 = .ok (.iinc 2 1, 3) := by decide +kernel
theorem dX12_hadOf_20 : decode cX12_hadOf 20 = .ok (.goto (-18), 3) := by decide +kernel
theorem dX12_hadOf_23 : decode cX12_hadOf 23 = .ok (.aload_n 0, 1) := by decide +kernel
theorem dX12_hadOf_24 : decode cX12_hadOf 24 = .ok (.getfield 46, 3) := by decide +kernel
theorem dX12_hadOf_27 : decode cX12_hadOf 27 = .ok (.bipush 64, 2) := by decide +kernel
theorem dX12_hadOf_29 : decode cX12_hadOf 29 = .ok (.aload_n 0, 1) := by decide +kernel
theorem dX12_hadOf_30 : decode cX12_hadOf 30 = .ok (.getfield 9, 3) := by decide +kernel
theorem dX12_hadOf_33 : decode cX12_hadOf 33 = .ok (.iconst 1, 1) := by decide +kernel
theorem dX12_hadOf_34 : decode cX12_hadOf 34 = .ok (.iaload, 1) := by decide +kernel
theorem dX12_hadOf_35 : decode cX12_hadOf 35 = .ok (.imul, 1) := by decide +kernel
theorem dX12_hadOf_36 : decode cX12_hadOf 36 = .ok (.aload_n 0, 1) := by decide +kernel
theorem dX12_hadOf_37 : decode cX12_hadOf 37 = .ok (.getfield 9, 3) := by decide +kernel
theorem dX12_hadOf_40 : decode cX12_hadOf 40 = .ok (.iconst 1, 1) := by decide +kernel
theorem dX12_hadOf_41 : decode cX12_hadOf 41 = .ok (.iaload, 1) := by decide +kernel
theorem dX12_hadOf_42 : decode cX12_hadOf 42 = .ok (.iadd, 1) := by decide +kernel
theorem dX12_hadOf_43 : decode cX12_hadOf 43 = .ok (.iconst 0, 1) := by decide +kernel
theorem dX12_hadOf_44 : decode cX12_hadOf 44 = .ok (.iastore, 1) := by decide +kernel
theorem dX12_hadOf_45 : decode cX12_hadOf 45 = .ok (.iconst 1, 1) := by decide +kernel
theorem dX12_hadOf_46 : decode cX12_hadOf 46 = .ok (.istore_n 2, 1) := by decide +kernel
theorem dX12_hadOf_47 : decode cX12_hadOf 47 = .ok (.iconst 0, 1) := by decide +kernel
theorem dX12_hadOf_48 : decode cX12_hadOf 48 = .ok (.istore_n 3, 1) := by decide +kernel
