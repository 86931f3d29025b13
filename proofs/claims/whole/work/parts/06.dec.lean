theorem dX11_run_50 : decode cX11_run 50 = .ok (.aload_n 3, 1) := by decide +kernel
theorem dX11_run_51 : decode cX11_run 51 = .ok (.iload 4, 2) := by decide +kernel
theorem dX11_run_53 : decode cX11_run 53 = .ok (.invokevirtual 73, 3) := by decide +kernel
theorem dX11_run_56 : decode cX11_run 56 = .ok (.invokevirtual 173, 3) := by decide +kernel
theorem dX11_run_59 : decode cX11_run 59 = .ok (.ifCond .ne 6, 3) := by decide +kernel
theorem dX11_run_62 : decode cX11_run 62 = .ok (.bipush (-13), 2) := by decide +kernel
theorem dX11_run_64 : decode cX11_run 64 = .ok (.ireturn, 1) := by decide +kernel
theorem dX11_run_65 : decode cX11_run 65 = .ok (.iinc 4 1, 3) := by decide +kernel
theorem dX11_run_68 : decode cX11_run 68 = .ok (.goto (-31), 3) := by decide +kernel
theorem dX11_run_71 : decode cX11_run 71 = .ok (.aload_n 0, 1) := by decide +kernel
theorem dX11_run_72 : decode cX11_run 72 = .ok (.getfield 19, 3) := by decide +kernel
theorem dX11_run_75 : decode cX11_run 75 = .ok (.aload_n 0, 1) := by decide +kernel
theorem dX11_run_76 : decode cX11_run 76 = .ok (.getfield 10, 3) := by decide +kernel
theorem dX11_run_79 : decode cX11_run 79 = .ok (.invokevirtual 65, 3) := by decide +kernel
theorem dX11_run_82 : decode cX11_run 82 = .ok (.iconst 0, 1) := by decide +kernel
theorem dX11_run_83 : decode cX11_run 83 = .ok (.istore 4, 2) := by decide +kernel
theorem dX11_run_85 : decode cX11_run 85 = .ok (.iconst 0, 1) := by decide +kernel
theorem dX11_run_86 : decode cX11_run 86 = .ok (.istore 5, 2) := by decide +kernel
theorem dX11_run_88 : decode cX11_run 88 = .ok (.iload 5, 2) := by decide +kernel
theorem dX11_run_90 : decode cX11_run 90 = .ok (.aload_n 3, 1) := by decide +kernel
theorem dX11_run_91 : decode cX11_run 91 = .ok (.getfield 69, 3) := by decide +kernel
theorem dX11_run_94 : decode cX11_run 94 = .ok (.if_icmp .ge 28, 3) := by decide +kernel
theorem dX11_run_97 : decode cX11_run 97 = .ok (.aload_n 0, 1) := by decide +kernel
theorem dX11_run_98 : decode cX11_run 98 = .ok (.getfield 19, 3) := by decide +kernel
theorem dX11_run_101 : decode cX11_run 101 = .ok (.aload_n 3, 1) := by decide +kernel
theorem dX11_run_102 : decode cX11_run 102 = .ok (.iload 5, 2) := by decide +kernel
theorem dX11_run_104 : decode cX11_run 104 = .ok (.invokevirtual 73, 3) := by decide +kernel
theorem dX11_run_107 : decode cX11_run 107 = .ok (.invokevirtual 113, 3) := by decide +kernel
theorem dX11_run_110 : decode cX11_run 110 = .ok (.ifCond .eq 6, 3) := by decide +kernel
theorem dX11_run_113 : decode cX11_run 113 = .ok (.iinc 4 1, 3) := by decide +kernel
theorem dX11_run_116 : decode cX11_run 116 = .ok (.iinc 5 1, 3) := by decide +kernel
theorem dX11_run_119 : decode cX11_run 119 = .ok (.goto (-31), 3) := by decide +kernel
theorem dX11_run_122 : decode cX11_run 122 = .ok (.iload_n 2, 1) := by decide +kernel
theorem dX11_run_123 : decode cX11_run 123 = .ok (.ifCond .ne 13, 3) := by decide +kernel
theorem dX11_run_126 : decode cX11_run 126 = .ok (.aload_n 0, 1) := by decide +kernel
theorem dX11_run_127 : decode cX11_run 127 = .ok (.getfield 19, 3) := by decide +kernel
theorem dX11_run_130 : decode cX11_run 130 = .ok (.getfield 91, 3) := by decide +kernel
theorem dX11_run_133 : decode cX11_run 133 = .ok (.goto 5, 3) := by decide +kernel
theorem dX11_run_136 : decode cX11_run 136 = .ok (.iload 4, 2) := by decide +kernel
theorem dX11_run_138 : decode cX11_run 138 = .ok (.ireturn, 1) := by decide +kernel
set_option maxRecDepth 20000 in
theorem ggX11_seeded_X9_takeFrom : GoodIn wsX11_seeded wsX9_takeFrom := goodIn_r _ [12, 13, 14, 15, 102, 103, 104] (by decide +kernel) (by decide +kernel)
set_option maxRecDepth 20000 in
theorem gX11_seeded_X9_takeFrom : GoodIn wsX11_seeded (wsV RX11 65 RX9 yX9_takeFrom wsX9_takeFrom) := goodIn_app (goodIn_of _ (by decide +kernel)) ggX11_seeded_X9_takeFrom
set_option maxRecDepth 20000 in
theorem ggX11_seeded_X9_pulled : GoodIn wsX11_seeded wsX9_pulled := goodIn_r _ [19, 15, 20, 21, 22, 11, 23, 24, 25, 26, 27, 13, 28, 29, 30, 31, 14, 32, 33, 34, 35, 36, 37, 38, 39, 40, 41, 42, 43, 44, 45, 46, 47, 48, 49, 50, 51, 52, 53, 54, 55, 56, 57, 58, 59, 60, 61, 62, 63, 64, 65, 66, 67, 68, 69, 70, 71, 72, 73, 74, 75, 76, 77, 78, 79, 80, 81, 82, 83, 84, 85, 86, 87, 88, 89, 90, 91, 92, 93, 102, 103, 104, 105, 106, 107, 108, 109, 110, 111, 112] (by decide +kernel) (by decide +kernel)
set_option maxRecDepth 20000 in
theorem gX11_seeded_X9_pulled : GoodIn wsX11_seeded (wsV RX11 113 RX9 yX9_pulled wsX9_pulled) := goodIn_app (goodIn_of _ (by decide +kernel)) ggX11_seeded_X9_pulled
theorem dX11_seeded_0 : decode cX11_seeded 0 = .ok (.iload_n 1, 1) := by decide +kernel
theorem dX11_seeded_1 : decode cX11_seeded 1 = .ok (.iconst 1, 1) := by decide +kernel
theorem dX11_seeded_2 : decode cX11_seeded 2 = .ok (.if_icmp .lt 18, 3) := by decide +kernel
theorem dX11_seeded_5 : decode cX11_seeded 5 = .ok (.iload_n 1, 1) := by decide +kernel
theorem dX11_seeded_6 : decode cX11_seeded 6 = .ok (.bipush 60, 2) := by decide +kernel
theorem dX11_seeded_8 : decode cX11_seeded 8 = .ok (.if_icmp .gt 12, 3) := by decide +kernel
theorem dX11_seeded_11 : decode cX11_seeded 11 = .ok (.iload_n 3, 1) := by decide +kernel
theorem dX11_seeded_12 : decode cX11_seeded 12 = .ok (.ifCond .lt 8, 3) := by decide +kernel
theorem dX11_seeded_15 : decode cX11_seeded 15 = .ok (.iload_n 3, 1) := by decide +kernel
theorem dX11_seeded_16 : decode cX11_seeded 16 = .ok (.iconst 1, 1) := by decide +kernel
theorem dX11_seeded_17 : decode cX11_seeded 17 = .ok (.if_icmp .le 5, 3) := by decide +kernel
theorem dX11_seeded_20 : decode cX11_seeded 20 = .ok (.iconst (-1), 1) := by decide +kernel
theorem dX11_seeded_21 : decode cX11_seeded 21 = .ok (.ireturn, 1) := by decide +kernel
theorem dX11_seeded_22 : decode cX11_seeded 22 = .ok (.aload_n 0, 1) := by decide +kernel
theorem dX11_seeded_23 : decode cX11_seeded 23 = .ok (.getfield 10, 3) := by decide +kernel
theorem dX11_seeded_26 : decode cX11_seeded 26 = .ok (.getfield 104, 3) := by decide +kernel
theorem dX11_seeded_29 : decode cX11_seeded 29 = .ok (.istore 4, 2) := by decide +kernel
theorem dX11_seeded_31 : decode cX11_seeded 31 = .ok (.iload 4, 2) := by decide +kernel
theorem dX11_seeded_33 : decode cX11_seeded 33 = .ok (.ifCond .gt 6, 3) := by decide +kernel
theorem dX11_seeded_36 : decode cX11_seeded 36 = .ok (.bipush (-3), 2) := by decide +kernel
theorem dX11_seeded_38 : decode cX11_seeded 38 = .ok (.ireturn, 1) := by decide +kernel
theorem dX11_seeded_39 : decode cX11_seeded 39 = .ok (.aload_n 0, 1) := by decide +kernel
theorem dX11_seeded_40 : decode cX11_seeded 40 = .ok (.getfield 19, 3) := by decide +kernel
theorem dX11_seeded_43 : decode cX11_seeded 43 = .ok (.aload_n 0, 1) := by decide +kernel
theorem dX11_seeded_44 : decode cX11_seeded 44 = .ok (.getfield 10, 3) := by decide +kernel
theorem dX11_seeded_47 : decode cX11_seeded 47 = .ok (.invokevirtual 65, 3) := by decide +kernel
theorem dX11_seeded_50 : decode cX11_seeded 50 = .ok (.iload_n 2, 1) := by decide +kernel
theorem dX11_seeded_51 : decode cX11_seeded 51 = .ok (.istore 5, 2) := by decide +kernel
theorem dX11_seeded_53 : decode cX11_seeded 53 = .ok (.iconst 0, 1) := by decide +kernel
theorem dX11_seeded_54 : decode cX11_seeded 54 = .ok (.istore 6, 2) := by decide +kernel
theorem dX11_seeded_56 : decode cX11_seeded 56 = .ok (.iconst 0, 1) := by decide +kernel
theorem dX11_seeded_57 : decode cX11_seeded 57 = .ok (.istore 7, 2) := by decide +kernel
theorem dX11_seeded_59 : decode cX11_seeded 59 = .ok (.iload 7, 2) := by decide +kernel
theorem dX11_seeded_61 : decode cX11_seeded 61 = .ok (.iload_n 1, 1) := by decide +kernel
theorem dX11_seeded_62 : decode cX11_seeded 62 = .ok (.if_icmp .ge 44, 3) := by decide +kernel
theorem dX11_seeded_65 : decode cX11_seeded 65 = .ok (.iload 5, 2) := by decide +kernel
theorem dX11_seeded_67 : decode cX11_seeded 67 = .ok (.ldc 206, 2) := by decide +kernel
theorem dX11_seeded_69 : decode cX11_seeded 69 = .ok (.imul, 1) := by decide +kernel
theorem dX11_seeded_70 : decode cX11_seeded 70 = .ok (.sipush 12345, 3) := by decide +kernel
theorem dX11_seeded_73 : decode cX11_seeded 73 = .ok (.iadd, 1) := by decide +kernel
theorem dX11_seeded_74 : decode cX11_seeded 74 = .ok (.istore 5, 2) := by decide +kernel
theorem dX11_seeded_76 : decode cX11_seeded 76 = .ok (.aload_n 0, 1) := by decide +kernel
theorem dX11_seeded_77 : decode cX11_seeded 77 = .ok (.getfield 19, 3) := by decide +kernel
theorem dX11_seeded_80 : decode cX11_seeded 80 = .ok (.iload 5, 2) := by decide +kernel
theorem dX11_seeded_82 : decode cX11_seeded 82 = .ok (.ldc 207, 2) := by decide +kernel
theorem dX11_seeded_84 : decode cX11_seeded 84 = .ok (.iand, 1) := by decide +kernel
theorem dX11_seeded_85 : decode cX11_seeded 85 = .ok (.ldc 208, 2) := by decide +kernel
theorem dX11_seeded_87 : decode cX11_seeded 87 = .ok (.idiv, 1) := by decide +kernel
theorem dX11_seeded_88 : decode cX11_seeded 88 = .ok (.iload 4, 2) := by decide +kernel
theorem dX11_seeded_90 : decode cX11_seeded 90 = .ok (.irem, 1) := by decide +kernel
theorem dX11_seeded_91 : decode cX11_seeded 91 = .ok (.invokevirtual 113, 3) := by decide +kernel
theorem dX11_seeded_94 : decode cX11_seeded 94 = .ok (.ifCond .eq 6, 3) := by decide +kernel
theorem dX11_seeded_97 : decode cX11_seeded 97 = .ok (.iinc 6 1, 3) := by decide +kernel
theorem dX11_seeded_100 : decode cX11_seeded 100 = .ok (.iinc 7 1, 3) := by decide +kernel
theorem dX11_seeded_103 : decode cX11_seeded 103 = .ok (.goto (-44), 3) := by decide +kernel
theorem dX11_seeded_106 : decode cX11_seeded 106 = .ok (.iload_n 3, 1) := by decide +kernel
theorem dX11_seeded_107 : decode cX11_seeded 107 = .ok (.ifCond .ne 13, 3) := by decide +kernel
theorem dX11_seeded_110 : decode cX11_seeded 110 = .ok (.aload_n 0, 1) := by decide +kernel
theorem dX11_seeded_111 : decode cX11_seeded 111 = .ok (.getfield 19, 3) := by decide +kernel
theorem dX11_seeded_114 : decode cX11_seeded 114 = .ok (.getfield 91, 3) := by decide +kernel
theorem dX11_seeded_117 : decode cX11_seeded 117 = .ok (.goto 5, 3) := by decide +kernel
theorem dX11_seeded_120 : decode cX11_seeded 120 = .ok (.iload 6, 2) := by decide +kernel
theorem dX11_seeded_122 : decode cX11_seeded 122 = .ok (.ireturn, 1) := by decide +kernel
set_option maxRecDepth 20000 in
theorem ggX11_judge_X11_rowOn : GoodIn wsX11_judge wsX11_rowOn := goodIn_r _ [8, 9, 10, 11, 7, 12, 121, 122, 123, 124, 125, 126, 127, 128] (by decide +kernel) (by decide +kernel)
set_option maxRecDepth 20000 in
theorem gX11_judge_X11_rowOn : GoodIn wsX11_judge (wsV RX11 209 RX11 yX11_rowOn wsX11_rowOn) := goodIn_app (goodIn_of _ (by decide +kernel)) ggX11_judge_X11_rowOn
set_option maxRecDepth 20000 in
theorem ggX11_judge_X11_lacking : GoodIn wsX11_judge wsX11_lacking := goodIn_r _ [16, 10, 11, 7, 12, 17, 18, 19, 20, 21, 22, 23, 24, 25, 4, 5, 6, 8, 9, 121, 122, 123, 124, 125, 126, 127, 128] (by decide +kernel) (by decide +kernel)
set_option maxRecDepth 20000 in
theorem gX11_judge_X11_lacking : GoodIn wsX11_judge (wsV RX11 53 RX11 yX11_lacking wsX11_lacking) := goodIn_app (goodIn_of _ (by decide +kernel)) ggX11_judge_X11_lacking
set_option maxRecDepth 20000 in
theorem ggX11_judge_X9_takeFrom : GoodIn wsX11_judge wsX9_takeFrom := goodIn_r _ [30, 31, 32, 33, 132, 133, 134] (by decide +kernel) (by decide +kernel)
set_option maxRecDepth 20000 in
theorem gX11_judge_X9_takeFrom : GoodIn wsX11_judge (wsV RX11 65 RX9 yX9_takeFrom wsX9_takeFrom) := goodIn_app (goodIn_of _ (by decide +kernel)) ggX11_judge_X9_takeFrom
set_option maxRecDepth 20000 in
theorem ggX11_judge_X6_valueAt : GoodIn wsX11_judge wsX6_valueAt := goodIn_r _ [38, 39, 40, 41, 42, 37, 43, 129, 130, 131] (by decide +kernel) (by decide +kernel)
set_option maxRecDepth 20000 in
theorem gX11_judge_X6_valueAt : GoodIn wsX11_judge (wsV RX11 73 RX6 yX6_valueAt wsX6_valueAt) := goodIn_app (goodIn_of _ (by decide +kernel)) ggX11_judge_X6_valueAt
set_option maxRecDepth 20000 in
theorem ggX11_judge_X9_pulled : GoodIn wsX11_judge wsX9_pulled := goodIn_r _ [47, 33, 48, 49, 50, 29, 51, 52, 53, 54, 55, 31, 56, 57, 58, 59, 32, 60, 61, 62, 63, 64, 65, 7, 66, 67, 68, 69, 70, 71, 72, 73, 74, 75, 76, 77, 78, 79, 80, 81, 82, 83, 84, 85, 86, 87, 88, 89, 90, 91, 92, 93, 94, 95, 96, 97, 98, 99, 100, 101, 102, 103, 104, 105, 106, 107, 108, 109, 110, 111, 112, 113, 114, 115, 116, 117, 118, 119, 120, 132, 133, 134, 135, 136, 137, 138, 139, 140, 141, 142] (by decide +kernel) (by decide +kernel)
set_option maxRecDepth 20000 in
theorem gX11_judge_X9_pulled : GoodIn wsX11_judge (wsV RX11 113 RX9 yX9_pulled wsX9_pulled) := goodIn_app (goodIn_of _ (by decide +kernel)) ggX11_judge_X9_pulled
theorem dX11_judge_0 : decode cX11_judge 0 = .ok (.aload_n 0, 1) := by decide +kernel
theorem dX11_judge_1 : decode cX11_judge 1 = .ok (.iload_n 1, 1) := by decide +kernel
theorem dX11_judge_2 : decode cX11_judge 2 = .ok (.invokevirtual 209, 3) := by decide +kernel
theorem dX11_judge_5 : decode cX11_judge 5 = .ok (.astore_n 2, 1) := by decide +kernel
theorem dX11_judge_6 : decode cX11_judge 6 = .ok (.aload_n 2, 1) := by decide +kernel
theorem dX11_judge_7 : decode cX11_judge 7 = .ok (.ifnonnull 9, 3) := by decide +kernel
theorem dX11_judge_10 : decode cX11_judge 10 = .ok (.aload_n 0, 1) := by decide +kernel
theorem dX11_judge_11 : decode cX11_judge 11 = .ok (.iload_n 1, 1) := by decide +kernel
theorem dX11_judge_12 : decode cX11_judge 12 = .ok (.invokevirtual 53, 3) := by decide +kernel
theorem dX11_judge_15 : decode cX11_judge 15 = .ok (.ireturn, 1) := by decide +kernel
theorem dX11_judge_16 : decode cX11_judge 16 = .ok (.aload_n 0, 1) := by decide +kernel
theorem dX11_judge_17 : decode cX11_judge 17 = .ok (.getfield 19, 3) := by decide +kernel
theorem dX11_judge_20 : decode cX11_judge 20 = .ok (.aload_n 0, 1) := by decide +kernel
theorem dX11_judge_21 : decode cX11_judge 21 = .ok (.getfield 10, 3) := by decide +kernel
theorem dX11_judge_24 : decode cX11_judge 24 = .ok (.invokevirtual 65, 3) := by decide +kernel
theorem dX11_judge_27 : decode cX11_judge 27 = .ok (.iconst 0, 1) := by decide +kernel
theorem dX11_judge_28 : decode cX11_judge 28 = .ok (.istore_n 3, 1) := by decide +kernel
theorem dX11_judge_29 : decode cX11_judge 29 = .ok (.iload_n 3, 1) := by decide +kernel
theorem dX11_judge_30 : decode cX11_judge 30 = .ok (.aload_n 2, 1) := by decide +kernel
theorem dX11_judge_31 : decode cX11_judge 31 = .ok (.getfield 69, 3) := by decide +kernel
theorem dX11_judge_34 : decode cX11_judge 34 = .ok (.if_icmp .ge 26, 3) := by decide +kernel
theorem dX11_judge_37 : decode cX11_judge 37 = .ok (.aload_n 0, 1) := by decide +kernel
theorem dX11_judge_38 : decode cX11_judge 38 = .ok (.getfield 19, 3) := by decide +kernel
theorem dX11_judge_41 : decode cX11_judge 41 = .ok (.aload_n 2, 1) := by decide +kernel
theorem dX11_judge_42 : decode cX11_judge 42 = .ok (.iload_n 3, 1) := by decide +kernel
theorem dX11_judge_43 : decode cX11_judge 43 = .ok (.invokevirtual 73, 3) := by decide +kernel
theorem dX11_judge_46 : decode cX11_judge 46 = .ok (.invokevirtual 113, 3) := by decide +kernel
theorem dX11_judge_49 : decode cX11_judge 49 = .ok (.ifCond .ne 5, 3) := by decide +kernel
theorem dX11_judge_52 : decode cX11_judge 52 = .ok (.iload_n 3, 1) := by decide +kernel
theorem dX11_judge_53 : decode cX11_judge 53 = .ok (.ireturn, 1) := by decide +kernel
theorem dX11_judge_54 : decode cX11_judge 54 = .ok (.iinc 3 1, 3) := by decide +kernel
theorem dX11_judge_57 : decode cX11_judge 57 = .ok (.goto (-28), 3) := by decide +kernel
theorem dX11_judge_60 : decode cX11_judge 60 = .ok (.bipush (-4), 2) := by decide +kernel
theorem dX11_judge_62 : decode cX11_judge 62 = .ok (.ireturn, 1) := by decide +kernel
set_option maxRecDepth 20000 in
theorem ggX11_image_X9_takeFrom : GoodIn wsX11_image wsX9_takeFrom := goodIn_r _ [9, 10, 11, 12, 21, 22, 23] (by decide +kernel) (by decide +kernel)
set_option maxRecDepth 20000 in
theorem gX11_image_X9_takeFrom : GoodIn wsX11_image (wsV RX11 65 RX9 yX9_takeFrom wsX9_takeFrom) := goodIn_app (goodIn_of _ (by decide +kernel)) ggX11_image_X9_takeFrom
theorem dX11_image_0 : decode cX11_image 0 = .ok (.aload_n 0, 1) := by decide +kernel
theorem dX11_image_1 : decode cX11_image 1 = .ok (.getfield 16, 3) := by decide +kernel
theorem dX11_image_4 : decode cX11_image 4 = .ok (.aload_n 0, 1) := by decide +kernel
theorem dX11_image_5 : decode cX11_image 5 = .ok (.getfield 10, 3) := by decide +kernel
theorem dX11_image_8 : decode cX11_image 8 = .ok (.invokevirtual 65, 3) := by decide +kernel
theorem dX11_image_11 : decode cX11_image 11 = .ok (.aload_n 0, 1) := by decide +kernel
theorem dX11_image_12 : decode cX11_image 12 = .ok (.iconst 1, 1) := by decide +kernel
theorem dX11_image_13 : decode cX11_image 13 = .ok (.putfield 45, 3) := by decide +kernel
theorem dX11_image_16 : decode cX11_image 16 = .ok (.aload_n 0, 1) := by decide +kernel
theorem dX11_image_17 : decode cX11_image 17 = .ok (.getfield 10, 3) := by decide +kernel
theorem dX11_image_20 : decode cX11_image 20 = .ok (.getfield 91, 3) := by decide +kernel
theorem dX11_image_23 : decode cX11_image 23 = .ok (.ireturn, 1) := by decide +kernel
set_option maxRecDepth 20000 in
theorem ggX11_restore_X9_takeFrom : GoodIn wsX11_restore wsX9_takeFrom := goodIn_r _ [9, 10, 11, 12, 21, 22, 23] (by decide +kernel) (by decide +kernel)
set_option maxRecDepth 20000 in
theorem gX11_restore_X9_takeFrom : GoodIn wsX11_restore (wsV RX11 65 RX9 yX9_takeFrom wsX9_takeFrom) := goodIn_app (goodIn_of _ (by decide +kernel)) ggX11_restore_X9_takeFrom
theorem dX11_restore_0 : decode cX11_restore 0 = .ok (.aload_n 0, 1) := by decide +kernel
theorem dX11_restore_1 : decode cX11_restore 1 = .ok (.getfield 45, 3) := by decide +kernel
theorem dX11_restore_4 : decode cX11_restore 4 = .ok (.ifCond .ne 6, 3) := by decide +kernel
theorem dX11_restore_7 : decode cX11_restore 7 = .ok (.bipush (-3), 2) := by decide +kernel
theorem dX11_restore_9 : decode cX11_restore 9 = .ok (.ireturn, 1) := by decide +kernel
theorem dX11_restore_10 : decode cX11_restore 10 = .ok (.aload_n 0, 1) := by decide +kernel
theorem dX11_restore_11 : decode cX11_restore 11 = .ok (.getfield 10, 3) := by decide +kernel
theorem dX11_restore_14 : decode cX11_restore 14 = .ok (.aload_n 0, 1) := by decide +kernel
theorem dX11_restore_15 : decode cX11_restore 15 = .ok (.getfield 16, 3) := by decide +kernel
theorem dX11_restore_18 : decode cX11_restore 18 = .ok (.invokevirtual 65, 3) := by decide +kernel
theorem dX11_restore_21 : decode cX11_restore 21 = .ok (.aload_n 0, 1) := by decide +kernel
theorem dX11_restore_22 : decode cX11_restore 22 = .ok (.getfield 10, 3) := by decide +kernel
theorem dX11_restore_25 : decode cX11_restore 25 = .ok (.getfield 91, 3) := by decide +kernel
theorem dX11_restore_28 : decode cX11_restore 28 = .ok (.ireturn, 1) := by decide +kernel
set_option maxRecDepth 20000 in
theorem ggX11_count_J6_bitCount_0f7a4 : GoodIn wsX11_count wsJ6_bitCount_0f7a4 := goodIn_r _ [7, 8, 9, 10] (by decide +kernel) (by decide +kernel)
set_option maxRecDepth 20000 in
theorem gX11_count_J6_bitCount_0f7a4 : GoodIn wsX11_count (va_wsS RX11 165 yJ6_bitCount_0f7a4 wsJ6_bitCount_0f7a4) := goodIn_app (goodIn_of _ (by decide +kernel)) ggX11_count_J6_bitCount_0f7a4
set_option maxRecDepth 20000 in
theorem ggX11_count_X9_mayBits : GoodIn wsX11_count wsX9_mayBits := goodIn_r _ [15, 16, 17, 18, 19, 14, 20, 21, 22, 23, 24, 25, 26, 27, 28, 29, 30, 31, 32, 33, 34, 35, 36, 37, 38, 39, 40, 41, 42, 43, 44, 45, 46, 47, 48, 49, 50, 51, 52, 53, 54, 55, 56, 57, 58, 59, 60, 61, 62, 63, 5, 6, 7, 8, 9, 10, 64, 65, 66, 67, 68, 69, 70, 71, 72, 73, 74, 75, 76, 77, 78, 79, 80, 81, 82, 83, 124, 125, 126, 127, 128, 129, 130, 131, 132, 133, 134] (by decide +kernel) (by decide +kernel)
set_option maxRecDepth 20000 in
theorem gX11_count_X9_mayBits : GoodIn wsX11_count (wsV RX11 117 RX9 yX9_mayBits wsX9_mayBits) := goodIn_app (goodIn_of _ (by decide +kernel)) ggX11_count_X9_mayBits
set_option maxRecDepth 20000 in
theorem ggX11_count_X9_howManyOf : GoodIn wsX11_count wsX9_howManyOf := goodIn_r _ [87, 16, 21, 22, 23, 14, 24, 25, 26, 27, 28, 29, 88, 89, 90, 33, 91, 92, 93, 94, 95, 96, 43, 97, 98, 99, 47, 100, 101, 102, 53, 103, 104, 105, 66, 106, 107, 108, 73, 109, 110, 111, 81, 112, 113, 114, 61, 115, 124, 125, 126] (by decide +kernel) (by decide +kernel)
set_option maxRecDepth 20000 in
theorem gX11_count_X9_howManyOf : GoodIn wsX11_count (wsV RX11 212 RX9 yX9_howManyOf wsX9_howManyOf) := goodIn_app (goodIn_of _ (by decide +kernel)) ggX11_count_X9_howManyOf
theorem dX11_count_0 : decode cX11_count 0 = .ok (.iload_n 1, 1) := by decide +kernel
theorem dX11_count_1 : decode cX11_count 1 = .ok (.tableswitch 77 0 3 #[31, 39, 50, 68], 31) := by decide +kernel
theorem dX11_count_32 : decode cX11_count 32 = .ok (.aload_n 0, 1) := by decide +kernel
theorem dX11_count_33 : decode cX11_count 33 = .ok (.getfield 10, 3) := by decide +kernel
theorem dX11_count_36 : decode cX11_count 36 = .ok (.getfield 104, 3) := by decide +kernel
theorem dX11_count_39 : decode cX11_count 39 = .ok (.ireturn, 1) := by decide +kernel
theorem dX11_count_40 : decode cX11_count 40 = .ok (.aload_n 0, 1) := by decide +kernel
theorem dX11_count_41 : decode cX11_count 41 = .ok (.getfield 10, 3) := by decide +kernel
theorem dX11_count_44 : decode cX11_count 44 = .ok (.getfield 91, 3) := by decide +kernel
theorem dX11_count_47 : decode cX11_count 47 = .ok (.invokestatic 165, 3) := by decide +kernel
theorem dX11_count_50 : decode cX11_count 50 = .ok (.ireturn, 1) := by decide +kernel
theorem dX11_count_51 : decode cX11_count 51 = .ok (.aload_n 0, 1) := by decide +kernel
theorem dX11_count_52 : decode cX11_count 52 = .ok (.getfield 10, 3) := by decide +kernel
theorem dX11_count_55 : decode cX11_count 55 = .ok (.aload_n 0, 1) := by decide +kernel
theorem dX11_count_56 : decode cX11_count 56 = .ok (.getfield 10, 3) := by decide +kernel
theorem dX11_count_59 : decode cX11_count 59 = .ok (.getfield 91, 3) := by decide +kernel
theorem dX11_count_62 : decode cX11_count 62 = .ok (.invokevirtual 117, 3) := by decide +kernel
theorem dX11_count_65 : decode cX11_count 65 = .ok (.invokestatic 165, 3) := by decide +kernel
theorem dX11_count_68 : decode cX11_count 68 = .ok (.ireturn, 1) := by decide +kernel
theorem dX11_count_69 : decode cX11_count 69 = .ok (.aload_n 0, 1) := by decide +kernel
theorem dX11_count_70 : decode cX11_count 70 = .ok (.getfield 10, 3) := by decide +kernel
theorem dX11_count_73 : decode cX11_count 73 = .ok (.iconst 2, 1) := by decide +kernel
theorem dX11_count_74 : decode cX11_count 74 = .ok (.invokevirtual 212, 3) := by decide +kernel
theorem dX11_count_77 : decode cX11_count 77 = .ok (.ireturn, 1) := by decide +kernel
theorem dX11_count_78 : decode cX11_count 78 = .ok (.iconst (-1), 1) := by decide +kernel
theorem dX11_count_79 : decode cX11_count 79 = .ok (.ireturn, 1) := by decide +kernel
set_option maxRecDepth 20000 in
theorem ggX11_keep_X11_isShelf : GoodIn wsX11_keep wsX11_isShelf := goodIn_r _ [6] (by decide +kernel) (by decide +kernel)
set_option maxRecDepth 20000 in
theorem gX11_keep_X11_isShelf : GoodIn wsX11_keep (va_wsS RX11 179 yX11_isShelf wsX11_isShelf) := goodIn_app (goodIn_of _ (by decide +kernel)) ggX11_keep_X11_isShelf
set_option maxRecDepth 20000 in
theorem ggX11_keep_X11_isFigure : GoodIn wsX11_keep wsX11_isFigure := goodIn_r _ [9] (by decide +kernel) (by decide +kernel)
set_option maxRecDepth 20000 in
theorem gX11_keep_X11_isFigure : GoodIn wsX11_keep (va_wsS RX11 176 yX11_isFigure wsX11_isFigure) := goodIn_app (goodIn_of _ (by decide +kernel)) ggX11_keep_X11_isFigure
set_option maxRecDepth 20000 in
theorem ggX11_keep_X11_made : GoodIn wsX11_keep wsX11_made := goodIn_r _ [12, 13, 14, 15, 16, 17, 18, 19, 20, 21, 22, 23, 24, 25, 26, 27, 28, 29, 30, 31, 32, 33, 34, 35, 36, 37, 38, 39, 40, 41, 42, 43, 44, 45, 46, 47, 48, 49, 50, 51, 52, 53, 54, 55, 56, 57, 58, 59, 60, 61, 62, 63, 64, 65, 66, 67, 68, 69, 70, 71, 80, 81, 82, 83, 84, 85, 86, 87] (by decide +kernel) (by decide +kernel)
set_option maxRecDepth 20000 in
theorem gX11_keep_X11_made : GoodIn wsX11_keep (va_wsS RX11 161 yX11_made wsX11_made) := goodIn_app (goodIn_of _ (by decide +kernel)) ggX11_keep_X11_made
theorem dX11_keep_0 : decode cX11_keep 0 = .ok (.iload_n 1, 1) := by decide +kernel
theorem dX11_keep_1 : decode cX11_keep 1 = .ok (.invokestatic 179, 3) := by decide +kernel
theorem dX11_keep_4 : decode cX11_keep 4 = .ok (.ifCond .eq 12, 3) := by decide +kernel
theorem dX11_keep_7 : decode cX11_keep 7 = .ok (.iload_n 2, 1) := by decide +kernel
theorem dX11_keep_8 : decode cX11_keep 8 = .ok (.ifCond .lt 8, 3) := by decide +kernel
theorem dX11_keep_11 : decode cX11_keep 11 = .ok (.iload_n 2, 1) := by decide +kernel
theorem dX11_keep_12 : decode cX11_keep 12 = .ok (.iconst 1, 1) := by decide +kernel
theorem dX11_keep_13 : decode cX11_keep 13 = .ok (.if_icmp .le 5, 3) := by decide +kernel
theorem dX11_keep_16 : decode cX11_keep 16 = .ok (.iconst (-1), 1) := by decide +kernel
theorem dX11_keep_17 : decode cX11_keep 17 = .ok (.ireturn, 1) := by decide +kernel
theorem dX11_keep_18 : decode cX11_keep 18 = .ok (.iload_n 2, 1) := by decide +kernel
theorem dX11_keep_19 : decode cX11_keep 19 = .ok (.iconst 1, 1) := by decide +kernel
theorem dX11_keep_20 : decode cX11_keep 20 = .ok (.if_icmp .ne 23, 3) := by decide +kernel
theorem dX11_keep_23 : decode cX11_keep 23 = .ok (.iload_n 3, 1) := by decide +kernel
theorem dX11_keep_24 : decode cX11_keep 24 = .ok (.ifCond .lt 17, 3) := by decide +kernel
theorem dX11_keep_27 : decode cX11_keep 27 = .ok (.iload_n 3, 1) := by decide +kernel
theorem dX11_keep_28 : decode cX11_keep 28 = .ok (.bipush 8, 2) := by decide +kernel
theorem dX11_keep_30 : decode cX11_keep 30 = .ok (.if_icmp .ge 11, 3) := by decide +kernel
theorem dX11_keep_33 : decode cX11_keep 33 = .ok (.iload 4, 2) := by decide +kernel
theorem dX11_keep_35 : decode cX11_keep 35 = .ok (.invokestatic 176, 3) := by decide +kernel
theorem dX11_keep_38 : decode cX11_keep 38 = .ok (.ifCond .ne 5, 3) := by decide +kernel
theorem dX11_keep_41 : decode cX11_keep 41 = .ok (.iconst (-1), 1) := by decide +kernel
theorem dX11_keep_42 : decode cX11_keep 42 = .ok (.ireturn, 1) := by decide +kernel
theorem dX11_keep_43 : decode cX11_keep 43 = .ok (.aload_n 0, 1) := by decide +kernel
theorem dX11_keep_44 : decode cX11_keep 44 = .ok (.getfield 31, 3) := by decide +kernel
theorem dX11_keep_47 : decode cX11_keep 47 = .ok (.iload_n 1, 1) := by decide +kernel
theorem dX11_keep_48 : decode cX11_keep 48 = .ok (.iload_n 2, 1) := by decide +kernel
theorem dX11_keep_49 : decode cX11_keep 49 = .ok (.iconst 1, 1) := by decide +kernel
theorem dX11_keep_50 : decode cX11_keep 50 = .ok (.if_icmp .ne 12, 3) := by decide +kernel
theorem dX11_keep_53 : decode cX11_keep 53 = .ok (.iload_n 3, 1) := by decide +kernel
theorem dX11_keep_54 : decode cX11_keep 54 = .ok (.iload 4, 2) := by decide +kernel
theorem dX11_keep_56 : decode cX11_keep 56 = .ok (.invokestatic 161, 3) := by decide +kernel
theorem dX11_keep_59 : decode cX11_keep 59 = .ok (.goto 4, 3) := by decide +kernel
theorem dX11_keep_62 : decode cX11_keep 62 = .ok (.aconst_null, 1) := by decide +kernel
theorem dX11_keep_63 : decode cX11_keep 63 = .ok (.aastore, 1) := by decide +kernel
theorem dX11_keep_64 : decode cX11_keep 64 = .ok (.aload_n 0, 1) := by decide +kernel
theorem dX11_keep_65 : decode cX11_keep 65 = .ok (.getfield 37, 3) := by decide +kernel
theorem dX11_keep_68 : decode cX11_keep 68 = .ok (.iload_n 1, 1) := by decide +kernel
theorem dX11_keep_69 : decode cX11_keep 69 = .ok (.aconst_null, 1) := by decide +kernel
theorem dX11_keep_70 : decode cX11_keep 70 = .ok (.aastore, 1) := by decide +kernel
theorem dX11_keep_71 : decode cX11_keep 71 = .ok (.iconst 0, 1) := by decide +kernel
theorem dX11_keep_72 : decode cX11_keep 72 = .ok (.ireturn, 1) := by decide +kernel
set_option maxRecDepth 20000 in
theorem ggX11_row_X11_isShelf : GoodIn wsX11_row wsX11_isShelf := goodIn_r _ [9] (by decide +kernel) (by decide +kernel)
set_option maxRecDepth 20000 in
theorem gX11_row_X11_isShelf : GoodIn wsX11_row (va_wsS RX11 179 yX11_isShelf wsX11_isShelf) := goodIn_app (goodIn_of _ (by decide +kernel)) ggX11_row_X11_isShelf
set_option maxRecDepth 20000 in
theorem ggX11_row_X6_init : GoodIn wsX11_row wsX6_init := goodIn_r _ [12, 13, 14, 15, 16, 17, 18, 19, 20, 21, 22, 23, 32, 33, 34] (by decide +kernel) (by decide +kernel)
set_option maxRecDepth 20000 in
theorem gX11_row_X6_init : GoodIn wsX11_row (wsX6_init) := ggX11_row_X6_init
theorem dX11_row_0 : decode cX11_row 0 = .ok (.iload_n 1, 1) := by decide +kernel
theorem dX11_row_1 : decode cX11_row 1 = .ok (.invokestatic 179, 3) := by decide +kernel
theorem dX11_row_4 : decode cX11_row 4 = .ok (.ifCond .eq 18, 3) := by decide +kernel
theorem dX11_row_7 : decode cX11_row 7 = .ok (.iload_n 2, 1) := by decide +kernel
theorem dX11_row_8 : decode cX11_row 8 = .ok (.ifCond .lt 14, 3) := by decide +kernel
theorem dX11_row_11 : decode cX11_row 11 = .ok (.iload_n 2, 1) := by decide +kernel
theorem dX11_row_12 : decode cX11_row 12 = .ok (.iconst 3, 1) := by decide +kernel
theorem dX11_row_13 : decode cX11_row 13 = .ok (.if_icmp .ge 9, 3) := by decide +kernel
theorem dX11_row_16 : decode cX11_row 16 = .ok (.iload_n 3, 1) := by decide +kernel
theorem dX11_row_17 : decode cX11_row 17 = .ok (.bipush 100, 2) := by decide +kernel
theorem dX11_row_19 : decode cX11_row 19 = .ok (.if_icmp .le 5, 3) := by decide +kernel
theorem dX11_row_22 : decode cX11_row 22 = .ok (.iconst (-1), 1) := by decide +kernel
theorem dX11_row_23 : decode cX11_row 23 = .ok (.ireturn, 1) := by decide +kernel
theorem dX11_row_24 : decode cX11_row 24 = .ok (.iload_n 3, 1) := by decide +kernel
theorem dX11_row_25 : decode cX11_row 25 = .ok (.ifCond .ge 6, 3) := by decide +kernel
theorem dX11_row_28 : decode cX11_row 28 = .ok (.bipush (-14), 2) := by decide +kernel
theorem dX11_row_30 : decode cX11_row 30 = .ok (.ireturn, 1) := by decide +kernel
theorem dX11_row_31 : decode cX11_row 31 = .ok (.aload_n 0, 1) := by decide +kernel
theorem dX11_row_32 : decode cX11_row 32 = .ok (.getfield 37, 3) := by decide +kernel
theorem dX11_row_35 : decode cX11_row 35 = .ok (.iload_n 1, 1) := by decide +kernel
theorem dX11_row_36 : decode cX11_row 36 = .ok (.new 35, 3) := by decide +kernel
theorem dX11_row_39 : decode cX11_row 39 = .ok (.dup, 1) := by decide +kernel
theorem dX11_row_40 : decode cX11_row 40 = .ok (.iload_n 2, 1) := by decide +kernel
theorem dX11_row_41 : decode cX11_row 41 = .ok (.iload_n 3, 1) := by decide +kernel
theorem dX11_row_42 : decode cX11_row 42 = .ok (.invokespecial 215, 3) := by decide +kernel
theorem dX11_row_45 : decode cX11_row 45 = .ok (.aastore, 1) := by decide +kernel
theorem dX11_row_46 : decode cX11_row 46 = .ok (.aload_n 0, 1) := by decide +kernel
theorem dX11_row_47 : decode cX11_row 47 = .ok (.getfield 31, 3) := by decide +kernel
theorem dX11_row_50 : decode cX11_row 50 = .ok (.iload_n 1, 1) := by decide +kernel
theorem dX11_row_51 : decode cX11_row 51 = .ok (.aconst_null, 1) := by decide +kernel
theorem dX11_row_52 : decode cX11_row 52 = .ok (.aastore, 1) := by decide +kernel
theorem dX11_row_53 : decode cX11_row 53 = .ok (.iconst 0, 1) := by decide +kernel
theorem dX11_row_54 : decode cX11_row 54 = .ok (.ireturn, 1) := by decide +kernel
set_option maxRecDepth 20000 in
theorem ggX11_put_X11_rowOn : GoodIn wsX11_put wsX11_rowOn := goodIn_r _ [5, 6, 7, 8, 4, 9, 39, 40, 41, 42, 43, 44, 45, 46] (by decide +kernel) (by decide +kernel)
set_option maxRecDepth 20000 in
theorem gX11_put_X11_rowOn : GoodIn wsX11_put (wsV RX11 209 RX11 yX11_rowOn wsX11_rowOn) := goodIn_app (goodIn_of _ (by decide +kernel)) ggX11_put_X11_rowOn
set_option maxRecDepth 20000 in
theorem ggX11_put_X11_lacking : GoodIn wsX11_put wsX11_lacking := goodIn_r _ [13, 7, 8, 4, 9, 14, 15, 16, 17, 18, 19, 20, 21, 22, 1, 2, 3, 5, 6, 39, 40, 41, 42, 43, 44, 45, 46] (by decide +kernel) (by decide +kernel)
set_option maxRecDepth 20000 in
theorem gX11_put_X11_lacking : GoodIn wsX11_put (wsV RX11 53 RX11 yX11_lacking wsX11_lacking) := goodIn_app (goodIn_of _ (by decide +kernel)) ggX11_put_X11_lacking
set_option maxRecDepth 20000 in
theorem ggX11_put_X6_hasPlace : GoodIn wsX11_put wsX6_hasPlace := goodIn_r _ [27, 28, 47, 48, 49] (by decide +kernel) (by decide +kernel)
set_option maxRecDepth 20000 in
theorem gX11_put_X6_hasPlace : GoodIn wsX11_put (wsV RX11 218 RX6 yX6_hasPlace wsX6_hasPlace) := goodIn_app (goodIn_of _ (by decide +kernel)) ggX11_put_X6_hasPlace
set_option maxRecDepth 20000 in
theorem ggX11_put_X6_become : GoodIn wsX11_put wsX6_become := goodIn_r _ [32, 28, 33, 24, 25, 26, 27, 34, 35, 36, 37, 38, 47, 48, 49] (by decide +kernel) (by decide +kernel)
set_option maxRecDepth 20000 in
theorem gX11_put_X6_become : GoodIn wsX11_put (wsV RX11 221 RX6 yX6_become wsX6_become) := goodIn_app (goodIn_of _ (by decide +kernel)) ggX11_put_X6_become
theorem dX11_put_0 : decode cX11_put 0 = .ok (.aload_n 0, 1) := by decide +kernel
theorem dX11_put_1 : decode cX11_put 1 = .ok (.iload_n 1, 1) := by decide +kernel
theorem dX11_put_2 : decode cX11_put 2 = .ok (.invokevirtual 209, 3) := by decide +kernel
theorem dX11_put_5 : decode cX11_put 5 = .ok (.astore 4, 2) := by decide +kernel
theorem dX11_put_7 : decode cX11_put 7 = .ok (.aload 4, 2) := by decide +kernel
theorem dX11_put_9 : decode cX11_put 9 = .ok (.ifnonnull 9, 3) := by decide +kernel
theorem dX11_put_12 : decode cX11_put 12 = .ok (.aload_n 0, 1) := by decide +kernel
theorem dX11_put_13 : decode cX11_put 13 = .ok (.iload_n 1, 1) := by decide +kernel
theorem dX11_put_14 : decode cX11_put 14 = .ok (.invokevirtual 53, 3) := by decide +kernel
theorem dX11_put_17 : decode cX11_put 17 = .ok (.ireturn, 1) := by decide +kernel
theorem dX11_put_18 : decode cX11_put 18 = .ok (.aload 4, 2) := by decide +kernel
theorem dX11_put_20 : decode cX11_put 20 = .ok (.iload_n 2, 1) := by decide +kernel
theorem dX11_put_21 : decode cX11_put 21 = .ok (.invokevirtual 218, 3) := by decide +kernel
theorem dX11_put_24 : decode cX11_put 24 = .ok (.ifCond .ne 6, 3) := by decide +kernel
theorem dX11_put_27 : decode cX11_put 27 = .ok (.bipush (-13), 2) := by decide +kernel
theorem dX11_put_29 : decode cX11_put 29 = .ok (.ireturn, 1) := by decide +kernel
theorem dX11_put_30 : decode cX11_put 30 = .ok (.aload 4, 2) := by decide +kernel
theorem dX11_put_32 : decode cX11_put 32 = .ok (.iload_n 2, 1) := by decide +kernel
theorem dX11_put_33 : decode cX11_put 33 = .ok (.iload_n 3, 1) := by decide +kernel
theorem dX11_put_34 : decode cX11_put 34 = .ok (.invokevirtual 221, 3) := by decide +kernel
theorem dX11_put_37 : decode cX11_put 37 = .ok (.iconst 0, 1) := by decide +kernel
theorem dX11_put_38 : decode cX11_put 38 = .ok (.ireturn, 1) := by decide +kernel
set_option maxRecDepth 20000 in
theorem ggX11_element_X11_isShelf : GoodIn wsX11_element wsX11_isShelf := goodIn_r _ [8] (by decide +kernel) (by decide +kernel)
set_option maxRecDepth 20000 in
theorem gX11_element_X11_isShelf : GoodIn wsX11_element (va_wsS RX11 179 yX11_isShelf wsX11_isShelf) := goodIn_app (goodIn_of _ (by decide +kernel)) ggX11_element_X11_isShelf
set_option maxRecDepth 20000 in
theorem ggX11_element_X11_rowOn : GoodIn wsX11_element wsX11_rowOn := goodIn_r _ [12, 13, 5, 6, 7, 8, 25, 26, 27, 28, 29, 30, 31, 32] (by decide +kernel) (by decide +kernel)
set_option maxRecDepth 20000 in
theorem gX11_element_X11_rowOn : GoodIn wsX11_element (wsV RX11 209 RX11 yX11_rowOn wsX11_rowOn) := goodIn_app (goodIn_of _ (by decide +kernel)) ggX11_element_X11_rowOn
set_option maxRecDepth 20000 in
theorem ggX11_element_X6_hasPlace : GoodIn wsX11_element wsX6_hasPlace := goodIn_r _ [18, 19, 33, 34, 35] (by decide +kernel) (by decide +kernel)
set_option maxRecDepth 20000 in
theorem gX11_element_X6_hasPlace : GoodIn wsX11_element (wsV RX11 218 RX6 yX6_hasPlace wsX6_hasPlace) := goodIn_app (goodIn_of _ (by decide +kernel)) ggX11_element_X6_hasPlace
set_option maxRecDepth 20000 in
theorem ggX11_element_X6_valueAt : GoodIn wsX11_element wsX6_valueAt := goodIn_r _ [23, 19, 24, 15, 16, 17, 18, 33, 34, 35] (by decide +kernel) (by decide +kernel)
set_option maxRecDepth 20000 in
theorem gX11_element_X6_valueAt : GoodIn wsX11_element (wsV RX11 73 RX6 yX6_valueAt wsX6_valueAt) := goodIn_app (goodIn_of _ (by decide +kernel)) ggX11_element_X6_valueAt
theorem dX11_element_0 : decode cX11_element 0 = .ok (.iload_n 1, 1) := by decide +kernel
theorem dX11_element_1 : decode cX11_element 1 = .ok (.invokestatic 179, 3) := by decide +kernel
theorem dX11_element_4 : decode cX11_element 4 = .ok (.ifCond .ne 13, 3) := by decide +kernel
theorem dX11_element_7 : decode cX11_element 7 = .ok (.new 224, 3) := by decide +kernel
theorem dX11_element_10 : decode cX11_element 10 = .ok (.dup, 1) := by decide +kernel
theorem dX11_element_11 : decode cX11_element 11 = .ok (.ldc 226, 2) := by decide +kernel
theorem dX11_element_13 : decode cX11_element 13 = .ok (.invokespecial 228, 3) := by decide +kernel
theorem dX11_element_16 : decode cX11_element 16 = .ok (.athrow, 1) := by decide +kernel
theorem dX11_element_17 : decode cX11_element 17 = .ok (.aload_n 0, 1) := by decide +kernel
theorem dX11_element_18 : decode cX11_element 18 = .ok (.iload_n 1, 1) := by decide +kernel
theorem dX11_element_19 : decode cX11_element 19 = .ok (.invokevirtual 209, 3) := by decide +kernel
theorem dX11_element_22 : decode cX11_element 22 = .ok (.astore_n 3, 1) := by decide +kernel
theorem dX11_element_23 : decode cX11_element 23 = .ok (.aload_n 3, 1) := by decide +kernel
theorem dX11_element_24 : decode cX11_element 24 = .ok (.ifnonnull 13, 3) := by decide +kernel
theorem dX11_element_27 : decode cX11_element 27 = .ok (.new 231, 3) := by decide +kernel
theorem dX11_element_30 : decode cX11_element 30 = .ok (.dup, 1) := by decide +kernel
theorem dX11_element_31 : decode cX11_element 31 = .ok (.ldc 233, 2) := by decide +kernel
theorem dX11_element_33 : decode cX11_element 33 = .ok (.invokespecial 235, 3) := by decide +kernel
theorem dX11_element_36 : decode cX11_element 36 = .ok (.athrow, 1) := by decide +kernel
theorem dX11_element_37 : decode cX11_element 37 = .ok (.aload_n 3, 1) := by decide +kernel
theorem dX11_element_38 : decode cX11_element 38 = .ok (.iload_n 2, 1) := by decide +kernel
theorem dX11_element_39 : decode cX11_element 39 = .ok (.invokevirtual 218, 3) := by decide +kernel
theorem dX11_element_42 : decode cX11_element 42 = .ok (.ifCond .ne 13, 3) := by decide +kernel
theorem dX11_element_45 : decode cX11_element 45 = .ok (.new 231, 3) := by decide +kernel
theorem dX11_element_48 : decode cX11_element 48 = .ok (.dup, 1) := by decide +kernel
theorem dX11_element_49 : decode cX11_element 49 = .ok (.ldc 236, 2) := by decide +kernel
theorem dX11_element_51 : decode cX11_element 51 = .ok (.invokespecial 235, 3) := by decide +kernel
theorem dX11_element_54 : decode cX11_element 54 = .ok (.athrow, 1) := by decide +kernel
theorem dX11_element_55 : decode cX11_element 55 = .ok (.aload_n 3, 1) := by decide +kernel
theorem dX11_element_56 : decode cX11_element 56 = .ok (.iload_n 2, 1) := by decide +kernel
theorem dX11_element_57 : decode cX11_element 57 = .ok (.invokevirtual 73, 3) := by decide +kernel
theorem dX11_element_60 : decode cX11_element 60 = .ok (.i2l, 1) := by decide +kernel
theorem dX11_element_61 : decode cX11_element 61 = .ok (.lreturn, 1) := by decide +kernel
set_option maxRecDepth 20000 in
theorem ggX11_copy_X11_isShelf : GoodIn wsX11_copy wsX11_isShelf := goodIn_r _ [10] (by decide +kernel) (by decide +kernel)
set_option maxRecDepth 20000 in
theorem gX11_copy_X11_isShelf : GoodIn wsX11_copy (va_wsS RX11 179 yX11_isShelf wsX11_isShelf) := goodIn_app (goodIn_of _ (by decide +kernel)) ggX11_copy_X11_isShelf
set_option maxRecDepth 20000 in
theorem ggX11_copy_X11_holdsNothing : GoodIn wsX11_copy wsX11_holdsNothing := goodIn_r _ [14, 15, 16, 17, 9, 18, 19, 7, 8, 10, 20, 21, 22, 23, 24, 34, 35, 36, 37, 38, 39, 40, 41] (by decide +kernel) (by decide +kernel)
set_option maxRecDepth 20000 in
theorem gX11_copy_X11_holdsNothing : GoodIn wsX11_copy (wsV RX11 238 RX11 yX11_holdsNothing wsX11_holdsNothing) := goodIn_app (goodIn_of _ (by decide +kernel)) ggX11_copy_X11_holdsNothing
set_option maxRecDepth 20000 in
theorem ggX11_copy_X11_rowOn : GoodIn wsX11_copy wsX11_rowOn := goodIn_r _ [23, 24, 7, 8, 9, 10, 34, 35, 36, 37, 38, 39, 40, 41] (by decide +kernel) (by decide +kernel)
set_option maxRecDepth 20000 in
theorem gX11_copy_X11_rowOn : GoodIn wsX11_copy (wsV RX11 209 RX11 yX11_rowOn wsX11_rowOn) := goodIn_app (goodIn_of _ (by decide +kernel)) ggX11_copy_X11_rowOn
set_option maxRecDepth 20000 in
theorem ggX11_copy_X6_hasPlaces : GoodIn wsX11_copy wsX6_hasPlaces := goodIn_r _ [29, 30, 31, 32, 33] (by decide +kernel) (by decide +kernel)
set_option maxRecDepth 20000 in
theorem gX11_copy_X6_hasPlaces : GoodIn wsX11_copy (wsV RX11 244 RX6 yX6_hasPlaces wsX6_hasPlaces) := goodIn_app (goodIn_of _ (by decide +kernel)) ggX11_copy_X6_hasPlaces
theorem dX11_copy_0 : decode cX11_copy 0 = .ok (.iload_n 1, 1) := by decide +kernel
theorem dX11_copy_1 : decode cX11_copy 1 = .ok (.invokestatic 179, 3) := by decide +kernel
theorem dX11_copy_4 : decode cX11_copy 4 = .ok (.ifCond .eq 10, 3) := by decide +kernel
theorem dX11_copy_7 : decode cX11_copy 7 = .ok (.iload_n 3, 1) := by decide +kernel
theorem dX11_copy_8 : decode cX11_copy 8 = .ok (.invokestatic 179, 3) := by decide +kernel
theorem dX11_copy_11 : decode cX11_copy 11 = .ok (.ifCond .ne 5, 3) := by decide +kernel
theorem dX11_copy_14 : decode cX11_copy 14 = .ok (.iconst (-1), 1) := by decide +kernel
theorem dX11_copy_15 : decode cX11_copy 15 = .ok (.ireturn, 1) := by decide +kernel
theorem dX11_copy_16 : decode cX11_copy 16 = .ok (.aload_n 0, 1) := by decide +kernel
theorem dX11_copy_17 : decode cX11_copy 17 = .ok (.iload_n 1, 1) := by decide +kernel
theorem dX11_copy_18 : decode cX11_copy 18 = .ok (.invokevirtual 238, 3) := by decide +kernel
theorem dX11_copy_21 : decode cX11_copy 21 = .ok (.ifCond .ne 11, 3) := by decide +kernel
theorem dX11_copy_24 : decode cX11_copy 24 = .ok (.aload_n 0, 1) := by decide +kernel
theorem dX11_copy_25 : decode cX11_copy 25 = .ok (.iload_n 3, 1) := by decide +kernel
theorem dX11_copy_26 : decode cX11_copy 26 = .ok (.invokevirtual 238, 3) := by decide +kernel
theorem dX11_copy_29 : decode cX11_copy 29 = .ok (.ifCond .eq 6, 3) := by decide +kernel
theorem dX11_copy_32 : decode cX11_copy 32 = .ok (.bipush (-11), 2) := by decide +kernel
theorem dX11_copy_34 : decode cX11_copy 34 = .ok (.ireturn, 1) := by decide +kernel
theorem dX11_copy_35 : decode cX11_copy 35 = .ok (.aload_n 0, 1) := by decide +kernel
theorem dX11_copy_36 : decode cX11_copy 36 = .ok (.iload_n 1, 1) := by decide +kernel
theorem dX11_copy_37 : decode cX11_copy 37 = .ok (.invokevirtual 209, 3) := by decide +kernel
theorem dX11_copy_40 : decode cX11_copy 40 = .ok (.astore 6, 2) := by decide +kernel
theorem dX11_copy_42 : decode cX11_copy 42 = .ok (.aload_n 0, 1) := by decide +kernel
theorem dX11_copy_43 : decode cX11_copy 43 = .ok (.iload_n 3, 1) := by decide +kernel
theorem dX11_copy_44 : decode cX11_copy 44 = .ok (.invokevirtual 209, 3) := by decide +kernel
theorem dX11_copy_47 : decode cX11_copy 47 = .ok (.astore 7, 2) := by decide +kernel
theorem dX11_copy_49 : decode cX11_copy 49 = .ok (.aload 6, 2) := by decide +kernel
theorem dX11_copy_51 : decode cX11_copy 51 = .ok (.ifnull 21, 3) := by decide +kernel
theorem dX11_copy_54 : decode cX11_copy 54 = .ok (.aload 7, 2) := by decide +kernel
theorem dX11_copy_56 : decode cX11_copy 56 = .ok (.ifnull 16, 3) := by decide +kernel
theorem dX11_copy_59 : decode cX11_copy 59 = .ok (.aload 6, 2) := by decide +kernel
theorem dX11_copy_61 : decode cX11_copy 61 = .ok (.getfield 241, 3) := by decide +kernel
theorem dX11_copy_64 : decode cX11_copy 64 = .ok (.aload 7, 2) := by decide +kernel
theorem dX11_copy_66 : decode cX11_copy 66 = .ok (.getfield 241, 3) := by decide +kernel
theorem dX11_copy_69 : decode cX11_copy 69 = .ok (.if_icmp .eq 6, 3) := by decide +kernel
theorem dX11_copy_72 : decode cX11_copy 72 = .ok (.bipush (-12), 2) := by decide +kernel
theorem dX11_copy_74 : decode cX11_copy 74 = .ok (.ireturn, 1) := by decide +kernel
theorem dX11_copy_75 : decode cX11_copy 75 = .ok (.aload 6, 2) := by decide +kernel
theorem dX11_copy_77 : decode cX11_copy 77 = .ok (.iload_n 2, 1) := by decide +kernel
theorem dX11_copy_78 : decode cX11_copy 78 = .ok (.iload 5, 2) := by decide +kernel
theorem dX11_copy_80 : decode cX11_copy 80 = .ok (.invokevirtual 244, 3) := by decide +kernel
theorem dX11_copy_83 : decode cX11_copy 83 = .ok (.ifCond .eq 15, 3) := by decide +kernel
theorem dX11_copy_86 : decode cX11_copy 86 = .ok (.aload 7, 2) := by decide +kernel
theorem dX11_copy_88 : decode cX11_copy 88 = .ok (.iload 4, 2) := by decide +kernel
theorem dX11_copy_90 : decode cX11_copy 90 = .ok (.iload 5, 2) := by decide +kernel
theorem dX11_copy_92 : decode cX11_copy 92 = .ok (.invokevirtual 244, 3) := by decide +kernel
theorem dX11_copy_95 : decode cX11_copy 95 = .ok (.ifCond .ne 6, 3) := by decide +kernel
theorem dX11_copy_98 : decode cX11_copy 98 = .ok (.bipush (-13), 2) := by decide +kernel
theorem dX11_copy_100 : decode cX11_copy 100 = .ok (.ireturn, 1) := by decide +kernel
theorem dX11_copy_101 : decode cX11_copy 101 = .ok (.aload 6, 2) := by decide +kernel
theorem dX11_copy_103 : decode cX11_copy 103 = .ok (.getfield 247, 3) := by decide +kernel
theorem dX11_copy_106 : decode cX11_copy 106 = .ok (.iload_n 2, 1) := by decide +kernel
theorem dX11_copy_107 : decode cX11_copy 107 = .ok (.aload 7, 2) := by decide +kernel
theorem dX11_copy_109 : decode cX11_copy 109 = .ok (.getfield 247, 3) := by decide +kernel
theorem dX11_copy_112 : decode cX11_copy 112 = .ok (.iload 4, 2) := by decide +kernel
theorem dX11_copy_114 : decode cX11_copy 114 = .ok (.iload 5, 2) := by decide +kernel
theorem dX11_copy_116 : decode cX11_copy 116 = .ok (.invokestatic 250, 3) := by decide +kernel
theorem dX11_copy_119 : decode cX11_copy 119 = .ok (.iload 5, 2) := by decide +kernel
theorem dX11_copy_121 : decode cX11_copy 121 = .ok (.ireturn, 1) := by decide +kernel
set_option maxRecDepth 20000 in
theorem ggX11_cost_X11_drawerOn : GoodIn wsX11_cost wsX11_drawerOn := goodIn_r _ [5, 6, 7, 8, 4, 9, 76, 77, 78, 79, 80, 81, 82, 83] (by decide +kernel) (by decide +kernel)
set_option maxRecDepth 20000 in
theorem gX11_cost_X11_drawerOn : GoodIn wsX11_cost (wsV RX11 101 RX11 yX11_drawerOn wsX11_drawerOn) := goodIn_app (goodIn_of _ (by decide +kernel)) ggX11_cost_X11_drawerOn
set_option maxRecDepth 20000 in
theorem ggX11_cost_X11_lacking : GoodIn wsX11_cost wsX11_lacking := goodIn_r _ [13, 7, 8, 4, 9, 14, 15, 16, 17, 1, 2, 3, 5, 6, 18, 19, 20, 21, 22, 76, 77, 78, 79, 80, 81, 82, 83] (by decide +kernel) (by decide +kernel)
set_option maxRecDepth 20000 in
theorem gX11_cost_X11_lacking : GoodIn wsX11_cost (wsV RX11 53 RX11 yX11_lacking wsX11_lacking) := goodIn_app (goodIn_of _ (by decide +kernel)) ggX11_cost_X11_lacking
set_option maxRecDepth 20000 in
theorem ggX11_cost_X0_price : GoodIn wsX11_cost wsX0_price := goodIn_r _ [27] (by decide +kernel) (by decide +kernel)
set_option maxRecDepth 20000 in
theorem gX11_cost_X0_price : GoodIn wsX11_cost (wsV RX11 256 RX0 yX0_price wsX0_price) := goodIn_app (goodIn_of _ (by decide +kernel)) ggX11_cost_X0_price
set_option maxRecDepth 20000 in
theorem ggX11_cost_X1_price : GoodIn wsX11_cost wsX1_price := goodIn_r _ [34, 35, 29, 36, 24, 26, 27] (by decide +kernel) (by decide +kernel)
set_option maxRecDepth 20000 in
theorem gX11_cost_X1_price_u256X1 : GoodIn wsX11_cost (va_wsO RX11 256 RX1 "AboveIsShut$Drawer" ⟨"AboveIsShut$Drawer", "price", "()I"⟩ yX1_price wsX1_price) := goodIn_app (goodIn_of _ (by decide +kernel)) ggX11_cost_X1_price
set_option maxRecDepth 20000 in
theorem gX11_cost_X0_price_u256X2 : GoodIn wsX11_cost (va_wsU RX11 256 RX2 "AboveIsShut$Drawer" ⟨"AboveIsShut$Drawer", "price", "()I"⟩ yX0_price wsX0_price) := goodIn_app (goodIn_of _ (by decide +kernel)) ggX11_cost_X0_price
set_option maxRecDepth 20000 in
theorem ggX11_cost_X3_price : GoodIn wsX11_cost wsX3_price := goodIn_r _ [41, 42, 43, 44, 45, 46, 47, 48, 49, 50, 51, 52, 32, 33, 34, 35, 29, 36, 24, 26, 27, 84, 85, 86, 87, 88, 89, 90, 91] (by decide +kernel) (by decide +kernel)
set_option maxRecDepth 20000 in
theorem gX11_cost_X3_price_u256X3 : GoodIn wsX11_cost (va_wsO RX11 256 RX3 "AboveIsShut$Drawer" ⟨"AboveIsShut$Drawer", "price", "()I"⟩ yX3_price wsX3_price) := goodIn_app (goodIn_of _ (by decide +kernel)) ggX11_cost_X3_price
set_option maxRecDepth 20000 in
theorem ggX11_cost_X4_price : GoodIn wsX11_cost wsX4_price := goodIn_r _ [56, 57, 51, 58, 32, 33, 34, 35, 29, 36, 24, 26, 27] (by decide +kernel) (by decide +kernel)
set_option maxRecDepth 20000 in
theorem gX11_cost_X4_price_u256X4 : GoodIn wsX11_cost (va_wsO RX11 256 RX4 "AboveIsShut$Drawer" ⟨"AboveIsShut$Drawer", "price", "()I"⟩ yX4_price wsX4_price) := goodIn_app (goodIn_of _ (by decide +kernel)) ggX11_cost_X4_price
set_option maxRecDepth 20000 in
theorem ggX11_cost_X5_price : GoodIn wsX11_cost wsX5_price := goodIn_r _ [62, 63, 64, 65, 29, 66, 24, 26, 27, 84, 85, 86, 87, 88, 89, 90, 91] (by decide +kernel) (by decide +kernel)
set_option maxRecDepth 20000 in
theorem gX11_cost_X5_price_u256X5 : GoodIn wsX11_cost (va_wsO RX11 256 RX5 "AboveIsShut$Drawer" ⟨"AboveIsShut$Drawer", "price", "()I"⟩ yX5_price wsX5_price) := goodIn_app (goodIn_of _ (by decide +kernel)) ggX11_cost_X5_price
set_option maxRecDepth 20000 in
theorem ggX11_cost_X7_price : GoodIn wsX11_cost wsX7_price := goodIn_r _ [70, 71, 72, 73, 29, 74, 24, 26, 27, 84, 85, 86, 87, 88, 89, 90, 91] (by decide +kernel) (by decide +kernel)
set_option maxRecDepth 20000 in
theorem gX11_cost_X7_price_u256X7 : GoodIn wsX11_cost (va_wsO RX11 256 RX7 "AboveIsShut$Drawer" ⟨"AboveIsShut$Drawer", "price", "()I"⟩ yX7_price wsX7_price) := goodIn_app (goodIn_of _ (by decide +kernel)) ggX11_cost_X7_price
set_option maxRecDepth 20000 in
theorem ggX11_cost_X8_price : GoodIn wsX11_cost wsX8_price := goodIn_r _ [49, 50, 51, 52, 32, 33, 34, 35, 29, 36, 24, 26, 27] (by decide +kernel) (by decide +kernel)
set_option maxRecDepth 20000 in
theorem gX11_cost_X8_price_u256X8 : GoodIn wsX11_cost (va_wsO RX11 256 RX8 "AboveIsShut$Drawer" ⟨"AboveIsShut$Drawer", "price", "()I"⟩ yX8_price wsX8_price) := goodIn_app (goodIn_of _ (by decide +kernel)) ggX11_cost_X8_price
theorem dX11_cost_0 : decode cX11_cost 0 = .ok (.aload_n 0, 1) := by decide +kernel
theorem dX11_cost_1 : decode cX11_cost 1 = .ok (.iload_n 1, 1) := by decide +kernel
theorem dX11_cost_2 : decode cX11_cost 2 = .ok (.invokevirtual 101, 3) := by decide +kernel
theorem dX11_cost_5 : decode cX11_cost 5 = .ok (.astore_n 2, 1) := by decide +kernel
theorem dX11_cost_6 : decode cX11_cost 6 = .ok (.aload_n 2, 1) := by decide +kernel
theorem dX11_cost_7 : decode cX11_cost 7 = .ok (.ifnonnull 11, 3) := by decide +kernel
theorem dX11_cost_10 : decode cX11_cost 10 = .ok (.aload_n 0, 1) := by decide +kernel
theorem dX11_cost_11 : decode cX11_cost 11 = .ok (.iload_n 1, 1) := by decide +kernel
theorem dX11_cost_12 : decode cX11_cost 12 = .ok (.invokevirtual 53, 3) := by decide +kernel
theorem dX11_cost_15 : decode cX11_cost 15 = .ok (.goto 7, 3) := by decide +kernel
theorem dX11_cost_18 : decode cX11_cost 18 = .ok (.aload_n 2, 1) := by decide +kernel
theorem dX11_cost_19 : decode cX11_cost 19 = .ok (.invokevirtual 256, 3) := by decide +kernel
theorem dX11_cost_22 : decode cX11_cost 22 = .ok (.ireturn, 1) := by decide +kernel
set_option maxRecDepth 20000 in
theorem ggX11_toss_X11_drawerOn : GoodIn wsX11_toss wsX11_drawerOn := goodIn_r _ [9, 10, 11, 12, 8, 13, 132, 133, 134, 135, 136, 137, 138, 139] (by decide +kernel) (by decide +kernel)
set_option maxRecDepth 20000 in
theorem gX11_toss_X11_drawerOn : GoodIn wsX11_toss (wsV RX11 101 RX11 yX11_drawerOn wsX11_drawerOn) := goodIn_app (goodIn_of _ (by decide +kernel)) ggX11_toss_X11_drawerOn
set_option maxRecDepth 20000 in
theorem ggX11_toss_X11_lacking : GoodIn wsX11_toss wsX11_lacking := goodIn_r _ [17, 11, 12, 8, 13, 18, 19, 20, 21, 5, 6, 7, 9, 10, 22, 23, 24, 25, 26, 132, 133, 134, 135, 136, 137, 138, 139] (by decide +kernel) (by decide +kernel)
set_option maxRecDepth 20000 in
theorem gX11_toss_X11_lacking : GoodIn wsX11_toss (wsV RX11 53 RX11 yX11_lacking wsX11_lacking) := goodIn_app (goodIn_of _ (by decide +kernel)) ggX11_toss_X11_lacking
set_option maxRecDepth 20000 in
theorem ggX11_toss_X0_fail : GoodIn wsX11_toss wsX0_fail := goodIn_ca (goodIn_r _ [31, 32, 33, 34, 124, 125, 126, 127, 128, 129, 130, 131] (by decide +kernel) (by decide +kernel)) (goodIn_sub (fun _ h => List.mem_cons_of_mem _ (List.mem_append_left _ (List.mem_append_left _ (List.mem_append_right _ h)))) (by decide +kernel))
set_option maxRecDepth 20000 in
theorem gX11_toss_X0_fail : GoodIn wsX11_toss (wsV RX11 259 RX0 yX0_fail wsX0_fail) := goodIn_app (goodIn_of _ (by decide +kernel)) ggX11_toss_X0_fail
set_option maxRecDepth 20000 in
theorem ggX11_toss_X1_fail : GoodIn wsX11_toss wsX1_fail := goodIn_ca (goodIn_r _ [41, 42, 43, 44, 40, 45, 46, 47, 48, 49, 50, 51, 52, 53, 54, 55, 56, 57, 58, 59, 60, 61, 36, 62, 28, 30, 31, 32, 33, 34, 124, 125, 126, 127, 128, 129, 130, 131] (by decide +kernel) (by decide +kernel)) (goodIn_sub (fun _ h => List.mem_cons_of_mem _ (List.mem_append_left _ (List.mem_append_left _ (List.mem_append_right _ h)))) (by decide +kernel))
set_option maxRecDepth 20000 in
theorem gX11_toss_X1_fail_u259X1 : GoodIn wsX11_toss (va_wsO RX11 259 RX1 "AboveIsShut$Drawer" ⟨"AboveIsShut$Drawer", "fail", "()V"⟩ yX1_fail wsX1_fail) := goodIn_app (goodIn_of _ (by decide +kernel)) ggX11_toss_X1_fail
set_option maxRecDepth 20000 in
theorem gX11_toss_X0_fail_u259X2 : GoodIn wsX11_toss (va_wsU RX11 259 RX2 "AboveIsShut$Drawer" ⟨"AboveIsShut$Drawer", "fail", "()V"⟩ yX0_fail wsX0_fail) := goodIn_app (goodIn_of _ (by decide +kernel)) ggX11_toss_X0_fail
set_option maxRecDepth 20000 in
theorem ggX11_toss_X3_fail : GoodIn wsX11_toss wsX3_fail := goodIn_ca (goodIn_r _ [66, 67, 68, 69, 70, 124, 125, 126, 127, 128, 129, 130, 131] (by decide +kernel) (by decide +kernel)) (goodIn_sub (fun _ h => List.mem_cons_of_mem _ (List.mem_append_left _ (List.mem_append_right _ h))) (by decide +kernel))
set_option maxRecDepth 20000 in
theorem gX11_toss_X3_fail_u259X3 : GoodIn wsX11_toss (va_wsO RX11 259 RX3 "AboveIsShut$Drawer" ⟨"AboveIsShut$Drawer", "fail", "()V"⟩ yX3_fail wsX3_fail) := goodIn_app (goodIn_of _ (by decide +kernel)) ggX11_toss_X3_fail
set_option maxRecDepth 20000 in
theorem gX11_toss_X1_fail_u259X4 : GoodIn wsX11_toss (va_wsO RX11 259 RX4 "AboveIsShut$Drawer" ⟨"AboveIsShut$Drawer", "fail", "()V"⟩ yX1_fail wsX1_fail) := goodIn_app (goodIn_of _ (by decide +kernel)) ggX11_toss_X1_fail
set_option maxRecDepth 20000 in
theorem ggX11_toss_X5_fail : GoodIn wsX11_toss wsX5_fail := goodIn_ca (goodIn_r _ [75, 76, 77, 78, 79, 124, 125, 126, 127, 128, 129, 130, 131] (by decide +kernel) (by decide +kernel)) (goodIn_sub (fun _ h => List.mem_cons_of_mem _ (List.mem_append_right _ h)) (by decide +kernel))
set_option maxRecDepth 20000 in
theorem gX11_toss_X5_fail_u259X5 : GoodIn wsX11_toss (va_wsO RX11 259 RX5 "AboveIsShut$Drawer" ⟨"AboveIsShut$Drawer", "fail", "()V"⟩ yX5_fail wsX5_fail) := goodIn_app (goodIn_of _ (by decide +kernel)) ggX11_toss_X5_fail
set_option maxRecDepth 20000 in
theorem gX11_toss_X0_fail_u259X7 : GoodIn wsX11_toss (va_wsU RX11 259 RX7 "AboveIsShut$Drawer" ⟨"AboveIsShut$Drawer", "fail", "()V"⟩ yX0_fail wsX0_fail) := goodIn_app (goodIn_of _ (by decide +kernel)) ggX11_toss_X0_fail
set_option maxRecDepth 20000 in
theorem gX11_toss_X1_fail_u259X8 : GoodIn wsX11_toss (va_wsO RX11 259 RX8 "AboveIsShut$Drawer" ⟨"AboveIsShut$Drawer", "fail", "()V"⟩ yX1_fail wsX1_fail) := goodIn_app (goodIn_of _ (by decide +kernel)) ggX11_toss_X1_fail
set_option maxRecDepth 20000 in
theorem ggX11_toss_X0_price : GoodIn wsX11_toss wsX0_price := goodIn_r _ [85] (by decide +kernel) (by decide +kernel)
set_option maxRecDepth 20000 in
theorem gX11_toss_X0_price : GoodIn wsX11_toss (wsV RX11 256 RX0 yX0_price wsX0_price) := goodIn_app (goodIn_of _ (by decide +kernel)) ggX11_toss_X0_price
set_option maxRecDepth 20000 in
theorem ggX11_toss_X1_price : GoodIn wsX11_toss wsX1_price := goodIn_r _ [91, 92, 87, 62, 83, 30, 85] (by decide +kernel) (by decide +kernel)
set_option maxRecDepth 20000 in
theorem gX11_toss_X1_price_u256X1 : GoodIn wsX11_toss (va_wsO RX11 256 RX1 "AboveIsShut$Drawer" ⟨"AboveIsShut$Drawer", "price", "()I"⟩ yX1_price wsX1_price) := goodIn_app (goodIn_of _ (by decide +kernel)) ggX11_toss_X1_price
set_option maxRecDepth 20000 in
theorem gX11_toss_X0_price_u256X2 : GoodIn wsX11_toss (va_wsU RX11 256 RX2 "AboveIsShut$Drawer" ⟨"AboveIsShut$Drawer", "price", "()I"⟩ yX0_price wsX0_price) := goodIn_app (goodIn_of _ (by decide +kernel)) ggX11_toss_X0_price
set_option maxRecDepth 20000 in
theorem ggX11_toss_X3_price : GoodIn wsX11_toss wsX3_price := goodIn_r _ [96, 69, 70, 97, 98, 99, 100, 59, 101, 102, 103, 104, 90, 40, 91, 92, 87, 62, 83, 30, 85, 124, 125, 126, 127, 128, 129, 130, 131] (by decide +kernel) (by decide +kernel)
set_option maxRecDepth 20000 in
theorem gX11_toss_X3_price_u256X3 : GoodIn wsX11_toss (va_wsO RX11 256 RX3 "AboveIsShut$Drawer" ⟨"AboveIsShut$Drawer", "price", "()I"⟩ yX3_price wsX3_price) := goodIn_app (goodIn_of _ (by decide +kernel)) ggX11_toss_X3_price
set_option maxRecDepth 20000 in
theorem ggX11_toss_X4_price : GoodIn wsX11_toss wsX4_price := goodIn_r _ [107, 108, 103, 109, 90, 40, 91, 92, 87, 62, 83, 30, 85] (by decide +kernel) (by decide +kernel)
set_option maxRecDepth 20000 in
theorem gX11_toss_X4_price_u256X4 : GoodIn wsX11_toss (va_wsO RX11 256 RX4 "AboveIsShut$Drawer" ⟨"AboveIsShut$Drawer", "price", "()I"⟩ yX4_price wsX4_price) := goodIn_app (goodIn_of _ (by decide +kernel)) ggX11_toss_X4_price
set_option maxRecDepth 20000 in
theorem ggX11_toss_X5_price : GoodIn wsX11_toss wsX5_price := goodIn_r _ [112, 78, 79, 113, 87, 114, 83, 30, 85, 124, 125, 126, 127, 128, 129, 130, 131] (by decide +kernel) (by decide +kernel)
set_option maxRecDepth 20000 in
theorem gX11_toss_X5_price_u256X5 : GoodIn wsX11_toss (va_wsO RX11 256 RX5 "AboveIsShut$Drawer" ⟨"AboveIsShut$Drawer", "price", "()I"⟩ yX5_price wsX5_price) := goodIn_app (goodIn_of _ (by decide +kernel)) ggX11_toss_X5_price
set_option maxRecDepth 20000 in
theorem ggX11_toss_X7_price : GoodIn wsX11_toss wsX7_price := goodIn_r _ [118, 119, 120, 121, 87, 122, 83, 30, 85, 124, 125, 126, 127, 128, 129, 130, 131] (by decide +kernel) (by decide +kernel)
set_option maxRecDepth 20000 in
theorem gX11_toss_X7_price_u256X7 : GoodIn wsX11_toss (va_wsO RX11 256 RX7 "AboveIsShut$Drawer" ⟨"AboveIsShut$Drawer", "price", "()I"⟩ yX7_price wsX7_price) := goodIn_app (goodIn_of _ (by decide +kernel)) ggX11_toss_X7_price
set_option maxRecDepth 20000 in
theorem ggX11_toss_X8_price : GoodIn wsX11_toss wsX8_price := goodIn_r _ [101, 102, 103, 104, 90, 40, 91, 92, 87, 62, 83, 30, 85] (by decide +kernel) (by decide +kernel)
set_option maxRecDepth 20000 in
theorem gX11_toss_X8_price_u256X8 : GoodIn wsX11_toss (va_wsO RX11 256 RX8 "AboveIsShut$Drawer" ⟨"AboveIsShut$Drawer", "price", "()I"⟩ yX8_price wsX8_price) := goodIn_app (goodIn_of _ (by decide +kernel)) ggX11_toss_X8_price
theorem dX11_toss_0 : decode cX11_toss 0 = .ok (.aload_n 0, 1) := by decide +kernel
theorem dX11_toss_1 : decode cX11_toss 1 = .ok (.iload_n 1, 1) := by decide +kernel
theorem dX11_toss_2 : decode cX11_toss 2 = .ok (.invokevirtual 101, 3) := by decide +kernel
theorem dX11_toss_5 : decode cX11_toss 5 = .ok (.astore_n 2, 1) := by decide +kernel
theorem dX11_toss_6 : decode cX11_toss 6 = .ok (.aload_n 2, 1) := by decide +kernel
theorem dX11_toss_7 : decode cX11_toss 7 = .ok (.ifnonnull 9, 3) := by decide +kernel
theorem dX11_toss_10 : decode cX11_toss 10 = .ok (.aload_n 0, 1) := by decide +kernel
theorem dX11_toss_11 : decode cX11_toss 11 = .ok (.iload_n 1, 1) := by decide +kernel
theorem dX11_toss_12 : decode cX11_toss 12 = .ok (.invokevirtual 53, 3) := by decide +kernel
theorem dX11_toss_15 : decode cX11_toss 15 = .ok (.ireturn, 1) := by decide +kernel
theorem dX11_toss_16 : decode cX11_toss 16 = .ok (.aload_n 2, 1) := by decide +kernel
theorem dX11_toss_17 : decode cX11_toss 17 = .ok (.invokevirtual 259, 3) := by decide +kernel
theorem dX11_toss_20 : decode cX11_toss 20 = .ok (.goto 28, 3) := by decide +kernel
theorem dX11_toss_23 : decode cX11_toss 23 = .ok (.astore_n 3, 1) := by decide +kernel
theorem dX11_toss_24 : decode cX11_toss 24 = .ok (.aload_n 2, 1) := by decide +kernel
theorem dX11_toss_25 : decode cX11_toss 25 = .ok (.getfield 88, 3) := by decide +kernel
theorem dX11_toss_28 : decode cX11_toss 28 = .ok (.ireturn, 1) := by decide +kernel
theorem dX11_toss_29 : decode cX11_toss 29 = .ok (.astore_n 3, 1) := by decide +kernel
theorem dX11_toss_30 : decode cX11_toss 30 = .ok (.aload_n 2, 1) := by decide +kernel
theorem dX11_toss_31 : decode cX11_toss 31 = .ok (.getfield 88, 3) := by decide +kernel
theorem dX11_toss_34 : decode cX11_toss 34 = .ok (.bipush 100, 2) := by decide +kernel
theorem dX11_toss_36 : decode cX11_toss 36 = .ok (.iadd, 1) := by decide +kernel
theorem dX11_toss_37 : decode cX11_toss 37 = .ok (.ireturn, 1) := by decide +kernel
theorem dX11_toss_38 : decode cX11_toss 38 = .ok (.astore_n 3, 1) := by decide +kernel
theorem dX11_toss_39 : decode cX11_toss 39 = .ok (.aload_n 2, 1) := by decide +kernel
theorem dX11_toss_40 : decode cX11_toss 40 = .ok (.invokevirtual 256, 3) := by decide +kernel
theorem dX11_toss_43 : decode cX11_toss 43 = .ok (.sipush 200, 3) := by decide +kernel
theorem dX11_toss_46 : decode cX11_toss 46 = .ok (.iadd, 1) := by decide +kernel
theorem dX11_toss_47 : decode cX11_toss 47 = .ok (.ireturn, 1) := by decide +kernel
theorem dX11_toss_48 : decode cX11_toss 48 = .ok (.bipush (-15), 2) := by decide +kernel
theorem dX11_toss_50 : decode cX11_toss 50 = .ok (.ireturn, 1) := by decide +kernel
theorem dX11_isShelf_0 : decode cX11_isShelf 0 = .ok (.iload_n 0, 1) := by decide +kernel
theorem dX11_isShelf_1 : decode cX11_isShelf 1 = .ok (.ifCond .lt 13, 3) := by decide +kernel
theorem dX11_isShelf_4 : decode cX11_isShelf 4 = .ok (.iload_n 0, 1) := by decide +kernel
theorem dX11_isShelf_5 : decode cX11_isShelf 5 = .ok (.bipush 8, 2) := by decide +kernel
theorem dX11_isShelf_7 : decode cX11_isShelf 7 = .ok (.if_icmp .ge 7, 3) := by decide +kernel
theorem dX11_isShelf_10 : decode cX11_isShelf 10 = .ok (.iconst 1, 1) := by decide +kernel
theorem dX11_isShelf_11 : decode cX11_isShelf 11 = .ok (.goto 4, 3) := by decide +kernel
theorem dX11_isShelf_14 : decode cX11_isShelf 14 = .ok (.iconst 0, 1) := by decide +kernel
theorem dX11_isShelf_15 : decode cX11_isShelf 15 = .ok (.ireturn, 1) := by decide +kernel
theorem dX11_isFigure_0 : decode cX11_isFigure 0 = .ok (.iload_n 0, 1) := by decide +kernel
theorem dX11_isFigure_1 : decode cX11_isFigure 1 = .ok (.ifCond .lt 13, 3) := by decide +kernel
theorem dX11_isFigure_4 : decode cX11_isFigure 4 = .ok (.iload_n 0, 1) := by decide +kernel
theorem dX11_isFigure_5 : decode cX11_isFigure 5 = .ok (.bipush 10, 2) := by decide +kernel
theorem dX11_isFigure_7 : decode cX11_isFigure 7 = .ok (.if_icmp .ge 7, 3) := by decide +kernel
theorem dX11_isFigure_10 : decode cX11_isFigure 10 = .ok (.iconst 1, 1) := by decide +kernel
theorem dX11_isFigure_11 : decode cX11_isFigure 11 = .ok (.goto 4, 3) := by decide +kernel
theorem dX11_isFigure_14 : decode cX11_isFigure 14 = .ok (.iconst 0, 1) := by decide +kernel
theorem dX11_isFigure_15 : decode cX11_isFigure 15 = .ok (.ireturn, 1) := by decide +kernel
theorem dX11_isOpen_0 : decode cX11_isOpen 0 = .ok (.iload_n 1, 1) := by decide +kernel
theorem dX11_isOpen_1 : decode cX11_isOpen 1 = .ok (.ifCond .lt 22, 3) := by decide +kernel
theorem dX11_isOpen_4 : decode cX11_isOpen 4 = .ok (.iload_n 1, 1) := by decide +kernel
theorem dX11_isOpen_5 : decode cX11_isOpen 5 = .ok (.bipush 6, 2) := by decide +kernel
theorem dX11_isOpen_7 : decode cX11_isOpen 7 = .ok (.if_icmp .ge 16, 3) := by decide +kernel
theorem dX11_isOpen_10 : decode cX11_isOpen 10 = .ok (.iload_n 0, 1) := by decide +kernel
theorem dX11_isOpen_11 : decode cX11_isOpen 11 = .ok (.iload_n 1, 1) := by decide +kernel
theorem dX11_isOpen_12 : decode cX11_isOpen 12 = .ok (.ishr, 1) := by decide +kernel
theorem dX11_isOpen_13 : decode cX11_isOpen 13 = .ok (.iconst 1, 1) := by decide +kernel
theorem dX11_isOpen_14 : decode cX11_isOpen 14 = .ok (.iand, 1) := by decide +kernel
theorem dX11_isOpen_15 : decode cX11_isOpen 15 = .ok (.iconst 1, 1) := by decide +kernel
theorem dX11_isOpen_16 : decode cX11_isOpen 16 = .ok (.if_icmp .ne 7, 3) := by decide +kernel
theorem dX11_isOpen_19 : decode cX11_isOpen 19 = .ok (.iconst 1, 1) := by decide +kernel
theorem dX11_isOpen_20 : decode cX11_isOpen 20 = .ok (.goto 4, 3) := by decide +kernel
theorem dX11_isOpen_23 : decode cX11_isOpen 23 = .ok (.iconst 0, 1) := by decide +kernel
theorem dX11_isOpen_24 : decode cX11_isOpen 24 = .ok (.ireturn, 1) := by decide +kernel
theorem dX11_turned_0 : decode cX11_turned 0 = .ok (.iload_n 0, 1) := by decide +kernel
theorem dX11_turned_1 : decode cX11_turned 1 = .ok (.iconst 1, 1) := by decide +kernel
theorem dX11_turned_2 : decode cX11_turned 2 = .ok (.iload_n 1, 1) := by decide +kernel
theorem dX11_turned_3 : decode cX11_turned 3 = .ok (.ishl, 1) := by decide +kernel
theorem dX11_turned_4 : decode cX11_turned 4 = .ok (.ixor, 1) := by decide +kernel
theorem dX11_turned_5 : decode cX11_turned 5 = .ok (.ireturn, 1) := by decide +kernel
theorem dX11_isAmong_0 : decode cX11_isAmong 0 = .ok (.lload_n 0, 1) := by decide +kernel
theorem dX11_isAmong_1 : decode cX11_isAmong 1 = .ok (.iload_n 2, 1) := by decide +kernel
theorem dX11_isAmong_2 : decode cX11_isAmong 2 = .ok (.lshr, 1) := by decide +kernel
theorem dX11_isAmong_3 : decode cX11_isAmong 3 = .ok (.lconst 1, 1) := by decide +kernel
theorem dX11_isAmong_4 : decode cX11_isAmong 4 = .ok (.land, 1) := by decide +kernel
theorem dX11_isAmong_5 : decode cX11_isAmong 5 = .ok (.lconst 1, 1) := by decide +kernel
theorem dX11_isAmong_6 : decode cX11_isAmong 6 = .ok (.lcmp, 1) := by decide +kernel
theorem dX11_isAmong_7 : decode cX11_isAmong 7 = .ok (.ifCond .ne 7, 3) := by decide +kernel
theorem dX11_isAmong_10 : decode cX11_isAmong 10 = .ok (.iconst 1, 1) := by decide +kernel
theorem dX11_isAmong_11 : decode cX11_isAmong 11 = .ok (.goto 4, 3) := by decide +kernel
theorem dX11_isAmong_14 : decode cX11_isAmong 14 = .ok (.iconst 0, 1) := by decide +kernel
theorem dX11_isAmong_15 : decode cX11_isAmong 15 = .ok (.ireturn, 1) := by decide +kernel
set_option maxRecDepth 20000 in
theorem ggX11_made_X1_init : GoodIn wsX11_made wsX1_init := goodIn_r _ [27, 28, 29, 24, 30, 31, 32, 33, 34, 67, 60, 66, 64, 65, 63, 61, 62] (by decide +kernel) (by decide +kernel)
set_option maxRecDepth 20000 in
theorem gX11_made_X1_init : GoodIn wsX11_made (wsX1_init) := ggX11_made_X1_init
set_option maxRecDepth 20000 in
theorem ggX11_made_X7_init : GoodIn wsX11_made wsX7_init := goodIn_r _ [37, 38, 29, 24, 30, 31, 32, 33, 34, 67, 60, 66, 64, 65, 63, 61, 62] (by decide +kernel) (by decide +kernel)
set_option maxRecDepth 20000 in
theorem gX11_made_X7_init : GoodIn wsX11_made (wsX7_init) := ggX11_made_X7_init
set_option maxRecDepth 20000 in
theorem ggX11_made_X8_init : GoodIn wsX11_made wsX8_init := goodIn_r _ [41, 42, 26, 3, 27, 28, 29, 24, 30, 31, 32, 33, 34, 67, 60, 66, 64, 65, 63, 61, 62] (by decide +kernel) (by decide +kernel)
set_option maxRecDepth 20000 in
theorem gX11_made_X8_init : GoodIn wsX11_made (wsX8_init) := ggX11_made_X8_init
set_option maxRecDepth 20000 in
theorem ggX11_made_X5_init : GoodIn wsX11_made wsX5_init := goodIn_r _ [45, 46, 29, 24, 30, 31, 32, 33, 34, 67, 60, 66, 64, 65, 63, 61, 62] (by decide +kernel) (by decide +kernel)
set_option maxRecDepth 20000 in
theorem gX11_made_X5_init : GoodIn wsX11_made (wsX5_init) := ggX11_made_X5_init
set_option maxRecDepth 20000 in
theorem ggX11_made_X3_init : GoodIn wsX11_made wsX3_init := goodIn_r _ [49, 50, 40, 9, 41, 42, 26, 3, 27, 28, 29, 24, 30, 31, 32, 33, 34, 67, 60, 66, 64, 65, 63, 61, 62] (by decide +kernel) (by decide +kernel)
set_option maxRecDepth 20000 in
theorem gX11_made_X3_init : GoodIn wsX11_made (wsX3_init) := ggX11_made_X3_init
set_option maxRecDepth 20000 in
theorem ggX11_made_X4_init : GoodIn wsX11_made wsX4_init := goodIn_r _ [53, 54, 26, 3, 27, 28, 29, 24, 30, 31, 32, 33, 34, 67, 60, 66, 64, 65, 63, 61, 62] (by decide +kernel) (by decide +kernel)
set_option maxRecDepth 20000 in
theorem gX11_made_X4_init : GoodIn wsX11_made (wsX4_init) := ggX11_made_X4_init
set_option maxRecDepth 20000 in
theorem ggX11_made_X2_init : GoodIn wsX11_made wsX2_init := goodIn_r _ [57, 58, 29, 24, 30, 31, 32, 33, 34, 67, 60, 66, 64, 65, 63, 61, 62] (by decide +kernel) (by decide +kernel)
set_option maxRecDepth 20000 in
theorem gX11_made_X2_init : GoodIn wsX11_made (wsX2_init) := ggX11_made_X2_init
set_option maxRecDepth 20000 in
theorem ggX11_made_X0_init : GoodIn wsX11_made wsX0_init := goodIn_r _ [30, 31, 32, 33, 34, 67, 60, 66, 64, 65, 63, 61, 62] (by decide +kernel) (by decide +kernel)
set_option maxRecDepth 20000 in
theorem gX11_made_X0_init : GoodIn wsX11_made (wsX0_init) := ggX11_made_X0_init
theorem dX11_made_0 : decode cX11_made 0 = .ok (.iload_n 0, 1) := by decide +kernel
theorem dX11_made_1 : decode cX11_made 1 = .ok (.tableswitch 106 1 7 #[43, 52, 61, 70, 79, 88, 97], 43) := by decide +kernel
theorem dX11_made_44 : decode cX11_made 44 = .ok (.new 264, 3) := by decide +kernel
theorem dX11_made_47 : decode cX11_made 47 = .ok (.dup, 1) := by decide +kernel
theorem dX11_made_48 : decode cX11_made 48 = .ok (.iload_n 1, 1) := by decide +kernel
theorem dX11_made_49 : decode cX11_made 49 = .ok (.invokespecial 266, 3) := by decide +kernel
theorem dX11_made_52 : decode cX11_made 52 = .ok (.areturn, 1) := by decide +kernel
theorem dX11_made_53 : decode cX11_made 53 = .ok (.new 268, 3) := by decide +kernel
theorem dX11_made_56 : decode cX11_made 56 = .ok (.dup, 1) := by decide +kernel
theorem dX11_made_57 : decode cX11_made 57 = .ok (.iload_n 1, 1) := by decide +kernel
theorem dX11_made_58 : decode cX11_made 58 = .ok (.invokespecial 270, 3) := by decide +kernel
theorem dX11_made_61 : decode cX11_made 61 = .ok (.areturn, 1) := by decide +kernel
theorem dX11_made_62 : decode cX11_made 62 = .ok (.new 271, 3) := by decide +kernel
theorem dX11_made_65 : decode cX11_made 65 = .ok (.dup, 1) := by decide +kernel
theorem dX11_made_66 : decode cX11_made 66 = .ok (.iload_n 1, 1) := by decide +kernel
theorem dX11_made_67 : decode cX11_made 67 = .ok (.invokespecial 273, 3) := by decide +kernel
theorem dX11_made_70 : decode cX11_made 70 = .ok (.areturn, 1) := by decide +kernel
theorem dX11_made_71 : decode cX11_made 71 = .ok (.new 274, 3) := by decide +kernel
theorem dX11_made_74 : decode cX11_made 74 = .ok (.dup, 1) := by decide +kernel
theorem dX11_made_75 : decode cX11_made 75 = .ok (.iload_n 1, 1) := by decide +kernel
theorem dX11_made_76 : decode cX11_made 76 = .ok (.invokespecial 276, 3) := by decide +kernel
theorem dX11_made_79 : decode cX11_made 79 = .ok (.areturn, 1) := by decide +kernel
theorem dX11_made_80 : decode cX11_made 80 = .ok (.new 277, 3) := by decide +kernel
theorem dX11_made_83 : decode cX11_made 83 = .ok (.dup, 1) := by decide +kernel
theorem dX11_made_84 : decode cX11_made 84 = .ok (.iload_n 1, 1) := by decide +kernel
theorem dX11_made_85 : decode cX11_made 85 = .ok (.invokespecial 279, 3) := by decide +kernel
theorem dX11_made_88 : decode cX11_made 88 = .ok (.areturn, 1) := by decide +kernel
theorem dX11_made_89 : decode cX11_made 89 = .ok (.new 280, 3) := by decide +kernel
theorem dX11_made_92 : decode cX11_made 92 = .ok (.dup, 1) := by decide +kernel
theorem dX11_made_93 : decode cX11_made 93 = .ok (.iload_n 1, 1) := by decide +kernel
theorem dX11_made_94 : decode cX11_made 94 = .ok (.invokespecial 282, 3) := by decide +kernel
theorem dX11_made_97 : decode cX11_made 97 = .ok (.areturn, 1) := by decide +kernel
theorem dX11_made_98 : decode cX11_made 98 = .ok (.new 283, 3) := by decide +kernel
theorem dX11_made_101 : decode cX11_made 101 = .ok (.dup, 1) := by decide +kernel
theorem dX11_made_102 : decode cX11_made 102 = .ok (.iload_n 1, 1) := by decide +kernel
theorem dX11_made_103 : decode cX11_made 103 = .ok (.invokespecial 285, 3) := by decide +kernel
theorem dX11_made_106 : decode cX11_made 106 = .ok (.areturn, 1) := by decide +kernel
theorem dX11_made_107 : decode cX11_made 107 = .ok (.new 29, 3) := by decide +kernel
theorem dX11_made_110 : decode cX11_made 110 = .ok (.dup, 1) := by decide +kernel
theorem dX11_made_111 : decode cX11_made 111 = .ok (.iload_n 1, 1) := by decide +kernel
theorem dX11_made_112 : decode cX11_made 112 = .ok (.invokespecial 286, 3) := by decide +kernel
theorem dX11_made_115 : decode cX11_made 115 = .ok (.areturn, 1) := by decide +kernel
set_option maxRecDepth 20000 in
theorem ggX11_drawerOn_X11_isShelf : GoodIn wsX11_drawerOn wsX11_isShelf := goodIn_r _ [5] (by decide +kernel) (by decide +kernel)
set_option maxRecDepth 20000 in
theorem gX11_drawerOn_X11_isShelf : GoodIn wsX11_drawerOn (va_wsS RX11 179 yX11_isShelf wsX11_isShelf) := goodIn_app (goodIn_of _ (by decide +kernel)) ggX11_drawerOn_X11_isShelf
theorem dX11_drawerOn_0 : decode cX11_drawerOn 0 = .ok (.iload_n 1, 1) := by decide +kernel
theorem dX11_drawerOn_1 : decode cX11_drawerOn 1 = .ok (.invokestatic 179, 3) := by decide +kernel
theorem dX11_drawerOn_4 : decode cX11_drawerOn 4 = .ok (.ifCond .eq 12, 3) := by decide +kernel
theorem dX11_drawerOn_7 : decode cX11_drawerOn 7 = .ok (.aload_n 0, 1) := by decide +kernel
theorem dX11_drawerOn_8 : decode cX11_drawerOn 8 = .ok (.getfield 31, 3) := by decide +kernel
theorem dX11_drawerOn_11 : decode cX11_drawerOn 11 = .ok (.iload_n 1, 1) := by decide +kernel
theorem dX11_drawerOn_12 : decode cX11_drawerOn 12 = .ok (.aaload, 1) := by decide +kernel
theorem dX11_drawerOn_13 : decode cX11_drawerOn 13 = .ok (.goto 4, 3) := by decide +kernel
theorem dX11_drawerOn_16 : decode cX11_drawerOn 16 = .ok (.aconst_null, 1) := by decide +kernel
theorem dX11_drawerOn_17 : decode cX11_drawerOn 17 = .ok (.areturn, 1) := by decide +kernel
set_option maxRecDepth 20000 in
theorem ggX11_rowOn_X11_isShelf : GoodIn wsX11_rowOn wsX11_isShelf := goodIn_r _ [5] (by decide +kernel) (by decide +kernel)
set_option maxRecDepth 20000 in
theorem gX11_rowOn_X11_isShelf : GoodIn wsX11_rowOn (va_wsS RX11 179 yX11_isShelf wsX11_isShelf) := goodIn_app (goodIn_of _ (by decide +kernel)) ggX11_rowOn_X11_isShelf
theorem dX11_rowOn_0 : decode cX11_rowOn 0 = .ok (.iload_n 1, 1) := by decide +kernel
theorem dX11_rowOn_1 : decode cX11_rowOn 1 = .ok (.invokestatic 179, 3) := by decide +kernel
theorem dX11_rowOn_4 : decode cX11_rowOn 4 = .ok (.ifCond .eq 12, 3) := by decide +kernel
theorem dX11_rowOn_7 : decode cX11_rowOn 7 = .ok (.aload_n 0, 1) := by decide +kernel
theorem dX11_rowOn_8 : decode cX11_rowOn 8 = .ok (.getfield 37, 3) := by decide +kernel
theorem dX11_rowOn_11 : decode cX11_rowOn 11 = .ok (.iload_n 1, 1) := by decide +kernel
theorem dX11_rowOn_12 : decode cX11_rowOn 12 = .ok (.aaload, 1) := by decide +kernel
theorem dX11_rowOn_13 : decode cX11_rowOn 13 = .ok (.goto 4, 3) := by decide +kernel
theorem dX11_rowOn_16 : decode cX11_rowOn 16 = .ok (.aconst_null, 1) := by decide +kernel
theorem dX11_rowOn_17 : decode cX11_rowOn 17 = .ok (.areturn, 1) := by decide +kernel
set_option maxRecDepth 20000 in
theorem ggX11_bytesOn_X11_rowOn : GoodIn wsX11_bytesOn wsX11_rowOn := goodIn_r _ [6, 7, 8, 9, 5, 10, 14, 15, 16, 17, 18, 19, 20, 21] (by decide +kernel) (by decide +kernel)
set_option maxRecDepth 20000 in
theorem gX11_bytesOn_X11_rowOn : GoodIn wsX11_bytesOn (wsV RX11 209 RX11 yX11_rowOn wsX11_rowOn) := goodIn_app (goodIn_of _ (by decide +kernel)) ggX11_bytesOn_X11_rowOn
theorem dX11_bytesOn_0 : decode cX11_bytesOn 0 = .ok (.aload_n 0, 1) := by decide +kernel
theorem dX11_bytesOn_1 : decode cX11_bytesOn 1 = .ok (.iload_n 1, 1) := by decide +kernel
theorem dX11_bytesOn_2 : decode cX11_bytesOn 2 = .ok (.invokevirtual 209, 3) := by decide +kernel
theorem dX11_bytesOn_5 : decode cX11_bytesOn 5 = .ok (.astore_n 2, 1) := by decide +kernel
theorem dX11_bytesOn_6 : decode cX11_bytesOn 6 = .ok (.aload_n 2, 1) := by decide +kernel
theorem dX11_bytesOn_7 : decode cX11_bytesOn 7 = .ok (.ifnull 14, 3) := by decide +kernel
theorem dX11_bytesOn_10 : decode cX11_bytesOn 10 = .ok (.aload_n 2, 1) := by decide +kernel
theorem dX11_bytesOn_11 : decode cX11_bytesOn 11 = .ok (.getfield 241, 3) := by decide +kernel
theorem dX11_bytesOn_14 : decode cX11_bytesOn 14 = .ok (.ifCond .ne 7, 3) := by decide +kernel
theorem dX11_bytesOn_17 : decode cX11_bytesOn 17 = .ok (.aload_n 2, 1) := by decide +kernel
theorem dX11_bytesOn_18 : decode cX11_bytesOn 18 = .ok (.goto 4, 3) := by decide +kernel
theorem dX11_bytesOn_21 : decode cX11_bytesOn 21 = .ok (.aconst_null, 1) := by decide +kernel
theorem dX11_bytesOn_22 : decode cX11_bytesOn 22 = .ok (.areturn, 1) := by decide +kernel
set_option maxRecDepth 20000 in
theorem ggX11_holdsNothing_X11_drawerOn : GoodIn wsX11_holdsNothing wsX11_drawerOn := goodIn_r _ [5, 6, 7, 8, 4, 9, 15, 16, 17, 18, 19, 20, 21, 22] (by decide +kernel) (by decide +kernel)
set_option maxRecDepth 20000 in
theorem gX11_holdsNothing_X11_drawerOn : GoodIn wsX11_holdsNothing (wsV RX11 101 RX11 yX11_drawerOn wsX11_drawerOn) := goodIn_app (goodIn_of _ (by decide +kernel)) ggX11_holdsNothing_X11_drawerOn
set_option maxRecDepth 20000 in
theorem ggX11_holdsNothing_X11_rowOn : GoodIn wsX11_holdsNothing wsX11_rowOn := goodIn_r _ [13, 14, 7, 8, 4, 9, 15, 16, 17, 18, 19, 20, 21, 22] (by decide +kernel) (by decide +kernel)
set_option maxRecDepth 20000 in
theorem gX11_holdsNothing_X11_rowOn : GoodIn wsX11_holdsNothing (wsV RX11 209 RX11 yX11_rowOn wsX11_rowOn) := goodIn_app (goodIn_of _ (by decide +kernel)) ggX11_holdsNothing_X11_rowOn
theorem dX11_holdsNothing_0 : decode cX11_holdsNothing 0 = .ok (.aload_n 0, 1) := by decide +kernel
theorem dX11_holdsNothing_1 : decode cX11_holdsNothing 1 = .ok (.iload_n 1, 1) := by decide +kernel
theorem dX11_holdsNothing_2 : decode cX11_holdsNothing 2 = .ok (.invokevirtual 101, 3) := by decide +kernel
theorem dX11_holdsNothing_5 : decode cX11_holdsNothing 5 = .ok (.ifnonnull 15, 3) := by decide +kernel
theorem dX11_holdsNothing_8 : decode cX11_holdsNothing 8 = .ok (.aload_n 0, 1) := by decide +kernel
theorem dX11_holdsNothing_9 : decode cX11_holdsNothing 9 = .ok (.iload_n 1, 1) := by decide +kernel
theorem dX11_holdsNothing_10 : decode cX11_holdsNothing 10 = .ok (.invokevirtual 209, 3) := by decide +kernel
theorem dX11_holdsNothing_13 : decode cX11_holdsNothing 13 = .ok (.ifnonnull 7, 3) := by decide +kernel
theorem dX11_holdsNothing_16 : decode cX11_holdsNothing 16 = .ok (.iconst 1, 1) := by decide +kernel
theorem dX11_holdsNothing_17 : decode cX11_holdsNothing 17 = .ok (.goto 4, 3) := by decide +kernel
theorem dX11_holdsNothing_20 : decode cX11_holdsNothing 20 = .ok (.iconst 0, 1) := by decide +kernel
theorem dX11_holdsNothing_21 : decode cX11_holdsNothing 21 = .ok (.ireturn, 1) := by decide +kernel
set_option maxRecDepth 20000 in
theorem ggX11_lacking_X11_isShelf : GoodIn wsX11_lacking wsX11_isShelf := goodIn_r _ [4] (by decide +kernel) (by decide +kernel)
set_option maxRecDepth 20000 in
theorem gX11_lacking_X11_isShelf : GoodIn wsX11_lacking (va_wsS RX11 179 yX11_isShelf wsX11_isShelf) := goodIn_app (goodIn_of _ (by decide +kernel)) ggX11_lacking_X11_isShelf
set_option maxRecDepth 20000 in
theorem ggX11_lacking_X11_holdsNothing : GoodIn wsX11_lacking wsX11_holdsNothing := goodIn_r _ [8, 9, 10, 11, 3, 12, 13, 1, 2, 4, 14, 15, 16, 17, 18, 19, 20, 21, 22, 23, 24, 25, 26] (by decide +kernel) (by decide +kernel)
set_option maxRecDepth 20000 in
theorem gX11_lacking_X11_holdsNothing : GoodIn wsX11_lacking (wsV RX11 238 RX11 yX11_holdsNothing wsX11_holdsNothing) := goodIn_app (goodIn_of _ (by decide +kernel)) ggX11_lacking_X11_holdsNothing
theorem dX11_lacking_0 : decode cX11_lacking 0 = .ok (.iload_n 1, 1) := by decide +kernel
theorem dX11_lacking_1 : decode cX11_lacking 1 = .ok (.invokestatic 179, 3) := by decide +kernel
theorem dX11_lacking_4 : decode cX11_lacking 4 = .ok (.ifCond .ne 5, 3) := by decide +kernel
theorem dX11_lacking_7 : decode cX11_lacking 7 = .ok (.iconst (-1), 1) := by decide +kernel
theorem dX11_lacking_8 : decode cX11_lacking 8 = .ok (.ireturn, 1) := by decide +kernel
theorem dX11_lacking_9 : decode cX11_lacking 9 = .ok (.aload_n 0, 1) := by decide +kernel
theorem dX11_lacking_10 : decode cX11_lacking 10 = .ok (.iload_n 1, 1) := by decide +kernel
theorem dX11_lacking_11 : decode cX11_lacking 11 = .ok (.invokevirtual 238, 3) := by decide +kernel
theorem dX11_lacking_14 : decode cX11_lacking 14 = .ok (.ifCond .eq 8, 3) := by decide +kernel
theorem dX11_lacking_17 : decode cX11_lacking 17 = .ok (.bipush (-11), 2) := by decide +kernel
theorem dX11_lacking_19 : decode cX11_lacking 19 = .ok (.goto 5, 3) := by decide +kernel
theorem dX11_lacking_22 : decode cX11_lacking 22 = .ok (.bipush (-12), 2) := by decide +kernel
theorem dX11_lacking_24 : decode cX11_lacking 24 = .ok (.ireturn, 1) := by decide +kernel
theorem dX11_fault_0 : decode cX11_fault 0 = .ok (.sipush (-1000), 3) := by decide +kernel
theorem dX11_fault_3 : decode cX11_fault 3 = .ok (.iload_n 0, 1) := by decide +kernel
theorem dX11_fault_4 : decode cX11_fault 4 = .ok (.imul, 1) := by decide +kernel
theorem dX11_fault_5 : decode cX11_fault 5 = .ok (.iload_n 1, 1) := by decide +kernel
theorem dX11_fault_6 : decode cX11_fault 6 = .ok (.isub, 1) := by decide +kernel
theorem dX11_fault_7 : decode cX11_fault 7 = .ok (.ireturn, 1) := by decide +kernel
set_option maxRecDepth 20000 in
theorem ggX11_brokenAt_X6_valueAt : GoodIn wsX11_brokenAt wsX6_valueAt := goodIn_r _ [6, 7, 8, 9, 10, 5, 11, 19, 20, 21] (by decide +kernel) (by decide +kernel)
set_option maxRecDepth 20000 in
theorem gX11_brokenAt_X6_valueAt : GoodIn wsX11_brokenAt (wsV RX11 73 RX6 yX6_valueAt wsX6_valueAt) := goodIn_app (goodIn_of _ (by decide +kernel)) ggX11_brokenAt_X6_valueAt
set_option maxRecDepth 20000 in
theorem ggX11_brokenAt_X11_wantedBehind : GoodIn wsX11_brokenAt wsX11_wantedBehind := goodIn_r _ [15, 16, 17, 14, 18] (by decide +kernel) (by decide +kernel)
set_option maxRecDepth 20000 in
theorem gX11_brokenAt_X11_wantedBehind : GoodIn wsX11_brokenAt (va_wsS RX11 287 yX11_wantedBehind wsX11_wantedBehind) := goodIn_app (goodIn_of _ (by decide +kernel)) ggX11_brokenAt_X11_wantedBehind
theorem dX11_brokenAt_0 : decode cX11_brokenAt 0 = .ok (.iconst 0, 1) := by decide +kernel
theorem dX11_brokenAt_1 : decode cX11_brokenAt 1 = .ok (.istore_n 1, 1) := by decide +kernel
theorem dX11_brokenAt_2 : decode cX11_brokenAt 2 = .ok (.iconst 0, 1) := by decide +kernel
theorem dX11_brokenAt_3 : decode cX11_brokenAt 3 = .ok (.istore_n 2, 1) := by decide +kernel
theorem dX11_brokenAt_4 : decode cX11_brokenAt 4 = .ok (.iload_n 2, 1) := by decide +kernel
theorem dX11_brokenAt_5 : decode cX11_brokenAt 5 = .ok (.aload_n 0, 1) := by decide +kernel
theorem dX11_brokenAt_6 : decode cX11_brokenAt 6 = .ok (.getfield 69, 3) := by decide +kernel
theorem dX11_brokenAt_9 : decode cX11_brokenAt 9 = .ok (.if_icmp .ge 26, 3) := by decide +kernel
theorem dX11_brokenAt_12 : decode cX11_brokenAt 12 = .ok (.iload_n 1, 1) := by decide +kernel
theorem dX11_brokenAt_13 : decode cX11_brokenAt 13 = .ok (.aload_n 0, 1) := by decide +kernel
theorem dX11_brokenAt_14 : decode cX11_brokenAt 14 = .ok (.iload_n 2, 1) := by decide +kernel
theorem dX11_brokenAt_15 : decode cX11_brokenAt 15 = .ok (.invokevirtual 73, 3) := by decide +kernel
theorem dX11_brokenAt_18 : decode cX11_brokenAt 18 = .ok (.invokestatic 287, 3) := by decide +kernel
theorem dX11_brokenAt_21 : decode cX11_brokenAt 21 = .ok (.istore_n 1, 1) := by decide +kernel
theorem dX11_brokenAt_22 : decode cX11_brokenAt 22 = .ok (.iload_n 1, 1) := by decide +kernel
theorem dX11_brokenAt_23 : decode cX11_brokenAt 23 = .ok (.iconst 4, 1) := by decide +kernel
theorem dX11_brokenAt_24 : decode cX11_brokenAt 24 = .ok (.if_icmp .ne 5, 3) := by decide +kernel
theorem dX11_brokenAt_27 : decode cX11_brokenAt 27 = .ok (.iload_n 2, 1) := by decide +kernel
theorem dX11_brokenAt_28 : decode cX11_brokenAt 28 = .ok (.ireturn, 1) := by decide +kernel
theorem dX11_brokenAt_29 : decode cX11_brokenAt 29 = .ok (.iinc 2 1, 3) := by decide +kernel
theorem dX11_brokenAt_32 : decode cX11_brokenAt 32 = .ok (.goto (-28), 3) := by decide +kernel
theorem dX11_brokenAt_35 : decode cX11_brokenAt 35 = .ok (.iload_n 1, 1) := by decide +kernel
theorem dX11_brokenAt_36 : decode cX11_brokenAt 36 = .ok (.ifCond .ne 15, 3) := by decide +kernel
theorem dX11_brokenAt_39 : decode cX11_brokenAt 39 = .ok (.aload_n 0, 1) := by decide +kernel
theorem dX11_brokenAt_40 : decode cX11_brokenAt 40 = .ok (.getfield 69, 3) := by decide +kernel
theorem dX11_brokenAt_43 : decode cX11_brokenAt 43 = .ok (.ifCond .le 8, 3) := by decide +kernel
theorem dX11_brokenAt_46 : decode cX11_brokenAt 46 = .ok (.bipush (-4), 2) := by decide +kernel
theorem dX11_brokenAt_48 : decode cX11_brokenAt 48 = .ok (.goto 7, 3) := by decide +kernel
theorem dX11_brokenAt_51 : decode cX11_brokenAt 51 = .ok (.aload_n 0, 1) := by decide +kernel
theorem dX11_brokenAt_52 : decode cX11_brokenAt 52 = .ok (.getfield 69, 3) := by decide +kernel
theorem dX11_brokenAt_55 : decode cX11_brokenAt 55 = .ok (.ireturn, 1) := by decide +kernel
set_option maxRecDepth 20000 in
theorem ggX11_wantedBehind_X11_isDigit : GoodIn wsX11_wantedBehind wsX11_isDigit := goodIn_r _ [4] (by decide +kernel) (by decide +kernel)
set_option maxRecDepth 20000 in
theorem gX11_wantedBehind_X11_isDigit : GoodIn wsX11_wantedBehind (va_wsS RX11 290 yX11_isDigit wsX11_isDigit) := goodIn_app (goodIn_of _ (by decide +kernel)) ggX11_wantedBehind_X11_isDigit
theorem dX11_wantedBehind_0 : decode cX11_wantedBehind 0 = .ok (.iload_n 0, 1) := by decide +kernel
theorem dX11_wantedBehind_1 : decode cX11_wantedBehind 1 = .ok (.tableswitch 85 0 2 #[27, 59, 72], 27) := by decide +kernel
theorem dX11_wantedBehind_28 : decode cX11_wantedBehind 28 = .ok (.iload_n 1, 1) := by decide +kernel
theorem dX11_wantedBehind_29 : decode cX11_wantedBehind 29 = .ok (.bipush 100, 2) := by decide +kernel
theorem dX11_wantedBehind_31 : decode cX11_wantedBehind 31 = .ok (.if_icmp .ne 5, 3) := by decide +kernel
theorem dX11_wantedBehind_34 : decode cX11_wantedBehind 34 = .ok (.iconst 1, 1) := by decide +kernel
theorem dX11_wantedBehind_35 : decode cX11_wantedBehind 35 = .ok (.ireturn, 1) := by decide +kernel
theorem dX11_wantedBehind_36 : decode cX11_wantedBehind 36 = .ok (.iload_n 1, 1) := by decide +kernel
theorem dX11_wantedBehind_37 : decode cX11_wantedBehind 37 = .ok (.bipush 111, 2) := by decide +kernel
theorem dX11_wantedBehind_39 : decode cX11_wantedBehind 39 = .ok (.if_icmp .eq 15, 3) := by decide +kernel
theorem dX11_wantedBehind_42 : decode cX11_wantedBehind 42 = .ok (.iload_n 1, 1) := by decide +kernel
theorem dX11_wantedBehind_43 : decode cX11_wantedBehind 43 = .ok (.bipush 115, 2) := by decide +kernel
theorem dX11_wantedBehind_45 : decode cX11_wantedBehind 45 = .ok (.if_icmp .eq 9, 3) := by decide +kernel
theorem dX11_wantedBehind_48 : decode cX11_wantedBehind 48 = .ok (.iload_n 1, 1) := by decide +kernel
theorem dX11_wantedBehind_49 : decode cX11_wantedBehind 49 = .ok (.bipush 112, 2) := by decide +kernel
theorem dX11_wantedBehind_51 : decode cX11_wantedBehind 51 = .ok (.if_icmp .ne 7, 3) := by decide +kernel
theorem dX11_wantedBehind_54 : decode cX11_wantedBehind 54 = .ok (.iconst 2, 1) := by decide +kernel
theorem dX11_wantedBehind_55 : decode cX11_wantedBehind 55 = .ok (.goto 4, 3) := by decide +kernel
theorem dX11_wantedBehind_58 : decode cX11_wantedBehind 58 = .ok (.iconst 4, 1) := by decide +kernel
theorem dX11_wantedBehind_59 : decode cX11_wantedBehind 59 = .ok (.ireturn, 1) := by decide +kernel
theorem dX11_wantedBehind_60 : decode cX11_wantedBehind 60 = .ok (.iload_n 1, 1) := by decide +kernel
theorem dX11_wantedBehind_61 : decode cX11_wantedBehind 61 = .ok (.invokestatic 290, 3) := by decide +kernel
theorem dX11_wantedBehind_64 : decode cX11_wantedBehind 64 = .ok (.ifCond .eq 7, 3) := by decide +kernel
theorem dX11_wantedBehind_67 : decode cX11_wantedBehind 67 = .ok (.iconst 2, 1) := by decide +kernel
theorem dX11_wantedBehind_68 : decode cX11_wantedBehind 68 = .ok (.goto 4, 3) := by decide +kernel
theorem dX11_wantedBehind_71 : decode cX11_wantedBehind 71 = .ok (.iconst 4, 1) := by decide +kernel
theorem dX11_wantedBehind_72 : decode cX11_wantedBehind 72 = .ok (.ireturn, 1) := by decide +kernel
theorem dX11_wantedBehind_73 : decode cX11_wantedBehind 73 = .ok (.iload_n 1, 1) := by decide +kernel
theorem dX11_wantedBehind_74 : decode cX11_wantedBehind 74 = .ok (.invokestatic 290, 3) := by decide +kernel
theorem dX11_wantedBehind_77 : decode cX11_wantedBehind 77 = .ok (.ifCond .eq 7, 3) := by decide +kernel
theorem dX11_wantedBehind_80 : decode cX11_wantedBehind 80 = .ok (.iconst 3, 1) := by decide +kernel
theorem dX11_wantedBehind_81 : decode cX11_wantedBehind 81 = .ok (.goto 4, 3) := by decide +kernel
theorem dX11_wantedBehind_84 : decode cX11_wantedBehind 84 = .ok (.iconst 4, 1) := by decide +kernel
theorem dX11_wantedBehind_85 : decode cX11_wantedBehind 85 = .ok (.ireturn, 1) := by decide +kernel
theorem dX11_wantedBehind_86 : decode cX11_wantedBehind 86 = .ok (.iload_n 1, 1) := by decide +kernel
theorem dX11_wantedBehind_87 : decode cX11_wantedBehind 87 = .ok (.bipush 59, 2) := by decide +kernel
theorem dX11_wantedBehind_89 : decode cX11_wantedBehind 89 = .ok (.if_icmp .ne 7, 3) := by decide +kernel
theorem dX11_wantedBehind_92 : decode cX11_wantedBehind 92 = .ok (.iconst 0, 1) := by decide +kernel
theorem dX11_wantedBehind_93 : decode cX11_wantedBehind 93 = .ok (.goto 4, 3) := by decide +kernel
theorem dX11_wantedBehind_96 : decode cX11_wantedBehind 96 = .ok (.iconst 4, 1) := by decide +kernel
theorem dX11_wantedBehind_97 : decode cX11_wantedBehind 97 = .ok (.ireturn, 1) := by decide +kernel
theorem dX11_isDigit_0 : decode cX11_isDigit 0 = .ok (.iload_n 0, 1) := by decide +kernel
theorem dX11_isDigit_1 : decode cX11_isDigit 1 = .ok (.bipush 48, 2) := by decide +kernel
theorem dX11_isDigit_3 : decode cX11_isDigit 3 = .ok (.if_icmp .lt 13, 3) := by decide +kernel
theorem dX11_isDigit_6 : decode cX11_isDigit 6 = .ok (.iload_n 0, 1) := by decide +kernel
theorem dX11_isDigit_7 : decode cX11_isDigit 7 = .ok (.bipush 57, 2) := by decide +kernel
theorem dX11_isDigit_9 : decode cX11_isDigit 9 = .ok (.if_icmp .gt 7, 3) := by decide +kernel
theorem dX11_isDigit_12 : decode cX11_isDigit 12 = .ok (.iconst 1, 1) := by decide +kernel
theorem dX11_isDigit_13 : decode cX11_isDigit 13 = .ok (.goto 4, 3) := by decide +kernel
theorem dX11_isDigit_16 : decode cX11_isDigit 16 = .ok (.iconst 0, 1) := by decide +kernel
theorem dX11_isDigit_17 : decode cX11_isDigit 17 = .ok (.ireturn, 1) := by decide +kernel
set_option maxRecDepth 20000 in
theorem ggX11_carriedOut_X6_valueAt : GoodIn wsX11_carriedOut wsX6_valueAt := goodIn_r _ [6, 7, 8, 9, 10, 5, 11, 164, 165, 166] (by decide +kernel) (by decide +kernel)
set_option maxRecDepth 20000 in
theorem gX11_carriedOut_X6_valueAt : GoodIn wsX11_carriedOut (wsV RX11 73 RX6 yX6_valueAt wsX6_valueAt) := goodIn_app (goodIn_of _ (by decide +kernel)) ggX11_carriedOut_X6_valueAt
set_option maxRecDepth 20000 in
theorem ggX11_carriedOut_X11_made : GoodIn wsX11_carriedOut wsX11_made := goodIn_r _ [15, 16, 17, 18, 19, 20, 21, 22, 23, 24, 25, 26, 27, 28, 29, 30, 31, 32, 33, 34, 35, 36, 37, 38, 39, 40, 41, 42, 43, 44, 45, 46, 47, 48, 49, 50, 51, 52, 53, 54, 55, 56, 57, 58, 59, 60, 61, 62, 63, 64, 65, 66, 67, 68, 69, 70, 71, 72, 73, 74, 167, 168, 169, 170, 171, 172, 173, 174] (by decide +kernel) (by decide +kernel)
set_option maxRecDepth 20000 in
theorem gX11_carriedOut_X11_made : GoodIn wsX11_carriedOut (va_wsS RX11 161 yX11_made wsX11_made) := goodIn_app (goodIn_of _ (by decide +kernel)) ggX11_carriedOut_X11_made
set_option maxRecDepth 20000 in
theorem ggX11_carriedOut_X9_add : GoodIn wsX11_carriedOut wsX9_add := goodIn_r _ [79, 80, 81, 175, 176, 177] (by decide +kernel) (by decide +kernel)
set_option maxRecDepth 20000 in
theorem gX11_carriedOut_X9_add : GoodIn wsX11_carriedOut (wsV RX11 105 RX9 yX9_add wsX9_add) := goodIn_app (goodIn_of _ (by decide +kernel)) ggX11_carriedOut_X9_add
set_option maxRecDepth 20000 in
theorem ggX11_carriedOut_X9_becomes : GoodIn wsX11_carriedOut wsX9_becomes := goodIn_r _ [85, 86, 87, 88, 89, 78, 90, 80, 175, 176, 177] (by decide +kernel) (by decide +kernel)
set_option maxRecDepth 20000 in
theorem gX11_carriedOut_X9_becomes : GoodIn wsX11_carriedOut (wsV RX11 293 RX9 yX9_becomes wsX9_becomes) := goodIn_app (goodIn_of _ (by decide +kernel)) ggX11_carriedOut_X9_becomes
set_option maxRecDepth 20000 in
theorem ggX11_carriedOut_X9_pulled : GoodIn wsX11_carriedOut wsX9_pulled := goodIn_r _ [94, 86, 95, 96, 97, 78, 98, 99, 100, 101, 102, 81, 87, 88, 89, 90, 80, 103, 104, 105, 39, 106, 107, 14, 108, 109, 110, 111, 112, 113, 18, 114, 115, 116, 36, 117, 118, 119, 120, 121, 30, 122, 123, 124, 125, 126, 127, 128, 24, 129, 130, 131, 132, 133, 134, 135, 136, 137, 138, 33, 139, 140, 141, 142, 143, 144, 27, 145, 146, 147, 148, 149, 150, 151, 21, 152, 153, 154, 155, 175, 176, 177, 174, 167, 173, 171, 172, 170, 168, 169] (by decide +kernel) (by decide +kernel)
set_option maxRecDepth 20000 in
theorem gX11_carriedOut_X9_pulled : GoodIn wsX11_carriedOut (wsV RX11 113 RX9 yX9_pulled wsX9_pulled) := goodIn_app (goodIn_of _ (by decide +kernel)) ggX11_carriedOut_X9_pulled
theorem dX11_carriedOut_0 : decode cX11_carriedOut 0 = .ok (.aload_n 1, 1) := by decide +kernel
theorem dX11_carriedOut_1 : decode cX11_carriedOut 1 = .ok (.iload_n 2, 1) := by decide +kernel
theorem dX11_carriedOut_2 : decode cX11_carriedOut 2 = .ok (.iconst 1, 1) := by decide +kernel
theorem dX11_carriedOut_3 : decode cX11_carriedOut 3 = .ok (.iadd, 1) := by decide +kernel
theorem dX11_carriedOut_4 : decode cX11_carriedOut 4 = .ok (.invokevirtual 73, 3) := by decide +kernel
theorem dX11_carriedOut_7 : decode cX11_carriedOut 7 = .ok (.bipush 48, 2) := by decide +kernel
theorem dX11_carriedOut_9 : decode cX11_carriedOut 9 = .ok (.isub, 1) := by decide +kernel
theorem dX11_carriedOut_10 : decode cX11_carriedOut 10 = .ok (.istore_n 3, 1) := by decide +kernel
theorem dX11_carriedOut_11 : decode cX11_carriedOut 11 = .ok (.aload_n 1, 1) := by decide +kernel
theorem dX11_carriedOut_12 : decode cX11_carriedOut 12 = .ok (.iload_n 2, 1) := by decide +kernel
theorem dX11_carriedOut_13 : decode cX11_carriedOut 13 = .ok (.invokevirtual 73, 3) := by decide +kernel
theorem dX11_carriedOut_16 : decode cX11_carriedOut 16 = .ok (.lookupswitch 92 #[(100, 36), (111, 72), (115, 82)], 36) := by decide +kernel
theorem dX11_carriedOut_52 : decode cX11_carriedOut 52 = .ok (.iload_n 3, 1) := by decide +kernel
theorem dX11_carriedOut_53 : decode cX11_carriedOut 53 = .ok (.bipush 8, 2) := by decide +kernel
theorem dX11_carriedOut_55 : decode cX11_carriedOut 55 = .ok (.if_icmp .ge 31, 3) := by decide +kernel
theorem dX11_carriedOut_58 : decode cX11_carriedOut 58 = .ok (.aload_n 0, 1) := by decide +kernel
theorem dX11_carriedOut_59 : decode cX11_carriedOut 59 = .ok (.getfield 19, 3) := by decide +kernel
theorem dX11_carriedOut_62 : decode cX11_carriedOut 62 = .ok (.iload_n 3, 1) := by decide +kernel
theorem dX11_carriedOut_63 : decode cX11_carriedOut 63 = .ok (.aload_n 1, 1) := by decide +kernel
theorem dX11_carriedOut_64 : decode cX11_carriedOut 64 = .ok (.iload_n 2, 1) := by decide +kernel
theorem dX11_carriedOut_65 : decode cX11_carriedOut 65 = .ok (.iconst 2, 1) := by decide +kernel
theorem dX11_carriedOut_66 : decode cX11_carriedOut 66 = .ok (.iadd, 1) := by decide +kernel
theorem dX11_carriedOut_67 : decode cX11_carriedOut 67 = .ok (.invokevirtual 73, 3) := by decide +kernel
theorem dX11_carriedOut_70 : decode cX11_carriedOut 70 = .ok (.bipush 48, 2) := by decide +kernel
theorem dX11_carriedOut_72 : decode cX11_carriedOut 72 = .ok (.isub, 1) := by decide +kernel
theorem dX11_carriedOut_73 : decode cX11_carriedOut 73 = .ok (.invokestatic 161, 3) := by decide +kernel
theorem dX11_carriedOut_76 : decode cX11_carriedOut 76 = .ok (.invokevirtual 105, 3) := by decide +kernel
theorem dX11_carriedOut_79 : decode cX11_carriedOut 79 = .ok (.ifCond .eq 7, 3) := by decide +kernel
theorem dX11_carriedOut_82 : decode cX11_carriedOut 82 = .ok (.iconst 1, 1) := by decide +kernel
theorem dX11_carriedOut_83 : decode cX11_carriedOut 83 = .ok (.goto 4, 3) := by decide +kernel
theorem dX11_carriedOut_86 : decode cX11_carriedOut 86 = .ok (.iconst 0, 1) := by decide +kernel
theorem dX11_carriedOut_87 : decode cX11_carriedOut 87 = .ok (.ireturn, 1) := by decide +kernel
theorem dX11_carriedOut_88 : decode cX11_carriedOut 88 = .ok (.aload_n 0, 1) := by decide +kernel
theorem dX11_carriedOut_89 : decode cX11_carriedOut 89 = .ok (.getfield 19, 3) := by decide +kernel
theorem dX11_carriedOut_92 : decode cX11_carriedOut 92 = .ok (.iload_n 3, 1) := by decide +kernel
theorem dX11_carriedOut_93 : decode cX11_carriedOut 93 = .ok (.iconst 1, 1) := by decide +kernel
theorem dX11_carriedOut_94 : decode cX11_carriedOut 94 = .ok (.invokevirtual 293, 3) := by decide +kernel
theorem dX11_carriedOut_97 : decode cX11_carriedOut 97 = .ok (.ireturn, 1) := by decide +kernel
theorem dX11_carriedOut_98 : decode cX11_carriedOut 98 = .ok (.aload_n 0, 1) := by decide +kernel
theorem dX11_carriedOut_99 : decode cX11_carriedOut 99 = .ok (.getfield 19, 3) := by decide +kernel
theorem dX11_carriedOut_102 : decode cX11_carriedOut 102 = .ok (.iload_n 3, 1) := by decide +kernel
theorem dX11_carriedOut_103 : decode cX11_carriedOut 103 = .ok (.iconst 0, 1) := by decide +kernel
theorem dX11_carriedOut_104 : decode cX11_carriedOut 104 = .ok (.invokevirtual 293, 3) := by decide +kernel
theorem dX11_carriedOut_107 : decode cX11_carriedOut 107 = .ok (.ireturn, 1) := by decide +kernel
theorem dX11_carriedOut_108 : decode cX11_carriedOut 108 = .ok (.aload_n 0, 1) := by decide +kernel
theorem dX11_carriedOut_109 : decode cX11_carriedOut 109 = .ok (.getfield 19, 3) := by decide +kernel
theorem dX11_carriedOut_112 : decode cX11_carriedOut 112 = .ok (.iload_n 3, 1) := by decide +kernel
theorem dX11_carriedOut_113 : decode cX11_carriedOut 113 = .ok (.invokevirtual 113, 3) := by decide +kernel
theorem dX11_carriedOut_116 : decode cX11_carriedOut 116 = .ok (.ireturn, 1) := by decide +kernel
set_option maxRecDepth 20000 in
theorem ggX11_freeInMind_X9_takeFrom : GoodIn wsX11_freeInMind wsX9_takeFrom := goodIn_r _ [8, 9, 10, 11, 32, 33, 34] (by decide +kernel) (by decide +kernel)
set_option maxRecDepth 20000 in
theorem gX11_freeInMind_X9_takeFrom : GoodIn wsX11_freeInMind (wsV RX11 65 RX9 yX9_takeFrom wsX9_takeFrom) := goodIn_app (goodIn_of _ (by decide +kernel)) ggX11_freeInMind_X9_takeFrom
set_option maxRecDepth 20000 in
theorem ggX11_freeInMind_X11_isOpen : GoodIn wsX11_freeInMind wsX11_isOpen := goodIn_r _ [15] (by decide +kernel) (by decide +kernel)
set_option maxRecDepth 20000 in
theorem gX11_freeInMind_X11_isOpen : GoodIn wsX11_freeInMind (va_wsS RX11 94 yX11_isOpen wsX11_isOpen) := goodIn_app (goodIn_of _ (by decide +kernel)) ggX11_freeInMind_X11_isOpen
set_option maxRecDepth 20000 in
theorem ggX11_freeInMind_X9_replace : GoodIn wsX11_freeInMind wsX9_replace := goodIn_r _ [19, 9, 20, 21, 22, 7, 23, 10, 32, 33, 34] (by decide +kernel) (by decide +kernel)
set_option maxRecDepth 20000 in
theorem gX11_freeInMind_X9_replace : GoodIn wsX11_freeInMind (wsV RX11 109 RX9 yX9_replace wsX9_replace) := goodIn_app (goodIn_of _ (by decide +kernel)) ggX11_freeInMind_X9_replace
theorem dX11_freeInMind_0 : decode cX11_freeInMind 0 = .ok (.aload_n 0, 1) := by decide +kernel
theorem dX11_freeInMind_1 : decode cX11_freeInMind 1 = .ok (.getfield 19, 3) := by decide +kernel
theorem dX11_freeInMind_4 : decode cX11_freeInMind 4 = .ok (.aload_n 0, 1) := by decide +kernel
theorem dX11_freeInMind_5 : decode cX11_freeInMind 5 = .ok (.getfield 10, 3) := by decide +kernel
theorem dX11_freeInMind_8 : decode cX11_freeInMind 8 = .ok (.invokevirtual 65, 3) := by decide +kernel
theorem dX11_freeInMind_11 : decode cX11_freeInMind 11 = .ok (.iconst 0, 1) := by decide +kernel
theorem dX11_freeInMind_12 : decode cX11_freeInMind 12 = .ok (.istore_n 3, 1) := by decide +kernel
theorem dX11_freeInMind_13 : decode cX11_freeInMind 13 = .ok (.iload_n 3, 1) := by decide +kernel
theorem dX11_freeInMind_14 : decode cX11_freeInMind 14 = .ok (.aload_n 0, 1) := by decide +kernel
theorem dX11_freeInMind_15 : decode cX11_freeInMind 15 = .ok (.getfield 10, 3) := by decide +kernel
theorem dX11_freeInMind_18 : decode cX11_freeInMind 18 = .ok (.getfield 104, 3) := by decide +kernel
theorem dX11_freeInMind_21 : decode cX11_freeInMind 21 = .ok (.if_icmp .ge 26, 3) := by decide +kernel
theorem dX11_freeInMind_24 : decode cX11_freeInMind 24 = .ok (.iload_n 1, 1) := by decide +kernel
theorem dX11_freeInMind_25 : decode cX11_freeInMind 25 = .ok (.iload_n 3, 1) := by decide +kernel
theorem dX11_freeInMind_26 : decode cX11_freeInMind 26 = .ok (.invokestatic 94, 3) := by decide +kernel
theorem dX11_freeInMind_29 : decode cX11_freeInMind 29 = .ok (.ifCond .eq 12, 3) := by decide +kernel
theorem dX11_freeInMind_32 : decode cX11_freeInMind 32 = .ok (.aload_n 0, 1) := by decide +kernel
theorem dX11_freeInMind_33 : decode cX11_freeInMind 33 = .ok (.getfield 19, 3) := by decide +kernel
theorem dX11_freeInMind_36 : decode cX11_freeInMind 36 = .ok (.iload_n 3, 1) := by decide +kernel
theorem dX11_freeInMind_37 : decode cX11_freeInMind 37 = .ok (.aload_n 2, 1) := by decide +kernel
theorem dX11_freeInMind_38 : decode cX11_freeInMind 38 = .ok (.invokevirtual 109, 3) := by decide +kernel
theorem dX11_freeInMind_41 : decode cX11_freeInMind 41 = .ok (.iinc 3 1, 3) := by decide +kernel
theorem dX11_freeInMind_44 : decode cX11_freeInMind 44 = .ok (.goto (-31), 3) := by decide +kernel
theorem dX11_freeInMind_47 : decode cX11_freeInMind 47 = .ok (.return_, 1) := by decide +kernel
set_option maxRecDepth 20000 in
theorem ggX11_areTrials_X6_valueAt : GoodIn wsX11_areTrials wsX6_valueAt := goodIn_r _ [7, 8, 9, 10, 11, 6, 12, 19, 20, 21] (by decide +kernel) (by decide +kernel)
set_option maxRecDepth 20000 in
theorem gX11_areTrials_X6_valueAt : GoodIn wsX11_areTrials (wsV RX11 73 RX6 yX6_valueAt wsX6_valueAt) := goodIn_app (goodIn_of _ (by decide +kernel)) ggX11_areTrials_X6_valueAt
set_option maxRecDepth 20000 in
theorem ggX11_areTrials_X9_has : GoodIn wsX11_areTrials wsX9_has := goodIn_r _ [17, 18, 30, 31, 32] (by decide +kernel) (by decide +kernel)
set_option maxRecDepth 20000 in
theorem gX11_areTrials_X9_has : GoodIn wsX11_areTrials (wsV RX11 173 RX9 yX9_has wsX9_has) := goodIn_app (goodIn_of _ (by decide +kernel)) ggX11_areTrials_X9_has
theorem dX11_areTrials_0 : decode cX11_areTrials 0 = .ok (.aload_n 1, 1) := by decide +kernel
theorem dX11_areTrials_1 : decode cX11_areTrials 1 = .ok (.getfield 69, 3) := by decide +kernel
theorem dX11_areTrials_4 : decode cX11_areTrials 4 = .ok (.iconst 2, 1) := by decide +kernel
theorem dX11_areTrials_5 : decode cX11_areTrials 5 = .ok (.irem, 1) := by decide +kernel
theorem dX11_areTrials_6 : decode cX11_areTrials 6 = .ok (.ifCond .eq 5, 3) := by decide +kernel
theorem dX11_areTrials_9 : decode cX11_areTrials 9 = .ok (.iconst 0, 1) := by decide +kernel
theorem dX11_areTrials_10 : decode cX11_areTrials 10 = .ok (.ireturn, 1) := by decide +kernel
theorem dX11_areTrials_11 : decode cX11_areTrials 11 = .ok (.iconst 0, 1) := by decide +kernel
theorem dX11_areTrials_12 : decode cX11_areTrials 12 = .ok (.istore_n 2, 1) := by decide +kernel
theorem dX11_areTrials_13 : decode cX11_areTrials 13 = .ok (.iload_n 2, 1) := by decide +kernel
theorem dX11_areTrials_14 : decode cX11_areTrials 14 = .ok (.aload_n 1, 1) := by decide +kernel
theorem dX11_areTrials_15 : decode cX11_areTrials 15 = .ok (.getfield 69, 3) := by decide +kernel
theorem dX11_areTrials_18 : decode cX11_areTrials 18 = .ok (.if_icmp .ge 43, 3) := by decide +kernel
theorem dX11_areTrials_21 : decode cX11_areTrials 21 = .ok (.aload_n 1, 1) := by decide +kernel
theorem dX11_areTrials_22 : decode cX11_areTrials 22 = .ok (.iload_n 2, 1) := by decide +kernel
theorem dX11_areTrials_23 : decode cX11_areTrials 23 = .ok (.iconst 1, 1) := by decide +kernel
theorem dX11_areTrials_24 : decode cX11_areTrials 24 = .ok (.iadd, 1) := by decide +kernel
theorem dX11_areTrials_25 : decode cX11_areTrials 25 = .ok (.invokevirtual 73, 3) := by decide +kernel
theorem dX11_areTrials_28 : decode cX11_areTrials 28 = .ok (.istore_n 3, 1) := by decide +kernel
theorem dX11_areTrials_29 : decode cX11_areTrials 29 = .ok (.aload_n 0, 1) := by decide +kernel
theorem dX11_areTrials_30 : decode cX11_areTrials 30 = .ok (.getfield 10, 3) := by decide +kernel
theorem dX11_areTrials_33 : decode cX11_areTrials 33 = .ok (.aload_n 1, 1) := by decide +kernel
theorem dX11_areTrials_34 : decode cX11_areTrials 34 = .ok (.iload_n 2, 1) := by decide +kernel
theorem dX11_areTrials_35 : decode cX11_areTrials 35 = .ok (.invokevirtual 73, 3) := by decide +kernel
theorem dX11_areTrials_38 : decode cX11_areTrials 38 = .ok (.invokevirtual 173, 3) := by decide +kernel
theorem dX11_areTrials_41 : decode cX11_areTrials 41 = .ok (.ifCond .eq 12, 3) := by decide +kernel
theorem dX11_areTrials_44 : decode cX11_areTrials 44 = .ok (.iload_n 3, 1) := by decide +kernel
theorem dX11_areTrials_45 : decode cX11_areTrials 45 = .ok (.ifCond .lt 8, 3) := by decide +kernel
theorem dX11_areTrials_48 : decode cX11_areTrials 48 = .ok (.iload_n 3, 1) := by decide +kernel
theorem dX11_areTrials_49 : decode cX11_areTrials 49 = .ok (.iconst 1, 1) := by decide +kernel
theorem dX11_areTrials_50 : decode cX11_areTrials 50 = .ok (.if_icmp .le 5, 3) := by decide +kernel
theorem dX11_areTrials_53 : decode cX11_areTrials 53 = .ok (.iconst 0, 1) := by decide +kernel
theorem dX11_areTrials_54 : decode cX11_areTrials 54 = .ok (.ireturn, 1) := by decide +kernel
theorem dX11_areTrials_55 : decode cX11_areTrials 55 = .ok (.iinc 2 2, 3) := by decide +kernel
theorem dX11_areTrials_58 : decode cX11_areTrials 58 = .ok (.goto (-45), 3) := by decide +kernel
theorem dX11_areTrials_61 : decode cX11_areTrials 61 = .ok (.iconst 1, 1) := by decide +kernel
theorem dX11_areTrials_62 : decode cX11_areTrials 62 = .ok (.ireturn, 1) := by decide +kernel
set_option maxRecDepth 20000 in
theorem ggX11_fits_X6_valueAt : GoodIn wsX11_fits wsX6_valueAt := goodIn_r _ [7, 8, 9, 10, 11, 6, 12, 95, 96, 97] (by decide +kernel) (by decide +kernel)
set_option maxRecDepth 20000 in
theorem gX11_fits_X6_valueAt : GoodIn wsX11_fits (wsV RX11 73 RX6 yX6_valueAt wsX6_valueAt) := goodIn_app (goodIn_of _ (by decide +kernel)) ggX11_fits_X6_valueAt
set_option maxRecDepth 20000 in
theorem ggX11_fits_X9_pulled : GoodIn wsX11_fits wsX9_pulled := goodIn_r _ [17, 18, 19, 20, 21, 16, 22, 23, 24, 25, 26, 27, 28, 29, 30, 31, 32, 33, 34, 35, 36, 37, 38, 39, 40, 41, 42, 43, 44, 45, 46, 47, 48, 49, 50, 51, 52, 53, 54, 55, 56, 57, 58, 59, 60, 61, 62, 63, 64, 65, 66, 67, 68, 69, 70, 71, 72, 73, 74, 75, 76, 77, 78, 79, 80, 81, 82, 83, 84, 85, 86, 87, 88, 89, 90, 91, 92, 93, 94, 106, 107, 108, 109, 110, 111, 112, 113, 114, 115, 116] (by decide +kernel) (by decide +kernel)
set_option maxRecDepth 20000 in
theorem gX11_fits_X9_pulled : GoodIn wsX11_fits (wsV RX11 113 RX9 yX9_pulled wsX9_pulled) := goodIn_app (goodIn_of _ (by decide +kernel)) ggX11_fits_X9_pulled
theorem dX11_fits_0 : decode cX11_fits 0 = .ok (.iconst 0, 1) := by decide +kernel
theorem dX11_fits_1 : decode cX11_fits 1 = .ok (.istore_n 2, 1) := by decide +kernel
theorem dX11_fits_2 : decode cX11_fits 2 = .ok (.iload_n 2, 1) := by decide +kernel
theorem dX11_fits_3 : decode cX11_fits 3 = .ok (.aload_n 1, 1) := by decide +kernel
theorem dX11_fits_4 : decode cX11_fits 4 = .ok (.getfield 69, 3) := by decide +kernel
theorem dX11_fits_7 : decode cX11_fits 7 = .ok (.if_icmp .ge 44, 3) := by decide +kernel
theorem dX11_fits_10 : decode cX11_fits 10 = .ok (.aload_n 1, 1) := by decide +kernel
theorem dX11_fits_11 : decode cX11_fits 11 = .ok (.iload_n 2, 1) := by decide +kernel
theorem dX11_fits_12 : decode cX11_fits 12 = .ok (.iconst 1, 1) := by decide +kernel
theorem dX11_fits_13 : decode cX11_fits 13 = .ok (.iadd, 1) := by decide +kernel
theorem dX11_fits_14 : decode cX11_fits 14 = .ok (.invokevirtual 73, 3) := by decide +kernel
theorem dX11_fits_17 : decode cX11_fits 17 = .ok (.iconst 1, 1) := by decide +kernel
theorem dX11_fits_18 : decode cX11_fits 18 = .ok (.if_icmp .ne 7, 3) := by decide +kernel
theorem dX11_fits_21 : decode cX11_fits 21 = .ok (.iconst 1, 1) := by decide +kernel
theorem dX11_fits_22 : decode cX11_fits 22 = .ok (.goto 4, 3) := by decide +kernel
theorem dX11_fits_25 : decode cX11_fits 25 = .ok (.iconst 0, 1) := by decide +kernel
theorem dX11_fits_26 : decode cX11_fits 26 = .ok (.istore_n 3, 1) := by decide +kernel
theorem dX11_fits_27 : decode cX11_fits 27 = .ok (.aload_n 0, 1) := by decide +kernel
theorem dX11_fits_28 : decode cX11_fits 28 = .ok (.getfield 19, 3) := by decide +kernel
theorem dX11_fits_31 : decode cX11_fits 31 = .ok (.aload_n 1, 1) := by decide +kernel
theorem dX11_fits_32 : decode cX11_fits 32 = .ok (.iload_n 2, 1) := by decide +kernel
theorem dX11_fits_33 : decode cX11_fits 33 = .ok (.invokevirtual 73, 3) := by decide +kernel
theorem dX11_fits_36 : decode cX11_fits 36 = .ok (.invokevirtual 113, 3) := by decide +kernel
theorem dX11_fits_39 : decode cX11_fits 39 = .ok (.iload_n 3, 1) := by decide +kernel
theorem dX11_fits_40 : decode cX11_fits 40 = .ok (.if_icmp .eq 5, 3) := by decide +kernel
theorem dX11_fits_43 : decode cX11_fits 43 = .ok (.iconst 0, 1) := by decide +kernel
theorem dX11_fits_44 : decode cX11_fits 44 = .ok (.ireturn, 1) := by decide +kernel
theorem dX11_fits_45 : decode cX11_fits 45 = .ok (.iinc 2 2, 3) := by decide +kernel
theorem dX11_fits_48 : decode cX11_fits 48 = .ok (.goto (-46), 3) := by decide +kernel
theorem dX11_fits_51 : decode cX11_fits 51 = .ok (.iconst 1, 1) := by decide +kernel
theorem dX11_fits_52 : decode cX11_fits 52 = .ok (.ireturn, 1) := by decide +kernel
set_option maxRecDepth 20000 in
theorem ggX11_countThoseThatMay_X11_made : GoodIn wsX11_countThoseThatMay wsX11_made := goodIn_r _ [5, 6, 7, 8, 9, 10, 11, 12, 13, 14, 15, 16, 17, 18, 19, 20, 21, 22, 23, 24, 25, 26, 27, 28, 29, 30, 31, 32, 33, 34, 35, 36, 37, 38, 39, 40, 41, 42, 43, 44, 45, 46, 47, 48, 49, 50, 51, 52, 53, 54, 55, 56, 57, 58, 59, 60, 61, 62, 63, 64, 124, 125, 126, 127, 128, 129, 130, 131] (by decide +kernel) (by decide +kernel)
set_option maxRecDepth 20000 in
theorem gX11_countThoseThatMay_X11_made : GoodIn wsX11_countThoseThatMay (va_wsS RX11 161 yX11_made wsX11_made) := goodIn_app (goodIn_of _ (by decide +kernel)) ggX11_countThoseThatMay_X11_made
set_option maxRecDepth 20000 in
theorem ggX11_countThoseThatMay_X0_moves : GoodIn wsX11_countThoseThatMay wsX0_moves := goodIn_r _ [68, 69, 4, 70] (by decide +kernel) (by decide +kernel)
set_option maxRecDepth 20000 in
theorem gX11_countThoseThatMay_X0_moves : GoodIn wsX11_countThoseThatMay (wsV RX11 297 RX0 yX0_moves wsX0_moves) := goodIn_app (goodIn_of _ (by decide +kernel)) ggX11_countThoseThatMay_X0_moves
set_option maxRecDepth 20000 in
theorem ggX11_countThoseThatMay_X1_moves : GoodIn wsX11_countThoseThatMay wsX1_moves := goodIn_r _ [76] (by decide +kernel) (by decide +kernel)
set_option maxRecDepth 20000 in
theorem gX11_countThoseThatMay_X1_moves_u297X1 : GoodIn wsX11_countThoseThatMay (va_wsO RX11 297 RX1 "AboveIsShut$Drawer" ⟨"AboveIsShut$Drawer", "moves", "(II)Z"⟩ yX1_moves wsX1_moves) := goodIn_app (goodIn_of _ (by decide +kernel)) ggX11_countThoseThatMay_X1_moves
set_option maxRecDepth 20000 in
theorem ggX11_countThoseThatMay_X2_moves : GoodIn wsX11_countThoseThatMay wsX2_moves := goodIn_r _ [79, 69, 4, 70, 80, 72, 81, 66, 29, 68] (by decide +kernel) (by decide +kernel)
set_option maxRecDepth 20000 in
theorem gX11_countThoseThatMay_X2_moves_u297X2 : GoodIn wsX11_countThoseThatMay (va_wsO RX11 297 RX2 "AboveIsShut$Drawer" ⟨"AboveIsShut$Drawer", "moves", "(II)Z"⟩ yX2_moves wsX2_moves) := goodIn_app (goodIn_of _ (by decide +kernel)) ggX11_countThoseThatMay_X2_moves
set_option maxRecDepth 20000 in
theorem ggX11_countThoseThatMay_X3_moves : GoodIn wsX11_countThoseThatMay wsX3_moves := goodIn_r _ [84, 85, 86, 87, 88, 89, 90, 14, 91, 69, 4, 70, 92, 93, 94, 95, 96, 97, 98, 131, 124, 130, 128, 129, 127, 125, 126] (by decide +kernel) (by decide +kernel)
set_option maxRecDepth 20000 in
theorem gX11_countThoseThatMay_X3_moves_u297X3 : GoodIn wsX11_countThoseThatMay (va_wsO RX11 297 RX3 "AboveIsShut$Drawer" ⟨"AboveIsShut$Drawer", "moves", "(II)Z"⟩ yX3_moves wsX3_moves) := goodIn_app (goodIn_of _ (by decide +kernel)) ggX11_countThoseThatMay_X3_moves
set_option maxRecDepth 20000 in
theorem ggX11_countThoseThatMay_X4_moves : GoodIn wsX11_countThoseThatMay wsX4_moves := goodIn_r _ [101, 102, 103, 104, 93, 94, 95, 96, 97, 98, 131, 124, 130, 128, 129, 127, 125, 126] (by decide +kernel) (by decide +kernel)
set_option maxRecDepth 20000 in
theorem gX11_countThoseThatMay_X4_moves_u297X4 : GoodIn wsX11_countThoseThatMay (va_wsO RX11 297 RX4 "AboveIsShut$Drawer" ⟨"AboveIsShut$Drawer", "moves", "(II)Z"⟩ yX4_moves wsX4_moves) := goodIn_app (goodIn_of _ (by decide +kernel)) ggX11_countThoseThatMay_X4_moves
set_option maxRecDepth 20000 in
theorem ggX11_countThoseThatMay_X5_moves : GoodIn wsX11_countThoseThatMay wsX5_moves := goodIn_r _ [107, 108, 109, 110, 72, 111, 66, 29, 68, 69, 4, 70, 131, 124, 130, 128, 129, 127, 125, 126] (by decide +kernel) (by decide +kernel)
set_option maxRecDepth 20000 in
theorem gX11_countThoseThatMay_X5_moves_u297X5 : GoodIn wsX11_countThoseThatMay (va_wsO RX11 297 RX5 "AboveIsShut$Drawer" ⟨"AboveIsShut$Drawer", "moves", "(II)Z"⟩ yX5_moves wsX5_moves) := goodIn_app (goodIn_of _ (by decide +kernel)) ggX11_countThoseThatMay_X5_moves
set_option maxRecDepth 20000 in
theorem ggX11_countThoseThatMay_X7_moves : GoodIn wsX11_countThoseThatMay wsX7_moves := goodIn_r _ [114] (by decide +kernel) (by decide +kernel)
set_option maxRecDepth 20000 in
theorem gX11_countThoseThatMay_X7_moves_u297X7 : GoodIn wsX11_countThoseThatMay (va_wsO RX11 297 RX7 "AboveIsShut$Drawer" ⟨"AboveIsShut$Drawer", "moves", "(II)Z"⟩ yX7_moves wsX7_moves) := goodIn_app (goodIn_of _ (by decide +kernel)) ggX11_countThoseThatMay_X7_moves
set_option maxRecDepth 20000 in
theorem ggX11_countThoseThatMay_X8_moves : GoodIn wsX11_countThoseThatMay wsX8_moves := goodIn_r _ [91, 69, 4, 70] (by decide +kernel) (by decide +kernel)
set_option maxRecDepth 20000 in
theorem gX11_countThoseThatMay_X8_moves_u297X8 : GoodIn wsX11_countThoseThatMay (va_wsO RX11 297 RX8 "AboveIsShut$Drawer" ⟨"AboveIsShut$Drawer", "moves", "(II)Z"⟩ yX8_moves wsX8_moves) := goodIn_app (goodIn_of _ (by decide +kernel)) ggX11_countThoseThatMay_X8_moves
theorem dX11_countThoseThatMay_0 : decode cX11_countThoseThatMay 0 = .ok (.iconst 0, 1) := by decide +kernel
theorem dX11_countThoseThatMay_1 : decode cX11_countThoseThatMay 1 = .ok (.istore 4, 2) := by decide +kernel
theorem dX11_countThoseThatMay_3 : decode cX11_countThoseThatMay 3 = .ok (.iload 4, 2) := by decide +kernel
theorem dX11_countThoseThatMay_5 : decode cX11_countThoseThatMay 5 = .ok (.bipush 64, 2) := by decide +kernel
theorem dX11_countThoseThatMay_7 : decode cX11_countThoseThatMay 7 = .ok (.if_icmp .ge 17, 3) := by decide +kernel
theorem dX11_countThoseThatMay_10 : decode cX11_countThoseThatMay 10 = .ok (.aload_n 0, 1) := by decide +kernel
theorem dX11_countThoseThatMay_11 : decode cX11_countThoseThatMay 11 = .ok (.getfield 41, 3) := by decide +kernel
theorem dX11_countThoseThatMay_14 : decode cX11_countThoseThatMay 14 = .ok (.iload 4, 2) := by decide +kernel
theorem dX11_countThoseThatMay_16 : decode cX11_countThoseThatMay 16 = .ok (.iconst 0, 1) := by decide +kernel
theorem dX11_countThoseThatMay_17 : decode cX11_countThoseThatMay 17 = .ok (.iastore, 1) := by decide +kernel
theorem dX11_countThoseThatMay_18 : decode cX11_countThoseThatMay 18 = .ok (.iinc 4 1, 3) := by decide +kernel
theorem dX11_countThoseThatMay_21 : decode cX11_countThoseThatMay 21 = .ok (.goto (-18), 3) := by decide +kernel
theorem dX11_countThoseThatMay_24 : decode cX11_countThoseThatMay 24 = .ok (.iconst 0, 1) := by decide +kernel
theorem dX11_countThoseThatMay_25 : decode cX11_countThoseThatMay 25 = .ok (.istore 4, 2) := by decide +kernel
theorem dX11_countThoseThatMay_27 : decode cX11_countThoseThatMay 27 = .ok (.iload 4, 2) := by decide +kernel
theorem dX11_countThoseThatMay_29 : decode cX11_countThoseThatMay 29 = .ok (.bipush 8, 2) := by decide +kernel
theorem dX11_countThoseThatMay_31 : decode cX11_countThoseThatMay 31 = .ok (.if_icmp .ge 69, 3) := by decide +kernel
theorem dX11_countThoseThatMay_34 : decode cX11_countThoseThatMay 34 = .ok (.iload_n 3, 1) := by decide +kernel
theorem dX11_countThoseThatMay_35 : decode cX11_countThoseThatMay 35 = .ok (.iload 4, 2) := by decide +kernel
theorem dX11_countThoseThatMay_37 : decode cX11_countThoseThatMay 37 = .ok (.ishr, 1) := by decide +kernel
theorem dX11_countThoseThatMay_38 : decode cX11_countThoseThatMay 38 = .ok (.iconst 1, 1) := by decide +kernel
theorem dX11_countThoseThatMay_39 : decode cX11_countThoseThatMay 39 = .ok (.iand, 1) := by decide +kernel
theorem dX11_countThoseThatMay_40 : decode cX11_countThoseThatMay 40 = .ok (.iconst 1, 1) := by decide +kernel
theorem dX11_countThoseThatMay_41 : decode cX11_countThoseThatMay 41 = .ok (.if_icmp .ne 53, 3) := by decide +kernel
theorem dX11_countThoseThatMay_44 : decode cX11_countThoseThatMay 44 = .ok (.iload 4, 2) := by decide +kernel
theorem dX11_countThoseThatMay_46 : decode cX11_countThoseThatMay 46 = .ok (.iload_n 2, 1) := by decide +kernel
theorem dX11_countThoseThatMay_47 : decode cX11_countThoseThatMay 47 = .ok (.invokestatic 161, 3) := by decide +kernel
theorem dX11_countThoseThatMay_50 : decode cX11_countThoseThatMay 50 = .ok (.astore 5, 2) := by decide +kernel
theorem dX11_countThoseThatMay_52 : decode cX11_countThoseThatMay 52 = .ok (.iconst 0, 1) := by decide +kernel
theorem dX11_countThoseThatMay_53 : decode cX11_countThoseThatMay 53 = .ok (.istore 6, 2) := by decide +kernel
theorem dX11_countThoseThatMay_55 : decode cX11_countThoseThatMay 55 = .ok (.iload 6, 2) := by decide +kernel
theorem dX11_countThoseThatMay_57 : decode cX11_countThoseThatMay 57 = .ok (.bipush 64, 2) := by decide +kernel
theorem dX11_countThoseThatMay_59 : decode cX11_countThoseThatMay 59 = .ok (.if_icmp .ge 35, 3) := by decide +kernel
theorem dX11_countThoseThatMay_62 : decode cX11_countThoseThatMay 62 = .ok (.aload_n 0, 1) := by decide +kernel
theorem dX11_countThoseThatMay_63 : decode cX11_countThoseThatMay 63 = .ok (.getfield 41, 3) := by decide +kernel
theorem dX11_countThoseThatMay_66 : decode cX11_countThoseThatMay 66 = .ok (.iload 6, 2) := by decide +kernel
theorem dX11_countThoseThatMay_68 : decode cX11_countThoseThatMay 68 = .ok (.dup2, 1) := by decide +kernel
theorem dX11_countThoseThatMay_69 : decode cX11_countThoseThatMay 69 = .ok (.iaload, 1) := by decide +kernel
theorem dX11_countThoseThatMay_70 : decode cX11_countThoseThatMay 70 = .ok (.aload 5, 2) := by decide +kernel
theorem dX11_countThoseThatMay_72 : decode cX11_countThoseThatMay 72 = .ok (.iload_n 1, 1) := by decide +kernel
theorem dX11_countThoseThatMay_73 : decode cX11_countThoseThatMay 73 = .ok (.iload 6, 2) := by decide +kernel
theorem dX11_countThoseThatMay_75 : decode cX11_countThoseThatMay 75 = .ok (.invokevirtual 297, 3) := by decide +kernel
theorem dX11_countThoseThatMay_78 : decode cX11_countThoseThatMay 78 = .ok (.ifCond .eq 7, 3) := by decide +kernel
theorem dX11_countThoseThatMay_81 : decode cX11_countThoseThatMay 81 = .ok (.iconst 1, 1) := by decide +kernel
theorem dX11_countThoseThatMay_82 : decode cX11_countThoseThatMay 82 = .ok (.goto 4, 3) := by decide +kernel
theorem dX11_countThoseThatMay_85 : decode cX11_countThoseThatMay 85 = .ok (.iconst 0, 1) := by decide +kernel
theorem dX11_countThoseThatMay_86 : decode cX11_countThoseThatMay 86 = .ok (.iadd, 1) := by decide +kernel
theorem dX11_countThoseThatMay_87 : decode cX11_countThoseThatMay 87 = .ok (.iastore, 1) := by decide +kernel
theorem dX11_countThoseThatMay_88 : decode cX11_countThoseThatMay 88 = .ok (.iinc 6 1, 3) := by decide +kernel
theorem dX11_countThoseThatMay_91 : decode cX11_countThoseThatMay 91 = .ok (.goto (-36), 3) := by decide +kernel
theorem dX11_countThoseThatMay_94 : decode cX11_countThoseThatMay 94 = .ok (.iinc 4 1, 3) := by decide +kernel
theorem dX11_countThoseThatMay_97 : decode cX11_countThoseThatMay 97 = .ok (.goto (-70), 3) := by decide +kernel
theorem dX11_countThoseThatMay_100 : decode cX11_countThoseThatMay 100 = .ok (.return_, 1) := by decide +kernel
set_option maxRecDepth 20000 in
theorem ggX11_wonBefore_X9_allBits : GoodIn wsX11_wonBefore wsX9_allBits := goodIn_r _ [7, 8, 96, 97, 98] (by decide +kernel) (by decide +kernel)
set_option maxRecDepth 20000 in
theorem gX11_wonBefore_X9_allBits : GoodIn wsX11_wonBefore (wsV RX11 145 RX9 yX9_allBits wsX9_allBits) := goodIn_app (goodIn_of _ (by decide +kernel)) ggX11_wonBefore_X9_allBits
set_option maxRecDepth 20000 in
theorem ggX11_wonBefore_X11_isAmong : GoodIn wsX11_wonBefore wsX11_isAmong := goodIn_r _ [12] (by decide +kernel) (by decide +kernel)
set_option maxRecDepth 20000 in
theorem gX11_wonBefore_X11_isAmong : GoodIn wsX11_wonBefore (va_wsS RX11 202 yX11_isAmong wsX11_isAmong) := goodIn_app (goodIn_of _ (by decide +kernel)) ggX11_wonBefore_X11_isAmong
set_option maxRecDepth 20000 in
theorem ggX11_wonBefore_X9_may : GoodIn wsX11_wonBefore wsX9_may := goodIn_r _ [16, 17, 18, 19, 6, 20, 21, 22, 23, 24, 25, 8, 26, 27, 28, 29, 30, 31, 11, 32, 33, 34, 35, 36, 37, 38, 39, 40, 41, 42, 43, 44, 45, 46, 47, 48, 49, 50, 51, 52, 53, 54, 55, 56, 57, 58, 59, 60, 61, 62, 63, 64, 65, 66, 67, 68, 69, 70, 71, 72, 73, 74, 75, 76, 77, 78, 79, 80, 81, 82, 83, 84, 96, 97, 98, 99, 100, 101, 102, 103, 104, 105, 106] (by decide +kernel) (by decide +kernel)
set_option maxRecDepth 20000 in
theorem gX11_wonBefore_X9_may : GoodIn wsX11_wonBefore (wsV RX11 98 RX9 yX9_may wsX9_may) := goodIn_app (goodIn_of _ (by decide +kernel)) ggX11_wonBefore_X9_may
set_option maxRecDepth 20000 in
theorem ggX11_wonBefore_X11_turned : GoodIn wsX11_wonBefore wsX11_turned := goodIn_r _ [87] (by decide +kernel) (by decide +kernel)
set_option maxRecDepth 20000 in
theorem gX11_wonBefore_X11_turned : GoodIn wsX11_wonBefore (va_wsS RX11 129 yX11_turned wsX11_turned) := goodIn_app (goodIn_of _ (by decide +kernel)) ggX11_wonBefore_X11_turned
theorem dX11_wonBefore_0 : decode cX11_wonBefore 0 = .ok (.lconst 0, 1) := by decide +kernel
theorem dX11_wonBefore_1 : decode cX11_wonBefore 1 = .ok (.lstore 4, 2) := by decide +kernel
theorem dX11_wonBefore_3 : decode cX11_wonBefore 3 = .ok (.iconst 0, 1) := by decide +kernel
theorem dX11_wonBefore_4 : decode cX11_wonBefore 4 = .ok (.istore 6, 2) := by decide +kernel
theorem dX11_wonBefore_6 : decode cX11_wonBefore 6 = .ok (.iload 6, 2) := by decide +kernel
theorem dX11_wonBefore_8 : decode cX11_wonBefore 8 = .ok (.aload_n 0, 1) := by decide +kernel
theorem dX11_wonBefore_9 : decode cX11_wonBefore 9 = .ok (.getfield 10, 3) := by decide +kernel
theorem dX11_wonBefore_12 : decode cX11_wonBefore 12 = .ok (.invokevirtual 145, 3) := by decide +kernel
theorem dX11_wonBefore_15 : decode cX11_wonBefore 15 = .ok (.if_icmp .gt 118, 3) := by decide +kernel
theorem dX11_wonBefore_18 : decode cX11_wonBefore 18 = .ok (.lload_n 1, 1) := by decide +kernel
theorem dX11_wonBefore_19 : decode cX11_wonBefore 19 = .ok (.iload 6, 2) := by decide +kernel
theorem dX11_wonBefore_21 : decode cX11_wonBefore 21 = .ok (.invokestatic 202, 3) := by decide +kernel
theorem dX11_wonBefore_24 : decode cX11_wonBefore 24 = .ok (.istore 7, 2) := by decide +kernel
theorem dX11_wonBefore_26 : decode cX11_wonBefore 26 = .ok (.iconst 0, 1) := by decide +kernel
theorem dX11_wonBefore_27 : decode cX11_wonBefore 27 = .ok (.istore 8, 2) := by decide +kernel
theorem dX11_wonBefore_29 : decode cX11_wonBefore 29 = .ok (.iload 8, 2) := by decide +kernel
theorem dX11_wonBefore_31 : decode cX11_wonBefore 31 = .ok (.aload_n 0, 1) := by decide +kernel
theorem dX11_wonBefore_32 : decode cX11_wonBefore 32 = .ok (.getfield 10, 3) := by decide +kernel
theorem dX11_wonBefore_35 : decode cX11_wonBefore 35 = .ok (.getfield 104, 3) := by decide +kernel
theorem dX11_wonBefore_38 : decode cX11_wonBefore 38 = .ok (.if_icmp .ge 75, 3) := by decide +kernel
theorem dX11_wonBefore_41 : decode cX11_wonBefore 41 = .ok (.aload_n 0, 1) := by decide +kernel
theorem dX11_wonBefore_42 : decode cX11_wonBefore 42 = .ok (.getfield 10, 3) := by decide +kernel
theorem dX11_wonBefore_45 : decode cX11_wonBefore 45 = .ok (.iload 8, 2) := by decide +kernel
theorem dX11_wonBefore_47 : decode cX11_wonBefore 47 = .ok (.iload 6, 2) := by decide +kernel
theorem dX11_wonBefore_49 : decode cX11_wonBefore 49 = .ok (.invokevirtual 98, 3) := by decide +kernel
theorem dX11_wonBefore_52 : decode cX11_wonBefore 52 = .ok (.ifCond .eq 55, 3) := by decide +kernel
theorem dX11_wonBefore_55 : decode cX11_wonBefore 55 = .ok (.lload_n 1, 1) := by decide +kernel
theorem dX11_wonBefore_56 : decode cX11_wonBefore 56 = .ok (.iload 6, 2) := by decide +kernel
theorem dX11_wonBefore_58 : decode cX11_wonBefore 58 = .ok (.iload 8, 2) := by decide +kernel
theorem dX11_wonBefore_60 : decode cX11_wonBefore 60 = .ok (.invokestatic 129, 3) := by decide +kernel
theorem dX11_wonBefore_63 : decode cX11_wonBefore 63 = .ok (.invokestatic 202, 3) := by decide +kernel
theorem dX11_wonBefore_66 : decode cX11_wonBefore 66 = .ok (.istore 9, 2) := by decide +kernel
theorem dX11_wonBefore_68 : decode cX11_wonBefore 68 = .ok (.iload_n 3, 1) := by decide +kernel
theorem dX11_wonBefore_69 : decode cX11_wonBefore 69 = .ok (.ifCond .eq 21, 3) := by decide +kernel
theorem dX11_wonBefore_72 : decode cX11_wonBefore 72 = .ok (.iload 7, 2) := by decide +kernel
theorem dX11_wonBefore_74 : decode cX11_wonBefore 74 = .ok (.ifCond .ne 8, 3) := by decide +kernel
theorem dX11_wonBefore_77 : decode cX11_wonBefore 77 = .ok (.iload 9, 2) := by decide +kernel
theorem dX11_wonBefore_79 : decode cX11_wonBefore 79 = .ok (.ifCond .eq 7, 3) := by decide +kernel
theorem dX11_wonBefore_82 : decode cX11_wonBefore 82 = .ok (.iconst 1, 1) := by decide +kernel
theorem dX11_wonBefore_83 : decode cX11_wonBefore 83 = .ok (.goto 22, 3) := by decide +kernel
theorem dX11_wonBefore_86 : decode cX11_wonBefore 86 = .ok (.iconst 0, 1) := by decide +kernel
theorem dX11_wonBefore_87 : decode cX11_wonBefore 87 = .ok (.goto 18, 3) := by decide +kernel
theorem dX11_wonBefore_90 : decode cX11_wonBefore 90 = .ok (.iload 7, 2) := by decide +kernel
theorem dX11_wonBefore_92 : decode cX11_wonBefore 92 = .ok (.ifCond .eq 12, 3) := by decide +kernel
theorem dX11_wonBefore_95 : decode cX11_wonBefore 95 = .ok (.iload 9, 2) := by decide +kernel
theorem dX11_wonBefore_97 : decode cX11_wonBefore 97 = .ok (.ifCond .eq 7, 3) := by decide +kernel
theorem dX11_wonBefore_100 : decode cX11_wonBefore 100 = .ok (.iconst 1, 1) := by decide +kernel
theorem dX11_wonBefore_101 : decode cX11_wonBefore 101 = .ok (.goto 4, 3) := by decide +kernel
theorem dX11_wonBefore_104 : decode cX11_wonBefore 104 = .ok (.iconst 0, 1) := by decide +kernel
theorem dX11_wonBefore_105 : decode cX11_wonBefore 105 = .ok (.istore 7, 2) := by decide +kernel
theorem dX11_wonBefore_107 : decode cX11_wonBefore 107 = .ok (.iinc 8 1, 3) := by decide +kernel
theorem dX11_wonBefore_110 : decode cX11_wonBefore 110 = .ok (.goto (-81), 3) := by decide +kernel
theorem dX11_wonBefore_113 : decode cX11_wonBefore 113 = .ok (.iload 7, 2) := by decide +kernel
theorem dX11_wonBefore_115 : decode cX11_wonBefore 115 = .ok (.ifCond .eq 12, 3) := by decide +kernel
theorem dX11_wonBefore_118 : decode cX11_wonBefore 118 = .ok (.lload 4, 2) := by decide +kernel
theorem dX11_wonBefore_120 : decode cX11_wonBefore 120 = .ok (.lconst 1, 1) := by decide +kernel
theorem dX11_wonBefore_121 : decode cX11_wonBefore 121 = .ok (.iload 6, 2) := by decide +kernel
theorem dX11_wonBefore_123 : decode cX11_wonBefore 123 = .ok (.lshl, 1) := by decide +kernel
theorem dX11_wonBefore_124 : decode cX11_wonBefore 124 = .ok (.lor, 1) := by decide +kernel
theorem dX11_wonBefore_125 : decode cX11_wonBefore 125 = .ok (.lstore 4, 2) := by decide +kernel
theorem dX11_wonBefore_127 : decode cX11_wonBefore 127 = .ok (.iinc 6 1, 3) := by decide +kernel
theorem dX11_wonBefore_130 : decode cX11_wonBefore 130 = .ok (.goto (-124), 3) := by decide +kernel
theorem dX11_wonBefore_133 : decode cX11_wonBefore 133 = .ok (.lload 4, 2) := by decide +kernel
theorem dX11_wonBefore_135 : decode cX11_wonBefore 135 = .ok (.lreturn, 1) := by decide +kernel
