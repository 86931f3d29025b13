theorem dX12_hadOf_49 : decode cX12_hadOf 49 = .ok (.iload_n 2, 1) := by decide +kernel
theorem dX12_hadOf_50 : decode cX12_hadOf 50 = .ok (.ifCond .eq 145, 3) := by decide +kernel
theorem dX12_hadOf_53 : decode cX12_hadOf 53 = .ok (.iconst 0, 1) := by decide +kernel
theorem dX12_hadOf_54 : decode cX12_hadOf 54 = .ok (.istore_n 2, 1) := by decide +kernel
theorem dX12_hadOf_55 : decode cX12_hadOf 55 = .ok (.iconst 0, 1) := by decide +kernel
theorem dX12_hadOf_56 : decode cX12_hadOf 56 = .ok (.istore 4, 2) := by decide +kernel
theorem dX12_hadOf_58 : decode cX12_hadOf 58 = .ok (.iload 4, 2) := by decide +kernel
theorem dX12_hadOf_60 : decode cX12_hadOf 60 = .ok (.sipush 4096, 3) := by decide +kernel
theorem dX12_hadOf_63 : decode cX12_hadOf 63 = .ok (.if_icmp .ge 126, 3) := by decide +kernel
theorem dX12_hadOf_66 : decode cX12_hadOf 66 = .ok (.aload_n 0, 1) := by decide +kernel
theorem dX12_hadOf_67 : decode cX12_hadOf 67 = .ok (.getfield 46, 3) := by decide +kernel
theorem dX12_hadOf_70 : decode cX12_hadOf 70 = .ok (.iload 4, 2) := by decide +kernel
theorem dX12_hadOf_72 : decode cX12_hadOf 72 = .ok (.iaload, 1) := by decide +kernel
theorem dX12_hadOf_73 : decode cX12_hadOf 73 = .ok (.iload_n 3, 1) := by decide +kernel
theorem dX12_hadOf_74 : decode cX12_hadOf 74 = .ok (.if_icmp .eq 6, 3) := by decide +kernel
theorem dX12_hadOf_77 : decode cX12_hadOf 77 = .ok (.goto 106, 3) := by decide +kernel
theorem dX12_hadOf_80 : decode cX12_hadOf 80 = .ok (.iload 4, 2) := by decide +kernel
theorem dX12_hadOf_82 : decode cX12_hadOf 82 = .ok (.bipush 64, 2) := by decide +kernel
theorem dX12_hadOf_84 : decode cX12_hadOf 84 = .ok (.irem, 1) := by decide +kernel
theorem dX12_hadOf_85 : decode cX12_hadOf 85 = .ok (.iload_n 1, 1) := by decide +kernel
theorem dX12_hadOf_86 : decode cX12_hadOf 86 = .ok (.iand, 1) := by decide +kernel
theorem dX12_hadOf_87 : decode cX12_hadOf 87 = .ok (.iload_n 1, 1) := by decide +kernel
theorem dX12_hadOf_88 : decode cX12_hadOf 88 = .ok (.if_icmp .ne 5, 3) := by decide +kernel
theorem dX12_hadOf_91 : decode cX12_hadOf 91 = .ok (.iload_n 3, 1) := by decide +kernel
theorem dX12_hadOf_92 : decode cX12_hadOf 92 = .ok (.ireturn, 1) := by decide +kernel
theorem dX12_hadOf_93 : decode cX12_hadOf 93 = .ok (.iconst 0, 1) := by decide +kernel
theorem dX12_hadOf_94 : decode cX12_hadOf 94 = .ok (.istore 5, 2) := by decide +kernel
theorem dX12_hadOf_96 : decode cX12_hadOf 96 = .ok (.iload 5, 2) := by decide +kernel
theorem dX12_hadOf_98 : decode cX12_hadOf 98 = .ok (.aload_n 0, 1) := by decide +kernel
theorem dX12_hadOf_99 : decode cX12_hadOf 99 = .ok (.getfield 9, 3) := by decide +kernel
theorem dX12_hadOf_102 : decode cX12_hadOf 102 = .ok (.iconst 0, 1) := by decide +kernel
theorem dX12_hadOf_103 : decode cX12_hadOf 103 = .ok (.iaload, 1) := by decide +kernel
theorem dX12_hadOf_104 : decode cX12_hadOf 104 = .ok (.if_icmp .ge 79, 3) := by decide +kernel
theorem dX12_hadOf_107 : decode cX12_hadOf 107 = .ok (.aload_n 0, 1) := by decide +kernel
theorem dX12_hadOf_108 : decode cX12_hadOf 108 = .ok (.iload 5, 2) := by decide +kernel
theorem dX12_hadOf_110 : decode cX12_hadOf 110 = .ok (.iload 4, 2) := by decide +kernel
theorem dX12_hadOf_112 : decode cX12_hadOf 112 = .ok (.bipush 64, 2) := by decide +kernel
theorem dX12_hadOf_114 : decode cX12_hadOf 114 = .ok (.idiv, 1) := by decide +kernel
theorem dX12_hadOf_115 : decode cX12_hadOf 115 = .ok (.invokevirtual 84, 3) := by decide +kernel
theorem dX12_hadOf_118 : decode cX12_hadOf 118 = .ok (.ifCond .ne 6, 3) := by decide +kernel
theorem dX12_hadOf_121 : decode cX12_hadOf 121 = .ok (.goto 56, 3) := by decide +kernel
theorem dX12_hadOf_124 : decode cX12_hadOf 124 = .ok (.iload 4, 2) := by decide +kernel
theorem dX12_hadOf_126 : decode cX12_hadOf 126 = .ok (.bipush 64, 2) := by decide +kernel
theorem dX12_hadOf_128 : decode cX12_hadOf 128 = .ok (.idiv, 1) := by decide +kernel
theorem dX12_hadOf_129 : decode cX12_hadOf 129 = .ok (.iconst 1, 1) := by decide +kernel
theorem dX12_hadOf_130 : decode cX12_hadOf 130 = .ok (.iload 5, 2) := by decide +kernel
theorem dX12_hadOf_132 : decode cX12_hadOf 132 = .ok (.ishl, 1) := by decide +kernel
theorem dX12_hadOf_133 : decode cX12_hadOf 133 = .ok (.ixor, 1) := by decide +kernel
theorem dX12_hadOf_134 : decode cX12_hadOf 134 = .ok (.istore 6, 2) := by decide +kernel
theorem dX12_hadOf_136 : decode cX12_hadOf 136 = .ok (.bipush 64, 2) := by decide +kernel
theorem dX12_hadOf_138 : decode cX12_hadOf 138 = .ok (.iload 6, 2) := by decide +kernel
theorem dX12_hadOf_140 : decode cX12_hadOf 140 = .ok (.imul, 1) := by decide +kernel
theorem dX12_hadOf_141 : decode cX12_hadOf 141 = .ok (.iload 4, 2) := by decide +kernel
theorem dX12_hadOf_143 : decode cX12_hadOf 143 = .ok (.bipush 64, 2) := by decide +kernel
theorem dX12_hadOf_145 : decode cX12_hadOf 145 = .ok (.irem, 1) := by decide +kernel
theorem dX12_hadOf_146 : decode cX12_hadOf 146 = .ok (.iload 6, 2) := by decide +kernel
theorem dX12_hadOf_148 : decode cX12_hadOf 148 = .ok (.ior, 1) := by decide +kernel
theorem dX12_hadOf_149 : decode cX12_hadOf 149 = .ok (.iadd, 1) := by decide +kernel
theorem dX12_hadOf_150 : decode cX12_hadOf 150 = .ok (.istore 7, 2) := by decide +kernel
theorem dX12_hadOf_152 : decode cX12_hadOf 152 = .ok (.aload_n 0, 1) := by decide +kernel
theorem dX12_hadOf_153 : decode cX12_hadOf 153 = .ok (.getfield 46, 3) := by decide +kernel
theorem dX12_hadOf_156 : decode cX12_hadOf 156 = .ok (.iload 7, 2) := by decide +kernel
theorem dX12_hadOf_158 : decode cX12_hadOf 158 = .ok (.iaload, 1) := by decide +kernel
theorem dX12_hadOf_159 : decode cX12_hadOf 159 = .ok (.ifCond .lt 6, 3) := by decide +kernel
theorem dX12_hadOf_162 : decode cX12_hadOf 162 = .ok (.goto 15, 3) := by decide +kernel
theorem dX12_hadOf_165 : decode cX12_hadOf 165 = .ok (.aload_n 0, 1) := by decide +kernel
theorem dX12_hadOf_166 : decode cX12_hadOf 166 = .ok (.getfield 46, 3) := by decide +kernel
theorem dX12_hadOf_169 : decode cX12_hadOf 169 = .ok (.iload 7, 2) := by decide +kernel
theorem dX12_hadOf_171 : decode cX12_hadOf 171 = .ok (.iload_n 3, 1) := by decide +kernel
theorem dX12_hadOf_172 : decode cX12_hadOf 172 = .ok (.iconst 1, 1) := by decide +kernel
theorem dX12_hadOf_173 : decode cX12_hadOf 173 = .ok (.iadd, 1) := by decide +kernel
theorem dX12_hadOf_174 : decode cX12_hadOf 174 = .ok (.iastore, 1) := by decide +kernel
theorem dX12_hadOf_175 : decode cX12_hadOf 175 = .ok (.iconst 1, 1) := by decide +kernel
theorem dX12_hadOf_176 : decode cX12_hadOf 176 = .ok (.istore_n 2, 1) := by decide +kernel
theorem dX12_hadOf_177 : decode cX12_hadOf 177 = .ok (.iinc 5 1, 3) := by decide +kernel
theorem dX12_hadOf_180 : decode cX12_hadOf 180 = .ok (.goto (-84), 3) := by decide +kernel
theorem dX12_hadOf_183 : decode cX12_hadOf 183 = .ok (.iinc 4 1, 3) := by decide +kernel
theorem dX12_hadOf_186 : decode cX12_hadOf 186 = .ok (.goto (-128), 3) := by decide +kernel
theorem dX12_hadOf_189 : decode cX12_hadOf 189 = .ok (.iinc 3 1, 3) := by decide +kernel
theorem dX12_hadOf_192 : decode cX12_hadOf 192 = .ok (.goto (-143), 3) := by decide +kernel
theorem dX12_hadOf_195 : decode cX12_hadOf 195 = .ok (.bipush (-4), 2) := by decide +kernel
theorem dX12_hadOf_197 : decode cX12_hadOf 197 = .ok (.ireturn, 1) := by decide +kernel
set_option maxRecDepth 20000 in
theorem ggX12_had_X12_areDrawers : GoodIn wsX12_had wsX12_areDrawers := goodIn_r _ [5, 6, 7, 8, 4, 9, 10, 11, 12, 13, 40, 41, 42, 43, 44, 45, 46, 47, 48, 49, 50, 51, 52, 53, 54, 55, 56, 57, 58] (by decide +kernel) (by decide +kernel)
set_option maxRecDepth 20000 in
theorem gX12_had_X12_areDrawers : GoodIn wsX12_had (wsV RX12 139 RX12 yX12_areDrawers wsX12_areDrawers) := goodIn_app (goodIn_of _ (by decide +kernel)) ggX12_had_X12_areDrawers
set_option maxRecDepth 20000 in
theorem ggX12_had_X12_hadOf : GoodIn wsX12_had wsX12_hadOf := goodIn_r _ [17, 18, 10, 19, 20, 21, 4, 22, 23, 24, 25, 26, 27, 28, 29, 30, 31, 32, 33, 34, 35, 36, 37, 38, 39, 40, 41, 42, 43, 44, 45, 46, 47, 48, 49, 50, 51, 52, 53, 54, 55, 56, 57, 58] (by decide +kernel) (by decide +kernel)
set_option maxRecDepth 20000 in
theorem gX12_had_X12_hadOf : GoodIn wsX12_had (wsV RX12 151 RX12 yX12_hadOf wsX12_hadOf) := goodIn_app (goodIn_of _ (by decide +kernel)) ggX12_had_X12_hadOf
theorem dX12_had_0 : decode cX12_had 0 = .ok (.aload_n 0, 1) := by decide +kernel
theorem dX12_had_1 : decode cX12_had 1 = .ok (.iload_n 1, 1) := by decide +kernel
theorem dX12_had_2 : decode cX12_had 2 = .ok (.invokevirtual 139, 3) := by decide +kernel
theorem dX12_had_5 : decode cX12_had 5 = .ok (.ifCond .eq 11, 3) := by decide +kernel
theorem dX12_had_8 : decode cX12_had 8 = .ok (.aload_n 0, 1) := by decide +kernel
theorem dX12_had_9 : decode cX12_had 9 = .ok (.iload_n 1, 1) := by decide +kernel
theorem dX12_had_10 : decode cX12_had 10 = .ok (.invokevirtual 151, 3) := by decide +kernel
theorem dX12_had_13 : decode cX12_had 13 = .ok (.goto 4, 3) := by decide +kernel
theorem dX12_had_16 : decode cX12_had 16 = .ok (.iconst (-1), 1) := by decide +kernel
theorem dX12_had_17 : decode cX12_had 17 = .ok (.ireturn, 1) := by decide +kernel
set_option maxRecDepth 20000 in
theorem ggX12_freed_X12_areDrawers : GoodIn wsX12_freed wsX12_areDrawers := goodIn_r _ [6, 7, 8, 9, 5, 10, 1, 11, 12, 13, 56, 57, 58, 59, 60, 61, 62, 63, 64, 65, 66, 67, 68, 69, 70, 71, 72, 73, 74] (by decide +kernel) (by decide +kernel)
set_option maxRecDepth 20000 in
theorem gX12_freed_X12_areDrawers : GoodIn wsX12_freed (wsV RX12 139 RX12 yX12_areDrawers wsX12_areDrawers) := goodIn_app (goodIn_of _ (by decide +kernel)) ggX12_freed_X12_areDrawers
set_option maxRecDepth 20000 in
theorem ggX12_freed_X12_everything : GoodIn wsX12_freed wsX12_everything := goodIn_r _ [10, 1, 56, 57, 58, 59, 60, 61, 62, 63, 64, 65, 66, 67, 68, 69, 70, 71, 72, 73, 74] (by decide +kernel) (by decide +kernel)
set_option maxRecDepth 20000 in
theorem gX12_freed_X12_everything : GoodIn wsX12_freed (wsV RX12 59 RX12 yX12_everything wsX12_everything) := goodIn_app (goodIn_of _ (by decide +kernel)) ggX12_freed_X12_everything
set_option maxRecDepth 20000 in
theorem ggX12_freed_X12_begins : GoodIn wsX12_freed wsX12_begins := goodIn_r _ [17, 1, 18, 19, 20, 5, 21, 56, 57, 58, 59, 60, 61, 62, 63, 64, 65, 66, 67, 68, 69, 70, 71, 72, 73, 74] (by decide +kernel) (by decide +kernel)
set_option maxRecDepth 20000 in
theorem gX12_freed_X12_begins : GoodIn wsX12_freed (wsV RX12 154 RX12 yX12_begins wsX12_begins) := goodIn_app (goodIn_of _ (by decide +kernel)) ggX12_freed_X12_begins
set_option maxRecDepth 20000 in
theorem ggX12_freed_X12_bits : GoodIn wsX12_freed wsX12_bits := goodIn_r _ [24] (by decide +kernel) (by decide +kernel)
set_option maxRecDepth 20000 in
theorem gX12_freed_X12_bits : GoodIn wsX12_freed (va_wsS RX12 81 yX12_bits wsX12_bits) := goodIn_app (goodIn_of _ (by decide +kernel)) ggX12_freed_X12_bits
set_option maxRecDepth 20000 in
theorem ggX12_freed_X12_setDrawer : GoodIn wsX12_freed wsX12_setDrawer := goodIn_r _ [28, 1, 56, 57, 58, 59, 60, 61, 62, 63, 64, 65, 66, 67, 68, 69, 70, 71, 72, 73, 74] (by decide +kernel) (by decide +kernel)
set_option maxRecDepth 20000 in
theorem gX12_freed_X12_setDrawer : GoodIn wsX12_freed (wsV RX12 107 RX12 yX12_setDrawer wsX12_setDrawer) := goodIn_app (goodIn_of _ (by decide +kernel)) ggX12_freed_X12_setDrawer
set_option maxRecDepth 20000 in
theorem ggX12_freed_X12_hadOf : GoodIn wsX12_freed wsX12_hadOf := goodIn_r _ [32, 33, 1, 34, 35, 36, 5, 37, 38, 39, 40, 41, 42, 43, 44, 45, 46, 47, 48, 49, 50, 51, 22, 23, 24, 56, 57, 58, 59, 60, 61, 62, 63, 64, 65, 66, 67, 68, 69, 70, 71, 72, 73, 74] (by decide +kernel) (by decide +kernel)
set_option maxRecDepth 20000 in
theorem gX12_freed_X12_hadOf : GoodIn wsX12_freed (wsV RX12 151 RX12 yX12_hadOf wsX12_hadOf) := goodIn_app (goodIn_of _ (by decide +kernel)) ggX12_freed_X12_hadOf
set_option maxRecDepth 20000 in
theorem ggX12_freed_X12_ends : GoodIn wsX12_freed wsX12_ends := goodIn_r _ [55, 18, 1, 19, 20, 5, 21, 56, 57, 58, 59, 60, 61, 62, 63, 64, 65, 66, 67, 68, 69, 70, 71, 72, 73, 74] (by decide +kernel) (by decide +kernel)
set_option maxRecDepth 20000 in
theorem gX12_freed_X12_ends : GoodIn wsX12_freed (wsV RX12 157 RX12 yX12_ends wsX12_ends) := goodIn_app (goodIn_of _ (by decide +kernel)) ggX12_freed_X12_ends
theorem dX12_freed_0 : decode cX12_freed 0 = .ok (.aload_n 0, 1) := by decide +kernel
theorem dX12_freed_1 : decode cX12_freed 1 = .ok (.iload_n 1, 1) := by decide +kernel
theorem dX12_freed_2 : decode cX12_freed 2 = .ok (.invokevirtual 139, 3) := by decide +kernel
theorem dX12_freed_5 : decode cX12_freed 5 = .ok (.ifCond .ne 5, 3) := by decide +kernel
theorem dX12_freed_8 : decode cX12_freed 8 = .ok (.iconst (-1), 1) := by decide +kernel
theorem dX12_freed_9 : decode cX12_freed 9 = .ok (.ireturn, 1) := by decide +kernel
theorem dX12_freed_10 : decode cX12_freed 10 = .ok (.aload_n 0, 1) := by decide +kernel
theorem dX12_freed_11 : decode cX12_freed 11 = .ok (.invokevirtual 59, 3) := by decide +kernel
theorem dX12_freed_14 : decode cX12_freed 14 = .ok (.istore_n 2, 1) := by decide +kernel
theorem dX12_freed_15 : decode cX12_freed 15 = .ok (.aload_n 0, 1) := by decide +kernel
theorem dX12_freed_16 : decode cX12_freed 16 = .ok (.invokevirtual 154, 3) := by decide +kernel
theorem dX12_freed_19 : decode cX12_freed 19 = .ok (.iconst 0, 1) := by decide +kernel
theorem dX12_freed_20 : decode cX12_freed 20 = .ok (.istore_n 3, 1) := by decide +kernel
theorem dX12_freed_21 : decode cX12_freed 21 = .ok (.iload_n 3, 1) := by decide +kernel
theorem dX12_freed_22 : decode cX12_freed 22 = .ok (.aload_n 0, 1) := by decide +kernel
theorem dX12_freed_23 : decode cX12_freed 23 = .ok (.invokevirtual 59, 3) := by decide +kernel
theorem dX12_freed_26 : decode cX12_freed 26 = .ok (.if_icmp .gt 75, 3) := by decide +kernel
theorem dX12_freed_29 : decode cX12_freed 29 = .ok (.iload_n 3, 1) := by decide +kernel
theorem dX12_freed_30 : decode cX12_freed 30 = .ok (.invokestatic 81, 3) := by decide +kernel
theorem dX12_freed_33 : decode cX12_freed 33 = .ok (.iload_n 2, 1) := by decide +kernel
theorem dX12_freed_34 : decode cX12_freed 34 = .ok (.invokestatic 81, 3) := by decide +kernel
theorem dX12_freed_37 : decode cX12_freed 37 = .ok (.if_icmp .lt 6, 3) := by decide +kernel
theorem dX12_freed_40 : decode cX12_freed 40 = .ok (.goto 55, 3) := by decide +kernel
theorem dX12_freed_43 : decode cX12_freed 43 = .ok (.iconst 0, 1) := by decide +kernel
theorem dX12_freed_44 : decode cX12_freed 44 = .ok (.istore 4, 2) := by decide +kernel
theorem dX12_freed_46 : decode cX12_freed 46 = .ok (.iload 4, 2) := by decide +kernel
theorem dX12_freed_48 : decode cX12_freed 48 = .ok (.aload_n 0, 1) := by decide +kernel
theorem dX12_freed_49 : decode cX12_freed 49 = .ok (.getfield 9, 3) := by decide +kernel
theorem dX12_freed_52 : decode cX12_freed 52 = .ok (.iconst 0, 1) := by decide +kernel
theorem dX12_freed_53 : decode cX12_freed 53 = .ok (.iaload, 1) := by decide +kernel
theorem dX12_freed_54 : decode cX12_freed 54 = .ok (.if_icmp .ge 27, 3) := by decide +kernel
theorem dX12_freed_57 : decode cX12_freed 57 = .ok (.iload_n 3, 1) := by decide +kernel
theorem dX12_freed_58 : decode cX12_freed 58 = .ok (.iload 4, 2) := by decide +kernel
theorem dX12_freed_60 : decode cX12_freed 60 = .ok (.ishr, 1) := by decide +kernel
theorem dX12_freed_61 : decode cX12_freed 61 = .ok (.iconst 1, 1) := by decide +kernel
theorem dX12_freed_62 : decode cX12_freed 62 = .ok (.iand, 1) := by decide +kernel
theorem dX12_freed_63 : decode cX12_freed 63 = .ok (.iconst 1, 1) := by decide +kernel
theorem dX12_freed_64 : decode cX12_freed 64 = .ok (.if_icmp .ne 11, 3) := by decide +kernel
theorem dX12_freed_67 : decode cX12_freed 67 = .ok (.aload_n 0, 1) := by decide +kernel
theorem dX12_freed_68 : decode cX12_freed 68 = .ok (.iload 4, 2) := by decide +kernel
theorem dX12_freed_70 : decode cX12_freed 70 = .ok (.iconst 1, 1) := by decide +kernel
theorem dX12_freed_71 : decode cX12_freed 71 = .ok (.iconst 0, 1) := by decide +kernel
theorem dX12_freed_72 : decode cX12_freed 72 = .ok (.invokevirtual 107, 3) := by decide +kernel
theorem dX12_freed_75 : decode cX12_freed 75 = .ok (.iinc 4 1, 3) := by decide +kernel
theorem dX12_freed_78 : decode cX12_freed 78 = .ok (.goto (-32), 3) := by decide +kernel
theorem dX12_freed_81 : decode cX12_freed 81 = .ok (.aload_n 0, 1) := by decide +kernel
theorem dX12_freed_82 : decode cX12_freed 82 = .ok (.iload_n 1, 1) := by decide +kernel
theorem dX12_freed_83 : decode cX12_freed 83 = .ok (.invokevirtual 151, 3) := by decide +kernel
theorem dX12_freed_86 : decode cX12_freed 86 = .ok (.ifCond .lt 5, 3) := by decide +kernel
theorem dX12_freed_89 : decode cX12_freed 89 = .ok (.iload_n 3, 1) := by decide +kernel
theorem dX12_freed_90 : decode cX12_freed 90 = .ok (.istore_n 2, 1) := by decide +kernel
theorem dX12_freed_91 : decode cX12_freed 91 = .ok (.aload_n 0, 1) := by decide +kernel
theorem dX12_freed_92 : decode cX12_freed 92 = .ok (.invokevirtual 157, 3) := by decide +kernel
theorem dX12_freed_95 : decode cX12_freed 95 = .ok (.iinc 3 1, 3) := by decide +kernel
theorem dX12_freed_98 : decode cX12_freed 98 = .ok (.goto (-77), 3) := by decide +kernel
theorem dX12_freed_101 : decode cX12_freed 101 = .ok (.iload_n 2, 1) := by decide +kernel
theorem dX12_freed_102 : decode cX12_freed 102 = .ok (.ireturn, 1) := by decide +kernel
set_option maxRecDepth 20000 in
theorem ggX12_longest_X12_isDrawer : GoodIn wsX12_longest wsX12_isDrawer := goodIn_r _ [6, 7, 8, 9, 5, 10, 53, 54, 55, 56, 57, 58, 59, 60, 61, 62, 63, 64, 65, 66, 67, 68, 69, 70, 71] (by decide +kernel) (by decide +kernel)
set_option maxRecDepth 20000 in
theorem gX12_longest_X12_isDrawer : GoodIn wsX12_longest (wsV RX12 114 RX12 yX12_isDrawer wsX12_isDrawer) := goodIn_app (goodIn_of _ (by decide +kernel)) ggX12_longest_X12_isDrawer
set_option maxRecDepth 20000 in
theorem ggX12_longest_X12_isIn : GoodIn wsX12_longest wsX12_isIn := goodIn_r _ [10] (by decide +kernel) (by decide +kernel)
set_option maxRecDepth 20000 in
theorem gX12_longest_X12_isIn : GoodIn wsX12_longest (va_wsS RX12 55 yX12_isIn wsX12_isIn) := goodIn_app (goodIn_of _ (by decide +kernel)) ggX12_longest_X12_isIn
set_option maxRecDepth 20000 in
theorem ggX12_longest_X12_begins : GoodIn wsX12_longest wsX12_begins := goodIn_r _ [14, 7, 15, 16, 17, 5, 18, 53, 54, 55, 56, 57, 58, 59, 60, 61, 62, 63, 64, 65, 66, 67, 68, 69, 70, 71] (by decide +kernel) (by decide +kernel)
set_option maxRecDepth 20000 in
theorem gX12_longest_X12_begins : GoodIn wsX12_longest (wsV RX12 154 RX12 yX12_begins wsX12_begins) := goodIn_app (goodIn_of _ (by decide +kernel)) ggX12_longest_X12_begins
set_option maxRecDepth 20000 in
theorem ggX12_longest_X12_setDrawer : GoodIn wsX12_longest wsX12_setDrawer := goodIn_r _ [22, 7, 53, 54, 55, 56, 57, 58, 59, 60, 61, 62, 63, 64, 65, 66, 67, 68, 69, 70, 71] (by decide +kernel) (by decide +kernel)
set_option maxRecDepth 20000 in
theorem gX12_longest_X12_setDrawer : GoodIn wsX12_longest (wsV RX12 107 RX12 yX12_setDrawer wsX12_setDrawer) := goodIn_app (goodIn_of _ (by decide +kernel)) ggX12_longest_X12_setDrawer
set_option maxRecDepth 20000 in
theorem ggX12_longest_X12_hadOf : GoodIn wsX12_longest wsX12_hadOf := goodIn_r _ [26, 27, 7, 28, 29, 30, 5, 31, 32, 33, 34, 35, 36, 37, 38, 39, 40, 41, 42, 43, 44, 45, 46, 47, 48, 53, 54, 55, 56, 57, 58, 59, 60, 61, 62, 63, 64, 65, 66, 67, 68, 69, 70, 71] (by decide +kernel) (by decide +kernel)
set_option maxRecDepth 20000 in
theorem gX12_longest_X12_hadOf : GoodIn wsX12_longest (wsV RX12 151 RX12 yX12_hadOf wsX12_hadOf) := goodIn_app (goodIn_of _ (by decide +kernel)) ggX12_longest_X12_hadOf
set_option maxRecDepth 20000 in
theorem ggX12_longest_X12_ends : GoodIn wsX12_longest wsX12_ends := goodIn_r _ [52, 15, 7, 16, 17, 5, 18, 53, 54, 55, 56, 57, 58, 59, 60, 61, 62, 63, 64, 65, 66, 67, 68, 69, 70, 71] (by decide +kernel) (by decide +kernel)
set_option maxRecDepth 20000 in
theorem gX12_longest_X12_ends : GoodIn wsX12_longest (wsV RX12 157 RX12 yX12_ends wsX12_ends) := goodIn_app (goodIn_of _ (by decide +kernel)) ggX12_longest_X12_ends
theorem dX12_longest_0 : decode cX12_longest 0 = .ok (.aload_n 0, 1) := by decide +kernel
theorem dX12_longest_1 : decode cX12_longest 1 = .ok (.iload_n 1, 1) := by decide +kernel
theorem dX12_longest_2 : decode cX12_longest 2 = .ok (.invokevirtual 114, 3) := by decide +kernel
theorem dX12_longest_5 : decode cX12_longest 5 = .ok (.ifCond .eq 34, 3) := by decide +kernel
theorem dX12_longest_8 : decode cX12_longest 8 = .ok (.iload_n 2, 1) := by decide +kernel
theorem dX12_longest_9 : decode cX12_longest 9 = .ok (.i2l, 1) := by decide +kernel
theorem dX12_longest_10 : decode cX12_longest 10 = .ok (.lconst 0, 1) := by decide +kernel
theorem dX12_longest_11 : decode cX12_longest 11 = .ok (.ldc2_w 160, 3) := by decide +kernel
theorem dX12_longest_14 : decode cX12_longest 14 = .ok (.invokestatic 55, 3) := by decide +kernel
theorem dX12_longest_17 : decode cX12_longest 17 = .ok (.ifCond .eq 22, 3) := by decide +kernel
theorem dX12_longest_20 : decode cX12_longest 20 = .ok (.aload_n 0, 1) := by decide +kernel
theorem dX12_longest_21 : decode cX12_longest 21 = .ok (.iload_n 3, 1) := by decide +kernel
theorem dX12_longest_22 : decode cX12_longest 22 = .ok (.invokevirtual 114, 3) := by decide +kernel
theorem dX12_longest_25 : decode cX12_longest 25 = .ok (.ifCond .eq 14, 3) := by decide +kernel
theorem dX12_longest_28 : decode cX12_longest 28 = .ok (.iload 4, 2) := by decide +kernel
theorem dX12_longest_30 : decode cX12_longest 30 = .ok (.i2l, 1) := by decide +kernel
theorem dX12_longest_31 : decode cX12_longest 31 = .ok (.lconst 0, 1) := by decide +kernel
theorem dX12_longest_32 : decode cX12_longest 32 = .ok (.lconst 1, 1) := by decide +kernel
theorem dX12_longest_33 : decode cX12_longest 33 = .ok (.invokestatic 55, 3) := by decide +kernel
theorem dX12_longest_36 : decode cX12_longest 36 = .ok (.ifCond .ne 5, 3) := by decide +kernel
theorem dX12_longest_39 : decode cX12_longest 39 = .ok (.iconst (-1), 1) := by decide +kernel
theorem dX12_longest_40 : decode cX12_longest 40 = .ok (.ireturn, 1) := by decide +kernel
theorem dX12_longest_41 : decode cX12_longest 41 = .ok (.bipush (-4), 2) := by decide +kernel
theorem dX12_longest_43 : decode cX12_longest 43 = .ok (.istore 5, 2) := by decide +kernel
theorem dX12_longest_45 : decode cX12_longest 45 = .ok (.bipush (-4), 2) := by decide +kernel
theorem dX12_longest_47 : decode cX12_longest 47 = .ok (.istore 6, 2) := by decide +kernel
theorem dX12_longest_49 : decode cX12_longest 49 = .ok (.aload_n 0, 1) := by decide +kernel
theorem dX12_longest_50 : decode cX12_longest 50 = .ok (.invokevirtual 154, 3) := by decide +kernel
theorem dX12_longest_53 : decode cX12_longest 53 = .ok (.iconst 0, 1) := by decide +kernel
theorem dX12_longest_54 : decode cX12_longest 54 = .ok (.istore 7, 2) := by decide +kernel
theorem dX12_longest_56 : decode cX12_longest 56 = .ok (.iload 7, 2) := by decide +kernel
theorem dX12_longest_58 : decode cX12_longest 58 = .ok (.bipush 8, 2) := by decide +kernel
theorem dX12_longest_60 : decode cX12_longest 60 = .ok (.if_icmp .ge 54, 3) := by decide +kernel
theorem dX12_longest_63 : decode cX12_longest 63 = .ok (.aload_n 0, 1) := by decide +kernel
theorem dX12_longest_64 : decode cX12_longest 64 = .ok (.iload_n 1, 1) := by decide +kernel
theorem dX12_longest_65 : decode cX12_longest 65 = .ok (.iload 7, 2) := by decide +kernel
theorem dX12_longest_67 : decode cX12_longest 67 = .ok (.iload_n 2, 1) := by decide +kernel
theorem dX12_longest_68 : decode cX12_longest 68 = .ok (.invokevirtual 107, 3) := by decide +kernel
theorem dX12_longest_71 : decode cX12_longest 71 = .ok (.aload_n 0, 1) := by decide +kernel
theorem dX12_longest_72 : decode cX12_longest 72 = .ok (.iconst 1, 1) := by decide +kernel
theorem dX12_longest_73 : decode cX12_longest 73 = .ok (.iload_n 3, 1) := by decide +kernel
theorem dX12_longest_74 : decode cX12_longest 74 = .ok (.ishl, 1) := by decide +kernel
theorem dX12_longest_75 : decode cX12_longest 75 = .ok (.invokevirtual 151, 3) := by decide +kernel
theorem dX12_longest_78 : decode cX12_longest 78 = .ok (.istore 8, 2) := by decide +kernel
theorem dX12_longest_80 : decode cX12_longest 80 = .ok (.iload 8, 2) := by decide +kernel
theorem dX12_longest_82 : decode cX12_longest 82 = .ok (.ifCond .lt 26, 3) := by decide +kernel
theorem dX12_longest_85 : decode cX12_longest 85 = .ok (.iload 5, 2) := by decide +kernel
theorem dX12_longest_87 : decode cX12_longest 87 = .ok (.ifCond .lt 13, 3) := by decide +kernel
theorem dX12_longest_90 : decode cX12_longest 90 = .ok (.iload 8, 2) := by decide +kernel
theorem dX12_longest_92 : decode cX12_longest 92 = .ok (.iload 6, 2) := by decide +kernel
theorem dX12_longest_94 : decode cX12_longest 94 = .ok (.if_icmp .gt 6, 3) := by decide +kernel
theorem dX12_longest_97 : decode cX12_longest 97 = .ok (.goto 11, 3) := by decide +kernel
theorem dX12_longest_100 : decode cX12_longest 100 = .ok (.iload 7, 2) := by decide +kernel
theorem dX12_longest_102 : decode cX12_longest 102 = .ok (.istore 5, 2) := by decide +kernel
theorem dX12_longest_104 : decode cX12_longest 104 = .ok (.iload 8, 2) := by decide +kernel
theorem dX12_longest_106 : decode cX12_longest 106 = .ok (.istore 6, 2) := by decide +kernel
theorem dX12_longest_108 : decode cX12_longest 108 = .ok (.iinc 7 1, 3) := by decide +kernel
theorem dX12_longest_111 : decode cX12_longest 111 = .ok (.goto (-55), 3) := by decide +kernel
theorem dX12_longest_114 : decode cX12_longest 114 = .ok (.aload_n 0, 1) := by decide +kernel
theorem dX12_longest_115 : decode cX12_longest 115 = .ok (.invokevirtual 157, 3) := by decide +kernel
theorem dX12_longest_118 : decode cX12_longest 118 = .ok (.iload 4, 2) := by decide +kernel
theorem dX12_longest_120 : decode cX12_longest 120 = .ok (.ifCond .ne 8, 3) := by decide +kernel
theorem dX12_longest_123 : decode cX12_longest 123 = .ok (.iload 5, 2) := by decide +kernel
theorem dX12_longest_125 : decode cX12_longest 125 = .ok (.goto 5, 3) := by decide +kernel
theorem dX12_longest_128 : decode cX12_longest 128 = .ok (.iload 6, 2) := by decide +kernel
theorem dX12_longest_130 : decode cX12_longest 130 = .ok (.ireturn, 1) := by decide +kernel
theorem dX12_told_0 : decode cX12_told 0 = .ok (.aload_n 0, 1) := by decide +kernel
theorem dX12_told_1 : decode cX12_told 1 = .ok (.getfield 31, 3) := by decide +kernel
theorem dX12_told_4 : decode cX12_told 4 = .ok (.bipush 100, 2) := by decide +kernel
theorem dX12_told_6 : decode cX12_told 6 = .ok (.iload_n 1, 1) := by decide +kernel
theorem dX12_told_7 : decode cX12_told 7 = .ok (.imul, 1) := by decide +kernel
theorem dX12_told_8 : decode cX12_told 8 = .ok (.iload_n 2, 1) := by decide +kernel
theorem dX12_told_9 : decode cX12_told 9 = .ok (.iadd, 1) := by decide +kernel
theorem dX12_told_10 : decode cX12_told 10 = .ok (.iaload, 1) := by decide +kernel
theorem dX12_told_11 : decode cX12_told 11 = .ok (.ireturn, 1) := by decide +kernel
set_option maxRecDepth 20000 in
theorem ggX12_isTriedSo_X12_told : GoodIn wsX12_isTriedSo wsX12_told := goodIn_r _ [6, 7, 34, 35, 36, 37, 38, 39, 40, 41, 42, 43, 44, 45, 46, 47, 48, 49, 50, 51, 52] (by decide +kernel) (by decide +kernel)
set_option maxRecDepth 20000 in
theorem gX12_isTriedSo_X12_told : GoodIn wsX12_isTriedSo (wsV RX12 162 RX12 yX12_told wsX12_told) := goodIn_app (goodIn_of _ (by decide +kernel)) ggX12_isTriedSo_X12_told
set_option maxRecDepth 20000 in
theorem ggX12_isTriedSo_X12_pulls : GoodIn wsX12_isTriedSo wsX12_pulls := goodIn_r _ [11, 12, 13, 14, 15, 5, 16, 17, 18, 19, 20, 21, 22, 23, 24, 25, 26, 27, 28, 29, 30, 31, 32, 33, 34, 35, 36, 37, 38, 39, 40, 41, 42, 43, 44, 45, 46, 47, 48, 49, 50, 51, 52] (by decide +kernel) (by decide +kernel)
set_option maxRecDepth 20000 in
theorem gX12_isTriedSo_X12_pulls : GoodIn wsX12_isTriedSo (wsV RX12 117 RX12 yX12_pulls wsX12_pulls) := goodIn_app (goodIn_of _ (by decide +kernel)) ggX12_isTriedSo_X12_pulls
theorem dX12_isTriedSo_0 : decode cX12_isTriedSo 0 = .ok (.iconst 0, 1) := by decide +kernel
theorem dX12_isTriedSo_1 : decode cX12_isTriedSo 1 = .ok (.istore_n 2, 1) := by decide +kernel
theorem dX12_isTriedSo_2 : decode cX12_isTriedSo 2 = .ok (.iload_n 2, 1) := by decide +kernel
theorem dX12_isTriedSo_3 : decode cX12_isTriedSo 3 = .ok (.aload_n 0, 1) := by decide +kernel
theorem dX12_isTriedSo_4 : decode cX12_isTriedSo 4 = .ok (.getfield 28, 3) := by decide +kernel
theorem dX12_isTriedSo_7 : decode cX12_isTriedSo 7 = .ok (.iload_n 1, 1) := by decide +kernel
theorem dX12_isTriedSo_8 : decode cX12_isTriedSo 8 = .ok (.iaload, 1) := by decide +kernel
theorem dX12_isTriedSo_9 : decode cX12_isTriedSo 9 = .ok (.if_icmp .ge 41, 3) := by decide +kernel
theorem dX12_isTriedSo_12 : decode cX12_isTriedSo 12 = .ok (.aload_n 0, 1) := by decide +kernel
theorem dX12_isTriedSo_13 : decode cX12_isTriedSo 13 = .ok (.aload_n 0, 1) := by decide +kernel
theorem dX12_isTriedSo_14 : decode cX12_isTriedSo 14 = .ok (.iload_n 1, 1) := by decide +kernel
theorem dX12_isTriedSo_15 : decode cX12_isTriedSo 15 = .ok (.iload_n 2, 1) := by decide +kernel
theorem dX12_isTriedSo_16 : decode cX12_isTriedSo 16 = .ok (.invokevirtual 162, 3) := by decide +kernel
theorem dX12_isTriedSo_19 : decode cX12_isTriedSo 19 = .ok (.invokevirtual 117, 3) := by decide +kernel
theorem dX12_isTriedSo_22 : decode cX12_isTriedSo 22 = .ok (.aload_n 0, 1) := by decide +kernel
theorem dX12_isTriedSo_23 : decode cX12_isTriedSo 23 = .ok (.iload_n 1, 1) := by decide +kernel
theorem dX12_isTriedSo_24 : decode cX12_isTriedSo 24 = .ok (.iload_n 2, 1) := by decide +kernel
theorem dX12_isTriedSo_25 : decode cX12_isTriedSo 25 = .ok (.iconst 1, 1) := by decide +kernel
theorem dX12_isTriedSo_26 : decode cX12_isTriedSo 26 = .ok (.iadd, 1) := by decide +kernel
theorem dX12_isTriedSo_27 : decode cX12_isTriedSo 27 = .ok (.invokevirtual 162, 3) := by decide +kernel
theorem dX12_isTriedSo_30 : decode cX12_isTriedSo 30 = .ok (.iconst 1, 1) := by decide +kernel
theorem dX12_isTriedSo_31 : decode cX12_isTriedSo 31 = .ok (.if_icmp .ne 7, 3) := by decide +kernel
theorem dX12_isTriedSo_34 : decode cX12_isTriedSo 34 = .ok (.iconst 1, 1) := by decide +kernel
theorem dX12_isTriedSo_35 : decode cX12_isTriedSo 35 = .ok (.goto 4, 3) := by decide +kernel
theorem dX12_isTriedSo_38 : decode cX12_isTriedSo 38 = .ok (.iconst 0, 1) := by decide +kernel
theorem dX12_isTriedSo_39 : decode cX12_isTriedSo 39 = .ok (.if_icmp .eq 5, 3) := by decide +kernel
theorem dX12_isTriedSo_42 : decode cX12_isTriedSo 42 = .ok (.iconst 0, 1) := by decide +kernel
theorem dX12_isTriedSo_43 : decode cX12_isTriedSo 43 = .ok (.ireturn, 1) := by decide +kernel
theorem dX12_isTriedSo_44 : decode cX12_isTriedSo 44 = .ok (.iinc 2 2, 3) := by decide +kernel
theorem dX12_isTriedSo_47 : decode cX12_isTriedSo 47 = .ok (.goto (-45), 3) := by decide +kernel
theorem dX12_isTriedSo_50 : decode cX12_isTriedSo 50 = .ok (.iconst 1, 1) := by decide +kernel
theorem dX12_isTriedSo_51 : decode cX12_isTriedSo 51 = .ok (.ireturn, 1) := by decide +kernel
set_option maxRecDepth 20000 in
theorem ggX12_tried_X12_isShelf : GoodIn wsX12_tried wsX12_isShelf := goodIn_r _ [6, 7, 8, 9, 5, 10] (by decide +kernel) (by decide +kernel)
set_option maxRecDepth 20000 in
theorem gX12_tried_X12_isShelf : GoodIn wsX12_tried (va_wsS RX12 119 yX12_isShelf wsX12_isShelf) := goodIn_app (goodIn_of _ (by decide +kernel)) ggX12_tried_X12_isShelf
set_option maxRecDepth 20000 in
theorem ggX12_tried_X12_isDrawer : GoodIn wsX12_tried wsX12_isDrawer := goodIn_r _ [14, 15, 8, 9, 5, 10, 72, 73, 74, 75, 76, 77, 78, 79, 80, 81, 82, 83, 84, 85, 86, 87, 88, 89, 90] (by decide +kernel) (by decide +kernel)
set_option maxRecDepth 20000 in
theorem gX12_tried_X12_isDrawer : GoodIn wsX12_tried (wsV RX12 114 RX12 yX12_isDrawer wsX12_isDrawer) := goodIn_app (goodIn_of _ (by decide +kernel)) ggX12_tried_X12_isDrawer
set_option maxRecDepth 20000 in
theorem ggX12_tried_X12_isIn : GoodIn wsX12_tried wsX12_isIn := goodIn_r _ [10] (by decide +kernel) (by decide +kernel)
set_option maxRecDepth 20000 in
theorem gX12_tried_X12_isIn : GoodIn wsX12_tried (va_wsS RX12 55 yX12_isIn wsX12_isIn) := goodIn_app (goodIn_of _ (by decide +kernel)) ggX12_tried_X12_isIn
set_option maxRecDepth 20000 in
theorem ggX12_tried_X12_wrongRow : GoodIn wsX12_tried wsX12_wrongRow := goodIn_r _ [19, 20, 21, 3, 4, 5, 6, 7, 8, 9, 10, 72, 73, 74, 75, 76, 77, 78, 79, 80, 81, 82, 83, 84, 85, 86, 87, 88, 89, 90] (by decide +kernel) (by decide +kernel)
set_option maxRecDepth 20000 in
theorem gX12_tried_X12_wrongRow : GoodIn wsX12_tried (wsV RX12 122 RX12 yX12_wrongRow wsX12_wrongRow) := goodIn_app (goodIn_of _ (by decide +kernel)) ggX12_tried_X12_wrongRow
set_option maxRecDepth 20000 in
theorem ggX12_tried_X12_told : GoodIn wsX12_tried wsX12_told := goodIn_r _ [25, 26, 72, 73, 74, 75, 76, 77, 78, 79, 80, 81, 82, 83, 84, 85, 86, 87, 88, 89, 90] (by decide +kernel) (by decide +kernel)
set_option maxRecDepth 20000 in
theorem gX12_tried_X12_told : GoodIn wsX12_tried (wsV RX12 162 RX12 yX12_told wsX12_told) := goodIn_app (goodIn_of _ (by decide +kernel)) ggX12_tried_X12_told
set_option maxRecDepth 20000 in
theorem ggX12_tried_X12_begins : GoodIn wsX12_tried wsX12_begins := goodIn_r _ [30, 15, 31, 32, 33, 5, 34, 72, 73, 74, 75, 76, 77, 78, 79, 80, 81, 82, 83, 84, 85, 86, 87, 88, 89, 90] (by decide +kernel) (by decide +kernel)
set_option maxRecDepth 20000 in
theorem gX12_tried_X12_begins : GoodIn wsX12_tried (wsV RX12 154 RX12 yX12_begins wsX12_begins) := goodIn_app (goodIn_of _ (by decide +kernel)) ggX12_tried_X12_begins
set_option maxRecDepth 20000 in
theorem ggX12_tried_X12_setDrawer : GoodIn wsX12_tried wsX12_setDrawer := goodIn_r _ [38, 15, 72, 73, 74, 75, 76, 77, 78, 79, 80, 81, 82, 83, 84, 85, 86, 87, 88, 89, 90] (by decide +kernel) (by decide +kernel)
set_option maxRecDepth 20000 in
theorem gX12_tried_X12_setDrawer : GoodIn wsX12_tried (wsV RX12 107 RX12 yX12_setDrawer wsX12_setDrawer) := goodIn_app (goodIn_of _ (by decide +kernel)) ggX12_tried_X12_setDrawer
set_option maxRecDepth 20000 in
theorem ggX12_tried_X12_isTriedSo : GoodIn wsX12_tried wsX12_isTriedSo := goodIn_r _ [42, 2, 22, 23, 24, 5, 25, 26, 43, 44, 45, 46, 15, 47, 48, 49, 50, 51, 52, 53, 54, 55, 56, 57, 58, 59, 60, 61, 62, 63, 64, 65, 66, 67, 72, 73, 74, 75, 76, 77, 78, 79, 80, 81, 82, 83, 84, 85, 86, 87, 88, 89, 90] (by decide +kernel) (by decide +kernel)
set_option maxRecDepth 20000 in
theorem gX12_tried_X12_isTriedSo : GoodIn wsX12_tried (wsV RX12 165 RX12 yX12_isTriedSo wsX12_isTriedSo) := goodIn_app (goodIn_of _ (by decide +kernel)) ggX12_tried_X12_isTriedSo
set_option maxRecDepth 20000 in
theorem ggX12_tried_X12_ends : GoodIn wsX12_tried wsX12_ends := goodIn_r _ [71, 31, 15, 32, 33, 5, 34, 72, 73, 74, 75, 76, 77, 78, 79, 80, 81, 82, 83, 84, 85, 86, 87, 88, 89, 90] (by decide +kernel) (by decide +kernel)
set_option maxRecDepth 20000 in
theorem gX12_tried_X12_ends : GoodIn wsX12_tried (wsV RX12 157 RX12 yX12_ends wsX12_ends) := goodIn_app (goodIn_of _ (by decide +kernel)) ggX12_tried_X12_ends
theorem dX12_tried_0 : decode cX12_tried 0 = .ok (.iload_n 1, 1) := by decide +kernel
theorem dX12_tried_1 : decode cX12_tried 1 = .ok (.invokestatic 119, 3) := by decide +kernel
theorem dX12_tried_4 : decode cX12_tried 4 = .ok (.ifCond .eq 23, 3) := by decide +kernel
theorem dX12_tried_7 : decode cX12_tried 7 = .ok (.aload_n 0, 1) := by decide +kernel
theorem dX12_tried_8 : decode cX12_tried 8 = .ok (.iload_n 2, 1) := by decide +kernel
theorem dX12_tried_9 : decode cX12_tried 9 = .ok (.invokevirtual 114, 3) := by decide +kernel
theorem dX12_tried_12 : decode cX12_tried 12 = .ok (.ifCond .eq 15, 3) := by decide +kernel
theorem dX12_tried_15 : decode cX12_tried 15 = .ok (.iload_n 3, 1) := by decide +kernel
theorem dX12_tried_16 : decode cX12_tried 16 = .ok (.i2l, 1) := by decide +kernel
theorem dX12_tried_17 : decode cX12_tried 17 = .ok (.lconst 0, 1) := by decide +kernel
theorem dX12_tried_18 : decode cX12_tried 18 = .ok (.ldc2_w 160, 3) := by decide +kernel
theorem dX12_tried_21 : decode cX12_tried 21 = .ok (.invokestatic 55, 3) := by decide +kernel
theorem dX12_tried_24 : decode cX12_tried 24 = .ok (.ifCond .ne 7, 3) := by decide +kernel
theorem dX12_tried_27 : decode cX12_tried 27 = .ok (.iconst (-1), 1) := by decide +kernel
theorem dX12_tried_28 : decode cX12_tried 28 = .ok (.goto 9, 3) := by decide +kernel
theorem dX12_tried_31 : decode cX12_tried 31 = .ok (.aload_n 0, 1) := by decide +kernel
theorem dX12_tried_32 : decode cX12_tried 32 = .ok (.iload_n 1, 1) := by decide +kernel
theorem dX12_tried_33 : decode cX12_tried 33 = .ok (.iconst 0, 1) := by decide +kernel
theorem dX12_tried_34 : decode cX12_tried 34 = .ok (.invokevirtual 122, 3) := by decide +kernel
theorem dX12_tried_37 : decode cX12_tried 37 = .ok (.istore 4, 2) := by decide +kernel
theorem dX12_tried_39 : decode cX12_tried 39 = .ok (.iload 4, 2) := by decide +kernel
theorem dX12_tried_41 : decode cX12_tried 41 = .ok (.ifCond .ne 18, 3) := by decide +kernel
theorem dX12_tried_44 : decode cX12_tried 44 = .ok (.aload_n 0, 1) := by decide +kernel
theorem dX12_tried_45 : decode cX12_tried 45 = .ok (.getfield 28, 3) := by decide +kernel
theorem dX12_tried_48 : decode cX12_tried 48 = .ok (.iload_n 1, 1) := by decide +kernel
theorem dX12_tried_49 : decode cX12_tried 49 = .ok (.iaload, 1) := by decide +kernel
theorem dX12_tried_50 : decode cX12_tried 50 = .ok (.iconst 2, 1) := by decide +kernel
theorem dX12_tried_51 : decode cX12_tried 51 = .ok (.irem, 1) := by decide +kernel
theorem dX12_tried_52 : decode cX12_tried 52 = .ok (.ifCond .eq 7, 3) := by decide +kernel
theorem dX12_tried_55 : decode cX12_tried 55 = .ok (.bipush (-13), 2) := by decide +kernel
theorem dX12_tried_57 : decode cX12_tried 57 = .ok (.istore 4, 2) := by decide +kernel
theorem dX12_tried_59 : decode cX12_tried 59 = .ok (.iconst 0, 1) := by decide +kernel
theorem dX12_tried_60 : decode cX12_tried 60 = .ok (.istore 5, 2) := by decide +kernel
theorem dX12_tried_62 : decode cX12_tried 62 = .ok (.iload 4, 2) := by decide +kernel
theorem dX12_tried_64 : decode cX12_tried 64 = .ok (.ifCond .ne 60, 3) := by decide +kernel
theorem dX12_tried_67 : decode cX12_tried 67 = .ok (.iload 5, 2) := by decide +kernel
theorem dX12_tried_69 : decode cX12_tried 69 = .ok (.aload_n 0, 1) := by decide +kernel
theorem dX12_tried_70 : decode cX12_tried 70 = .ok (.getfield 28, 3) := by decide +kernel
theorem dX12_tried_73 : decode cX12_tried 73 = .ok (.iload_n 1, 1) := by decide +kernel
theorem dX12_tried_74 : decode cX12_tried 74 = .ok (.iaload, 1) := by decide +kernel
theorem dX12_tried_75 : decode cX12_tried 75 = .ok (.if_icmp .ge 49, 3) := by decide +kernel
theorem dX12_tried_78 : decode cX12_tried 78 = .ok (.aload_n 0, 1) := by decide +kernel
theorem dX12_tried_79 : decode cX12_tried 79 = .ok (.aload_n 0, 1) := by decide +kernel
theorem dX12_tried_80 : decode cX12_tried 80 = .ok (.iload_n 1, 1) := by decide +kernel
theorem dX12_tried_81 : decode cX12_tried 81 = .ok (.iload 5, 2) := by decide +kernel
theorem dX12_tried_83 : decode cX12_tried 83 = .ok (.invokevirtual 162, 3) := by decide +kernel
theorem dX12_tried_86 : decode cX12_tried 86 = .ok (.invokevirtual 114, 3) := by decide +kernel
theorem dX12_tried_89 : decode cX12_tried 89 = .ok (.ifCond .eq 25, 3) := by decide +kernel
theorem dX12_tried_92 : decode cX12_tried 92 = .ok (.aload_n 0, 1) := by decide +kernel
theorem dX12_tried_93 : decode cX12_tried 93 = .ok (.iload_n 1, 1) := by decide +kernel
theorem dX12_tried_94 : decode cX12_tried 94 = .ok (.iload 5, 2) := by decide +kernel
theorem dX12_tried_96 : decode cX12_tried 96 = .ok (.iconst 1, 1) := by decide +kernel
theorem dX12_tried_97 : decode cX12_tried 97 = .ok (.iadd, 1) := by decide +kernel
theorem dX12_tried_98 : decode cX12_tried 98 = .ok (.invokevirtual 162, 3) := by decide +kernel
theorem dX12_tried_101 : decode cX12_tried 101 = .ok (.i2l, 1) := by decide +kernel
theorem dX12_tried_102 : decode cX12_tried 102 = .ok (.lconst 0, 1) := by decide +kernel
theorem dX12_tried_103 : decode cX12_tried 103 = .ok (.lconst 1, 1) := by decide +kernel
theorem dX12_tried_104 : decode cX12_tried 104 = .ok (.invokestatic 55, 3) := by decide +kernel
theorem dX12_tried_107 : decode cX12_tried 107 = .ok (.ifCond .eq 7, 3) := by decide +kernel
theorem dX12_tried_110 : decode cX12_tried 110 = .ok (.iconst 0, 1) := by decide +kernel
theorem dX12_tried_111 : decode cX12_tried 111 = .ok (.goto 5, 3) := by decide +kernel
theorem dX12_tried_114 : decode cX12_tried 114 = .ok (.bipush (-13), 2) := by decide +kernel
theorem dX12_tried_116 : decode cX12_tried 116 = .ok (.istore 4, 2) := by decide +kernel
theorem dX12_tried_118 : decode cX12_tried 118 = .ok (.iinc 5 2, 3) := by decide +kernel
theorem dX12_tried_121 : decode cX12_tried 121 = .ok (.goto (-59), 3) := by decide +kernel
theorem dX12_tried_124 : decode cX12_tried 124 = .ok (.iload 4, 2) := by decide +kernel
theorem dX12_tried_126 : decode cX12_tried 126 = .ok (.ifCond .eq 6, 3) := by decide +kernel
theorem dX12_tried_129 : decode cX12_tried 129 = .ok (.iload 4, 2) := by decide +kernel
theorem dX12_tried_131 : decode cX12_tried 131 = .ok (.ireturn, 1) := by decide +kernel
theorem dX12_tried_132 : decode cX12_tried 132 = .ok (.iconst 0, 1) := by decide +kernel
theorem dX12_tried_133 : decode cX12_tried 133 = .ok (.istore 5, 2) := by decide +kernel
theorem dX12_tried_135 : decode cX12_tried 135 = .ok (.aload_n 0, 1) := by decide +kernel
theorem dX12_tried_136 : decode cX12_tried 136 = .ok (.invokevirtual 154, 3) := by decide +kernel
theorem dX12_tried_139 : decode cX12_tried 139 = .ok (.iconst 0, 1) := by decide +kernel
theorem dX12_tried_140 : decode cX12_tried 140 = .ok (.istore 6, 2) := by decide +kernel
theorem dX12_tried_142 : decode cX12_tried 142 = .ok (.iload 6, 2) := by decide +kernel
theorem dX12_tried_144 : decode cX12_tried 144 = .ok (.bipush 8, 2) := by decide +kernel
theorem dX12_tried_146 : decode cX12_tried 146 = .ok (.if_icmp .ge 42, 3) := by decide +kernel
theorem dX12_tried_149 : decode cX12_tried 149 = .ok (.aload_n 0, 1) := by decide +kernel
theorem dX12_tried_150 : decode cX12_tried 150 = .ok (.iload_n 2, 1) := by decide +kernel
theorem dX12_tried_151 : decode cX12_tried 151 = .ok (.iload 6, 2) := by decide +kernel
theorem dX12_tried_153 : decode cX12_tried 153 = .ok (.iload_n 3, 1) := by decide +kernel
theorem dX12_tried_154 : decode cX12_tried 154 = .ok (.invokevirtual 107, 3) := by decide +kernel
theorem dX12_tried_157 : decode cX12_tried 157 = .ok (.iload 5, 2) := by decide +kernel
theorem dX12_tried_159 : decode cX12_tried 159 = .ok (.aload_n 0, 1) := by decide +kernel
theorem dX12_tried_160 : decode cX12_tried 160 = .ok (.iload_n 1, 1) := by decide +kernel
theorem dX12_tried_161 : decode cX12_tried 161 = .ok (.invokevirtual 165, 3) := by decide +kernel
theorem dX12_tried_164 : decode cX12_tried 164 = .ok (.ifCond .eq 10, 3) := by decide +kernel
theorem dX12_tried_167 : decode cX12_tried 167 = .ok (.iconst 1, 1) := by decide +kernel
theorem dX12_tried_168 : decode cX12_tried 168 = .ok (.iload 6, 2) := by decide +kernel
theorem dX12_tried_170 : decode cX12_tried 170 = .ok (.ishl, 1) := by decide +kernel
theorem dX12_tried_171 : decode cX12_tried 171 = .ok (.goto 4, 3) := by decide +kernel
theorem dX12_tried_174 : decode cX12_tried 174 = .ok (.iconst 0, 1) := by decide +kernel
theorem dX12_tried_175 : decode cX12_tried 175 = .ok (.ior, 1) := by decide +kernel
theorem dX12_tried_176 : decode cX12_tried 176 = .ok (.istore 5, 2) := by decide +kernel
theorem dX12_tried_178 : decode cX12_tried 178 = .ok (.aload_n 0, 1) := by decide +kernel
theorem dX12_tried_179 : decode cX12_tried 179 = .ok (.invokevirtual 157, 3) := by decide +kernel
theorem dX12_tried_182 : decode cX12_tried 182 = .ok (.iinc 6 1, 3) := by decide +kernel
theorem dX12_tried_185 : decode cX12_tried 185 = .ok (.goto (-43), 3) := by decide +kernel
theorem dX12_tried_188 : decode cX12_tried 188 = .ok (.iload 5, 2) := by decide +kernel
theorem dX12_tried_190 : decode cX12_tried 190 = .ok (.ireturn, 1) := by decide +kernel
set_option maxRecDepth 20000 in
theorem ggX12_next_X12_isDrawer : GoodIn wsX12_next wsX12_isDrawer := goodIn_r _ [7, 8, 9, 10, 6, 11, 53, 54, 55, 56, 57, 58, 59, 60, 61, 62, 63, 64, 65, 66, 67, 68, 69, 70, 71] (by decide +kernel) (by decide +kernel)
set_option maxRecDepth 20000 in
theorem gX12_next_X12_isDrawer : GoodIn wsX12_next (wsV RX12 114 RX12 yX12_isDrawer wsX12_isDrawer) := goodIn_app (goodIn_of _ (by decide +kernel)) ggX12_next_X12_isDrawer
set_option maxRecDepth 20000 in
theorem ggX12_next_X12_isIn : GoodIn wsX12_next wsX12_isIn := goodIn_r _ [11] (by decide +kernel) (by decide +kernel)
set_option maxRecDepth 20000 in
theorem gX12_next_X12_isIn : GoodIn wsX12_next (va_wsS RX12 55 yX12_isIn wsX12_isIn) := goodIn_app (goodIn_of _ (by decide +kernel)) ggX12_next_X12_isIn
set_option maxRecDepth 20000 in
theorem ggX12_next_X12_begins : GoodIn wsX12_next wsX12_begins := goodIn_r _ [15, 8, 16, 17, 18, 6, 19, 53, 54, 55, 56, 57, 58, 59, 60, 61, 62, 63, 64, 65, 66, 67, 68, 69, 70, 71] (by decide +kernel) (by decide +kernel)
set_option maxRecDepth 20000 in
theorem gX12_next_X12_begins : GoodIn wsX12_next (wsV RX12 154 RX12 yX12_begins wsX12_begins) := goodIn_app (goodIn_of _ (by decide +kernel)) ggX12_next_X12_begins
set_option maxRecDepth 20000 in
theorem ggX12_next_X12_everything : GoodIn wsX12_next wsX12_everything := goodIn_r _ [23, 8, 53, 54, 55, 56, 57, 58, 59, 60, 61, 62, 63, 64, 65, 66, 67, 68, 69, 70, 71] (by decide +kernel) (by decide +kernel)
set_option maxRecDepth 20000 in
theorem gX12_next_X12_everything : GoodIn wsX12_next (wsV RX12 59 RX12 yX12_everything wsX12_everything) := goodIn_app (goodIn_of _ (by decide +kernel)) ggX12_next_X12_everything
set_option maxRecDepth 20000 in
theorem ggX12_next_X12_setDrawer : GoodIn wsX12_next wsX12_setDrawer := goodIn_r _ [27, 8, 53, 54, 55, 56, 57, 58, 59, 60, 61, 62, 63, 64, 65, 66, 67, 68, 69, 70, 71] (by decide +kernel) (by decide +kernel)
set_option maxRecDepth 20000 in
theorem gX12_next_X12_setDrawer : GoodIn wsX12_next (wsV RX12 107 RX12 yX12_setDrawer wsX12_setDrawer) := goodIn_app (goodIn_of _ (by decide +kernel)) ggX12_next_X12_setDrawer
set_option maxRecDepth 20000 in
theorem ggX12_next_X12_may : GoodIn wsX12_next wsX12_may := goodIn_r _ [31, 32, 33, 34, 6, 35, 8, 36, 37, 38, 39, 40, 41, 42, 43, 44, 45, 46, 47, 48, 53, 54, 55, 56, 57, 58, 59, 60, 61, 62, 63, 64, 65, 66, 67, 68, 69, 70, 71] (by decide +kernel) (by decide +kernel)
set_option maxRecDepth 20000 in
theorem gX12_next_X12_may : GoodIn wsX12_next (wsV RX12 84 RX12 yX12_may wsX12_may) := goodIn_app (goodIn_of _ (by decide +kernel)) ggX12_next_X12_may
set_option maxRecDepth 20000 in
theorem ggX12_next_X12_bits : GoodIn wsX12_next wsX12_bits := goodIn_r _ [48] (by decide +kernel) (by decide +kernel)
set_option maxRecDepth 20000 in
theorem gX12_next_X12_bits : GoodIn wsX12_next (va_wsS RX12 81 yX12_bits wsX12_bits) := goodIn_app (goodIn_of _ (by decide +kernel)) ggX12_next_X12_bits
set_option maxRecDepth 20000 in
theorem ggX12_next_X12_ends : GoodIn wsX12_next wsX12_ends := goodIn_r _ [52, 16, 8, 17, 18, 6, 19, 53, 54, 55, 56, 57, 58, 59, 60, 61, 62, 63, 64, 65, 66, 67, 68, 69, 70, 71] (by decide +kernel) (by decide +kernel)
set_option maxRecDepth 20000 in
theorem gX12_next_X12_ends : GoodIn wsX12_next (wsV RX12 157 RX12 yX12_ends wsX12_ends) := goodIn_app (goodIn_of _ (by decide +kernel)) ggX12_next_X12_ends
theorem dX12_next_0 : decode cX12_next 0 = .ok (.aload_n 0, 1) := by decide +kernel
theorem dX12_next_1 : decode cX12_next 1 = .ok (.iload_n 1, 1) := by decide +kernel
theorem dX12_next_2 : decode cX12_next 2 = .ok (.invokevirtual 114, 3) := by decide +kernel
theorem dX12_next_5 : decode cX12_next 5 = .ok (.ifCond .eq 38, 3) := by decide +kernel
theorem dX12_next_8 : decode cX12_next 8 = .ok (.iload_n 2, 1) := by decide +kernel
theorem dX12_next_9 : decode cX12_next 9 = .ok (.i2l, 1) := by decide +kernel
theorem dX12_next_10 : decode cX12_next 10 = .ok (.lconst 0, 1) := by decide +kernel
theorem dX12_next_11 : decode cX12_next 11 = .ok (.ldc2_w 160, 3) := by decide +kernel
theorem dX12_next_14 : decode cX12_next 14 = .ok (.invokestatic 55, 3) := by decide +kernel
theorem dX12_next_17 : decode cX12_next 17 = .ok (.ifCond .eq 26, 3) := by decide +kernel
theorem dX12_next_20 : decode cX12_next 20 = .ok (.iload_n 3, 1) := by decide +kernel
theorem dX12_next_21 : decode cX12_next 21 = .ok (.i2l, 1) := by decide +kernel
theorem dX12_next_22 : decode cX12_next 22 = .ok (.lconst 1, 1) := by decide +kernel
theorem dX12_next_23 : decode cX12_next 23 = .ok (.ldc2_w 168, 3) := by decide +kernel
theorem dX12_next_26 : decode cX12_next 26 = .ok (.invokestatic 55, 3) := by decide +kernel
theorem dX12_next_29 : decode cX12_next 29 = .ok (.ifCond .eq 14, 3) := by decide +kernel
theorem dX12_next_32 : decode cX12_next 32 = .ok (.iload 4, 2) := by decide +kernel
theorem dX12_next_34 : decode cX12_next 34 = .ok (.i2l, 1) := by decide +kernel
theorem dX12_next_35 : decode cX12_next 35 = .ok (.lconst 0, 1) := by decide +kernel
theorem dX12_next_36 : decode cX12_next 36 = .ok (.lconst 1, 1) := by decide +kernel
theorem dX12_next_37 : decode cX12_next 37 = .ok (.invokestatic 55, 3) := by decide +kernel
theorem dX12_next_40 : decode cX12_next 40 = .ok (.ifCond .ne 5, 3) := by decide +kernel
theorem dX12_next_43 : decode cX12_next 43 = .ok (.iconst (-1), 1) := by decide +kernel
theorem dX12_next_44 : decode cX12_next 44 = .ok (.ireturn, 1) := by decide +kernel
theorem dX12_next_45 : decode cX12_next 45 = .ok (.bipush (-4), 2) := by decide +kernel
theorem dX12_next_47 : decode cX12_next 47 = .ok (.istore 5, 2) := by decide +kernel
theorem dX12_next_49 : decode cX12_next 49 = .ok (.bipush (-4), 2) := by decide +kernel
theorem dX12_next_51 : decode cX12_next 51 = .ok (.istore 6, 2) := by decide +kernel
theorem dX12_next_53 : decode cX12_next 53 = .ok (.aload_n 0, 1) := by decide +kernel
theorem dX12_next_54 : decode cX12_next 54 = .ok (.invokevirtual 154, 3) := by decide +kernel
theorem dX12_next_57 : decode cX12_next 57 = .ok (.iconst 0, 1) := by decide +kernel
theorem dX12_next_58 : decode cX12_next 58 = .ok (.istore 7, 2) := by decide +kernel
theorem dX12_next_60 : decode cX12_next 60 = .ok (.iload 7, 2) := by decide +kernel
theorem dX12_next_62 : decode cX12_next 62 = .ok (.aload_n 0, 1) := by decide +kernel
theorem dX12_next_63 : decode cX12_next 63 = .ok (.invokevirtual 59, 3) := by decide +kernel
theorem dX12_next_66 : decode cX12_next 66 = .ok (.if_icmp .gt 117, 3) := by decide +kernel
theorem dX12_next_69 : decode cX12_next 69 = .ok (.iconst 0, 1) := by decide +kernel
theorem dX12_next_70 : decode cX12_next 70 = .ok (.istore 8, 2) := by decide +kernel
theorem dX12_next_72 : decode cX12_next 72 = .ok (.iconst 0, 1) := by decide +kernel
theorem dX12_next_73 : decode cX12_next 73 = .ok (.istore 9, 2) := by decide +kernel
theorem dX12_next_75 : decode cX12_next 75 = .ok (.iload 9, 2) := by decide +kernel
theorem dX12_next_77 : decode cX12_next 77 = .ok (.bipush 8, 2) := by decide +kernel
theorem dX12_next_79 : decode cX12_next 79 = .ok (.if_icmp .ge 49, 3) := by decide +kernel
theorem dX12_next_82 : decode cX12_next 82 = .ok (.iload_n 3, 1) := by decide +kernel
theorem dX12_next_83 : decode cX12_next 83 = .ok (.iload 9, 2) := by decide +kernel
theorem dX12_next_85 : decode cX12_next 85 = .ok (.ishr, 1) := by decide +kernel
theorem dX12_next_86 : decode cX12_next 86 = .ok (.iconst 1, 1) := by decide +kernel
theorem dX12_next_87 : decode cX12_next 87 = .ok (.iand, 1) := by decide +kernel
theorem dX12_next_88 : decode cX12_next 88 = .ok (.ifCond .ne 6, 3) := by decide +kernel
theorem dX12_next_91 : decode cX12_next 91 = .ok (.goto 31, 3) := by decide +kernel
theorem dX12_next_94 : decode cX12_next 94 = .ok (.aload_n 0, 1) := by decide +kernel
theorem dX12_next_95 : decode cX12_next 95 = .ok (.iload_n 1, 1) := by decide +kernel
theorem dX12_next_96 : decode cX12_next 96 = .ok (.iload 9, 2) := by decide +kernel
theorem dX12_next_98 : decode cX12_next 98 = .ok (.iload_n 2, 1) := by decide +kernel
theorem dX12_next_99 : decode cX12_next 99 = .ok (.invokevirtual 107, 3) := by decide +kernel
theorem dX12_next_102 : decode cX12_next 102 = .ok (.iload 8, 2) := by decide +kernel
theorem dX12_next_104 : decode cX12_next 104 = .ok (.aload_n 0, 1) := by decide +kernel
theorem dX12_next_105 : decode cX12_next 105 = .ok (.iload_n 1, 1) := by decide +kernel
theorem dX12_next_106 : decode cX12_next 106 = .ok (.iload 7, 2) := by decide +kernel
theorem dX12_next_108 : decode cX12_next 108 = .ok (.invokevirtual 84, 3) := by decide +kernel
theorem dX12_next_111 : decode cX12_next 111 = .ok (.ifCond .eq 7, 3) := by decide +kernel
theorem dX12_next_114 : decode cX12_next 114 = .ok (.iconst 1, 1) := by decide +kernel
theorem dX12_next_115 : decode cX12_next 115 = .ok (.goto 4, 3) := by decide +kernel
theorem dX12_next_118 : decode cX12_next 118 = .ok (.iconst 0, 1) := by decide +kernel
theorem dX12_next_119 : decode cX12_next 119 = .ok (.iadd, 1) := by decide +kernel
theorem dX12_next_120 : decode cX12_next 120 = .ok (.istore 8, 2) := by decide +kernel
theorem dX12_next_122 : decode cX12_next 122 = .ok (.iinc 9 1, 3) := by decide +kernel
theorem dX12_next_125 : decode cX12_next 125 = .ok (.goto (-50), 3) := by decide +kernel
theorem dX12_next_128 : decode cX12_next 128 = .ok (.iload 8, 2) := by decide +kernel
theorem dX12_next_130 : decode cX12_next 130 = .ok (.iload_n 3, 1) := by decide +kernel
theorem dX12_next_131 : decode cX12_next 131 = .ok (.invokestatic 81, 3) := by decide +kernel
theorem dX12_next_134 : decode cX12_next 134 = .ok (.iload 8, 2) := by decide +kernel
theorem dX12_next_136 : decode cX12_next 136 = .ok (.isub, 1) := by decide +kernel
theorem dX12_next_137 : decode cX12_next 137 = .ok (.if_icmp .le 8, 3) := by decide +kernel
theorem dX12_next_140 : decode cX12_next 140 = .ok (.iload 8, 2) := by decide +kernel
theorem dX12_next_142 : decode cX12_next 142 = .ok (.goto 10, 3) := by decide +kernel
theorem dX12_next_145 : decode cX12_next 145 = .ok (.iload_n 3, 1) := by decide +kernel
theorem dX12_next_146 : decode cX12_next 146 = .ok (.invokestatic 81, 3) := by decide +kernel
theorem dX12_next_149 : decode cX12_next 149 = .ok (.iload 8, 2) := by decide +kernel
theorem dX12_next_151 : decode cX12_next 151 = .ok (.isub, 1) := by decide +kernel
theorem dX12_next_152 : decode cX12_next 152 = .ok (.istore 9, 2) := by decide +kernel
theorem dX12_next_154 : decode cX12_next 154 = .ok (.iload 5, 2) := by decide +kernel
theorem dX12_next_156 : decode cX12_next 156 = .ok (.ifCond .lt 13, 3) := by decide +kernel
theorem dX12_next_159 : decode cX12_next 159 = .ok (.iload 9, 2) := by decide +kernel
theorem dX12_next_161 : decode cX12_next 161 = .ok (.iload 6, 2) := by decide +kernel
theorem dX12_next_163 : decode cX12_next 163 = .ok (.if_icmp .lt 6, 3) := by decide +kernel
theorem dX12_next_166 : decode cX12_next 166 = .ok (.goto 11, 3) := by decide +kernel
theorem dX12_next_169 : decode cX12_next 169 = .ok (.iload 7, 2) := by decide +kernel
theorem dX12_next_171 : decode cX12_next 171 = .ok (.istore 5, 2) := by decide +kernel
theorem dX12_next_173 : decode cX12_next 173 = .ok (.iload 9, 2) := by decide +kernel
theorem dX12_next_175 : decode cX12_next 175 = .ok (.istore 6, 2) := by decide +kernel
theorem dX12_next_177 : decode cX12_next 177 = .ok (.iinc 7 1, 3) := by decide +kernel
theorem dX12_next_180 : decode cX12_next 180 = .ok (.goto (-120), 3) := by decide +kernel
theorem dX12_next_183 : decode cX12_next 183 = .ok (.aload_n 0, 1) := by decide +kernel
theorem dX12_next_184 : decode cX12_next 184 = .ok (.invokevirtual 157, 3) := by decide +kernel
theorem dX12_next_187 : decode cX12_next 187 = .ok (.iload 4, 2) := by decide +kernel
theorem dX12_next_189 : decode cX12_next 189 = .ok (.ifCond .ne 8, 3) := by decide +kernel
theorem dX12_next_192 : decode cX12_next 192 = .ok (.iload 5, 2) := by decide +kernel
theorem dX12_next_194 : decode cX12_next 194 = .ok (.goto 5, 3) := by decide +kernel
theorem dX12_next_197 : decode cX12_next 197 = .ok (.iload 6, 2) := by decide +kernel
theorem dX12_next_199 : decode cX12_next 199 = .ok (.ireturn, 1) := by decide +kernel
set_option maxRecDepth 20000 in
theorem ggX12_canHave_X12_canHave : GoodIn wsX12_canHave wsX12_canHave := goodIn_r _ [0, 1, 2, 3, 4, 5, 6, 7, 8, 9, 10, 11, 12, 13, 14, 15, 16, 17, 18, 19, 20, 21, 22, 23, 24, 25, 26, 27, 28, 29, 30, 31, 32, 33, 34, 35, 36, 37, 38, 39, 40, 41, 42, 43, 44, 45] (by decide +kernel) (by decide +kernel)
set_option maxRecDepth 20000 in
theorem gX12_canHave_X12_canHave : GoodIn wsX12_canHave (wsV RX12 170 RX12 yX12_canHave wsX12_canHave) := goodIn_app (goodIn_of _ (by decide +kernel)) ggX12_canHave_X12_canHave
set_option maxRecDepth 20000 in
theorem ggX12_canHave_X12_may : GoodIn wsX12_canHave wsX12_may := goodIn_r _ [9, 10, 11, 12, 5, 13, 1, 14, 15, 16, 17, 18, 19, 20, 21, 22, 23, 24, 25, 26, 27, 28, 29, 30, 31, 32, 33, 34, 35, 36, 37, 38, 39, 40, 41, 42, 43, 44, 45] (by decide +kernel) (by decide +kernel)
set_option maxRecDepth 20000 in
theorem gX12_canHave_X12_may : GoodIn wsX12_canHave (wsV RX12 84 RX12 yX12_may wsX12_may) := goodIn_app (goodIn_of _ (by decide +kernel)) ggX12_canHave_X12_may
theorem dX12_canHave_0 : decode cX12_canHave 0 = .ok (.iload_n 3, 1) := by decide +kernel
theorem dX12_canHave_1 : decode cX12_canHave 1 = .ok (.ifCond .ne 18, 3) := by decide +kernel
theorem dX12_canHave_4 : decode cX12_canHave 4 = .ok (.iload_n 2, 1) := by decide +kernel
theorem dX12_canHave_5 : decode cX12_canHave 5 = .ok (.iload_n 1, 1) := by decide +kernel
theorem dX12_canHave_6 : decode cX12_canHave 6 = .ok (.ishr, 1) := by decide +kernel
theorem dX12_canHave_7 : decode cX12_canHave 7 = .ok (.iconst 1, 1) := by decide +kernel
theorem dX12_canHave_8 : decode cX12_canHave 8 = .ok (.iand, 1) := by decide +kernel
theorem dX12_canHave_9 : decode cX12_canHave 9 = .ok (.iconst 1, 1) := by decide +kernel
theorem dX12_canHave_10 : decode cX12_canHave 10 = .ok (.if_icmp .ne 7, 3) := by decide +kernel
theorem dX12_canHave_13 : decode cX12_canHave 13 = .ok (.iconst 1, 1) := by decide +kernel
theorem dX12_canHave_14 : decode cX12_canHave 14 = .ok (.goto 4, 3) := by decide +kernel
theorem dX12_canHave_17 : decode cX12_canHave 17 = .ok (.iconst 0, 1) := by decide +kernel
theorem dX12_canHave_18 : decode cX12_canHave 18 = .ok (.ireturn, 1) := by decide +kernel
theorem dX12_canHave_19 : decode cX12_canHave 19 = .ok (.aload_n 0, 1) := by decide +kernel
theorem dX12_canHave_20 : decode cX12_canHave 20 = .ok (.iload_n 1, 1) := by decide +kernel
theorem dX12_canHave_21 : decode cX12_canHave 21 = .ok (.iload_n 2, 1) := by decide +kernel
theorem dX12_canHave_22 : decode cX12_canHave 22 = .ok (.iload_n 3, 1) := by decide +kernel
theorem dX12_canHave_23 : decode cX12_canHave 23 = .ok (.iconst 1, 1) := by decide +kernel
theorem dX12_canHave_24 : decode cX12_canHave 24 = .ok (.isub, 1) := by decide +kernel
theorem dX12_canHave_25 : decode cX12_canHave 25 = .ok (.iload 4, 2) := by decide +kernel
theorem dX12_canHave_27 : decode cX12_canHave 27 = .ok (.ifCond .ne 7, 3) := by decide +kernel
theorem dX12_canHave_30 : decode cX12_canHave 30 = .ok (.iconst 1, 1) := by decide +kernel
theorem dX12_canHave_31 : decode cX12_canHave 31 = .ok (.goto 4, 3) := by decide +kernel
theorem dX12_canHave_34 : decode cX12_canHave 34 = .ok (.iconst 0, 1) := by decide +kernel
theorem dX12_canHave_35 : decode cX12_canHave 35 = .ok (.invokevirtual 170, 3) := by decide +kernel
theorem dX12_canHave_38 : decode cX12_canHave 38 = .ok (.istore 5, 2) := by decide +kernel
theorem dX12_canHave_40 : decode cX12_canHave 40 = .ok (.iload 5, 2) := by decide +kernel
theorem dX12_canHave_42 : decode cX12_canHave 42 = .ok (.iload 4, 2) := by decide +kernel
theorem dX12_canHave_44 : decode cX12_canHave 44 = .ok (.if_icmp .ne 6, 3) := by decide +kernel
theorem dX12_canHave_47 : decode cX12_canHave 47 = .ok (.iload 4, 2) := by decide +kernel
theorem dX12_canHave_49 : decode cX12_canHave 49 = .ok (.ireturn, 1) := by decide +kernel
theorem dX12_canHave_50 : decode cX12_canHave 50 = .ok (.iconst 0, 1) := by decide +kernel
theorem dX12_canHave_51 : decode cX12_canHave 51 = .ok (.istore 6, 2) := by decide +kernel
theorem dX12_canHave_53 : decode cX12_canHave 53 = .ok (.iload 6, 2) := by decide +kernel
theorem dX12_canHave_55 : decode cX12_canHave 55 = .ok (.aload_n 0, 1) := by decide +kernel
theorem dX12_canHave_56 : decode cX12_canHave 56 = .ok (.getfield 9, 3) := by decide +kernel
theorem dX12_canHave_59 : decode cX12_canHave 59 = .ok (.iconst 0, 1) := by decide +kernel
theorem dX12_canHave_60 : decode cX12_canHave 60 = .ok (.iaload, 1) := by decide +kernel
theorem dX12_canHave_61 : decode cX12_canHave 61 = .ok (.if_icmp .ge 51, 3) := by decide +kernel
theorem dX12_canHave_64 : decode cX12_canHave 64 = .ok (.aload_n 0, 1) := by decide +kernel
theorem dX12_canHave_65 : decode cX12_canHave 65 = .ok (.iload 6, 2) := by decide +kernel
theorem dX12_canHave_67 : decode cX12_canHave 67 = .ok (.iload_n 2, 1) := by decide +kernel
theorem dX12_canHave_68 : decode cX12_canHave 68 = .ok (.invokevirtual 84, 3) := by decide +kernel
theorem dX12_canHave_71 : decode cX12_canHave 71 = .ok (.ifCond .eq 35, 3) := by decide +kernel
theorem dX12_canHave_74 : decode cX12_canHave 74 = .ok (.aload_n 0, 1) := by decide +kernel
theorem dX12_canHave_75 : decode cX12_canHave 75 = .ok (.iload_n 1, 1) := by decide +kernel
theorem dX12_canHave_76 : decode cX12_canHave 76 = .ok (.iload_n 2, 1) := by decide +kernel
theorem dX12_canHave_77 : decode cX12_canHave 77 = .ok (.iconst 1, 1) := by decide +kernel
theorem dX12_canHave_78 : decode cX12_canHave 78 = .ok (.iload 6, 2) := by decide +kernel
theorem dX12_canHave_80 : decode cX12_canHave 80 = .ok (.ishl, 1) := by decide +kernel
theorem dX12_canHave_81 : decode cX12_canHave 81 = .ok (.ixor, 1) := by decide +kernel
theorem dX12_canHave_82 : decode cX12_canHave 82 = .ok (.iload_n 3, 1) := by decide +kernel
theorem dX12_canHave_83 : decode cX12_canHave 83 = .ok (.iconst 1, 1) := by decide +kernel
theorem dX12_canHave_84 : decode cX12_canHave 84 = .ok (.isub, 1) := by decide +kernel
theorem dX12_canHave_85 : decode cX12_canHave 85 = .ok (.iload 4, 2) := by decide +kernel
theorem dX12_canHave_87 : decode cX12_canHave 87 = .ok (.ifCond .ne 7, 3) := by decide +kernel
theorem dX12_canHave_90 : decode cX12_canHave 90 = .ok (.iconst 1, 1) := by decide +kernel
theorem dX12_canHave_91 : decode cX12_canHave 91 = .ok (.goto 4, 3) := by decide +kernel
theorem dX12_canHave_94 : decode cX12_canHave 94 = .ok (.iconst 0, 1) := by decide +kernel
theorem dX12_canHave_95 : decode cX12_canHave 95 = .ok (.invokevirtual 170, 3) := by decide +kernel
theorem dX12_canHave_98 : decode cX12_canHave 98 = .ok (.iload 4, 2) := by decide +kernel
theorem dX12_canHave_100 : decode cX12_canHave 100 = .ok (.if_icmp .ne 6, 3) := by decide +kernel
theorem dX12_canHave_103 : decode cX12_canHave 103 = .ok (.iload 4, 2) := by decide +kernel
theorem dX12_canHave_105 : decode cX12_canHave 105 = .ok (.ireturn, 1) := by decide +kernel
theorem dX12_canHave_106 : decode cX12_canHave 106 = .ok (.iinc 6 1, 3) := by decide +kernel
theorem dX12_canHave_109 : decode cX12_canHave 109 = .ok (.goto (-56), 3) := by decide +kernel
theorem dX12_canHave_112 : decode cX12_canHave 112 = .ok (.iload 4, 2) := by decide +kernel
theorem dX12_canHave_114 : decode cX12_canHave 114 = .ok (.ifCond .ne 7, 3) := by decide +kernel
theorem dX12_canHave_117 : decode cX12_canHave 117 = .ok (.iconst 1, 1) := by decide +kernel
theorem dX12_canHave_118 : decode cX12_canHave 118 = .ok (.goto 4, 3) := by decide +kernel
theorem dX12_canHave_121 : decode cX12_canHave 121 = .ok (.iconst 0, 1) := by decide +kernel
theorem dX12_canHave_122 : decode cX12_canHave 122 = .ok (.ireturn, 1) := by decide +kernel
set_option maxRecDepth 20000 in
theorem ggX12_game_X12_isDrawer : GoodIn wsX12_game wsX12_isDrawer := goodIn_r _ [7, 2, 8, 9, 6, 10, 36, 37, 38, 39, 40, 41, 42, 43, 44, 45, 46, 47, 48, 49, 50, 51, 52, 53, 54] (by decide +kernel) (by decide +kernel)
set_option maxRecDepth 20000 in
theorem gX12_game_X12_isDrawer : GoodIn wsX12_game (wsV RX12 114 RX12 yX12_isDrawer wsX12_isDrawer) := goodIn_app (goodIn_of _ (by decide +kernel)) ggX12_game_X12_isDrawer
set_option maxRecDepth 20000 in
theorem ggX12_game_X12_isIn : GoodIn wsX12_game wsX12_isIn := goodIn_r _ [10] (by decide +kernel) (by decide +kernel)
set_option maxRecDepth 20000 in
theorem gX12_game_X12_isIn : GoodIn wsX12_game (va_wsS RX12 55 yX12_isIn wsX12_isIn) := goodIn_app (goodIn_of _ (by decide +kernel)) ggX12_game_X12_isIn
set_option maxRecDepth 20000 in
theorem ggX12_game_X12_canHave : GoodIn wsX12_game wsX12_canHave := goodIn_r _ [14, 2, 11, 12, 13, 6, 15, 16, 17, 18, 19, 20, 21, 22, 23, 24, 25, 26, 27, 28, 29, 30, 31, 32, 33, 34, 35, 36, 37, 38, 39, 40, 41, 42, 43, 44, 45, 46, 47, 48, 49, 50, 51, 52, 53, 54] (by decide +kernel) (by decide +kernel)
set_option maxRecDepth 20000 in
theorem gX12_game_X12_canHave : GoodIn wsX12_game (wsV RX12 170 RX12 yX12_canHave wsX12_canHave) := goodIn_app (goodIn_of _ (by decide +kernel)) ggX12_game_X12_canHave
theorem dX12_game_0 : decode cX12_game 0 = .ok (.aload_n 0, 1) := by decide +kernel
theorem dX12_game_1 : decode cX12_game 1 = .ok (.iload_n 1, 1) := by decide +kernel
theorem dX12_game_2 : decode cX12_game 2 = .ok (.invokevirtual 114, 3) := by decide +kernel
theorem dX12_game_5 : decode cX12_game 5 = .ok (.ifCond .eq 15, 3) := by decide +kernel
theorem dX12_game_8 : decode cX12_game 8 = .ok (.iload_n 2, 1) := by decide +kernel
theorem dX12_game_9 : decode cX12_game 9 = .ok (.i2l, 1) := by decide +kernel
theorem dX12_game_10 : decode cX12_game 10 = .ok (.lconst 0, 1) := by decide +kernel
theorem dX12_game_11 : decode cX12_game 11 = .ok (.ldc2_w 174, 3) := by decide +kernel
theorem dX12_game_14 : decode cX12_game 14 = .ok (.invokestatic 55, 3) := by decide +kernel
theorem dX12_game_17 : decode cX12_game 17 = .ok (.ifCond .ne 7, 3) := by decide +kernel
theorem dX12_game_20 : decode cX12_game 20 = .ok (.iconst (-1), 1) := by decide +kernel
theorem dX12_game_21 : decode cX12_game 21 = .ok (.goto 24, 3) := by decide +kernel
theorem dX12_game_24 : decode cX12_game 24 = .ok (.aload_n 0, 1) := by decide +kernel
theorem dX12_game_25 : decode cX12_game 25 = .ok (.iload_n 1, 1) := by decide +kernel
theorem dX12_game_26 : decode cX12_game 26 = .ok (.aload_n 0, 1) := by decide +kernel
theorem dX12_game_27 : decode cX12_game 27 = .ok (.getfield 9, 3) := by decide +kernel
theorem dX12_game_30 : decode cX12_game 30 = .ok (.iconst 1, 1) := by decide +kernel
theorem dX12_game_31 : decode cX12_game 31 = .ok (.iaload, 1) := by decide +kernel
theorem dX12_game_32 : decode cX12_game 32 = .ok (.iload_n 2, 1) := by decide +kernel
theorem dX12_game_33 : decode cX12_game 33 = .ok (.iconst 1, 1) := by decide +kernel
theorem dX12_game_34 : decode cX12_game 34 = .ok (.invokevirtual 170, 3) := by decide +kernel
theorem dX12_game_37 : decode cX12_game 37 = .ok (.ifCond .eq 7, 3) := by decide +kernel
theorem dX12_game_40 : decode cX12_game 40 = .ok (.iconst 1, 1) := by decide +kernel
theorem dX12_game_41 : decode cX12_game 41 = .ok (.goto 4, 3) := by decide +kernel
theorem dX12_game_44 : decode cX12_game 44 = .ok (.iconst 0, 1) := by decide +kernel
theorem dX12_game_45 : decode cX12_game 45 = .ok (.ireturn, 1) := by decide +kernel
set_option maxRecDepth 20000 in
theorem ggX12_run_X12_isShelf : GoodIn wsX12_run wsX12_isShelf := goodIn_r _ [6, 7, 8, 9, 5, 10] (by decide +kernel) (by decide +kernel)
set_option maxRecDepth 20000 in
theorem gX12_run_X12_isShelf : GoodIn wsX12_run (va_wsS RX12 119 yX12_isShelf wsX12_isShelf) := goodIn_app (goodIn_of _ (by decide +kernel)) ggX12_run_X12_isShelf
set_option maxRecDepth 20000 in
theorem ggX12_run_X12_isIn : GoodIn wsX12_run wsX12_isIn := goodIn_r _ [10] (by decide +kernel) (by decide +kernel)
set_option maxRecDepth 20000 in
theorem gX12_run_X12_isIn : GoodIn wsX12_run (va_wsS RX12 55 yX12_isIn wsX12_isIn) := goodIn_app (goodIn_of _ (by decide +kernel)) ggX12_run_X12_isIn
set_option maxRecDepth 20000 in
theorem ggX12_run_X12_wrongRow : GoodIn wsX12_run wsX12_wrongRow := goodIn_r _ [14, 15, 16, 3, 4, 5, 6, 7, 8, 9, 10, 63, 64, 65, 66, 67, 68, 69, 70, 71, 72, 73, 74, 75, 76, 77, 78, 79, 80, 81] (by decide +kernel) (by decide +kernel)
set_option maxRecDepth 20000 in
theorem gX12_run_X12_wrongRow : GoodIn wsX12_run (wsV RX12 122 RX12 yX12_wrongRow wsX12_wrongRow) := goodIn_app (goodIn_of _ (by decide +kernel)) ggX12_run_X12_wrongRow
set_option maxRecDepth 20000 in
theorem ggX12_run_X12_told : GoodIn wsX12_run wsX12_told := goodIn_r _ [20, 21, 63, 64, 65, 66, 67, 68, 69, 70, 71, 72, 73, 74, 75, 76, 77, 78, 79, 80, 81] (by decide +kernel) (by decide +kernel)
set_option maxRecDepth 20000 in
theorem gX12_run_X12_told : GoodIn wsX12_run (wsV RX12 162 RX12 yX12_told wsX12_told) := goodIn_app (goodIn_of _ (by decide +kernel)) ggX12_run_X12_told
set_option maxRecDepth 20000 in
theorem ggX12_run_X12_isDrawer : GoodIn wsX12_run wsX12_isDrawer := goodIn_r _ [25, 2, 8, 9, 5, 10, 63, 64, 65, 66, 67, 68, 69, 70, 71, 72, 73, 74, 75, 76, 77, 78, 79, 80, 81] (by decide +kernel) (by decide +kernel)
set_option maxRecDepth 20000 in
theorem gX12_run_X12_isDrawer : GoodIn wsX12_run (wsV RX12 114 RX12 yX12_isDrawer wsX12_isDrawer) := goodIn_app (goodIn_of _ (by decide +kernel)) ggX12_run_X12_isDrawer
set_option maxRecDepth 20000 in
theorem ggX12_run_X12_begins : GoodIn wsX12_run wsX12_begins := goodIn_r _ [29, 2, 30, 31, 32, 5, 33, 63, 64, 65, 66, 67, 68, 69, 70, 71, 72, 73, 74, 75, 76, 77, 78, 79, 80, 81] (by decide +kernel) (by decide +kernel)
set_option maxRecDepth 20000 in
theorem gX12_run_X12_begins : GoodIn wsX12_run (wsV RX12 154 RX12 yX12_begins wsX12_begins) := goodIn_app (goodIn_of _ (by decide +kernel)) ggX12_run_X12_begins
set_option maxRecDepth 20000 in
theorem ggX12_run_X12_pulls : GoodIn wsX12_run wsX12_pulls := goodIn_r _ [37, 2, 38, 39, 40, 5, 41, 42, 43, 44, 45, 46, 47, 48, 49, 50, 51, 52, 53, 54, 55, 56, 57, 58, 63, 64, 65, 66, 67, 68, 69, 70, 71, 72, 73, 74, 75, 76, 77, 78, 79, 80, 81] (by decide +kernel) (by decide +kernel)
set_option maxRecDepth 20000 in
theorem gX12_run_X12_pulls : GoodIn wsX12_run (wsV RX12 117 RX12 yX12_pulls wsX12_pulls) := goodIn_app (goodIn_of _ (by decide +kernel)) ggX12_run_X12_pulls
set_option maxRecDepth 20000 in
theorem ggX12_run_X12_ends : GoodIn wsX12_run wsX12_ends := goodIn_r _ [62, 30, 2, 31, 32, 5, 33, 63, 64, 65, 66, 67, 68, 69, 70, 71, 72, 73, 74, 75, 76, 77, 78, 79, 80, 81] (by decide +kernel) (by decide +kernel)
set_option maxRecDepth 20000 in
theorem gX12_run_X12_ends : GoodIn wsX12_run (wsV RX12 157 RX12 yX12_ends wsX12_ends) := goodIn_app (goodIn_of _ (by decide +kernel)) ggX12_run_X12_ends
theorem dX12_run_0 : decode cX12_run 0 = .ok (.iload_n 1, 1) := by decide +kernel
theorem dX12_run_1 : decode cX12_run 1 = .ok (.invokestatic 119, 3) := by decide +kernel
theorem dX12_run_4 : decode cX12_run 4 = .ok (.ifCond .eq 13, 3) := by decide +kernel
theorem dX12_run_7 : decode cX12_run 7 = .ok (.iload_n 2, 1) := by decide +kernel
theorem dX12_run_8 : decode cX12_run 8 = .ok (.i2l, 1) := by decide +kernel
theorem dX12_run_9 : decode cX12_run 9 = .ok (.lconst 0, 1) := by decide +kernel
theorem dX12_run_10 : decode cX12_run 10 = .ok (.lconst 1, 1) := by decide +kernel
theorem dX12_run_11 : decode cX12_run 11 = .ok (.invokestatic 55, 3) := by decide +kernel
theorem dX12_run_14 : decode cX12_run 14 = .ok (.ifCond .ne 7, 3) := by decide +kernel
theorem dX12_run_17 : decode cX12_run 17 = .ok (.iconst (-1), 1) := by decide +kernel
theorem dX12_run_18 : decode cX12_run 18 = .ok (.goto 9, 3) := by decide +kernel
theorem dX12_run_21 : decode cX12_run 21 = .ok (.aload_n 0, 1) := by decide +kernel
theorem dX12_run_22 : decode cX12_run 22 = .ok (.iload_n 1, 1) := by decide +kernel
theorem dX12_run_23 : decode cX12_run 23 = .ok (.iconst 0, 1) := by decide +kernel
theorem dX12_run_24 : decode cX12_run 24 = .ok (.invokevirtual 122, 3) := by decide +kernel
theorem dX12_run_27 : decode cX12_run 27 = .ok (.istore_n 3, 1) := by decide +kernel
theorem dX12_run_28 : decode cX12_run 28 = .ok (.iconst 0, 1) := by decide +kernel
theorem dX12_run_29 : decode cX12_run 29 = .ok (.istore 4, 2) := by decide +kernel
theorem dX12_run_31 : decode cX12_run 31 = .ok (.iload_n 3, 1) := by decide +kernel
theorem dX12_run_32 : decode cX12_run 32 = .ok (.ifCond .ne 41, 3) := by decide +kernel
theorem dX12_run_35 : decode cX12_run 35 = .ok (.iload 4, 2) := by decide +kernel
theorem dX12_run_37 : decode cX12_run 37 = .ok (.aload_n 0, 1) := by decide +kernel
theorem dX12_run_38 : decode cX12_run 38 = .ok (.getfield 28, 3) := by decide +kernel
theorem dX12_run_41 : decode cX12_run 41 = .ok (.iload_n 1, 1) := by decide +kernel
theorem dX12_run_42 : decode cX12_run 42 = .ok (.iaload, 1) := by decide +kernel
theorem dX12_run_43 : decode cX12_run 43 = .ok (.if_icmp .ge 30, 3) := by decide +kernel
theorem dX12_run_46 : decode cX12_run 46 = .ok (.aload_n 0, 1) := by decide +kernel
theorem dX12_run_47 : decode cX12_run 47 = .ok (.aload_n 0, 1) := by decide +kernel
theorem dX12_run_48 : decode cX12_run 48 = .ok (.iload_n 1, 1) := by decide +kernel
theorem dX12_run_49 : decode cX12_run 49 = .ok (.iload 4, 2) := by decide +kernel
theorem dX12_run_51 : decode cX12_run 51 = .ok (.invokevirtual 162, 3) := by decide +kernel
theorem dX12_run_54 : decode cX12_run 54 = .ok (.invokevirtual 114, 3) := by decide +kernel
theorem dX12_run_57 : decode cX12_run 57 = .ok (.ifCond .eq 7, 3) := by decide +kernel
theorem dX12_run_60 : decode cX12_run 60 = .ok (.iconst 0, 1) := by decide +kernel
theorem dX12_run_61 : decode cX12_run 61 = .ok (.goto 5, 3) := by decide +kernel
theorem dX12_run_64 : decode cX12_run 64 = .ok (.bipush (-13), 2) := by decide +kernel
theorem dX12_run_66 : decode cX12_run 66 = .ok (.istore_n 3, 1) := by decide +kernel
theorem dX12_run_67 : decode cX12_run 67 = .ok (.iinc 4 1, 3) := by decide +kernel
theorem dX12_run_70 : decode cX12_run 70 = .ok (.goto (-39), 3) := by decide +kernel
theorem dX12_run_73 : decode cX12_run 73 = .ok (.iload_n 3, 1) := by decide +kernel
theorem dX12_run_74 : decode cX12_run 74 = .ok (.ifCond .eq 5, 3) := by decide +kernel
theorem dX12_run_77 : decode cX12_run 77 = .ok (.iload_n 3, 1) := by decide +kernel
theorem dX12_run_78 : decode cX12_run 78 = .ok (.ireturn, 1) := by decide +kernel
theorem dX12_run_79 : decode cX12_run 79 = .ok (.aload_n 0, 1) := by decide +kernel
theorem dX12_run_80 : decode cX12_run 80 = .ok (.invokevirtual 154, 3) := by decide +kernel
theorem dX12_run_83 : decode cX12_run 83 = .ok (.iconst 0, 1) := by decide +kernel
theorem dX12_run_84 : decode cX12_run 84 = .ok (.istore 4, 2) := by decide +kernel
theorem dX12_run_86 : decode cX12_run 86 = .ok (.iconst 0, 1) := by decide +kernel
theorem dX12_run_87 : decode cX12_run 87 = .ok (.istore 5, 2) := by decide +kernel
theorem dX12_run_89 : decode cX12_run 89 = .ok (.iload 5, 2) := by decide +kernel
theorem dX12_run_91 : decode cX12_run 91 = .ok (.aload_n 0, 1) := by decide +kernel
theorem dX12_run_92 : decode cX12_run 92 = .ok (.getfield 28, 3) := by decide +kernel
theorem dX12_run_95 : decode cX12_run 95 = .ok (.iload_n 1, 1) := by decide +kernel
theorem dX12_run_96 : decode cX12_run 96 = .ok (.iaload, 1) := by decide +kernel
theorem dX12_run_97 : decode cX12_run 97 = .ok (.if_icmp .ge 33, 3) := by decide +kernel
theorem dX12_run_100 : decode cX12_run 100 = .ok (.iload 4, 2) := by decide +kernel
theorem dX12_run_102 : decode cX12_run 102 = .ok (.aload_n 0, 1) := by decide +kernel
theorem dX12_run_103 : decode cX12_run 103 = .ok (.aload_n 0, 1) := by decide +kernel
theorem dX12_run_104 : decode cX12_run 104 = .ok (.iload_n 1, 1) := by decide +kernel
theorem dX12_run_105 : decode cX12_run 105 = .ok (.iload 5, 2) := by decide +kernel
theorem dX12_run_107 : decode cX12_run 107 = .ok (.invokevirtual 162, 3) := by decide +kernel
theorem dX12_run_110 : decode cX12_run 110 = .ok (.invokevirtual 117, 3) := by decide +kernel
theorem dX12_run_113 : decode cX12_run 113 = .ok (.ifCond .eq 7, 3) := by decide +kernel
theorem dX12_run_116 : decode cX12_run 116 = .ok (.iconst 1, 1) := by decide +kernel
theorem dX12_run_117 : decode cX12_run 117 = .ok (.goto 4, 3) := by decide +kernel
theorem dX12_run_120 : decode cX12_run 120 = .ok (.iconst 0, 1) := by decide +kernel
theorem dX12_run_121 : decode cX12_run 121 = .ok (.iadd, 1) := by decide +kernel
theorem dX12_run_122 : decode cX12_run 122 = .ok (.istore 4, 2) := by decide +kernel
theorem dX12_run_124 : decode cX12_run 124 = .ok (.iinc 5 1, 3) := by decide +kernel
theorem dX12_run_127 : decode cX12_run 127 = .ok (.goto (-38), 3) := by decide +kernel
theorem dX12_run_130 : decode cX12_run 130 = .ok (.aload_n 0, 1) := by decide +kernel
theorem dX12_run_131 : decode cX12_run 131 = .ok (.getfield 9, 3) := by decide +kernel
theorem dX12_run_134 : decode cX12_run 134 = .ok (.iconst 1, 1) := by decide +kernel
theorem dX12_run_135 : decode cX12_run 135 = .ok (.iaload, 1) := by decide +kernel
theorem dX12_run_136 : decode cX12_run 136 = .ok (.istore 5, 2) := by decide +kernel
theorem dX12_run_138 : decode cX12_run 138 = .ok (.aload_n 0, 1) := by decide +kernel
theorem dX12_run_139 : decode cX12_run 139 = .ok (.invokevirtual 157, 3) := by decide +kernel
theorem dX12_run_142 : decode cX12_run 142 = .ok (.iload_n 2, 1) := by decide +kernel
theorem dX12_run_143 : decode cX12_run 143 = .ok (.ifCond .ne 8, 3) := by decide +kernel
theorem dX12_run_146 : decode cX12_run 146 = .ok (.iload 5, 2) := by decide +kernel
theorem dX12_run_148 : decode cX12_run 148 = .ok (.goto 5, 3) := by decide +kernel
theorem dX12_run_151 : decode cX12_run 151 = .ok (.iload 4, 2) := by decide +kernel
theorem dX12_run_153 : decode cX12_run 153 = .ok (.ireturn, 1) := by decide +kernel
theorem dX12_drawn_0 : decode cX12_drawn 0 = .ok (.aload_n 0, 1) := by decide +kernel
theorem dX12_drawn_1 : decode cX12_drawn 1 = .ok (.aload_n 0, 1) := by decide +kernel
theorem dX12_drawn_2 : decode cX12_drawn 2 = .ok (.getfield 176, 3) := by decide +kernel
theorem dX12_drawn_5 : decode cX12_drawn 5 = .ok (.ldc 179, 2) := by decide +kernel
theorem dX12_drawn_7 : decode cX12_drawn 7 = .ok (.imul, 1) := by decide +kernel
theorem dX12_drawn_8 : decode cX12_drawn 8 = .ok (.sipush 12345, 3) := by decide +kernel
theorem dX12_drawn_11 : decode cX12_drawn 11 = .ok (.iadd, 1) := by decide +kernel
theorem dX12_drawn_12 : decode cX12_drawn 12 = .ok (.putfield 176, 3) := by decide +kernel
theorem dX12_drawn_15 : decode cX12_drawn 15 = .ok (.aload_n 0, 1) := by decide +kernel
theorem dX12_drawn_16 : decode cX12_drawn 16 = .ok (.getfield 176, 3) := by decide +kernel
theorem dX12_drawn_19 : decode cX12_drawn 19 = .ok (.ldc 180, 2) := by decide +kernel
theorem dX12_drawn_21 : decode cX12_drawn 21 = .ok (.iand, 1) := by decide +kernel
theorem dX12_drawn_22 : decode cX12_drawn 22 = .ok (.ldc 181, 2) := by decide +kernel
theorem dX12_drawn_24 : decode cX12_drawn 24 = .ok (.idiv, 1) := by decide +kernel
theorem dX12_drawn_25 : decode cX12_drawn 25 = .ok (.iload_n 1, 1) := by decide +kernel
theorem dX12_drawn_26 : decode cX12_drawn 26 = .ok (.irem, 1) := by decide +kernel
theorem dX12_drawn_27 : decode cX12_drawn 27 = .ok (.ireturn, 1) := by decide +kernel
set_option maxRecDepth 20000 in
theorem ggX12_seeded_X12_isIn : GoodIn wsX12_seeded wsX12_isIn := goodIn_r _ [7] (by decide +kernel) (by decide +kernel)
set_option maxRecDepth 20000 in
theorem gX12_seeded_X12_isIn : GoodIn wsX12_seeded (va_wsS RX12 55 yX12_isIn wsX12_isIn) := goodIn_app (goodIn_of _ (by decide +kernel)) ggX12_seeded_X12_isIn
set_option maxRecDepth 20000 in
theorem ggX12_seeded_X12_begins : GoodIn wsX12_seeded wsX12_begins := goodIn_r _ [11, 2, 12, 13, 14, 6, 15, 52, 53, 54, 55, 56, 57, 58, 59, 60, 61, 62, 63, 64, 65, 66, 67, 68, 69, 70] (by decide +kernel) (by decide +kernel)
set_option maxRecDepth 20000 in
theorem gX12_seeded_X12_begins : GoodIn wsX12_seeded (wsV RX12 154 RX12 yX12_begins wsX12_begins) := goodIn_app (goodIn_of _ (by decide +kernel)) ggX12_seeded_X12_begins
set_option maxRecDepth 20000 in
theorem ggX12_seeded_X12_drawn : GoodIn wsX12_seeded wsX12_drawn := goodIn_r _ [19, 3, 20, 21, 22, 52, 53, 54, 55, 56, 57, 58, 59, 60, 61, 62, 63, 64, 65, 66, 67, 68, 69, 70] (by decide +kernel) (by decide +kernel)
set_option maxRecDepth 20000 in
theorem gX12_seeded_X12_drawn : GoodIn wsX12_seeded (wsV RX12 184 RX12 yX12_drawn wsX12_drawn) := goodIn_app (goodIn_of _ (by decide +kernel)) ggX12_seeded_X12_drawn
set_option maxRecDepth 20000 in
theorem ggX12_seeded_X12_pulls : GoodIn wsX12_seeded wsX12_pulls := goodIn_r _ [26, 2, 27, 28, 29, 6, 30, 31, 32, 33, 34, 35, 36, 37, 38, 39, 40, 41, 42, 43, 44, 45, 46, 47, 52, 53, 54, 55, 56, 57, 58, 59, 60, 61, 62, 63, 64, 65, 66, 67, 68, 69, 70] (by decide +kernel) (by decide +kernel)
set_option maxRecDepth 20000 in
theorem gX12_seeded_X12_pulls : GoodIn wsX12_seeded (wsV RX12 117 RX12 yX12_pulls wsX12_pulls) := goodIn_app (goodIn_of _ (by decide +kernel)) ggX12_seeded_X12_pulls
set_option maxRecDepth 20000 in
theorem ggX12_seeded_X12_ends : GoodIn wsX12_seeded wsX12_ends := goodIn_r _ [51, 12, 2, 13, 14, 6, 15, 52, 53, 54, 55, 56, 57, 58, 59, 60, 61, 62, 63, 64, 65, 66, 67, 68, 69, 70] (by decide +kernel) (by decide +kernel)
set_option maxRecDepth 20000 in
theorem gX12_seeded_X12_ends : GoodIn wsX12_seeded (wsV RX12 157 RX12 yX12_ends wsX12_ends) := goodIn_app (goodIn_of _ (by decide +kernel)) ggX12_seeded_X12_ends
theorem dX12_seeded_0 : decode cX12_seeded 0 = .ok (.iload_n 1, 1) := by decide +kernel
theorem dX12_seeded_1 : decode cX12_seeded 1 = .ok (.i2l, 1) := by decide +kernel
theorem dX12_seeded_2 : decode cX12_seeded 2 = .ok (.lconst 1, 1) := by decide +kernel
theorem dX12_seeded_3 : decode cX12_seeded 3 = .ok (.ldc2_w 182, 3) := by decide +kernel
theorem dX12_seeded_6 : decode cX12_seeded 6 = .ok (.invokestatic 55, 3) := by decide +kernel
theorem dX12_seeded_9 : decode cX12_seeded 9 = .ok (.ifCond .eq 13, 3) := by decide +kernel
theorem dX12_seeded_12 : decode cX12_seeded 12 = .ok (.iload_n 3, 1) := by decide +kernel
theorem dX12_seeded_13 : decode cX12_seeded 13 = .ok (.i2l, 1) := by decide +kernel
theorem dX12_seeded_14 : decode cX12_seeded 14 = .ok (.lconst 0, 1) := by decide +kernel
theorem dX12_seeded_15 : decode cX12_seeded 15 = .ok (.lconst 1, 1) := by decide +kernel
theorem dX12_seeded_16 : decode cX12_seeded 16 = .ok (.invokestatic 55, 3) := by decide +kernel
theorem dX12_seeded_19 : decode cX12_seeded 19 = .ok (.ifCond .ne 5, 3) := by decide +kernel
theorem dX12_seeded_22 : decode cX12_seeded 22 = .ok (.iconst (-1), 1) := by decide +kernel
theorem dX12_seeded_23 : decode cX12_seeded 23 = .ok (.ireturn, 1) := by decide +kernel
theorem dX12_seeded_24 : decode cX12_seeded 24 = .ok (.aload_n 0, 1) := by decide +kernel
theorem dX12_seeded_25 : decode cX12_seeded 25 = .ok (.getfield 9, 3) := by decide +kernel
theorem dX12_seeded_28 : decode cX12_seeded 28 = .ok (.iconst 0, 1) := by decide +kernel
theorem dX12_seeded_29 : decode cX12_seeded 29 = .ok (.iaload, 1) := by decide +kernel
theorem dX12_seeded_30 : decode cX12_seeded 30 = .ok (.ifCond .ne 6, 3) := by decide +kernel
theorem dX12_seeded_33 : decode cX12_seeded 33 = .ok (.bipush (-3), 2) := by decide +kernel
theorem dX12_seeded_35 : decode cX12_seeded 35 = .ok (.ireturn, 1) := by decide +kernel
theorem dX12_seeded_36 : decode cX12_seeded 36 = .ok (.aload_n 0, 1) := by decide +kernel
theorem dX12_seeded_37 : decode cX12_seeded 37 = .ok (.invokevirtual 154, 3) := by decide +kernel
theorem dX12_seeded_40 : decode cX12_seeded 40 = .ok (.aload_n 0, 1) := by decide +kernel
theorem dX12_seeded_41 : decode cX12_seeded 41 = .ok (.iload_n 2, 1) := by decide +kernel
theorem dX12_seeded_42 : decode cX12_seeded 42 = .ok (.putfield 176, 3) := by decide +kernel
theorem dX12_seeded_45 : decode cX12_seeded 45 = .ok (.iconst 0, 1) := by decide +kernel
theorem dX12_seeded_46 : decode cX12_seeded 46 = .ok (.istore 4, 2) := by decide +kernel
theorem dX12_seeded_48 : decode cX12_seeded 48 = .ok (.iconst 0, 1) := by decide +kernel
theorem dX12_seeded_49 : decode cX12_seeded 49 = .ok (.istore 5, 2) := by decide +kernel
theorem dX12_seeded_51 : decode cX12_seeded 51 = .ok (.iload 5, 2) := by decide +kernel
theorem dX12_seeded_53 : decode cX12_seeded 53 = .ok (.iload_n 1, 1) := by decide +kernel
theorem dX12_seeded_54 : decode cX12_seeded 54 = .ok (.if_icmp .ge 36, 3) := by decide +kernel
theorem dX12_seeded_57 : decode cX12_seeded 57 = .ok (.iload 4, 2) := by decide +kernel
theorem dX12_seeded_59 : decode cX12_seeded 59 = .ok (.aload_n 0, 1) := by decide +kernel
theorem dX12_seeded_60 : decode cX12_seeded 60 = .ok (.aload_n 0, 1) := by decide +kernel
theorem dX12_seeded_61 : decode cX12_seeded 61 = .ok (.aload_n 0, 1) := by decide +kernel
theorem dX12_seeded_62 : decode cX12_seeded 62 = .ok (.getfield 9, 3) := by decide +kernel
theorem dX12_seeded_65 : decode cX12_seeded 65 = .ok (.iconst 0, 1) := by decide +kernel
theorem dX12_seeded_66 : decode cX12_seeded 66 = .ok (.iaload, 1) := by decide +kernel
theorem dX12_seeded_67 : decode cX12_seeded 67 = .ok (.invokevirtual 184, 3) := by decide +kernel
theorem dX12_seeded_70 : decode cX12_seeded 70 = .ok (.invokevirtual 117, 3) := by decide +kernel
theorem dX12_seeded_73 : decode cX12_seeded 73 = .ok (.ifCond .eq 7, 3) := by decide +kernel
theorem dX12_seeded_76 : decode cX12_seeded 76 = .ok (.iconst 1, 1) := by decide +kernel
theorem dX12_seeded_77 : decode cX12_seeded 77 = .ok (.goto 4, 3) := by decide +kernel
theorem dX12_seeded_80 : decode cX12_seeded 80 = .ok (.iconst 0, 1) := by decide +kernel
theorem dX12_seeded_81 : decode cX12_seeded 81 = .ok (.iadd, 1) := by decide +kernel
theorem dX12_seeded_82 : decode cX12_seeded 82 = .ok (.istore 4, 2) := by decide +kernel
theorem dX12_seeded_84 : decode cX12_seeded 84 = .ok (.iinc 5 1, 3) := by decide +kernel
theorem dX12_seeded_87 : decode cX12_seeded 87 = .ok (.goto (-36), 3) := by decide +kernel
theorem dX12_seeded_90 : decode cX12_seeded 90 = .ok (.aload_n 0, 1) := by decide +kernel
theorem dX12_seeded_91 : decode cX12_seeded 91 = .ok (.getfield 9, 3) := by decide +kernel
theorem dX12_seeded_94 : decode cX12_seeded 94 = .ok (.iconst 1, 1) := by decide +kernel
theorem dX12_seeded_95 : decode cX12_seeded 95 = .ok (.iaload, 1) := by decide +kernel
theorem dX12_seeded_96 : decode cX12_seeded 96 = .ok (.istore 5, 2) := by decide +kernel
theorem dX12_seeded_98 : decode cX12_seeded 98 = .ok (.aload_n 0, 1) := by decide +kernel
theorem dX12_seeded_99 : decode cX12_seeded 99 = .ok (.invokevirtual 157, 3) := by decide +kernel
theorem dX12_seeded_102 : decode cX12_seeded 102 = .ok (.iload_n 3, 1) := by decide +kernel
theorem dX12_seeded_103 : decode cX12_seeded 103 = .ok (.ifCond .ne 8, 3) := by decide +kernel
theorem dX12_seeded_106 : decode cX12_seeded 106 = .ok (.iload 5, 2) := by decide +kernel
theorem dX12_seeded_108 : decode cX12_seeded 108 = .ok (.goto 5, 3) := by decide +kernel
theorem dX12_seeded_111 : decode cX12_seeded 111 = .ok (.iload 4, 2) := by decide +kernel
theorem dX12_seeded_113 : decode cX12_seeded 113 = .ok (.ireturn, 1) := by decide +kernel
set_option maxRecDepth 20000 in
theorem ggX12_judge_X12_wrongRow : GoodIn wsX12_judge wsX12_wrongRow := goodIn_r _ [6, 7, 8, 9, 10, 5, 11, 12, 13, 14, 15, 63, 64, 65, 66, 67, 68, 69, 70, 71, 72, 73, 74, 75, 76, 77, 78, 79, 80, 81] (by decide +kernel) (by decide +kernel)
set_option maxRecDepth 20000 in
theorem gX12_judge_X12_wrongRow : GoodIn wsX12_judge (wsV RX12 122 RX12 yX12_wrongRow wsX12_wrongRow) := goodIn_app (goodIn_of _ (by decide +kernel)) ggX12_judge_X12_wrongRow
set_option maxRecDepth 20000 in
theorem ggX12_judge_X12_begins : GoodIn wsX12_judge wsX12_begins := goodIn_r _ [19, 20, 21, 22, 23, 5, 24, 63, 64, 65, 66, 67, 68, 69, 70, 71, 72, 73, 74, 75, 76, 77, 78, 79, 80, 81] (by decide +kernel) (by decide +kernel)
set_option maxRecDepth 20000 in
theorem gX12_judge_X12_begins : GoodIn wsX12_judge (wsV RX12 154 RX12 yX12_begins wsX12_begins) := goodIn_app (goodIn_of _ (by decide +kernel)) ggX12_judge_X12_begins
set_option maxRecDepth 20000 in
theorem ggX12_judge_X12_told : GoodIn wsX12_judge wsX12_told := goodIn_r _ [28, 29, 63, 64, 65, 66, 67, 68, 69, 70, 71, 72, 73, 74, 75, 76, 77, 78, 79, 80, 81] (by decide +kernel) (by decide +kernel)
set_option maxRecDepth 20000 in
theorem gX12_judge_X12_told : GoodIn wsX12_judge (wsV RX12 162 RX12 yX12_told wsX12_told) := goodIn_app (goodIn_of _ (by decide +kernel)) ggX12_judge_X12_told
set_option maxRecDepth 20000 in
theorem ggX12_judge_X12_isDrawer : GoodIn wsX12_judge wsX12_isDrawer := goodIn_r _ [33, 20, 13, 14, 5, 15, 63, 64, 65, 66, 67, 68, 69, 70, 71, 72, 73, 74, 75, 76, 77, 78, 79, 80, 81] (by decide +kernel) (by decide +kernel)
set_option maxRecDepth 20000 in
theorem gX12_judge_X12_isDrawer : GoodIn wsX12_judge (wsV RX12 114 RX12 yX12_isDrawer wsX12_isDrawer) := goodIn_app (goodIn_of _ (by decide +kernel)) ggX12_judge_X12_isDrawer
set_option maxRecDepth 20000 in
theorem ggX12_judge_X12_pulls : GoodIn wsX12_judge wsX12_pulls := goodIn_r _ [37, 20, 38, 39, 40, 5, 41, 42, 43, 44, 45, 46, 47, 48, 49, 50, 51, 52, 53, 54, 55, 56, 57, 58, 63, 64, 65, 66, 67, 68, 69, 70, 71, 72, 73, 74, 75, 76, 77, 78, 79, 80, 81] (by decide +kernel) (by decide +kernel)
set_option maxRecDepth 20000 in
theorem gX12_judge_X12_pulls : GoodIn wsX12_judge (wsV RX12 117 RX12 yX12_pulls wsX12_pulls) := goodIn_app (goodIn_of _ (by decide +kernel)) ggX12_judge_X12_pulls
set_option maxRecDepth 20000 in
theorem ggX12_judge_X12_ends : GoodIn wsX12_judge wsX12_ends := goodIn_r _ [62, 21, 20, 22, 23, 5, 24, 63, 64, 65, 66, 67, 68, 69, 70, 71, 72, 73, 74, 75, 76, 77, 78, 79, 80, 81] (by decide +kernel) (by decide +kernel)
set_option maxRecDepth 20000 in
theorem gX12_judge_X12_ends : GoodIn wsX12_judge (wsV RX12 157 RX12 yX12_ends wsX12_ends) := goodIn_app (goodIn_of _ (by decide +kernel)) ggX12_judge_X12_ends
theorem dX12_judge_0 : decode cX12_judge 0 = .ok (.aload_n 0, 1) := by decide +kernel
theorem dX12_judge_1 : decode cX12_judge 1 = .ok (.iload_n 1, 1) := by decide +kernel
theorem dX12_judge_2 : decode cX12_judge 2 = .ok (.iconst (-1), 1) := by decide +kernel
theorem dX12_judge_3 : decode cX12_judge 3 = .ok (.invokevirtual 122, 3) := by decide +kernel
theorem dX12_judge_6 : decode cX12_judge 6 = .ok (.istore_n 2, 1) := by decide +kernel
theorem dX12_judge_7 : decode cX12_judge 7 = .ok (.iload_n 2, 1) := by decide +kernel
theorem dX12_judge_8 : decode cX12_judge 8 = .ok (.ifCond .eq 5, 3) := by decide +kernel
theorem dX12_judge_11 : decode cX12_judge 11 = .ok (.iload_n 2, 1) := by decide +kernel
theorem dX12_judge_12 : decode cX12_judge 12 = .ok (.ireturn, 1) := by decide +kernel
theorem dX12_judge_13 : decode cX12_judge 13 = .ok (.aload_n 0, 1) := by decide +kernel
theorem dX12_judge_14 : decode cX12_judge 14 = .ok (.invokevirtual 154, 3) := by decide +kernel
theorem dX12_judge_17 : decode cX12_judge 17 = .ok (.bipush (-4), 2) := by decide +kernel
theorem dX12_judge_19 : decode cX12_judge 19 = .ok (.istore_n 3, 1) := by decide +kernel
theorem dX12_judge_20 : decode cX12_judge 20 = .ok (.iconst 0, 1) := by decide +kernel
theorem dX12_judge_21 : decode cX12_judge 21 = .ok (.istore 4, 2) := by decide +kernel
theorem dX12_judge_23 : decode cX12_judge 23 = .ok (.iload 4, 2) := by decide +kernel
theorem dX12_judge_25 : decode cX12_judge 25 = .ok (.aload_n 0, 1) := by decide +kernel
theorem dX12_judge_26 : decode cX12_judge 26 = .ok (.getfield 28, 3) := by decide +kernel
theorem dX12_judge_29 : decode cX12_judge 29 = .ok (.iload_n 1, 1) := by decide +kernel
theorem dX12_judge_30 : decode cX12_judge 30 = .ok (.iaload, 1) := by decide +kernel
theorem dX12_judge_31 : decode cX12_judge 31 = .ok (.if_icmp .ge 49, 3) := by decide +kernel
theorem dX12_judge_34 : decode cX12_judge 34 = .ok (.iload_n 3, 1) := by decide +kernel
theorem dX12_judge_35 : decode cX12_judge 35 = .ok (.ifCond .ge 45, 3) := by decide +kernel
theorem dX12_judge_38 : decode cX12_judge 38 = .ok (.aload_n 0, 1) := by decide +kernel
theorem dX12_judge_39 : decode cX12_judge 39 = .ok (.aload_n 0, 1) := by decide +kernel
theorem dX12_judge_40 : decode cX12_judge 40 = .ok (.iload_n 1, 1) := by decide +kernel
theorem dX12_judge_41 : decode cX12_judge 41 = .ok (.iload 4, 2) := by decide +kernel
theorem dX12_judge_43 : decode cX12_judge 43 = .ok (.invokevirtual 162, 3) := by decide +kernel
theorem dX12_judge_46 : decode cX12_judge 46 = .ok (.invokevirtual 114, 3) := by decide +kernel
theorem dX12_judge_49 : decode cX12_judge 49 = .ok (.ifCond .eq 22, 3) := by decide +kernel
theorem dX12_judge_52 : decode cX12_judge 52 = .ok (.aload_n 0, 1) := by decide +kernel
theorem dX12_judge_53 : decode cX12_judge 53 = .ok (.aload_n 0, 1) := by decide +kernel
theorem dX12_judge_54 : decode cX12_judge 54 = .ok (.iload_n 1, 1) := by decide +kernel
theorem dX12_judge_55 : decode cX12_judge 55 = .ok (.iload 4, 2) := by decide +kernel
theorem dX12_judge_57 : decode cX12_judge 57 = .ok (.invokevirtual 162, 3) := by decide +kernel
theorem dX12_judge_60 : decode cX12_judge 60 = .ok (.invokevirtual 117, 3) := by decide +kernel
theorem dX12_judge_63 : decode cX12_judge 63 = .ok (.ifCond .eq 8, 3) := by decide +kernel
theorem dX12_judge_66 : decode cX12_judge 66 = .ok (.bipush (-4), 2) := by decide +kernel
theorem dX12_judge_68 : decode cX12_judge 68 = .ok (.goto 5, 3) := by decide +kernel
theorem dX12_judge_71 : decode cX12_judge 71 = .ok (.iload 4, 2) := by decide +kernel
theorem dX12_judge_73 : decode cX12_judge 73 = .ok (.istore_n 3, 1) := by decide +kernel
theorem dX12_judge_74 : decode cX12_judge 74 = .ok (.iinc 4 1, 3) := by decide +kernel
theorem dX12_judge_77 : decode cX12_judge 77 = .ok (.goto (-54), 3) := by decide +kernel
theorem dX12_judge_80 : decode cX12_judge 80 = .ok (.aload_n 0, 1) := by decide +kernel
theorem dX12_judge_81 : decode cX12_judge 81 = .ok (.invokevirtual 157, 3) := by decide +kernel
theorem dX12_judge_84 : decode cX12_judge 84 = .ok (.iload_n 3, 1) := by decide +kernel
theorem dX12_judge_85 : decode cX12_judge 85 = .ok (.ireturn, 1) := by decide +kernel
set_option maxRecDepth 20000 in
theorem ggX12_image_X12_lays : GoodIn wsX12_image wsX12_lays := goodIn_r _ [7] (by decide +kernel) (by decide +kernel)
set_option maxRecDepth 20000 in
theorem gX12_image_X12_lays : GoodIn wsX12_image (va_wsS RX12 63 yX12_lays wsX12_lays) := goodIn_app (goodIn_of _ (by decide +kernel)) ggX12_image_X12_lays
theorem dX12_image_0 : decode cX12_image 0 = .ok (.aload_n 0, 1) := by decide +kernel
theorem dX12_image_1 : decode cX12_image 1 = .ok (.getfield 9, 3) := by decide +kernel
theorem dX12_image_4 : decode cX12_image 4 = .ok (.aload_n 0, 1) := by decide +kernel
theorem dX12_image_5 : decode cX12_image 5 = .ok (.getfield 13, 3) := by decide +kernel
theorem dX12_image_8 : decode cX12_image 8 = .ok (.invokestatic 63, 3) := by decide +kernel
theorem dX12_image_11 : decode cX12_image 11 = .ok (.aload_n 0, 1) := by decide +kernel
theorem dX12_image_12 : decode cX12_image 12 = .ok (.iconst 1, 1) := by decide +kernel
theorem dX12_image_13 : decode cX12_image 13 = .ok (.putfield 187, 3) := by decide +kernel
theorem dX12_image_16 : decode cX12_image 16 = .ok (.aload_n 0, 1) := by decide +kernel
theorem dX12_image_17 : decode cX12_image 17 = .ok (.getfield 9, 3) := by decide +kernel
theorem dX12_image_20 : decode cX12_image 20 = .ok (.iconst 1, 1) := by decide +kernel
theorem dX12_image_21 : decode cX12_image 21 = .ok (.iaload, 1) := by decide +kernel
theorem dX12_image_22 : decode cX12_image 22 = .ok (.ireturn, 1) := by decide +kernel
set_option maxRecDepth 20000 in
theorem ggX12_restore_X12_lays : GoodIn wsX12_restore wsX12_lays := goodIn_r _ [7] (by decide +kernel) (by decide +kernel)
set_option maxRecDepth 20000 in
theorem gX12_restore_X12_lays : GoodIn wsX12_restore (va_wsS RX12 63 yX12_lays wsX12_lays) := goodIn_app (goodIn_of _ (by decide +kernel)) ggX12_restore_X12_lays
theorem dX12_restore_0 : decode cX12_restore 0 = .ok (.aload_n 0, 1) := by decide +kernel
theorem dX12_restore_1 : decode cX12_restore 1 = .ok (.getfield 187, 3) := by decide +kernel
theorem dX12_restore_4 : decode cX12_restore 4 = .ok (.ifCond .ne 6, 3) := by decide +kernel
theorem dX12_restore_7 : decode cX12_restore 7 = .ok (.bipush (-3), 2) := by decide +kernel
theorem dX12_restore_9 : decode cX12_restore 9 = .ok (.ireturn, 1) := by decide +kernel
theorem dX12_restore_10 : decode cX12_restore 10 = .ok (.aload_n 0, 1) := by decide +kernel
theorem dX12_restore_11 : decode cX12_restore 11 = .ok (.getfield 13, 3) := by decide +kernel
theorem dX12_restore_14 : decode cX12_restore 14 = .ok (.aload_n 0, 1) := by decide +kernel
theorem dX12_restore_15 : decode cX12_restore 15 = .ok (.getfield 9, 3) := by decide +kernel
theorem dX12_restore_18 : decode cX12_restore 18 = .ok (.invokestatic 63, 3) := by decide +kernel
theorem dX12_restore_21 : decode cX12_restore 21 = .ok (.aload_n 0, 1) := by decide +kernel
theorem dX12_restore_22 : decode cX12_restore 22 = .ok (.getfield 9, 3) := by decide +kernel
theorem dX12_restore_25 : decode cX12_restore 25 = .ok (.iconst 1, 1) := by decide +kernel
theorem dX12_restore_26 : decode cX12_restore 26 = .ok (.iaload, 1) := by decide +kernel
theorem dX12_restore_27 : decode cX12_restore 27 = .ok (.ireturn, 1) := by decide +kernel
set_option maxRecDepth 20000 in
theorem ggX12_count_X12_bits : GoodIn wsX12_count wsX12_bits := goodIn_r _ [5] (by decide +kernel) (by decide +kernel)
set_option maxRecDepth 20000 in
theorem gX12_count_X12_bits : GoodIn wsX12_count (va_wsS RX12 81 yX12_bits wsX12_bits) := goodIn_app (goodIn_of _ (by decide +kernel)) ggX12_count_X12_bits
set_option maxRecDepth 20000 in
theorem ggX12_count_X12_allMay : GoodIn wsX12_count wsX12_allMay := goodIn_r _ [9, 1, 10, 11, 12, 4, 13, 14, 15, 16, 17, 18, 19, 20, 21, 22, 23, 24, 25, 26, 27, 2, 3, 5, 28, 29, 30, 31, 32, 33, 34, 35, 36, 37, 38, 39, 40, 41, 42, 43, 44, 45, 46] (by decide +kernel) (by decide +kernel)
set_option maxRecDepth 20000 in
theorem gX12_count_X12_allMay : GoodIn wsX12_count (wsV RX12 136 RX12 yX12_allMay wsX12_allMay) := goodIn_app (goodIn_of _ (by decide +kernel)) ggX12_count_X12_allMay
set_option maxRecDepth 20000 in
theorem ggX12_count_X12_kind : GoodIn wsX12_count wsX12_kind := goodIn_r _ [21, 1, 28, 29, 30, 31, 32, 33, 34, 35, 36, 37, 38, 39, 40, 41, 42, 43, 44, 45, 46] (by decide +kernel) (by decide +kernel)
set_option maxRecDepth 20000 in
theorem gX12_count_X12_kind : GoodIn wsX12_count (wsV RX12 71 RX12 yX12_kind wsX12_kind) := goodIn_app (goodIn_of _ (by decide +kernel)) ggX12_count_X12_kind
theorem dX12_count_0 : decode cX12_count 0 = .ok (.iconst 0, 1) := by decide +kernel
theorem dX12_count_1 : decode cX12_count 1 = .ok (.istore_n 2, 1) := by decide +kernel
theorem dX12_count_2 : decode cX12_count 2 = .ok (.iload_n 1, 1) := by decide +kernel
theorem dX12_count_3 : decode cX12_count 3 = .ok (.tableswitch 97 0 3 #[29, 36, 46, 60], 29) := by decide +kernel
theorem dX12_count_32 : decode cX12_count 32 = .ok (.aload_n 0, 1) := by decide +kernel
theorem dX12_count_33 : decode cX12_count 33 = .ok (.getfield 9, 3) := by decide +kernel
theorem dX12_count_36 : decode cX12_count 36 = .ok (.iconst 0, 1) := by decide +kernel
theorem dX12_count_37 : decode cX12_count 37 = .ok (.iaload, 1) := by decide +kernel
theorem dX12_count_38 : decode cX12_count 38 = .ok (.ireturn, 1) := by decide +kernel
theorem dX12_count_39 : decode cX12_count 39 = .ok (.aload_n 0, 1) := by decide +kernel
theorem dX12_count_40 : decode cX12_count 40 = .ok (.getfield 9, 3) := by decide +kernel
theorem dX12_count_43 : decode cX12_count 43 = .ok (.iconst 1, 1) := by decide +kernel
theorem dX12_count_44 : decode cX12_count 44 = .ok (.iaload, 1) := by decide +kernel
theorem dX12_count_45 : decode cX12_count 45 = .ok (.invokestatic 81, 3) := by decide +kernel
theorem dX12_count_48 : decode cX12_count 48 = .ok (.ireturn, 1) := by decide +kernel
theorem dX12_count_49 : decode cX12_count 49 = .ok (.aload_n 0, 1) := by decide +kernel
theorem dX12_count_50 : decode cX12_count 50 = .ok (.aload_n 0, 1) := by decide +kernel
theorem dX12_count_51 : decode cX12_count 51 = .ok (.getfield 9, 3) := by decide +kernel
theorem dX12_count_54 : decode cX12_count 54 = .ok (.iconst 1, 1) := by decide +kernel
theorem dX12_count_55 : decode cX12_count 55 = .ok (.iaload, 1) := by decide +kernel
theorem dX12_count_56 : decode cX12_count 56 = .ok (.invokevirtual 136, 3) := by decide +kernel
theorem dX12_count_59 : decode cX12_count 59 = .ok (.invokestatic 81, 3) := by decide +kernel
theorem dX12_count_62 : decode cX12_count 62 = .ok (.ireturn, 1) := by decide +kernel
theorem dX12_count_63 : decode cX12_count 63 = .ok (.iconst 0, 1) := by decide +kernel
theorem dX12_count_64 : decode cX12_count 64 = .ok (.istore_n 3, 1) := by decide +kernel
theorem dX12_count_65 : decode cX12_count 65 = .ok (.iload_n 3, 1) := by decide +kernel
theorem dX12_count_66 : decode cX12_count 66 = .ok (.aload_n 0, 1) := by decide +kernel
theorem dX12_count_67 : decode cX12_count 67 = .ok (.getfield 9, 3) := by decide +kernel
theorem dX12_count_70 : decode cX12_count 70 = .ok (.iconst 0, 1) := by decide +kernel
theorem dX12_count_71 : decode cX12_count 71 = .ok (.iaload, 1) := by decide +kernel
theorem dX12_count_72 : decode cX12_count 72 = .ok (.if_icmp .ge 26, 3) := by decide +kernel
theorem dX12_count_75 : decode cX12_count 75 = .ok (.iload_n 2, 1) := by decide +kernel
theorem dX12_count_76 : decode cX12_count 76 = .ok (.aload_n 0, 1) := by decide +kernel
theorem dX12_count_77 : decode cX12_count 77 = .ok (.iload_n 3, 1) := by decide +kernel
theorem dX12_count_78 : decode cX12_count 78 = .ok (.invokevirtual 71, 3) := by decide +kernel
theorem dX12_count_81 : decode cX12_count 81 = .ok (.iconst 2, 1) := by decide +kernel
theorem dX12_count_82 : decode cX12_count 82 = .ok (.if_icmp .ne 7, 3) := by decide +kernel
theorem dX12_count_85 : decode cX12_count 85 = .ok (.iconst 1, 1) := by decide +kernel
theorem dX12_count_86 : decode cX12_count 86 = .ok (.goto 4, 3) := by decide +kernel
theorem dX12_count_89 : decode cX12_count 89 = .ok (.iconst 0, 1) := by decide +kernel
theorem dX12_count_90 : decode cX12_count 90 = .ok (.iadd, 1) := by decide +kernel
theorem dX12_count_91 : decode cX12_count 91 = .ok (.istore_n 2, 1) := by decide +kernel
theorem dX12_count_92 : decode cX12_count 92 = .ok (.iinc 3 1, 3) := by decide +kernel
theorem dX12_count_95 : decode cX12_count 95 = .ok (.goto (-30), 3) := by decide +kernel
theorem dX12_count_98 : decode cX12_count 98 = .ok (.iload_n 2, 1) := by decide +kernel
theorem dX12_count_99 : decode cX12_count 99 = .ok (.ireturn, 1) := by decide +kernel
theorem dX12_count_100 : decode cX12_count 100 = .ok (.iconst (-1), 1) := by decide +kernel
theorem dX12_count_101 : decode cX12_count 101 = .ok (.ireturn, 1) := by decide +kernel
theorem dX12_costBy_0 : decode cX12_costBy 0 = .ok (.iload_n 0, 1) := by decide +kernel
theorem dX12_costBy_1 : decode cX12_costBy 1 = .ok (.tableswitch 62 1 6 #[39, 41, 45, 48, 54, 59], 39) := by decide +kernel
theorem dX12_costBy_40 : decode cX12_costBy 40 = .ok (.iconst 3, 1) := by decide +kernel
theorem dX12_costBy_41 : decode cX12_costBy 41 = .ok (.ireturn, 1) := by decide +kernel
theorem dX12_costBy_42 : decode cX12_costBy 42 = .ok (.iconst 4, 1) := by decide +kernel
theorem dX12_costBy_43 : decode cX12_costBy 43 = .ok (.iload_n 1, 1) := by decide +kernel
theorem dX12_costBy_44 : decode cX12_costBy 44 = .ok (.iadd, 1) := by decide +kernel
theorem dX12_costBy_45 : decode cX12_costBy 45 = .ok (.ireturn, 1) := by decide +kernel
theorem dX12_costBy_46 : decode cX12_costBy 46 = .ok (.bipush 6, 2) := by decide +kernel
theorem dX12_costBy_48 : decode cX12_costBy 48 = .ok (.ireturn, 1) := by decide +kernel
theorem dX12_costBy_49 : decode cX12_costBy 49 = .ok (.iconst 4, 1) := by decide +kernel
theorem dX12_costBy_50 : decode cX12_costBy 50 = .ok (.iload_n 1, 1) := by decide +kernel
theorem dX12_costBy_51 : decode cX12_costBy 51 = .ok (.iconst 1, 1) := by decide +kernel
theorem dX12_costBy_52 : decode cX12_costBy 52 = .ok (.iadd, 1) := by decide +kernel
theorem dX12_costBy_53 : decode cX12_costBy 53 = .ok (.imul, 1) := by decide +kernel
theorem dX12_costBy_54 : decode cX12_costBy 54 = .ok (.ireturn, 1) := by decide +kernel
theorem dX12_costBy_55 : decode cX12_costBy 55 = .ok (.bipush 6, 2) := by decide +kernel
theorem dX12_costBy_57 : decode cX12_costBy 57 = .ok (.iload_n 1, 1) := by decide +kernel
theorem dX12_costBy_58 : decode cX12_costBy 58 = .ok (.isub, 1) := by decide +kernel
theorem dX12_costBy_59 : decode cX12_costBy 59 = .ok (.ireturn, 1) := by decide +kernel
theorem dX12_costBy_60 : decode cX12_costBy 60 = .ok (.bipush 8, 2) := by decide +kernel
theorem dX12_costBy_62 : decode cX12_costBy 62 = .ok (.ireturn, 1) := by decide +kernel
theorem dX12_costBy_63 : decode cX12_costBy 63 = .ok (.iconst 4, 1) := by decide +kernel
theorem dX12_costBy_64 : decode cX12_costBy 64 = .ok (.ireturn, 1) := by decide +kernel
set_option maxRecDepth 20000 in
theorem ggX12_keep_X12_isShelf : GoodIn wsX12_keep wsX12_isShelf := goodIn_r _ [9, 1, 10, 11, 8, 12] (by decide +kernel) (by decide +kernel)
set_option maxRecDepth 20000 in
theorem gX12_keep_X12_isShelf : GoodIn wsX12_keep (va_wsS RX12 119 yX12_isShelf wsX12_isShelf) := goodIn_app (goodIn_of _ (by decide +kernel)) ggX12_keep_X12_isShelf
set_option maxRecDepth 20000 in
theorem ggX12_keep_X12_isIn : GoodIn wsX12_keep wsX12_isIn := goodIn_r _ [12] (by decide +kernel) (by decide +kernel)
set_option maxRecDepth 20000 in
theorem gX12_keep_X12_isIn : GoodIn wsX12_keep (va_wsS RX12 55 yX12_isIn wsX12_isIn) := goodIn_app (goodIn_of _ (by decide +kernel)) ggX12_keep_X12_isIn
theorem dX12_keep_0 : decode cX12_keep 0 = .ok (.iload_n 1, 1) := by decide +kernel
theorem dX12_keep_1 : decode cX12_keep 1 = .ok (.invokestatic 119, 3) := by decide +kernel
theorem dX12_keep_4 : decode cX12_keep 4 = .ok (.ifCond .eq 43, 3) := by decide +kernel
theorem dX12_keep_7 : decode cX12_keep 7 = .ok (.iload_n 2, 1) := by decide +kernel
theorem dX12_keep_8 : decode cX12_keep 8 = .ok (.i2l, 1) := by decide +kernel
theorem dX12_keep_9 : decode cX12_keep 9 = .ok (.lconst 0, 1) := by decide +kernel
theorem dX12_keep_10 : decode cX12_keep 10 = .ok (.lconst 1, 1) := by decide +kernel
theorem dX12_keep_11 : decode cX12_keep 11 = .ok (.invokestatic 55, 3) := by decide +kernel
theorem dX12_keep_14 : decode cX12_keep 14 = .ok (.ifCond .eq 33, 3) := by decide +kernel
theorem dX12_keep_17 : decode cX12_keep 17 = .ok (.iload_n 2, 1) := by decide +kernel
theorem dX12_keep_18 : decode cX12_keep 18 = .ok (.iconst 1, 1) := by decide +kernel
theorem dX12_keep_19 : decode cX12_keep 19 = .ok (.if_icmp .ne 30, 3) := by decide +kernel
theorem dX12_keep_22 : decode cX12_keep 22 = .ok (.iload_n 3, 1) := by decide +kernel
theorem dX12_keep_23 : decode cX12_keep 23 = .ok (.i2l, 1) := by decide +kernel
theorem dX12_keep_24 : decode cX12_keep 24 = .ok (.lconst 0, 1) := by decide +kernel
theorem dX12_keep_25 : decode cX12_keep 25 = .ok (.ldc2_w 53, 3) := by decide +kernel
theorem dX12_keep_28 : decode cX12_keep 28 = .ok (.invokestatic 55, 3) := by decide +kernel
theorem dX12_keep_31 : decode cX12_keep 31 = .ok (.ifCond .eq 16, 3) := by decide +kernel
theorem dX12_keep_34 : decode cX12_keep 34 = .ok (.iload 4, 2) := by decide +kernel
theorem dX12_keep_36 : decode cX12_keep 36 = .ok (.i2l, 1) := by decide +kernel
theorem dX12_keep_37 : decode cX12_keep 37 = .ok (.lconst 0, 1) := by decide +kernel
theorem dX12_keep_38 : decode cX12_keep 38 = .ok (.ldc2_w 160, 3) := by decide +kernel
theorem dX12_keep_41 : decode cX12_keep 41 = .ok (.invokestatic 55, 3) := by decide +kernel
theorem dX12_keep_44 : decode cX12_keep 44 = .ok (.ifCond .ne 5, 3) := by decide +kernel
theorem dX12_keep_47 : decode cX12_keep 47 = .ok (.iconst (-1), 1) := by decide +kernel
theorem dX12_keep_48 : decode cX12_keep 48 = .ok (.ireturn, 1) := by decide +kernel
theorem dX12_keep_49 : decode cX12_keep 49 = .ok (.aload_n 0, 1) := by decide +kernel
theorem dX12_keep_50 : decode cX12_keep 50 = .ok (.getfield 22, 3) := by decide +kernel
theorem dX12_keep_53 : decode cX12_keep 53 = .ok (.iload_n 1, 1) := by decide +kernel
theorem dX12_keep_54 : decode cX12_keep 54 = .ok (.iload_n 2, 1) := by decide +kernel
theorem dX12_keep_55 : decode cX12_keep 55 = .ok (.iastore, 1) := by decide +kernel
theorem dX12_keep_56 : decode cX12_keep 56 = .ok (.aload_n 0, 1) := by decide +kernel
theorem dX12_keep_57 : decode cX12_keep 57 = .ok (.getfield 34, 3) := by decide +kernel
theorem dX12_keep_60 : decode cX12_keep 60 = .ok (.iload_n 1, 1) := by decide +kernel
theorem dX12_keep_61 : decode cX12_keep 61 = .ok (.iload_n 3, 1) := by decide +kernel
theorem dX12_keep_62 : decode cX12_keep 62 = .ok (.iastore, 1) := by decide +kernel
theorem dX12_keep_63 : decode cX12_keep 63 = .ok (.aload_n 0, 1) := by decide +kernel
theorem dX12_keep_64 : decode cX12_keep 64 = .ok (.getfield 37, 3) := by decide +kernel
theorem dX12_keep_67 : decode cX12_keep 67 = .ok (.iload_n 1, 1) := by decide +kernel
theorem dX12_keep_68 : decode cX12_keep 68 = .ok (.iload 4, 2) := by decide +kernel
theorem dX12_keep_70 : decode cX12_keep 70 = .ok (.iastore, 1) := by decide +kernel
theorem dX12_keep_71 : decode cX12_keep 71 = .ok (.iconst 0, 1) := by decide +kernel
theorem dX12_keep_72 : decode cX12_keep 72 = .ok (.ireturn, 1) := by decide +kernel
set_option maxRecDepth 20000 in
theorem ggX12_row_X12_isShelf : GoodIn wsX12_row wsX12_isShelf := goodIn_r _ [9, 10, 11, 12, 8, 13] (by decide +kernel) (by decide +kernel)
set_option maxRecDepth 20000 in
theorem gX12_row_X12_isShelf : GoodIn wsX12_row (va_wsS RX12 119 yX12_isShelf wsX12_isShelf) := goodIn_app (goodIn_of _ (by decide +kernel)) ggX12_row_X12_isShelf
set_option maxRecDepth 20000 in
theorem ggX12_row_X12_isIn : GoodIn wsX12_row wsX12_isIn := goodIn_r _ [13] (by decide +kernel) (by decide +kernel)
set_option maxRecDepth 20000 in
theorem gX12_row_X12_isIn : GoodIn wsX12_row (va_wsS RX12 55 yX12_isIn wsX12_isIn) := goodIn_app (goodIn_of _ (by decide +kernel)) ggX12_row_X12_isIn
theorem dX12_row_0 : decode cX12_row 0 = .ok (.iload_n 1, 1) := by decide +kernel
theorem dX12_row_1 : decode cX12_row 1 = .ok (.invokestatic 119, 3) := by decide +kernel
theorem dX12_row_4 : decode cX12_row 4 = .ok (.ifCond .eq 21, 3) := by decide +kernel
theorem dX12_row_7 : decode cX12_row 7 = .ok (.iload_n 2, 1) := by decide +kernel
theorem dX12_row_8 : decode cX12_row 8 = .ok (.i2l, 1) := by decide +kernel
theorem dX12_row_9 : decode cX12_row 9 = .ok (.lconst 0, 1) := by decide +kernel
theorem dX12_row_10 : decode cX12_row 10 = .ok (.ldc2_w 146, 3) := by decide +kernel
theorem dX12_row_13 : decode cX12_row 13 = .ok (.invokestatic 55, 3) := by decide +kernel
theorem dX12_row_16 : decode cX12_row 16 = .ok (.ifCond .eq 9, 3) := by decide +kernel
theorem dX12_row_19 : decode cX12_row 19 = .ok (.iload_n 3, 1) := by decide +kernel
theorem dX12_row_20 : decode cX12_row 20 = .ok (.bipush 100, 2) := by decide +kernel
theorem dX12_row_22 : decode cX12_row 22 = .ok (.if_icmp .le 5, 3) := by decide +kernel
theorem dX12_row_25 : decode cX12_row 25 = .ok (.iconst (-1), 1) := by decide +kernel
theorem dX12_row_26 : decode cX12_row 26 = .ok (.ireturn, 1) := by decide +kernel
theorem dX12_row_27 : decode cX12_row 27 = .ok (.iload_n 3, 1) := by decide +kernel
theorem dX12_row_28 : decode cX12_row 28 = .ok (.ifCond .ge 6, 3) := by decide +kernel
theorem dX12_row_31 : decode cX12_row 31 = .ok (.bipush (-14), 2) := by decide +kernel
theorem dX12_row_33 : decode cX12_row 33 = .ok (.ireturn, 1) := by decide +kernel
theorem dX12_row_34 : decode cX12_row 34 = .ok (.aload_n 0, 1) := by decide +kernel
theorem dX12_row_35 : decode cX12_row 35 = .ok (.getfield 22, 3) := by decide +kernel
theorem dX12_row_38 : decode cX12_row 38 = .ok (.iload_n 1, 1) := by decide +kernel
theorem dX12_row_39 : decode cX12_row 39 = .ok (.iconst 2, 1) := by decide +kernel
theorem dX12_row_40 : decode cX12_row 40 = .ok (.iastore, 1) := by decide +kernel
theorem dX12_row_41 : decode cX12_row 41 = .ok (.aload_n 0, 1) := by decide +kernel
theorem dX12_row_42 : decode cX12_row 42 = .ok (.getfield 25, 3) := by decide +kernel
theorem dX12_row_45 : decode cX12_row 45 = .ok (.iload_n 1, 1) := by decide +kernel
theorem dX12_row_46 : decode cX12_row 46 = .ok (.iload_n 2, 1) := by decide +kernel
theorem dX12_row_47 : decode cX12_row 47 = .ok (.iastore, 1) := by decide +kernel
theorem dX12_row_48 : decode cX12_row 48 = .ok (.aload_n 0, 1) := by decide +kernel
theorem dX12_row_49 : decode cX12_row 49 = .ok (.getfield 28, 3) := by decide +kernel
theorem dX12_row_52 : decode cX12_row 52 = .ok (.iload_n 1, 1) := by decide +kernel
theorem dX12_row_53 : decode cX12_row 53 = .ok (.iload_n 3, 1) := by decide +kernel
theorem dX12_row_54 : decode cX12_row 54 = .ok (.iastore, 1) := by decide +kernel
theorem dX12_row_55 : decode cX12_row 55 = .ok (.iconst 0, 1) := by decide +kernel
theorem dX12_row_56 : decode cX12_row 56 = .ok (.istore 4, 2) := by decide +kernel
theorem dX12_row_58 : decode cX12_row 58 = .ok (.iload 4, 2) := by decide +kernel
theorem dX12_row_60 : decode cX12_row 60 = .ok (.bipush 100, 2) := by decide +kernel
theorem dX12_row_62 : decode cX12_row 62 = .ok (.if_icmp .ge 22, 3) := by decide +kernel
theorem dX12_row_65 : decode cX12_row 65 = .ok (.aload_n 0, 1) := by decide +kernel
theorem dX12_row_66 : decode cX12_row 66 = .ok (.getfield 31, 3) := by decide +kernel
theorem dX12_row_69 : decode cX12_row 69 = .ok (.bipush 100, 2) := by decide +kernel
theorem dX12_row_71 : decode cX12_row 71 = .ok (.iload_n 1, 1) := by decide +kernel
theorem dX12_row_72 : decode cX12_row 72 = .ok (.imul, 1) := by decide +kernel
theorem dX12_row_73 : decode cX12_row 73 = .ok (.iload 4, 2) := by decide +kernel
theorem dX12_row_75 : decode cX12_row 75 = .ok (.iadd, 1) := by decide +kernel
theorem dX12_row_76 : decode cX12_row 76 = .ok (.iconst 0, 1) := by decide +kernel
theorem dX12_row_77 : decode cX12_row 77 = .ok (.iastore, 1) := by decide +kernel
theorem dX12_row_78 : decode cX12_row 78 = .ok (.iinc 4 1, 3) := by decide +kernel
theorem dX12_row_81 : decode cX12_row 81 = .ok (.goto (-23), 3) := by decide +kernel
theorem dX12_row_84 : decode cX12_row 84 = .ok (.iconst 0, 1) := by decide +kernel
theorem dX12_row_85 : decode cX12_row 85 = .ok (.ireturn, 1) := by decide +kernel
set_option maxRecDepth 20000 in
theorem ggX12_put_X12_wrongRow : GoodIn wsX12_put wsX12_wrongRow := goodIn_r _ [8, 9, 3, 10, 11, 7, 12, 13, 14, 15, 16, 17, 18, 19, 20, 21, 22, 23, 24, 25, 26, 27, 28, 29, 30, 31, 32, 33, 34, 35] (by decide +kernel) (by decide +kernel)
set_option maxRecDepth 20000 in
theorem gX12_put_X12_wrongRow : GoodIn wsX12_put (wsV RX12 122 RX12 yX12_wrongRow wsX12_wrongRow) := goodIn_app (goodIn_of _ (by decide +kernel)) ggX12_put_X12_wrongRow
set_option maxRecDepth 20000 in
theorem ggX12_put_X12_isIn : GoodIn wsX12_put wsX12_isIn := goodIn_r _ [16] (by decide +kernel) (by decide +kernel)
set_option maxRecDepth 20000 in
theorem gX12_put_X12_isIn : GoodIn wsX12_put (va_wsS RX12 55 yX12_isIn wsX12_isIn) := goodIn_app (goodIn_of _ (by decide +kernel)) ggX12_put_X12_isIn
theorem dX12_put_0 : decode cX12_put 0 = .ok (.aload_n 0, 1) := by decide +kernel
theorem dX12_put_1 : decode cX12_put 1 = .ok (.iload_n 1, 1) := by decide +kernel
theorem dX12_put_2 : decode cX12_put 2 = .ok (.iconst (-1), 1) := by decide +kernel
theorem dX12_put_3 : decode cX12_put 3 = .ok (.invokevirtual 122, 3) := by decide +kernel
theorem dX12_put_6 : decode cX12_put 6 = .ok (.istore 4, 2) := by decide +kernel
theorem dX12_put_8 : decode cX12_put 8 = .ok (.iload 4, 2) := by decide +kernel
theorem dX12_put_10 : decode cX12_put 10 = .ok (.ifCond .eq 6, 3) := by decide +kernel
theorem dX12_put_13 : decode cX12_put 13 = .ok (.iload 4, 2) := by decide +kernel
theorem dX12_put_15 : decode cX12_put 15 = .ok (.ireturn, 1) := by decide +kernel
theorem dX12_put_16 : decode cX12_put 16 = .ok (.iload_n 2, 1) := by decide +kernel
theorem dX12_put_17 : decode cX12_put 17 = .ok (.i2l, 1) := by decide +kernel
theorem dX12_put_18 : decode cX12_put 18 = .ok (.lconst 0, 1) := by decide +kernel
theorem dX12_put_19 : decode cX12_put 19 = .ok (.aload_n 0, 1) := by decide +kernel
theorem dX12_put_20 : decode cX12_put 20 = .ok (.getfield 28, 3) := by decide +kernel
theorem dX12_put_23 : decode cX12_put 23 = .ok (.iload_n 1, 1) := by decide +kernel
theorem dX12_put_24 : decode cX12_put 24 = .ok (.iaload, 1) := by decide +kernel
theorem dX12_put_25 : decode cX12_put 25 = .ok (.iconst 1, 1) := by decide +kernel
theorem dX12_put_26 : decode cX12_put 26 = .ok (.isub, 1) := by decide +kernel
theorem dX12_put_27 : decode cX12_put 27 = .ok (.i2l, 1) := by decide +kernel
theorem dX12_put_28 : decode cX12_put 28 = .ok (.invokestatic 55, 3) := by decide +kernel
theorem dX12_put_31 : decode cX12_put 31 = .ok (.ifCond .ne 6, 3) := by decide +kernel
theorem dX12_put_34 : decode cX12_put 34 = .ok (.bipush (-13), 2) := by decide +kernel
theorem dX12_put_36 : decode cX12_put 36 = .ok (.ireturn, 1) := by decide +kernel
theorem dX12_put_37 : decode cX12_put 37 = .ok (.aload_n 0, 1) := by decide +kernel
theorem dX12_put_38 : decode cX12_put 38 = .ok (.getfield 31, 3) := by decide +kernel
theorem dX12_put_41 : decode cX12_put 41 = .ok (.bipush 100, 2) := by decide +kernel
theorem dX12_put_43 : decode cX12_put 43 = .ok (.iload_n 1, 1) := by decide +kernel
theorem dX12_put_44 : decode cX12_put 44 = .ok (.imul, 1) := by decide +kernel
theorem dX12_put_45 : decode cX12_put 45 = .ok (.iload_n 2, 1) := by decide +kernel
theorem dX12_put_46 : decode cX12_put 46 = .ok (.iadd, 1) := by decide +kernel
theorem dX12_put_47 : decode cX12_put 47 = .ok (.aload_n 0, 1) := by decide +kernel
theorem dX12_put_48 : decode cX12_put 48 = .ok (.getfield 25, 3) := by decide +kernel
theorem dX12_put_51 : decode cX12_put 51 = .ok (.iload_n 1, 1) := by decide +kernel
theorem dX12_put_52 : decode cX12_put 52 = .ok (.iaload, 1) := by decide +kernel
theorem dX12_put_53 : decode cX12_put 53 = .ok (.ifCond .ne 8, 3) := by decide +kernel
theorem dX12_put_56 : decode cX12_put 56 = .ok (.iload_n 3, 1) := by decide +kernel
theorem dX12_put_57 : decode cX12_put 57 = .ok (.i2b, 1) := by decide +kernel
theorem dX12_put_58 : decode cX12_put 58 = .ok (.goto 19, 3) := by decide +kernel
theorem dX12_put_61 : decode cX12_put 61 = .ok (.aload_n 0, 1) := by decide +kernel
theorem dX12_put_62 : decode cX12_put 62 = .ok (.getfield 25, 3) := by decide +kernel
theorem dX12_put_65 : decode cX12_put 65 = .ok (.iload_n 1, 1) := by decide +kernel
theorem dX12_put_66 : decode cX12_put 66 = .ok (.iaload, 1) := by decide +kernel
theorem dX12_put_67 : decode cX12_put 67 = .ok (.iconst 1, 1) := by decide +kernel
theorem dX12_put_68 : decode cX12_put 68 = .ok (.if_icmp .ne 8, 3) := by decide +kernel
theorem dX12_put_71 : decode cX12_put 71 = .ok (.iload_n 3, 1) := by decide +kernel
theorem dX12_put_72 : decode cX12_put 72 = .ok (.i2s, 1) := by decide +kernel
theorem dX12_put_73 : decode cX12_put 73 = .ok (.goto 4, 3) := by decide +kernel
theorem dX12_put_76 : decode cX12_put 76 = .ok (.iload_n 3, 1) := by decide +kernel
theorem dX12_put_77 : decode cX12_put 77 = .ok (.iastore, 1) := by decide +kernel
theorem dX12_put_78 : decode cX12_put 78 = .ok (.iconst 0, 1) := by decide +kernel
theorem dX12_put_79 : decode cX12_put 79 = .ok (.ireturn, 1) := by decide +kernel
set_option maxRecDepth 20000 in
theorem ggX12_element_X12_isShelf : GoodIn wsX12_element wsX12_isShelf := goodIn_r _ [8, 9, 10, 11, 7, 12] (by decide +kernel) (by decide +kernel)
set_option maxRecDepth 20000 in
theorem gX12_element_X12_isShelf : GoodIn wsX12_element (va_wsS RX12 119 yX12_isShelf wsX12_isShelf) := goodIn_app (goodIn_of _ (by decide +kernel)) ggX12_element_X12_isShelf
set_option maxRecDepth 20000 in
theorem ggX12_element_X12_isIn : GoodIn wsX12_element wsX12_isIn := goodIn_r _ [12] (by decide +kernel) (by decide +kernel)
set_option maxRecDepth 20000 in
theorem gX12_element_X12_isIn : GoodIn wsX12_element (va_wsS RX12 55 yX12_isIn wsX12_isIn) := goodIn_app (goodIn_of _ (by decide +kernel)) ggX12_element_X12_isIn
theorem dX12_element_0 : decode cX12_element 0 = .ok (.aload_n 0, 1) := by decide +kernel
theorem dX12_element_1 : decode cX12_element 1 = .ok (.iload_n 1, 1) := by decide +kernel
theorem dX12_element_2 : decode cX12_element 2 = .ok (.invokestatic 119, 3) := by decide +kernel
theorem dX12_element_5 : decode cX12_element 5 = .ok (.ifCond .ne 7, 3) := by decide +kernel
theorem dX12_element_8 : decode cX12_element 8 = .ok (.iconst 1, 1) := by decide +kernel
theorem dX12_element_9 : decode cX12_element 9 = .ok (.goto 36, 3) := by decide +kernel
theorem dX12_element_12 : decode cX12_element 12 = .ok (.aload_n 0, 1) := by decide +kernel
theorem dX12_element_13 : decode cX12_element 13 = .ok (.getfield 22, 3) := by decide +kernel
theorem dX12_element_16 : decode cX12_element 16 = .ok (.iload_n 1, 1) := by decide +kernel
theorem dX12_element_17 : decode cX12_element 17 = .ok (.iaload, 1) := by decide +kernel
theorem dX12_element_18 : decode cX12_element 18 = .ok (.iconst 2, 1) := by decide +kernel
theorem dX12_element_19 : decode cX12_element 19 = .ok (.if_icmp .ne 21, 3) := by decide +kernel
theorem dX12_element_22 : decode cX12_element 22 = .ok (.iload_n 2, 1) := by decide +kernel
theorem dX12_element_23 : decode cX12_element 23 = .ok (.i2l, 1) := by decide +kernel
theorem dX12_element_24 : decode cX12_element 24 = .ok (.lconst 0, 1) := by decide +kernel
theorem dX12_element_25 : decode cX12_element 25 = .ok (.aload_n 0, 1) := by decide +kernel
theorem dX12_element_26 : decode cX12_element 26 = .ok (.getfield 28, 3) := by decide +kernel
theorem dX12_element_29 : decode cX12_element 29 = .ok (.iload_n 1, 1) := by decide +kernel
theorem dX12_element_30 : decode cX12_element 30 = .ok (.iaload, 1) := by decide +kernel
theorem dX12_element_31 : decode cX12_element 31 = .ok (.iconst 1, 1) := by decide +kernel
theorem dX12_element_32 : decode cX12_element 32 = .ok (.isub, 1) := by decide +kernel
theorem dX12_element_33 : decode cX12_element 33 = .ok (.i2l, 1) := by decide +kernel
theorem dX12_element_34 : decode cX12_element 34 = .ok (.invokestatic 55, 3) := by decide +kernel
theorem dX12_element_37 : decode cX12_element 37 = .ok (.ifCond .ne 7, 3) := by decide +kernel
theorem dX12_element_40 : decode cX12_element 40 = .ok (.iconst 2, 1) := by decide +kernel
theorem dX12_element_41 : decode cX12_element 41 = .ok (.goto 4, 3) := by decide +kernel
theorem dX12_element_44 : decode cX12_element 44 = .ok (.iconst 0, 1) := by decide +kernel
theorem dX12_element_45 : decode cX12_element 45 = .ok (.putfield 49, 3) := by decide +kernel
theorem dX12_element_48 : decode cX12_element 48 = .ok (.aload_n 0, 1) := by decide +kernel
theorem dX12_element_49 : decode cX12_element 49 = .ok (.getfield 49, 3) := by decide +kernel
theorem dX12_element_52 : decode cX12_element 52 = .ok (.ifCond .ne 18, 3) := by decide +kernel
theorem dX12_element_55 : decode cX12_element 55 = .ok (.aload_n 0, 1) := by decide +kernel
theorem dX12_element_56 : decode cX12_element 56 = .ok (.getfield 31, 3) := by decide +kernel
theorem dX12_element_59 : decode cX12_element 59 = .ok (.bipush 100, 2) := by decide +kernel
theorem dX12_element_61 : decode cX12_element 61 = .ok (.iload_n 1, 1) := by decide +kernel
theorem dX12_element_62 : decode cX12_element 62 = .ok (.imul, 1) := by decide +kernel
theorem dX12_element_63 : decode cX12_element 63 = .ok (.iload_n 2, 1) := by decide +kernel
theorem dX12_element_64 : decode cX12_element 64 = .ok (.iadd, 1) := by decide +kernel
theorem dX12_element_65 : decode cX12_element 65 = .ok (.iaload, 1) := by decide +kernel
theorem dX12_element_66 : decode cX12_element 66 = .ok (.i2l, 1) := by decide +kernel
theorem dX12_element_67 : decode cX12_element 67 = .ok (.goto 4, 3) := by decide +kernel
theorem dX12_element_70 : decode cX12_element 70 = .ok (.lconst 0, 1) := by decide +kernel
theorem dX12_element_71 : decode cX12_element 71 = .ok (.lreturn, 1) := by decide +kernel
set_option maxRecDepth 20000 in
theorem ggX12_copy_X12_isShelf : GoodIn wsX12_copy wsX12_isShelf := goodIn_r _ [8, 9, 10, 11, 7, 12] (by decide +kernel) (by decide +kernel)
set_option maxRecDepth 20000 in
theorem gX12_copy_X12_isShelf : GoodIn wsX12_copy (va_wsS RX12 119 yX12_isShelf wsX12_isShelf) := goodIn_app (goodIn_of _ (by decide +kernel)) ggX12_copy_X12_isShelf
theorem dX12_copy_0 : decode cX12_copy 0 = .ok (.iload_n 1, 1) := by decide +kernel
theorem dX12_copy_1 : decode cX12_copy 1 = .ok (.invokestatic 119, 3) := by decide +kernel
theorem dX12_copy_4 : decode cX12_copy 4 = .ok (.ifCond .eq 10, 3) := by decide +kernel
theorem dX12_copy_7 : decode cX12_copy 7 = .ok (.iload_n 3, 1) := by decide +kernel
theorem dX12_copy_8 : decode cX12_copy 8 = .ok (.invokestatic 119, 3) := by decide +kernel
theorem dX12_copy_11 : decode cX12_copy 11 = .ok (.ifCond .ne 5, 3) := by decide +kernel
theorem dX12_copy_14 : decode cX12_copy 14 = .ok (.iconst (-1), 1) := by decide +kernel
theorem dX12_copy_15 : decode cX12_copy 15 = .ok (.ireturn, 1) := by decide +kernel
theorem dX12_copy_16 : decode cX12_copy 16 = .ok (.aload_n 0, 1) := by decide +kernel
theorem dX12_copy_17 : decode cX12_copy 17 = .ok (.getfield 22, 3) := by decide +kernel
theorem dX12_copy_20 : decode cX12_copy 20 = .ok (.iload_n 1, 1) := by decide +kernel
theorem dX12_copy_21 : decode cX12_copy 21 = .ok (.iaload, 1) := by decide +kernel
theorem dX12_copy_22 : decode cX12_copy 22 = .ok (.ifCond .eq 12, 3) := by decide +kernel
theorem dX12_copy_25 : decode cX12_copy 25 = .ok (.aload_n 0, 1) := by decide +kernel
theorem dX12_copy_26 : decode cX12_copy 26 = .ok (.getfield 22, 3) := by decide +kernel
theorem dX12_copy_29 : decode cX12_copy 29 = .ok (.iload_n 3, 1) := by decide +kernel
theorem dX12_copy_30 : decode cX12_copy 30 = .ok (.iaload, 1) := by decide +kernel
theorem dX12_copy_31 : decode cX12_copy 31 = .ok (.ifCond .ne 6, 3) := by decide +kernel
theorem dX12_copy_34 : decode cX12_copy 34 = .ok (.bipush (-11), 2) := by decide +kernel
theorem dX12_copy_36 : decode cX12_copy 36 = .ok (.ireturn, 1) := by decide +kernel
theorem dX12_copy_37 : decode cX12_copy 37 = .ok (.aload_n 0, 1) := by decide +kernel
theorem dX12_copy_38 : decode cX12_copy 38 = .ok (.getfield 22, 3) := by decide +kernel
theorem dX12_copy_41 : decode cX12_copy 41 = .ok (.iload_n 1, 1) := by decide +kernel
theorem dX12_copy_42 : decode cX12_copy 42 = .ok (.iaload, 1) := by decide +kernel
theorem dX12_copy_43 : decode cX12_copy 43 = .ok (.iconst 2, 1) := by decide +kernel
theorem dX12_copy_44 : decode cX12_copy 44 = .ok (.if_icmp .ne 28, 3) := by decide +kernel
theorem dX12_copy_47 : decode cX12_copy 47 = .ok (.aload_n 0, 1) := by decide +kernel
theorem dX12_copy_48 : decode cX12_copy 48 = .ok (.getfield 22, 3) := by decide +kernel
theorem dX12_copy_51 : decode cX12_copy 51 = .ok (.iload_n 3, 1) := by decide +kernel
theorem dX12_copy_52 : decode cX12_copy 52 = .ok (.iaload, 1) := by decide +kernel
theorem dX12_copy_53 : decode cX12_copy 53 = .ok (.iconst 2, 1) := by decide +kernel
theorem dX12_copy_54 : decode cX12_copy 54 = .ok (.if_icmp .ne 18, 3) := by decide +kernel
theorem dX12_copy_57 : decode cX12_copy 57 = .ok (.aload_n 0, 1) := by decide +kernel
theorem dX12_copy_58 : decode cX12_copy 58 = .ok (.getfield 25, 3) := by decide +kernel
theorem dX12_copy_61 : decode cX12_copy 61 = .ok (.iload_n 1, 1) := by decide +kernel
theorem dX12_copy_62 : decode cX12_copy 62 = .ok (.iaload, 1) := by decide +kernel
theorem dX12_copy_63 : decode cX12_copy 63 = .ok (.aload_n 0, 1) := by decide +kernel
theorem dX12_copy_64 : decode cX12_copy 64 = .ok (.getfield 25, 3) := by decide +kernel
theorem dX12_copy_67 : decode cX12_copy 67 = .ok (.iload_n 3, 1) := by decide +kernel
theorem dX12_copy_68 : decode cX12_copy 68 = .ok (.iaload, 1) := by decide +kernel
theorem dX12_copy_69 : decode cX12_copy 69 = .ok (.if_icmp .eq 6, 3) := by decide +kernel
theorem dX12_copy_72 : decode cX12_copy 72 = .ok (.bipush (-12), 2) := by decide +kernel
theorem dX12_copy_74 : decode cX12_copy 74 = .ok (.ireturn, 1) := by decide +kernel
theorem dX12_copy_75 : decode cX12_copy 75 = .ok (.iload 5, 2) := by decide +kernel
theorem dX12_copy_77 : decode cX12_copy 77 = .ok (.ifCond .lt 39, 3) := by decide +kernel
theorem dX12_copy_80 : decode cX12_copy 80 = .ok (.iload_n 2, 1) := by decide +kernel
theorem dX12_copy_81 : decode cX12_copy 81 = .ok (.ifCond .lt 35, 3) := by decide +kernel
theorem dX12_copy_84 : decode cX12_copy 84 = .ok (.iload 4, 2) := by decide +kernel
theorem dX12_copy_86 : decode cX12_copy 86 = .ok (.ifCond .lt 30, 3) := by decide +kernel
theorem dX12_copy_89 : decode cX12_copy 89 = .ok (.iload 5, 2) := by decide +kernel
theorem dX12_copy_91 : decode cX12_copy 91 = .ok (.aload_n 0, 1) := by decide +kernel
theorem dX12_copy_92 : decode cX12_copy 92 = .ok (.getfield 28, 3) := by decide +kernel
theorem dX12_copy_95 : decode cX12_copy 95 = .ok (.iload_n 1, 1) := by decide +kernel
theorem dX12_copy_96 : decode cX12_copy 96 = .ok (.iaload, 1) := by decide +kernel
theorem dX12_copy_97 : decode cX12_copy 97 = .ok (.iload_n 2, 1) := by decide +kernel
theorem dX12_copy_98 : decode cX12_copy 98 = .ok (.isub, 1) := by decide +kernel
theorem dX12_copy_99 : decode cX12_copy 99 = .ok (.if_icmp .gt 17, 3) := by decide +kernel
theorem dX12_copy_102 : decode cX12_copy 102 = .ok (.iload 5, 2) := by decide +kernel
theorem dX12_copy_104 : decode cX12_copy 104 = .ok (.aload_n 0, 1) := by decide +kernel
theorem dX12_copy_105 : decode cX12_copy 105 = .ok (.getfield 28, 3) := by decide +kernel
theorem dX12_copy_108 : decode cX12_copy 108 = .ok (.iload_n 3, 1) := by decide +kernel
theorem dX12_copy_109 : decode cX12_copy 109 = .ok (.iaload, 1) := by decide +kernel
theorem dX12_copy_110 : decode cX12_copy 110 = .ok (.iload 4, 2) := by decide +kernel
theorem dX12_copy_112 : decode cX12_copy 112 = .ok (.isub, 1) := by decide +kernel
theorem dX12_copy_113 : decode cX12_copy 113 = .ok (.if_icmp .le 6, 3) := by decide +kernel
theorem dX12_copy_116 : decode cX12_copy 116 = .ok (.bipush (-13), 2) := by decide +kernel
theorem dX12_copy_118 : decode cX12_copy 118 = .ok (.ireturn, 1) := by decide +kernel
theorem dX12_copy_119 : decode cX12_copy 119 = .ok (.iconst 0, 1) := by decide +kernel
theorem dX12_copy_120 : decode cX12_copy 120 = .ok (.istore 6, 2) := by decide +kernel
theorem dX12_copy_122 : decode cX12_copy 122 = .ok (.iload 6, 2) := by decide +kernel
theorem dX12_copy_124 : decode cX12_copy 124 = .ok (.iload 5, 2) := by decide +kernel
theorem dX12_copy_126 : decode cX12_copy 126 = .ok (.if_icmp .ge 58, 3) := by decide +kernel
theorem dX12_copy_129 : decode cX12_copy 129 = .ok (.iload_n 2, 1) := by decide +kernel
theorem dX12_copy_130 : decode cX12_copy 130 = .ok (.iload 4, 2) := by decide +kernel
theorem dX12_copy_132 : decode cX12_copy 132 = .ok (.if_icmp .le 8, 3) := by decide +kernel
theorem dX12_copy_135 : decode cX12_copy 135 = .ok (.iload 6, 2) := by decide +kernel
theorem dX12_copy_137 : decode cX12_copy 137 = .ok (.goto 10, 3) := by decide +kernel
theorem dX12_copy_140 : decode cX12_copy 140 = .ok (.iload 5, 2) := by decide +kernel
theorem dX12_copy_142 : decode cX12_copy 142 = .ok (.iconst 1, 1) := by decide +kernel
theorem dX12_copy_143 : decode cX12_copy 143 = .ok (.isub, 1) := by decide +kernel
theorem dX12_copy_144 : decode cX12_copy 144 = .ok (.iload 6, 2) := by decide +kernel
theorem dX12_copy_146 : decode cX12_copy 146 = .ok (.isub, 1) := by decide +kernel
theorem dX12_copy_147 : decode cX12_copy 147 = .ok (.istore 7, 2) := by decide +kernel
theorem dX12_copy_149 : decode cX12_copy 149 = .ok (.aload_n 0, 1) := by decide +kernel
theorem dX12_copy_150 : decode cX12_copy 150 = .ok (.getfield 31, 3) := by decide +kernel
theorem dX12_copy_153 : decode cX12_copy 153 = .ok (.bipush 100, 2) := by decide +kernel
theorem dX12_copy_155 : decode cX12_copy 155 = .ok (.iload_n 3, 1) := by decide +kernel
theorem dX12_copy_156 : decode cX12_copy 156 = .ok (.imul, 1) := by decide +kernel
theorem dX12_copy_157 : decode cX12_copy 157 = .ok (.iload 4, 2) := by decide +kernel
theorem dX12_copy_159 : decode cX12_copy 159 = .ok (.iadd, 1) := by decide +kernel
theorem dX12_copy_160 : decode cX12_copy 160 = .ok (.iload 7, 2) := by decide +kernel
theorem dX12_copy_162 : decode cX12_copy 162 = .ok (.iadd, 1) := by decide +kernel
theorem dX12_copy_163 : decode cX12_copy 163 = .ok (.aload_n 0, 1) := by decide +kernel
theorem dX12_copy_164 : decode cX12_copy 164 = .ok (.getfield 31, 3) := by decide +kernel
theorem dX12_copy_167 : decode cX12_copy 167 = .ok (.bipush 100, 2) := by decide +kernel
theorem dX12_copy_169 : decode cX12_copy 169 = .ok (.iload_n 1, 1) := by decide +kernel
theorem dX12_copy_170 : decode cX12_copy 170 = .ok (.imul, 1) := by decide +kernel
theorem dX12_copy_171 : decode cX12_copy 171 = .ok (.iload_n 2, 1) := by decide +kernel
theorem dX12_copy_172 : decode cX12_copy 172 = .ok (.iadd, 1) := by decide +kernel
theorem dX12_copy_173 : decode cX12_copy 173 = .ok (.iload 7, 2) := by decide +kernel
theorem dX12_copy_175 : decode cX12_copy 175 = .ok (.iadd, 1) := by decide +kernel
theorem dX12_copy_176 : decode cX12_copy 176 = .ok (.iaload, 1) := by decide +kernel
theorem dX12_copy_177 : decode cX12_copy 177 = .ok (.iastore, 1) := by decide +kernel
theorem dX12_copy_178 : decode cX12_copy 178 = .ok (.iinc 6 1, 3) := by decide +kernel
theorem dX12_copy_181 : decode cX12_copy 181 = .ok (.goto (-59), 3) := by decide +kernel
theorem dX12_copy_184 : decode cX12_copy 184 = .ok (.iload 5, 2) := by decide +kernel
theorem dX12_copy_186 : decode cX12_copy 186 = .ok (.ireturn, 1) := by decide +kernel
set_option maxRecDepth 20000 in
theorem ggX12_cost_X12_wrongKept : GoodIn wsX12_cost wsX12_wrongKept := goodIn_r _ [7, 8, 9, 10, 6, 11, 12, 13, 14, 15, 19, 20, 21, 22, 23, 24, 25, 26, 27, 28, 29, 30, 31, 32, 33, 34, 35, 36, 37] (by decide +kernel) (by decide +kernel)
set_option maxRecDepth 20000 in
theorem gX12_cost_X12_wrongKept : GoodIn wsX12_cost (wsV RX12 133 RX12 yX12_wrongKept wsX12_wrongKept) := goodIn_app (goodIn_of _ (by decide +kernel)) ggX12_cost_X12_wrongKept
set_option maxRecDepth 20000 in
theorem ggX12_cost_X12_costBy : GoodIn wsX12_cost wsX12_costBy := goodIn_r _ [18] (by decide +kernel) (by decide +kernel)
set_option maxRecDepth 20000 in
theorem gX12_cost_X12_costBy : GoodIn wsX12_cost (va_wsS RX12 191 yX12_costBy wsX12_costBy) := goodIn_app (goodIn_of _ (by decide +kernel)) ggX12_cost_X12_costBy
theorem dX12_cost_0 : decode cX12_cost 0 = .ok (.aload_n 0, 1) := by decide +kernel
theorem dX12_cost_1 : decode cX12_cost 1 = .ok (.iload_n 1, 1) := by decide +kernel
theorem dX12_cost_2 : decode cX12_cost 2 = .ok (.invokevirtual 133, 3) := by decide +kernel
theorem dX12_cost_5 : decode cX12_cost 5 = .ok (.istore_n 2, 1) := by decide +kernel
theorem dX12_cost_6 : decode cX12_cost 6 = .ok (.iload_n 2, 1) := by decide +kernel
theorem dX12_cost_7 : decode cX12_cost 7 = .ok (.ifCond .eq 7, 3) := by decide +kernel
theorem dX12_cost_10 : decode cX12_cost 10 = .ok (.iload_n 2, 1) := by decide +kernel
theorem dX12_cost_11 : decode cX12_cost 11 = .ok (.goto 18, 3) := by decide +kernel
theorem dX12_cost_14 : decode cX12_cost 14 = .ok (.aload_n 0, 1) := by decide +kernel
theorem dX12_cost_15 : decode cX12_cost 15 = .ok (.getfield 34, 3) := by decide +kernel
theorem dX12_cost_18 : decode cX12_cost 18 = .ok (.iload_n 1, 1) := by decide +kernel
theorem dX12_cost_19 : decode cX12_cost 19 = .ok (.iaload, 1) := by decide +kernel
theorem dX12_cost_20 : decode cX12_cost 20 = .ok (.aload_n 0, 1) := by decide +kernel
theorem dX12_cost_21 : decode cX12_cost 21 = .ok (.getfield 37, 3) := by decide +kernel
theorem dX12_cost_24 : decode cX12_cost 24 = .ok (.iload_n 1, 1) := by decide +kernel
theorem dX12_cost_25 : decode cX12_cost 25 = .ok (.iaload, 1) := by decide +kernel
theorem dX12_cost_26 : decode cX12_cost 26 = .ok (.invokestatic 191, 3) := by decide +kernel
theorem dX12_cost_29 : decode cX12_cost 29 = .ok (.ireturn, 1) := by decide +kernel
set_option maxRecDepth 20000 in
theorem ggX12_toss_X12_wrongKept : GoodIn wsX12_toss wsX12_wrongKept := goodIn_r _ [7, 8, 9, 10, 6, 11, 12, 13, 14, 15, 19, 20, 21, 22, 23, 24, 25, 26, 27, 28, 29, 30, 31, 32, 33, 34, 35, 36, 37] (by decide +kernel) (by decide +kernel)
set_option maxRecDepth 20000 in
theorem gX12_toss_X12_wrongKept : GoodIn wsX12_toss (wsV RX12 133 RX12 yX12_wrongKept wsX12_wrongKept) := goodIn_app (goodIn_of _ (by decide +kernel)) ggX12_toss_X12_wrongKept
set_option maxRecDepth 20000 in
theorem ggX12_toss_X12_costBy : GoodIn wsX12_toss wsX12_costBy := goodIn_r _ [18] (by decide +kernel) (by decide +kernel)
set_option maxRecDepth 20000 in
theorem gX12_toss_X12_costBy : GoodIn wsX12_toss (va_wsS RX12 191 yX12_costBy wsX12_costBy) := goodIn_app (goodIn_of _ (by decide +kernel)) ggX12_toss_X12_costBy
theorem dX12_toss_0 : decode cX12_toss 0 = .ok (.aload_n 0, 1) := by decide +kernel
theorem dX12_toss_1 : decode cX12_toss 1 = .ok (.iload_n 1, 1) := by decide +kernel
theorem dX12_toss_2 : decode cX12_toss 2 = .ok (.invokevirtual 133, 3) := by decide +kernel
theorem dX12_toss_5 : decode cX12_toss 5 = .ok (.istore_n 2, 1) := by decide +kernel
theorem dX12_toss_6 : decode cX12_toss 6 = .ok (.iload_n 2, 1) := by decide +kernel
theorem dX12_toss_7 : decode cX12_toss 7 = .ok (.ifCond .eq 5, 3) := by decide +kernel
theorem dX12_toss_10 : decode cX12_toss 10 = .ok (.iload_n 2, 1) := by decide +kernel
theorem dX12_toss_11 : decode cX12_toss 11 = .ok (.ireturn, 1) := by decide +kernel
theorem dX12_toss_12 : decode cX12_toss 12 = .ok (.aload_n 0, 1) := by decide +kernel
theorem dX12_toss_13 : decode cX12_toss 13 = .ok (.getfield 34, 3) := by decide +kernel
theorem dX12_toss_16 : decode cX12_toss 16 = .ok (.iload_n 1, 1) := by decide +kernel
theorem dX12_toss_17 : decode cX12_toss 17 = .ok (.iaload, 1) := by decide +kernel
theorem dX12_toss_18 : decode cX12_toss 18 = .ok (.istore_n 3, 1) := by decide +kernel
theorem dX12_toss_19 : decode cX12_toss 19 = .ok (.aload_n 0, 1) := by decide +kernel
theorem dX12_toss_20 : decode cX12_toss 20 = .ok (.getfield 37, 3) := by decide +kernel
theorem dX12_toss_23 : decode cX12_toss 23 = .ok (.iload_n 1, 1) := by decide +kernel
theorem dX12_toss_24 : decode cX12_toss 24 = .ok (.iaload, 1) := by decide +kernel
theorem dX12_toss_25 : decode cX12_toss 25 = .ok (.istore 4, 2) := by decide +kernel
theorem dX12_toss_27 : decode cX12_toss 27 = .ok (.iload_n 3, 1) := by decide +kernel
theorem dX12_toss_28 : decode cX12_toss 28 = .ok (.iconst 1, 1) := by decide +kernel
theorem dX12_toss_29 : decode cX12_toss 29 = .ok (.if_icmp .eq 8, 3) := by decide +kernel
theorem dX12_toss_32 : decode cX12_toss 32 = .ok (.iload 4, 2) := by decide +kernel
theorem dX12_toss_34 : decode cX12_toss 34 = .ok (.ifCond .ne 8, 3) := by decide +kernel
theorem dX12_toss_37 : decode cX12_toss 37 = .ok (.bipush (-15), 2) := by decide +kernel
theorem dX12_toss_39 : decode cX12_toss 39 = .ok (.goto 36, 3) := by decide +kernel
theorem dX12_toss_42 : decode cX12_toss 42 = .ok (.iload_n 3, 1) := by decide +kernel
theorem dX12_toss_43 : decode cX12_toss 43 = .ok (.iconst 4, 1) := by decide +kernel
theorem dX12_toss_44 : decode cX12_toss 44 = .ok (.if_icmp .ne 11, 3) := by decide +kernel
theorem dX12_toss_47 : decode cX12_toss 47 = .ok (.bipush 100, 2) := by decide +kernel
theorem dX12_toss_49 : decode cX12_toss 49 = .ok (.iload 4, 2) := by decide +kernel
theorem dX12_toss_51 : decode cX12_toss 51 = .ok (.iadd, 1) := by decide +kernel
theorem dX12_toss_52 : decode cX12_toss 52 = .ok (.goto 23, 3) := by decide +kernel
theorem dX12_toss_55 : decode cX12_toss 55 = .ok (.iload_n 3, 1) := by decide +kernel
theorem dX12_toss_56 : decode cX12_toss 56 = .ok (.iconst 5, 1) := by decide +kernel
theorem dX12_toss_57 : decode cX12_toss 57 = .ok (.if_icmp .ne 16, 3) := by decide +kernel
theorem dX12_toss_60 : decode cX12_toss 60 = .ok (.sipush 200, 3) := by decide +kernel
theorem dX12_toss_63 : decode cX12_toss 63 = .ok (.iload_n 3, 1) := by decide +kernel
theorem dX12_toss_64 : decode cX12_toss 64 = .ok (.iload 4, 2) := by decide +kernel
theorem dX12_toss_66 : decode cX12_toss 66 = .ok (.invokestatic 191, 3) := by decide +kernel
theorem dX12_toss_69 : decode cX12_toss 69 = .ok (.iadd, 1) := by decide +kernel
theorem dX12_toss_70 : decode cX12_toss 70 = .ok (.goto 5, 3) := by decide +kernel
theorem dX12_toss_73 : decode cX12_toss 73 = .ok (.iload 4, 2) := by decide +kernel
theorem dX12_toss_75 : decode cX12_toss 75 = .ok (.ireturn, 1) := by decide +kernel
theorem dJ6_bitCount_0f7a4_0 : decode cJ6_bitCount_0f7a4 0 = .ok (.iload_n 0, 1) := by decide +kernel
theorem dJ6_bitCount_0f7a4_1 : decode cJ6_bitCount_0f7a4 1 = .ok (.iload_n 0, 1) := by decide +kernel
theorem dJ6_bitCount_0f7a4_2 : decode cJ6_bitCount_0f7a4 2 = .ok (.iconst 1, 1) := by decide +kernel
theorem dJ6_bitCount_0f7a4_3 : decode cJ6_bitCount_0f7a4 3 = .ok (.iushr, 1) := by decide +kernel
theorem dJ6_bitCount_0f7a4_4 : decode cJ6_bitCount_0f7a4 4 = .ok (.ldc_w 265, 3) := by decide +kernel
theorem dJ6_bitCount_0f7a4_7 : decode cJ6_bitCount_0f7a4 7 = .ok (.iand, 1) := by decide +kernel
theorem dJ6_bitCount_0f7a4_8 : decode cJ6_bitCount_0f7a4 8 = .ok (.isub, 1) := by decide +kernel
theorem dJ6_bitCount_0f7a4_9 : decode cJ6_bitCount_0f7a4 9 = .ok (.istore_n 0, 1) := by decide +kernel
theorem dJ6_bitCount_0f7a4_10 : decode cJ6_bitCount_0f7a4 10 = .ok (.iload_n 0, 1) := by decide +kernel
theorem dJ6_bitCount_0f7a4_11 : decode cJ6_bitCount_0f7a4 11 = .ok (.ldc_w 266, 3) := by decide +kernel
theorem dJ6_bitCount_0f7a4_14 : decode cJ6_bitCount_0f7a4 14 = .ok (.iand, 1) := by decide +kernel
theorem dJ6_bitCount_0f7a4_15 : decode cJ6_bitCount_0f7a4 15 = .ok (.iload_n 0, 1) := by decide +kernel
theorem dJ6_bitCount_0f7a4_16 : decode cJ6_bitCount_0f7a4 16 = .ok (.iconst 2, 1) := by decide +kernel
theorem dJ6_bitCount_0f7a4_17 : decode cJ6_bitCount_0f7a4 17 = .ok (.iushr, 1) := by decide +kernel
theorem dJ6_bitCount_0f7a4_18 : decode cJ6_bitCount_0f7a4 18 = .ok (.ldc_w 266, 3) := by decide +kernel
theorem dJ6_bitCount_0f7a4_21 : decode cJ6_bitCount_0f7a4 21 = .ok (.iand, 1) := by decide +kernel
theorem dJ6_bitCount_0f7a4_22 : decode cJ6_bitCount_0f7a4 22 = .ok (.iadd, 1) := by decide +kernel
theorem dJ6_bitCount_0f7a4_23 : decode cJ6_bitCount_0f7a4 23 = .ok (.istore_n 0, 1) := by decide +kernel
theorem dJ6_bitCount_0f7a4_24 : decode cJ6_bitCount_0f7a4 24 = .ok (.iload_n 0, 1) := by decide +kernel
theorem dJ6_bitCount_0f7a4_25 : decode cJ6_bitCount_0f7a4 25 = .ok (.iload_n 0, 1) := by decide +kernel
theorem dJ6_bitCount_0f7a4_26 : decode cJ6_bitCount_0f7a4 26 = .ok (.iconst 4, 1) := by decide +kernel
theorem dJ6_bitCount_0f7a4_27 : decode cJ6_bitCount_0f7a4 27 = .ok (.iushr, 1) := by decide +kernel
theorem dJ6_bitCount_0f7a4_28 : decode cJ6_bitCount_0f7a4 28 = .ok (.iadd, 1) := by decide +kernel
theorem dJ6_bitCount_0f7a4_29 : decode cJ6_bitCount_0f7a4 29 = .ok (.ldc_w 267, 3) := by decide +kernel
theorem dJ6_bitCount_0f7a4_32 : decode cJ6_bitCount_0f7a4 32 = .ok (.iand, 1) := by decide +kernel
theorem dJ6_bitCount_0f7a4_33 : decode cJ6_bitCount_0f7a4 33 = .ok (.istore_n 0, 1) := by decide +kernel
theorem dJ6_bitCount_0f7a4_34 : decode cJ6_bitCount_0f7a4 34 = .ok (.iload_n 0, 1) := by decide +kernel
theorem dJ6_bitCount_0f7a4_35 : decode cJ6_bitCount_0f7a4 35 = .ok (.iload_n 0, 1) := by decide +kernel
theorem dJ6_bitCount_0f7a4_36 : decode cJ6_bitCount_0f7a4 36 = .ok (.bipush 8, 2) := by decide +kernel
theorem dJ6_bitCount_0f7a4_38 : decode cJ6_bitCount_0f7a4 38 = .ok (.iushr, 1) := by decide +kernel
theorem dJ6_bitCount_0f7a4_39 : decode cJ6_bitCount_0f7a4 39 = .ok (.iadd, 1) := by decide +kernel
theorem dJ6_bitCount_0f7a4_40 : decode cJ6_bitCount_0f7a4 40 = .ok (.istore_n 0, 1) := by decide +kernel
theorem dJ6_bitCount_0f7a4_41 : decode cJ6_bitCount_0f7a4 41 = .ok (.iload_n 0, 1) := by decide +kernel
theorem dJ6_bitCount_0f7a4_42 : decode cJ6_bitCount_0f7a4 42 = .ok (.iload_n 0, 1) := by decide +kernel
theorem dJ6_bitCount_0f7a4_43 : decode cJ6_bitCount_0f7a4 43 = .ok (.bipush 16, 2) := by decide +kernel
theorem dJ6_bitCount_0f7a4_45 : decode cJ6_bitCount_0f7a4 45 = .ok (.iushr, 1) := by decide +kernel
theorem dJ6_bitCount_0f7a4_46 : decode cJ6_bitCount_0f7a4 46 = .ok (.iadd, 1) := by decide +kernel
theorem dJ6_bitCount_0f7a4_47 : decode cJ6_bitCount_0f7a4 47 = .ok (.istore_n 0, 1) := by decide +kernel
theorem dJ6_bitCount_0f7a4_48 : decode cJ6_bitCount_0f7a4 48 = .ok (.iload_n 0, 1) := by decide +kernel
theorem dJ6_bitCount_0f7a4_49 : decode cJ6_bitCount_0f7a4 49 = .ok (.bipush 63, 2) := by decide +kernel
theorem dJ6_bitCount_0f7a4_51 : decode cJ6_bitCount_0f7a4 51 = .ok (.iand, 1) := by decide +kernel
theorem dJ6_bitCount_0f7a4_52 : decode cJ6_bitCount_0f7a4 52 = .ok (.ireturn, 1) := by decide +kernel
theorem dJ9_max_7cf53_0 : decode cJ9_max_7cf53 0 = .ok (.iload_n 0, 1) := by decide +kernel
theorem dJ9_max_7cf53_1 : decode cJ9_max_7cf53 1 = .ok (.iload_n 1, 1) := by decide +kernel
theorem dJ9_max_7cf53_2 : decode cJ9_max_7cf53 2 = .ok (.if_icmp .lt 7, 3) := by decide +kernel
theorem dJ9_max_7cf53_5 : decode cJ9_max_7cf53 5 = .ok (.iload_n 0, 1) := by decide +kernel
theorem dJ9_max_7cf53_6 : decode cJ9_max_7cf53 6 = .ok (.goto 4, 3) := by decide +kernel
theorem dJ9_max_7cf53_9 : decode cJ9_max_7cf53 9 = .ok (.iload_n 1, 1) := by decide +kernel
theorem dJ9_max_7cf53_10 : decode cJ9_max_7cf53 10 = .ok (.ireturn, 1) := by decide +kernel
theorem dJ9_min_7cf53_0 : decode cJ9_min_7cf53 0 = .ok (.iload_n 0, 1) := by decide +kernel
theorem dJ9_min_7cf53_1 : decode cJ9_min_7cf53 1 = .ok (.iload_n 1, 1) := by decide +kernel
theorem dJ9_min_7cf53_2 : decode cJ9_min_7cf53 2 = .ok (.if_icmp .gt 7, 3) := by decide +kernel
theorem dJ9_min_7cf53_5 : decode cJ9_min_7cf53 5 = .ok (.iload_n 0, 1) := by decide +kernel
theorem dJ9_min_7cf53_6 : decode cJ9_min_7cf53 6 = .ok (.goto 4, 3) := by decide +kernel
theorem dJ9_min_7cf53_9 : decode cJ9_min_7cf53 9 = .ok (.iload_n 1, 1) := by decide +kernel
theorem dJ9_min_7cf53_10 : decode cJ9_min_7cf53 10 = .ok (.ireturn, 1) := by decide +kernel
