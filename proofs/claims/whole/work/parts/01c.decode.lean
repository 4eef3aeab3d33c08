set_option maxRecDepth 20000 in
theorem ggX11_init_X2_init : GoodIn wsX11_init wsX2_init := goodIn_r _ [85, 86, 2, 3, 87, 9, 10, 88, 89, 48, 90, 91, 92, 43, 44, 45, 46, 47, 49, 50, 51, 104, 105, 106, 107, 108, 109, 110, 111, 130, 131, 132, 133, 134] (by decide +kernel) (by decide +kernel)
set_option maxRecDepth 20000 in
theorem gX11_init_X2_init : GoodIn wsX11_init (wsX2_init) := ggX11_init_X2_init
theorem dX11_init_0 : decode cX11_init 0 = .ok (.aload_n 0, 1) := by decide +kernel
theorem dX11_init_1 : decode cX11_init 1 = .ok (.invokespecial 1, 3) := by decide +kernel
theorem dX11_init_4 : decode cX11_init 4 = .ok (.aload_n 0, 1) := by decide +kernel
theorem dX11_init_5 : decode cX11_init 5 = .ok (.bipush 8, 2) := by decide +kernel
theorem dX11_init_7 : decode cX11_init 7 = .ok (.anewarray 9, 3) := by decide +kernel
theorem dX11_init_10 : decode cX11_init 10 = .ok (.putfield 11, 3) := by decide +kernel
theorem dX11_init_13 : decode cX11_init 13 = .ok (.aload_n 0, 1) := by decide +kernel
theorem dX11_init_14 : decode cX11_init 14 = .ok (.bipush 6, 2) := by decide +kernel
theorem dX11_init_16 : decode cX11_init 16 = .ok (.anewarray 15, 3) := by decide +kernel
theorem dX11_init_19 : decode cX11_init 19 = .ok (.putfield 17, 3) := by decide +kernel
theorem dX11_init_22 : decode cX11_init 22 = .ok (.aload_n 0, 1) := by decide +kernel
theorem dX11_init_23 : decode cX11_init 23 = .ok (.new 21, 3) := by decide +kernel
theorem dX11_init_26 : decode cX11_init 26 = .ok (.dup, 1) := by decide +kernel
theorem dX11_init_27 : decode cX11_init 27 = .ok (.invokespecial 23, 3) := by decide +kernel
theorem dX11_init_30 : decode cX11_init 30 = .ok (.putfield 24, 3) := by decide +kernel
theorem dX11_init_33 : decode cX11_init 33 = .ok (.aload_n 0, 1) := by decide +kernel
theorem dX11_init_34 : decode cX11_init 34 = .ok (.bipush 24, 2) := by decide +kernel
theorem dX11_init_36 : decode cX11_init 36 = .ok (.anewarray 21, 3) := by decide +kernel
theorem dX11_init_39 : decode cX11_init 39 = .ok (.putfield 28, 3) := by decide +kernel
theorem dX11_init_42 : decode cX11_init 42 = .ok (.aload_n 0, 1) := by decide +kernel
theorem dX11_init_43 : decode cX11_init 43 = .ok (.iconst 2, 1) := by decide +kernel
theorem dX11_init_44 : decode cX11_init 44 = .ok (.anewarray 21, 3) := by decide +kernel
theorem dX11_init_47 : decode cX11_init 47 = .ok (.putfield 32, 3) := by decide +kernel
theorem dX11_init_50 : decode cX11_init 50 = .ok (.aload_n 0, 1) := by decide +kernel
theorem dX11_init_51 : decode cX11_init 51 = .ok (.new 35, 3) := by decide +kernel
theorem dX11_init_54 : decode cX11_init 54 = .ok (.dup, 1) := by decide +kernel
theorem dX11_init_55 : decode cX11_init 55 = .ok (.invokespecial 37, 3) := by decide +kernel
theorem dX11_init_58 : decode cX11_init 58 = .ok (.putfield 38, 3) := by decide +kernel
theorem dX11_init_61 : decode cX11_init 61 = .ok (.iconst 0, 1) := by decide +kernel
theorem dX11_init_62 : decode cX11_init 62 = .ok (.istore_n 1, 1) := by decide +kernel
theorem dX11_init_63 : decode cX11_init 63 = .ok (.iload_n 1, 1) := by decide +kernel
theorem dX11_init_64 : decode cX11_init 64 = .ok (.bipush 8, 2) := by decide +kernel
theorem dX11_init_66 : decode cX11_init 66 = .ok (.if_icmp .ge 22, 3) := by decide +kernel
theorem dX11_init_69 : decode cX11_init 69 = .ok (.aload_n 0, 1) := by decide +kernel
theorem dX11_init_70 : decode cX11_init 70 = .ok (.getfield 11, 3) := by decide +kernel
theorem dX11_init_73 : decode cX11_init 73 = .ok (.iload_n 1, 1) := by decide +kernel
theorem dX11_init_74 : decode cX11_init 74 = .ok (.new 9, 3) := by decide +kernel
theorem dX11_init_77 : decode cX11_init 77 = .ok (.dup, 1) := by decide +kernel
theorem dX11_init_78 : decode cX11_init 78 = .ok (.invokespecial 42, 3) := by decide +kernel
theorem dX11_init_81 : decode cX11_init 81 = .ok (.aastore, 1) := by decide +kernel
theorem dX11_init_82 : decode cX11_init 82 = .ok (.iinc 1 1, 3) := by decide +kernel
theorem dX11_init_85 : decode cX11_init 85 = .ok (.goto (-22), 3) := by decide +kernel
theorem dX11_init_88 : decode cX11_init 88 = .ok (.iconst 0, 1) := by decide +kernel
theorem dX11_init_89 : decode cX11_init 89 = .ok (.istore_n 1, 1) := by decide +kernel
theorem dX11_init_90 : decode cX11_init 90 = .ok (.iload_n 1, 1) := by decide +kernel
theorem dX11_init_91 : decode cX11_init 91 = .ok (.bipush 24, 2) := by decide +kernel
theorem dX11_init_93 : decode cX11_init 93 = .ok (.if_icmp .ge 22, 3) := by decide +kernel
theorem dX11_init_96 : decode cX11_init 96 = .ok (.aload_n 0, 1) := by decide +kernel
theorem dX11_init_97 : decode cX11_init 97 = .ok (.getfield 28, 3) := by decide +kernel
theorem dX11_init_100 : decode cX11_init 100 = .ok (.iload_n 1, 1) := by decide +kernel
theorem dX11_init_101 : decode cX11_init 101 = .ok (.new 21, 3) := by decide +kernel
theorem dX11_init_104 : decode cX11_init 104 = .ok (.dup, 1) := by decide +kernel
theorem dX11_init_105 : decode cX11_init 105 = .ok (.invokespecial 23, 3) := by decide +kernel
theorem dX11_init_108 : decode cX11_init 108 = .ok (.aastore, 1) := by decide +kernel
theorem dX11_init_109 : decode cX11_init 109 = .ok (.iinc 1 1, 3) := by decide +kernel
theorem dX11_init_112 : decode cX11_init 112 = .ok (.goto (-22), 3) := by decide +kernel
theorem dX11_init_115 : decode cX11_init 115 = .ok (.iconst 0, 1) := by decide +kernel
theorem dX11_init_116 : decode cX11_init 116 = .ok (.istore_n 1, 1) := by decide +kernel
theorem dX11_init_117 : decode cX11_init 117 = .ok (.iload_n 1, 1) := by decide +kernel
theorem dX11_init_118 : decode cX11_init 118 = .ok (.iconst 2, 1) := by decide +kernel
theorem dX11_init_119 : decode cX11_init 119 = .ok (.if_icmp .ge 22, 3) := by decide +kernel
theorem dX11_init_122 : decode cX11_init 122 = .ok (.aload_n 0, 1) := by decide +kernel
theorem dX11_init_123 : decode cX11_init 123 = .ok (.getfield 32, 3) := by decide +kernel
theorem dX11_init_126 : decode cX11_init 126 = .ok (.iload_n 1, 1) := by decide +kernel
theorem dX11_init_127 : decode cX11_init 127 = .ok (.new 21, 3) := by decide +kernel
theorem dX11_init_130 : decode cX11_init 130 = .ok (.dup, 1) := by decide +kernel
theorem dX11_init_131 : decode cX11_init 131 = .ok (.invokespecial 23, 3) := by decide +kernel
theorem dX11_init_134 : decode cX11_init 134 = .ok (.aastore, 1) := by decide +kernel
theorem dX11_init_135 : decode cX11_init 135 = .ok (.iinc 1 1, 3) := by decide +kernel
theorem dX11_init_138 : decode cX11_init 138 = .ok (.goto (-21), 3) := by decide +kernel
theorem dX11_init_141 : decode cX11_init 141 = .ok (.aload_n 0, 1) := by decide +kernel
theorem dX11_init_142 : decode cX11_init 142 = .ok (.getfield 17, 3) := by decide +kernel
theorem dX11_init_145 : decode cX11_init 145 = .ok (.iconst 1, 1) := by decide +kernel
theorem dX11_init_146 : decode cX11_init 146 = .ok (.new 43, 3) := by decide +kernel
theorem dX11_init_149 : decode cX11_init 149 = .ok (.dup, 1) := by decide +kernel
theorem dX11_init_150 : decode cX11_init 150 = .ok (.invokespecial 45, 3) := by decide +kernel
theorem dX11_init_153 : decode cX11_init 153 = .ok (.aastore, 1) := by decide +kernel
theorem dX11_init_154 : decode cX11_init 154 = .ok (.aload_n 0, 1) := by decide +kernel
theorem dX11_init_155 : decode cX11_init 155 = .ok (.getfield 17, 3) := by decide +kernel
theorem dX11_init_158 : decode cX11_init 158 = .ok (.iconst 2, 1) := by decide +kernel
theorem dX11_init_159 : decode cX11_init 159 = .ok (.new 46, 3) := by decide +kernel
theorem dX11_init_162 : decode cX11_init 162 = .ok (.dup, 1) := by decide +kernel
theorem dX11_init_163 : decode cX11_init 163 = .ok (.invokespecial 48, 3) := by decide +kernel
theorem dX11_init_166 : decode cX11_init 166 = .ok (.aastore, 1) := by decide +kernel
theorem dX11_init_167 : decode cX11_init 167 = .ok (.aload_n 0, 1) := by decide +kernel
theorem dX11_init_168 : decode cX11_init 168 = .ok (.getfield 17, 3) := by decide +kernel
theorem dX11_init_171 : decode cX11_init 171 = .ok (.iconst 3, 1) := by decide +kernel
theorem dX11_init_172 : decode cX11_init 172 = .ok (.new 49, 3) := by decide +kernel
theorem dX11_init_175 : decode cX11_init 175 = .ok (.dup, 1) := by decide +kernel
theorem dX11_init_176 : decode cX11_init 176 = .ok (.invokespecial 51, 3) := by decide +kernel
theorem dX11_init_179 : decode cX11_init 179 = .ok (.aastore, 1) := by decide +kernel
theorem dX11_init_180 : decode cX11_init 180 = .ok (.aload_n 0, 1) := by decide +kernel
theorem dX11_init_181 : decode cX11_init 181 = .ok (.getfield 17, 3) := by decide +kernel
theorem dX11_init_184 : decode cX11_init 184 = .ok (.iconst 4, 1) := by decide +kernel
theorem dX11_init_185 : decode cX11_init 185 = .ok (.new 52, 3) := by decide +kernel
theorem dX11_init_188 : decode cX11_init 188 = .ok (.dup, 1) := by decide +kernel
theorem dX11_init_189 : decode cX11_init 189 = .ok (.invokespecial 54, 3) := by decide +kernel
theorem dX11_init_192 : decode cX11_init 192 = .ok (.aastore, 1) := by decide +kernel
theorem dX11_init_193 : decode cX11_init 193 = .ok (.aload_n 0, 1) := by decide +kernel
theorem dX11_init_194 : decode cX11_init 194 = .ok (.getfield 17, 3) := by decide +kernel
theorem dX11_init_197 : decode cX11_init 197 = .ok (.iconst 5, 1) := by decide +kernel
theorem dX11_init_198 : decode cX11_init 198 = .ok (.new 55, 3) := by decide +kernel
theorem dX11_init_201 : decode cX11_init 201 = .ok (.dup, 1) := by decide +kernel
theorem dX11_init_202 : decode cX11_init 202 = .ok (.invokespecial 57, 3) := by decide +kernel
theorem dX11_init_205 : decode cX11_init 205 = .ok (.aastore, 1) := by decide +kernel
theorem dX11_init_206 : decode cX11_init 206 = .ok (.aload_n 0, 1) := by decide +kernel
theorem dX11_init_207 : decode cX11_init 207 = .ok (.new 58, 3) := by decide +kernel
theorem dX11_init_210 : decode cX11_init 210 = .ok (.dup, 1) := by decide +kernel
theorem dX11_init_211 : decode cX11_init 211 = .ok (.aload_n 0, 1) := by decide +kernel
theorem dX11_init_212 : decode cX11_init 212 = .ok (.getfield 17, 3) := by decide +kernel
theorem dX11_init_215 : decode cX11_init 215 = .ok (.invokespecial 60, 3) := by decide +kernel
theorem dX11_init_218 : decode cX11_init 218 = .ok (.putfield 63, 3) := by decide +kernel
theorem dX11_init_221 : decode cX11_init 221 = .ok (.aload_n 0, 1) := by decide +kernel
theorem dX11_init_222 : decode cX11_init 222 = .ok (.new 67, 3) := by decide +kernel
theorem dX11_init_225 : decode cX11_init 225 = .ok (.dup, 1) := by decide +kernel
theorem dX11_init_226 : decode cX11_init 226 = .ok (.aload_n 0, 1) := by decide +kernel
theorem dX11_init_227 : decode cX11_init 227 = .ok (.getfield 24, 3) := by decide +kernel
theorem dX11_init_230 : decode cX11_init 230 = .ok (.aload_n 0, 1) := by decide +kernel
theorem dX11_init_231 : decode cX11_init 231 = .ok (.getfield 17, 3) := by decide +kernel
theorem dX11_init_234 : decode cX11_init 234 = .ok (.invokespecial 69, 3) := by decide +kernel
theorem dX11_init_237 : decode cX11_init 237 = .ok (.putfield 72, 3) := by decide +kernel
theorem dX11_init_240 : decode cX11_init 240 = .ok (.return_, 1) := by decide +kernel
set_option maxRecDepth 20000 in
theorem ggX11_row_X11_isRow : GoodIn wsX11_row wsX11_isRow := goodIn_r _ [6, 7, 8, 5, 9] (by decide +kernel) (by decide +kernel)
set_option maxRecDepth 20000 in
theorem gX11_row_X11_isRow : GoodIn wsX11_row (va_wsS RX11 76 yX11_isRow wsX11_isRow) := goodIn_app (goodIn_of _ (by decide +kernel)) ggX11_row_X11_isRow
set_option maxRecDepth 20000 in
theorem ggX11_row_X11_within : GoodIn wsX11_row wsX11_within := goodIn_r _ [9] (by decide +kernel) (by decide +kernel)
set_option maxRecDepth 20000 in
theorem gX11_row_X11_within : GoodIn wsX11_row (va_wsS RX11 80 yX11_within wsX11_within) := goodIn_app (goodIn_of _ (by decide +kernel)) ggX11_row_X11_within
set_option maxRecDepth 20000 in
theorem ggX11_row_X11_find : GoodIn wsX11_row wsX11_find := goodIn_r _ [13, 14, 15, 35, 36, 37, 38, 39, 40, 41, 42, 43, 44, 45] (by decide +kernel) (by decide +kernel)
set_option maxRecDepth 20000 in
theorem gX11_row_X11_find : GoodIn wsX11_row (wsV RX11 85 RX11 yX11_find wsX11_find) := goodIn_app (goodIn_of _ (by decide +kernel)) ggX11_row_X11_find
set_option maxRecDepth 20000 in
theorem ggX11_row_X8_begin : GoodIn wsX11_row wsX8_begin := goodIn_r _ [20, 21, 22, 23, 24, 25, 26, 27, 28, 29, 30, 46, 47, 48] (by decide +kernel) (by decide +kernel)
set_option maxRecDepth 20000 in
theorem gX11_row_X8_begin : GoodIn wsX11_row (wsV RX11 89 RX8 yX8_begin wsX8_begin) := goodIn_app (goodIn_of _ (by decide +kernel)) ggX11_row_X8_begin
set_option maxRecDepth 20000 in
theorem ggX11_row_X11_findNothing : GoodIn wsX11_row wsX11_findNothing := goodIn_r _ [34, 14, 35, 36, 37, 38, 39, 40, 41, 42, 43, 44, 45] (by decide +kernel) (by decide +kernel)
set_option maxRecDepth 20000 in
theorem gX11_row_X11_findNothing : GoodIn wsX11_row (wsV RX11 93 RX11 yX11_findNothing wsX11_findNothing) := goodIn_app (goodIn_of _ (by decide +kernel)) ggX11_row_X11_findNothing
theorem dX11_row_0 : decode cX11_row 0 = .ok (.iload_n 1, 1) := by decide +kernel
theorem dX11_row_1 : decode cX11_row 1 = .ok (.invokestatic 76, 3) := by decide +kernel
theorem dX11_row_4 : decode cX11_row 4 = .ok (.ifCond .eq 18, 3) := by decide +kernel
theorem dX11_row_7 : decode cX11_row 7 = .ok (.iload_n 2, 1) := by decide +kernel
theorem dX11_row_8 : decode cX11_row 8 = .ok (.iconst 0, 1) := by decide +kernel
theorem dX11_row_9 : decode cX11_row 9 = .ok (.iconst 2, 1) := by decide +kernel
theorem dX11_row_10 : decode cX11_row 10 = .ok (.invokestatic 80, 3) := by decide +kernel
theorem dX11_row_13 : decode cX11_row 13 = .ok (.ifCond .eq 9, 3) := by decide +kernel
theorem dX11_row_16 : decode cX11_row 16 = .ok (.iload_n 3, 1) := by decide +kernel
theorem dX11_row_17 : decode cX11_row 17 = .ok (.bipush 40, 2) := by decide +kernel
theorem dX11_row_19 : decode cX11_row 19 = .ok (.if_icmp .le 6, 3) := by decide +kernel
theorem dX11_row_22 : decode cX11_row 22 = .ok (.ldc 84, 2) := by decide +kernel
theorem dX11_row_24 : decode cX11_row 24 = .ok (.ireturn, 1) := by decide +kernel
theorem dX11_row_25 : decode cX11_row 25 = .ok (.iload_n 3, 1) := by decide +kernel
theorem dX11_row_26 : decode cX11_row 26 = .ok (.ifCond .ge 9, 3) := by decide +kernel
theorem dX11_row_29 : decode cX11_row 29 = .ok (.aload_n 0, 1) := by decide +kernel
theorem dX11_row_30 : decode cX11_row 30 = .ok (.iconst 4, 1) := by decide +kernel
theorem dX11_row_31 : decode cX11_row 31 = .ok (.invokevirtual 85, 3) := by decide +kernel
theorem dX11_row_34 : decode cX11_row 34 = .ok (.ireturn, 1) := by decide +kernel
theorem dX11_row_35 : decode cX11_row 35 = .ok (.aload_n 0, 1) := by decide +kernel
theorem dX11_row_36 : decode cX11_row 36 = .ok (.getfield 11, 3) := by decide +kernel
theorem dX11_row_39 : decode cX11_row 39 = .ok (.iload_n 1, 1) := by decide +kernel
theorem dX11_row_40 : decode cX11_row 40 = .ok (.aaload, 1) := by decide +kernel
theorem dX11_row_41 : decode cX11_row 41 = .ok (.iload_n 2, 1) := by decide +kernel
theorem dX11_row_42 : decode cX11_row 42 = .ok (.iload_n 3, 1) := by decide +kernel
theorem dX11_row_43 : decode cX11_row 43 = .ok (.invokevirtual 89, 3) := by decide +kernel
theorem dX11_row_46 : decode cX11_row 46 = .ok (.aload_n 0, 1) := by decide +kernel
theorem dX11_row_47 : decode cX11_row 47 = .ok (.iload_n 3, 1) := by decide +kernel
theorem dX11_row_48 : decode cX11_row 48 = .ok (.invokevirtual 93, 3) := by decide +kernel
theorem dX11_row_51 : decode cX11_row 51 = .ok (.ireturn, 1) := by decide +kernel
set_option maxRecDepth 20000 in
theorem ggX11_set_X11_isRow : GoodIn wsX11_set wsX11_isRow := goodIn_r _ [6, 7, 8, 5, 9] (by decide +kernel) (by decide +kernel)
set_option maxRecDepth 20000 in
theorem gX11_set_X11_isRow : GoodIn wsX11_set (va_wsS RX11 76 yX11_isRow wsX11_isRow) := goodIn_app (goodIn_of _ (by decide +kernel)) ggX11_set_X11_isRow
set_option maxRecDepth 20000 in
theorem ggX11_set_X8_isMissing : GoodIn wsX11_set wsX8_isMissing := goodIn_r _ [14, 15, 52, 53, 54] (by decide +kernel) (by decide +kernel)
set_option maxRecDepth 20000 in
theorem gX11_set_X8_isMissing : GoodIn wsX11_set (wsV RX11 96 RX8 yX8_isMissing wsX8_isMissing) := goodIn_app (goodIn_of _ (by decide +kernel)) ggX11_set_X8_isMissing
set_option maxRecDepth 20000 in
theorem ggX11_set_X11_find : GoodIn wsX11_set wsX11_find := goodIn_r _ [19, 20, 21, 41, 42, 43, 44, 45, 46, 47, 48, 49, 50, 51] (by decide +kernel) (by decide +kernel)
set_option maxRecDepth 20000 in
theorem gX11_set_X11_find : GoodIn wsX11_set (wsV RX11 85 RX11 yX11_find wsX11_find) := goodIn_app (goodIn_of _ (by decide +kernel)) ggX11_set_X11_find
set_option maxRecDepth 20000 in
theorem ggX11_set_X8_reaches : GoodIn wsX11_set wsX8_reaches := goodIn_r _ [25, 26, 52, 53, 54] (by decide +kernel) (by decide +kernel)
set_option maxRecDepth 20000 in
theorem gX11_set_X8_reaches : GoodIn wsX11_set (wsV RX11 100 RX8 yX8_reaches wsX8_reaches) := goodIn_app (goodIn_of _ (by decide +kernel)) ggX11_set_X8_reaches
set_option maxRecDepth 20000 in
theorem ggX11_set_X8_store : GoodIn wsX11_set wsX8_store := goodIn_r _ [30, 31, 15, 32, 23, 24, 13, 25, 26, 52, 53, 54] (by decide +kernel) (by decide +kernel)
set_option maxRecDepth 20000 in
theorem gX11_set_X8_store : GoodIn wsX11_set (wsV RX11 104 RX8 yX8_store wsX8_store) := goodIn_app (goodIn_of _ (by decide +kernel)) ggX11_set_X8_store
set_option maxRecDepth 20000 in
theorem ggX11_set_X8_item : GoodIn wsX11_set wsX8_item := goodIn_r _ [36, 31, 32, 23, 24, 13, 25, 26, 52, 53, 54] (by decide +kernel) (by decide +kernel)
set_option maxRecDepth 20000 in
theorem gX11_set_X8_item : GoodIn wsX11_set (wsV RX11 107 RX8 yX8_item wsX8_item) := goodIn_app (goodIn_of _ (by decide +kernel)) ggX11_set_X8_item
set_option maxRecDepth 20000 in
theorem ggX11_set_X11_findNothing : GoodIn wsX11_set wsX11_findNothing := goodIn_r _ [40, 20, 41, 42, 43, 44, 45, 46, 47, 48, 49, 50, 51] (by decide +kernel) (by decide +kernel)
set_option maxRecDepth 20000 in
theorem gX11_set_X11_findNothing : GoodIn wsX11_set (wsV RX11 93 RX11 yX11_findNothing wsX11_findNothing) := goodIn_app (goodIn_of _ (by decide +kernel)) ggX11_set_X11_findNothing
theorem dX11_set_0 : decode cX11_set 0 = .ok (.iload_n 1, 1) := by decide +kernel
theorem dX11_set_1 : decode cX11_set 1 = .ok (.invokestatic 76, 3) := by decide +kernel
theorem dX11_set_4 : decode cX11_set 4 = .ok (.ifCond .ne 6, 3) := by decide +kernel
theorem dX11_set_7 : decode cX11_set 7 = .ok (.ldc 84, 2) := by decide +kernel
theorem dX11_set_9 : decode cX11_set 9 = .ok (.ireturn, 1) := by decide +kernel
theorem dX11_set_10 : decode cX11_set 10 = .ok (.aload_n 0, 1) := by decide +kernel
theorem dX11_set_11 : decode cX11_set 11 = .ok (.getfield 11, 3) := by decide +kernel
theorem dX11_set_14 : decode cX11_set 14 = .ok (.iload_n 1, 1) := by decide +kernel
theorem dX11_set_15 : decode cX11_set 15 = .ok (.aaload, 1) := by decide +kernel
theorem dX11_set_16 : decode cX11_set 16 = .ok (.astore 4, 2) := by decide +kernel
theorem dX11_set_18 : decode cX11_set 18 = .ok (.aload 4, 2) := by decide +kernel
theorem dX11_set_20 : decode cX11_set 20 = .ok (.invokevirtual 96, 3) := by decide +kernel
theorem dX11_set_23 : decode cX11_set 23 = .ok (.ifCond .eq 9, 3) := by decide +kernel
theorem dX11_set_26 : decode cX11_set 26 = .ok (.aload_n 0, 1) := by decide +kernel
theorem dX11_set_27 : decode cX11_set 27 = .ok (.iconst 1, 1) := by decide +kernel
theorem dX11_set_28 : decode cX11_set 28 = .ok (.invokevirtual 85, 3) := by decide +kernel
theorem dX11_set_31 : decode cX11_set 31 = .ok (.ireturn, 1) := by decide +kernel
theorem dX11_set_32 : decode cX11_set 32 = .ok (.aload 4, 2) := by decide +kernel
theorem dX11_set_34 : decode cX11_set 34 = .ok (.iload_n 2, 1) := by decide +kernel
theorem dX11_set_35 : decode cX11_set 35 = .ok (.iconst 1, 1) := by decide +kernel
theorem dX11_set_36 : decode cX11_set 36 = .ok (.invokevirtual 100, 3) := by decide +kernel
theorem dX11_set_39 : decode cX11_set 39 = .ok (.ifCond .ne 9, 3) := by decide +kernel
theorem dX11_set_42 : decode cX11_set 42 = .ok (.aload_n 0, 1) := by decide +kernel
theorem dX11_set_43 : decode cX11_set 43 = .ok (.iconst 2, 1) := by decide +kernel
theorem dX11_set_44 : decode cX11_set 44 = .ok (.invokevirtual 85, 3) := by decide +kernel
theorem dX11_set_47 : decode cX11_set 47 = .ok (.ireturn, 1) := by decide +kernel
theorem dX11_set_48 : decode cX11_set 48 = .ok (.aload 4, 2) := by decide +kernel
theorem dX11_set_50 : decode cX11_set 50 = .ok (.iload_n 2, 1) := by decide +kernel
theorem dX11_set_51 : decode cX11_set 51 = .ok (.iload_n 3, 1) := by decide +kernel
theorem dX11_set_52 : decode cX11_set 52 = .ok (.invokevirtual 104, 3) := by decide +kernel
theorem dX11_set_55 : decode cX11_set 55 = .ok (.aload_n 0, 1) := by decide +kernel
theorem dX11_set_56 : decode cX11_set 56 = .ok (.aload 4, 2) := by decide +kernel
theorem dX11_set_58 : decode cX11_set 58 = .ok (.iload_n 2, 1) := by decide +kernel
theorem dX11_set_59 : decode cX11_set 59 = .ok (.invokevirtual 107, 3) := by decide +kernel
theorem dX11_set_62 : decode cX11_set 62 = .ok (.invokevirtual 93, 3) := by decide +kernel
theorem dX11_set_65 : decode cX11_set 65 = .ok (.ireturn, 1) := by decide +kernel
set_option maxRecDepth 20000 in
theorem ggX11_copy_X11_isRow : GoodIn wsX11_copy wsX11_isRow := goodIn_r _ [6, 7, 8, 5, 9] (by decide +kernel) (by decide +kernel)
set_option maxRecDepth 20000 in
theorem gX11_copy_X11_isRow : GoodIn wsX11_copy (va_wsS RX11 76 yX11_isRow wsX11_isRow) := goodIn_app (goodIn_of _ (by decide +kernel)) ggX11_copy_X11_isRow
set_option maxRecDepth 20000 in
theorem ggX11_copy_X8_isMissing : GoodIn wsX11_copy wsX8_isMissing := goodIn_r _ [14, 15, 52, 53, 54] (by decide +kernel) (by decide +kernel)
set_option maxRecDepth 20000 in
theorem gX11_copy_X8_isMissing : GoodIn wsX11_copy (wsV RX11 96 RX8 yX8_isMissing wsX8_isMissing) := goodIn_app (goodIn_of _ (by decide +kernel)) ggX11_copy_X8_isMissing
set_option maxRecDepth 20000 in
theorem ggX11_copy_X11_find : GoodIn wsX11_copy wsX11_find := goodIn_r _ [19, 20, 21, 41, 42, 43, 44, 45, 46, 47, 48, 49, 50, 51] (by decide +kernel) (by decide +kernel)
set_option maxRecDepth 20000 in
theorem gX11_copy_X11_find : GoodIn wsX11_copy (wsV RX11 85 RX11 yX11_find wsX11_find) := goodIn_app (goodIn_of _ (by decide +kernel)) ggX11_copy_X11_find
set_option maxRecDepth 20000 in
theorem ggX11_copy_X8_reaches : GoodIn wsX11_copy wsX8_reaches := goodIn_r _ [25, 26, 52, 53, 54] (by decide +kernel) (by decide +kernel)
set_option maxRecDepth 20000 in
theorem gX11_copy_X8_reaches : GoodIn wsX11_copy (wsV RX11 100 RX8 yX8_reaches wsX8_reaches) := goodIn_app (goodIn_of _ (by decide +kernel)) ggX11_copy_X8_reaches
set_option maxRecDepth 20000 in
theorem ggX11_copy_X8_take : GoodIn wsX11_copy wsX8_take := goodIn_r _ [30, 31, 32, 33, 34, 35, 36, 23, 24, 13, 25, 26, 52, 53, 54] (by decide +kernel) (by decide +kernel)
set_option maxRecDepth 20000 in
theorem gX11_copy_X8_take : GoodIn wsX11_copy (wsV RX11 114 RX8 yX8_take wsX8_take) := goodIn_app (goodIn_of _ (by decide +kernel)) ggX11_copy_X8_take
set_option maxRecDepth 20000 in
theorem ggX11_copy_X11_findNothing : GoodIn wsX11_copy wsX11_findNothing := goodIn_r _ [40, 20, 41, 42, 43, 44, 45, 46, 47, 48, 49, 50, 51] (by decide +kernel) (by decide +kernel)
set_option maxRecDepth 20000 in
theorem gX11_copy_X11_findNothing : GoodIn wsX11_copy (wsV RX11 93 RX11 yX11_findNothing wsX11_findNothing) := goodIn_app (goodIn_of _ (by decide +kernel)) ggX11_copy_X11_findNothing
theorem dX11_copy_0 : decode cX11_copy 0 = .ok (.iload_n 1, 1) := by decide +kernel
theorem dX11_copy_1 : decode cX11_copy 1 = .ok (.invokestatic 76, 3) := by decide +kernel
theorem dX11_copy_4 : decode cX11_copy 4 = .ok (.ifCond .eq 10, 3) := by decide +kernel
theorem dX11_copy_7 : decode cX11_copy 7 = .ok (.iload_n 3, 1) := by decide +kernel
theorem dX11_copy_8 : decode cX11_copy 8 = .ok (.invokestatic 76, 3) := by decide +kernel
theorem dX11_copy_11 : decode cX11_copy 11 = .ok (.ifCond .ne 6, 3) := by decide +kernel
theorem dX11_copy_14 : decode cX11_copy 14 = .ok (.ldc 84, 2) := by decide +kernel
theorem dX11_copy_16 : decode cX11_copy 16 = .ok (.ireturn, 1) := by decide +kernel
theorem dX11_copy_17 : decode cX11_copy 17 = .ok (.aload_n 0, 1) := by decide +kernel
theorem dX11_copy_18 : decode cX11_copy 18 = .ok (.getfield 11, 3) := by decide +kernel
theorem dX11_copy_21 : decode cX11_copy 21 = .ok (.iload_n 1, 1) := by decide +kernel
theorem dX11_copy_22 : decode cX11_copy 22 = .ok (.aaload, 1) := by decide +kernel
theorem dX11_copy_23 : decode cX11_copy 23 = .ok (.astore 6, 2) := by decide +kernel
theorem dX11_copy_25 : decode cX11_copy 25 = .ok (.aload_n 0, 1) := by decide +kernel
theorem dX11_copy_26 : decode cX11_copy 26 = .ok (.getfield 11, 3) := by decide +kernel
theorem dX11_copy_29 : decode cX11_copy 29 = .ok (.iload_n 3, 1) := by decide +kernel
theorem dX11_copy_30 : decode cX11_copy 30 = .ok (.aaload, 1) := by decide +kernel
theorem dX11_copy_31 : decode cX11_copy 31 = .ok (.astore 7, 2) := by decide +kernel
theorem dX11_copy_33 : decode cX11_copy 33 = .ok (.aload 6, 2) := by decide +kernel
theorem dX11_copy_35 : decode cX11_copy 35 = .ok (.invokevirtual 96, 3) := by decide +kernel
theorem dX11_copy_38 : decode cX11_copy 38 = .ok (.ifCond .ne 11, 3) := by decide +kernel
theorem dX11_copy_41 : decode cX11_copy 41 = .ok (.aload 7, 2) := by decide +kernel
theorem dX11_copy_43 : decode cX11_copy 43 = .ok (.invokevirtual 96, 3) := by decide +kernel
theorem dX11_copy_46 : decode cX11_copy 46 = .ok (.ifCond .eq 9, 3) := by decide +kernel
theorem dX11_copy_49 : decode cX11_copy 49 = .ok (.aload_n 0, 1) := by decide +kernel
theorem dX11_copy_50 : decode cX11_copy 50 = .ok (.iconst 1, 1) := by decide +kernel
theorem dX11_copy_51 : decode cX11_copy 51 = .ok (.invokevirtual 85, 3) := by decide +kernel
theorem dX11_copy_54 : decode cX11_copy 54 = .ok (.ireturn, 1) := by decide +kernel
theorem dX11_copy_55 : decode cX11_copy 55 = .ok (.aload 6, 2) := by decide +kernel
theorem dX11_copy_57 : decode cX11_copy 57 = .ok (.getfield 110, 3) := by decide +kernel
theorem dX11_copy_60 : decode cX11_copy 60 = .ok (.aload 7, 2) := by decide +kernel
theorem dX11_copy_62 : decode cX11_copy 62 = .ok (.getfield 110, 3) := by decide +kernel
theorem dX11_copy_65 : decode cX11_copy 65 = .ok (.if_icmp .eq 9, 3) := by decide +kernel
theorem dX11_copy_68 : decode cX11_copy 68 = .ok (.aload_n 0, 1) := by decide +kernel
theorem dX11_copy_69 : decode cX11_copy 69 = .ok (.iconst 5, 1) := by decide +kernel
theorem dX11_copy_70 : decode cX11_copy 70 = .ok (.invokevirtual 85, 3) := by decide +kernel
theorem dX11_copy_73 : decode cX11_copy 73 = .ok (.ireturn, 1) := by decide +kernel
theorem dX11_copy_74 : decode cX11_copy 74 = .ok (.aload 6, 2) := by decide +kernel
theorem dX11_copy_76 : decode cX11_copy 76 = .ok (.iload_n 2, 1) := by decide +kernel
theorem dX11_copy_77 : decode cX11_copy 77 = .ok (.iload 5, 2) := by decide +kernel
theorem dX11_copy_79 : decode cX11_copy 79 = .ok (.invokevirtual 100, 3) := by decide +kernel
theorem dX11_copy_82 : decode cX11_copy 82 = .ok (.ifCond .eq 15, 3) := by decide +kernel
theorem dX11_copy_85 : decode cX11_copy 85 = .ok (.aload 7, 2) := by decide +kernel
theorem dX11_copy_87 : decode cX11_copy 87 = .ok (.iload 4, 2) := by decide +kernel
theorem dX11_copy_89 : decode cX11_copy 89 = .ok (.iload 5, 2) := by decide +kernel
theorem dX11_copy_91 : decode cX11_copy 91 = .ok (.invokevirtual 100, 3) := by decide +kernel
theorem dX11_copy_94 : decode cX11_copy 94 = .ok (.ifCond .ne 9, 3) := by decide +kernel
theorem dX11_copy_97 : decode cX11_copy 97 = .ok (.aload_n 0, 1) := by decide +kernel
theorem dX11_copy_98 : decode cX11_copy 98 = .ok (.iconst 2, 1) := by decide +kernel
theorem dX11_copy_99 : decode cX11_copy 99 = .ok (.invokevirtual 85, 3) := by decide +kernel
theorem dX11_copy_102 : decode cX11_copy 102 = .ok (.ireturn, 1) := by decide +kernel
theorem dX11_copy_103 : decode cX11_copy 103 = .ok (.aload 7, 2) := by decide +kernel
theorem dX11_copy_105 : decode cX11_copy 105 = .ok (.aload 6, 2) := by decide +kernel
theorem dX11_copy_107 : decode cX11_copy 107 = .ok (.iload_n 2, 1) := by decide +kernel
theorem dX11_copy_108 : decode cX11_copy 108 = .ok (.iload 4, 2) := by decide +kernel
theorem dX11_copy_110 : decode cX11_copy 110 = .ok (.iload 5, 2) := by decide +kernel
theorem dX11_copy_112 : decode cX11_copy 112 = .ok (.invokevirtual 114, 3) := by decide +kernel
theorem dX11_copy_115 : decode cX11_copy 115 = .ok (.aload_n 0, 1) := by decide +kernel
theorem dX11_copy_116 : decode cX11_copy 116 = .ok (.iload 5, 2) := by decide +kernel
theorem dX11_copy_118 : decode cX11_copy 118 = .ok (.invokevirtual 93, 3) := by decide +kernel
theorem dX11_copy_121 : decode cX11_copy 121 = .ok (.ireturn, 1) := by decide +kernel
set_option maxRecDepth 20000 in
theorem ggX11_drop_X11_isRow : GoodIn wsX11_drop wsX11_isRow := goodIn_r _ [6, 7, 8, 5, 9] (by decide +kernel) (by decide +kernel)
set_option maxRecDepth 20000 in
theorem gX11_drop_X11_isRow : GoodIn wsX11_drop (va_wsS RX11 76 yX11_isRow wsX11_isRow) := goodIn_app (goodIn_of _ (by decide +kernel)) ggX11_drop_X11_isRow
set_option maxRecDepth 20000 in
theorem ggX11_drop_X8_isMissing : GoodIn wsX11_drop wsX8_isMissing := goodIn_r _ [14, 15, 42, 43, 44] (by decide +kernel) (by decide +kernel)
set_option maxRecDepth 20000 in
theorem gX11_drop_X8_isMissing : GoodIn wsX11_drop (wsV RX11 96 RX8 yX8_isMissing wsX8_isMissing) := goodIn_app (goodIn_of _ (by decide +kernel)) ggX11_drop_X8_isMissing
set_option maxRecDepth 20000 in
theorem ggX11_drop_X11_find : GoodIn wsX11_drop wsX11_find := goodIn_r _ [19, 20, 21, 31, 32, 33, 34, 35, 36, 37, 38, 39, 40, 41] (by decide +kernel) (by decide +kernel)
set_option maxRecDepth 20000 in
theorem gX11_drop_X11_find : GoodIn wsX11_drop (wsV RX11 85 RX11 yX11_find wsX11_find) := goodIn_app (goodIn_of _ (by decide +kernel)) ggX11_drop_X11_find
set_option maxRecDepth 20000 in
theorem ggX11_drop_X8_end : GoodIn wsX11_drop wsX8_end := goodIn_r _ [25, 15, 26, 42, 43, 44] (by decide +kernel) (by decide +kernel)
set_option maxRecDepth 20000 in
theorem gX11_drop_X8_end : GoodIn wsX11_drop (wsV RX11 121 RX8 yX8_end wsX8_end) := goodIn_app (goodIn_of _ (by decide +kernel)) ggX11_drop_X8_end
set_option maxRecDepth 20000 in
theorem ggX11_drop_X11_findNothing : GoodIn wsX11_drop wsX11_findNothing := goodIn_r _ [30, 20, 31, 32, 33, 34, 35, 36, 37, 38, 39, 40, 41] (by decide +kernel) (by decide +kernel)
set_option maxRecDepth 20000 in
theorem gX11_drop_X11_findNothing : GoodIn wsX11_drop (wsV RX11 93 RX11 yX11_findNothing wsX11_findNothing) := goodIn_app (goodIn_of _ (by decide +kernel)) ggX11_drop_X11_findNothing
theorem dX11_drop_0 : decode cX11_drop 0 = .ok (.iload_n 1, 1) := by decide +kernel
theorem dX11_drop_1 : decode cX11_drop 1 = .ok (.invokestatic 76, 3) := by decide +kernel
theorem dX11_drop_4 : decode cX11_drop 4 = .ok (.ifCond .ne 6, 3) := by decide +kernel
theorem dX11_drop_7 : decode cX11_drop 7 = .ok (.ldc 84, 2) := by decide +kernel
theorem dX11_drop_9 : decode cX11_drop 9 = .ok (.ireturn, 1) := by decide +kernel
theorem dX11_drop_10 : decode cX11_drop 10 = .ok (.aload_n 0, 1) := by decide +kernel
theorem dX11_drop_11 : decode cX11_drop 11 = .ok (.getfield 11, 3) := by decide +kernel
theorem dX11_drop_14 : decode cX11_drop 14 = .ok (.iload_n 1, 1) := by decide +kernel
theorem dX11_drop_15 : decode cX11_drop 15 = .ok (.aaload, 1) := by decide +kernel
theorem dX11_drop_16 : decode cX11_drop 16 = .ok (.astore_n 2, 1) := by decide +kernel
theorem dX11_drop_17 : decode cX11_drop 17 = .ok (.aload_n 2, 1) := by decide +kernel
theorem dX11_drop_18 : decode cX11_drop 18 = .ok (.invokevirtual 96, 3) := by decide +kernel
theorem dX11_drop_21 : decode cX11_drop 21 = .ok (.ifCond .eq 9, 3) := by decide +kernel
theorem dX11_drop_24 : decode cX11_drop 24 = .ok (.aload_n 0, 1) := by decide +kernel
theorem dX11_drop_25 : decode cX11_drop 25 = .ok (.iconst 1, 1) := by decide +kernel
theorem dX11_drop_26 : decode cX11_drop 26 = .ok (.invokevirtual 85, 3) := by decide +kernel
theorem dX11_drop_29 : decode cX11_drop 29 = .ok (.ireturn, 1) := by decide +kernel
theorem dX11_drop_30 : decode cX11_drop 30 = .ok (.aload_n 2, 1) := by decide +kernel
theorem dX11_drop_31 : decode cX11_drop 31 = .ok (.getfield 118, 3) := by decide +kernel
theorem dX11_drop_34 : decode cX11_drop 34 = .ok (.istore_n 3, 1) := by decide +kernel
theorem dX11_drop_35 : decode cX11_drop 35 = .ok (.aload_n 2, 1) := by decide +kernel
theorem dX11_drop_36 : decode cX11_drop 36 = .ok (.invokevirtual 121, 3) := by decide +kernel
theorem dX11_drop_39 : decode cX11_drop 39 = .ok (.aload_n 0, 1) := by decide +kernel
theorem dX11_drop_40 : decode cX11_drop 40 = .ok (.iload_n 3, 1) := by decide +kernel
theorem dX11_drop_41 : decode cX11_drop 41 = .ok (.invokevirtual 93, 3) := by decide +kernel
theorem dX11_drop_44 : decode cX11_drop 44 = .ok (.ireturn, 1) := by decide +kernel
set_option maxRecDepth 20000 in
theorem ggX11_feed_X11_within : GoodIn wsX11_feed wsX11_within := goodIn_r _ [7] (by decide +kernel) (by decide +kernel)
set_option maxRecDepth 20000 in
theorem gX11_feed_X11_within : GoodIn wsX11_feed (va_wsS RX11 80 yX11_within wsX11_within) := goodIn_app (goodIn_of _ (by decide +kernel)) ggX11_feed_X11_within
set_option maxRecDepth 20000 in
theorem ggX11_feed_X6_isFull : GoodIn wsX11_feed wsX6_isFull := goodIn_r _ [12, 13, 31, 32, 33, 34, 35, 36, 37, 38, 39, 40] (by decide +kernel) (by decide +kernel)
set_option maxRecDepth 20000 in
theorem gX11_feed_X6_isFull : GoodIn wsX11_feed (wsV RX11 124 RX6 yX6_isFull wsX6_isFull) := goodIn_app (goodIn_of _ (by decide +kernel)) ggX11_feed_X6_isFull
set_option maxRecDepth 20000 in
theorem ggX11_feed_X6_append : GoodIn wsX11_feed wsX6_append := goodIn_r _ [17, 18, 13, 19, 9, 10, 11, 12, 31, 32, 33, 34, 35, 36, 37, 38, 39, 40] (by decide +kernel) (by decide +kernel)
set_option maxRecDepth 20000 in
theorem gX11_feed_X6_append : GoodIn wsX11_feed (wsV RX11 128 RX6 yX6_append wsX6_append) := goodIn_app (goodIn_of _ (by decide +kernel)) ggX11_feed_X6_append
theorem dX11_feed_0 : decode cX11_feed 0 = .ok (.iload_n 1, 1) := by decide +kernel
theorem dX11_feed_1 : decode cX11_feed 1 = .ok (.iconst 0, 1) := by decide +kernel
theorem dX11_feed_2 : decode cX11_feed 2 = .ok (.sipush 255, 3) := by decide +kernel
theorem dX11_feed_5 : decode cX11_feed 5 = .ok (.invokestatic 80, 3) := by decide +kernel
theorem dX11_feed_8 : decode cX11_feed 8 = .ok (.ifCond .ne 6, 3) := by decide +kernel
theorem dX11_feed_11 : decode cX11_feed 11 = .ok (.ldc 84, 2) := by decide +kernel
theorem dX11_feed_13 : decode cX11_feed 13 = .ok (.ireturn, 1) := by decide +kernel
theorem dX11_feed_14 : decode cX11_feed 14 = .ok (.aload_n 0, 1) := by decide +kernel
theorem dX11_feed_15 : decode cX11_feed 15 = .ok (.getfield 63, 3) := by decide +kernel
theorem dX11_feed_18 : decode cX11_feed 18 = .ok (.invokevirtual 124, 3) := by decide +kernel
theorem dX11_feed_21 : decode cX11_feed 21 = .ok (.ifCond .eq 6, 3) := by decide +kernel
theorem dX11_feed_24 : decode cX11_feed 24 = .ok (.ldc 127, 2) := by decide +kernel
theorem dX11_feed_26 : decode cX11_feed 26 = .ok (.ireturn, 1) := by decide +kernel
theorem dX11_feed_27 : decode cX11_feed 27 = .ok (.aload_n 0, 1) := by decide +kernel
theorem dX11_feed_28 : decode cX11_feed 28 = .ok (.getfield 63, 3) := by decide +kernel
theorem dX11_feed_31 : decode cX11_feed 31 = .ok (.iload_n 1, 1) := by decide +kernel
theorem dX11_feed_32 : decode cX11_feed 32 = .ok (.invokevirtual 128, 3) := by decide +kernel
theorem dX11_feed_35 : decode cX11_feed 35 = .ok (.ireturn, 1) := by decide +kernel
set_option maxRecDepth 20000 in
theorem ggX11_catalogue_X6_readTape : GoodIn wsX11_catalogue wsX6_readTape := goodIn_r _ [10, 11, 12, 13, 14, 15, 16, 9, 17, 18, 19, 20, 21, 22, 23, 24, 25, 26, 27, 28, 29, 30, 31, 32, 33, 34, 35, 36, 37, 38, 39, 40, 41, 42, 43, 44, 45, 46, 47, 48, 49, 50, 51, 52, 53, 54, 55, 56, 57, 58, 59, 60, 61, 62, 63, 64, 65, 66, 67, 68, 69, 70, 71, 72, 73, 74, 75, 76, 77, 78, 79, 80, 81, 82, 83, 84, 85, 86, 87, 88, 89, 90, 91, 92, 93, 94, 95, 96, 97, 98, 99, 100, 101, 102, 103, 104, 105, 122, 123, 124, 125, 126, 127, 128, 129, 130, 131, 132, 133, 134, 135, 136, 137, 138, 139] (by decide +kernel) (by decide +kernel)
set_option maxRecDepth 20000 in
theorem gX11_catalogue_X6_readTape : GoodIn wsX11_catalogue (wsV RX11 131 RX6 yX6_readTape wsX6_readTape) := goodIn_app (goodIn_of _ (by decide +kernel)) ggX11_catalogue_X6_readTape
set_option maxRecDepth 20000 in
theorem ggX11_catalogue_X9_become : GoodIn wsX11_catalogue wsX9_become := goodIn_r _ [109, 55, 56, 57, 58, 103, 104, 98, 105, 110, 51, 52, 53, 54, 132, 133, 134, 135, 136, 137, 138, 139] (by decide +kernel) (by decide +kernel)
set_option maxRecDepth 20000 in
theorem gX11_catalogue_X9_become : GoodIn wsX11_catalogue (wsV RX11 147 RX9 yX9_become wsX9_become) := goodIn_app (goodIn_of _ (by decide +kernel)) ggX11_catalogue_X9_become
theorem dX11_catalogue_0 : decode cX11_catalogue 0 = .ok (.aload_n 0, 1) := by decide +kernel
theorem dX11_catalogue_1 : decode cX11_catalogue 1 = .ok (.getfield 63, 3) := by decide +kernel
theorem dX11_catalogue_4 : decode cX11_catalogue 4 = .ok (.invokevirtual 131, 3) := by decide +kernel
theorem dX11_catalogue_7 : decode cX11_catalogue 7 = .ok (.aload_n 0, 1) := by decide +kernel
theorem dX11_catalogue_8 : decode cX11_catalogue 8 = .ok (.getfield 63, 3) := by decide +kernel
theorem dX11_catalogue_11 : decode cX11_catalogue 11 = .ok (.getfield 134, 3) := by decide +kernel
theorem dX11_catalogue_14 : decode cX11_catalogue 14 = .ok (.ifCond .eq 25, 3) := by decide +kernel
theorem dX11_catalogue_17 : decode cX11_catalogue 17 = .ok (.aload_n 0, 1) := by decide +kernel
theorem dX11_catalogue_18 : decode cX11_catalogue 18 = .ok (.aload_n 0, 1) := by decide +kernel
theorem dX11_catalogue_19 : decode cX11_catalogue 19 = .ok (.getfield 63, 3) := by decide +kernel
theorem dX11_catalogue_22 : decode cX11_catalogue 22 = .ok (.getfield 134, 3) := by decide +kernel
theorem dX11_catalogue_25 : decode cX11_catalogue 25 = .ok (.putfield 137, 3) := by decide +kernel
theorem dX11_catalogue_28 : decode cX11_catalogue 28 = .ok (.ldc 140, 2) := by decide +kernel
theorem dX11_catalogue_30 : decode cX11_catalogue 30 = .ok (.aload_n 0, 1) := by decide +kernel
theorem dX11_catalogue_31 : decode cX11_catalogue 31 = .ok (.getfield 63, 3) := by decide +kernel
theorem dX11_catalogue_34 : decode cX11_catalogue 34 = .ok (.getfield 141, 3) := by decide +kernel
theorem dX11_catalogue_37 : decode cX11_catalogue 37 = .ok (.isub, 1) := by decide +kernel
theorem dX11_catalogue_38 : decode cX11_catalogue 38 = .ok (.ireturn, 1) := by decide +kernel
theorem dX11_catalogue_39 : decode cX11_catalogue 39 = .ok (.aload_n 0, 1) := by decide +kernel
theorem dX11_catalogue_40 : decode cX11_catalogue 40 = .ok (.getfield 24, 3) := by decide +kernel
theorem dX11_catalogue_43 : decode cX11_catalogue 43 = .ok (.aload_n 0, 1) := by decide +kernel
theorem dX11_catalogue_44 : decode cX11_catalogue 44 = .ok (.getfield 63, 3) := by decide +kernel
theorem dX11_catalogue_47 : decode cX11_catalogue 47 = .ok (.getfield 144, 3) := by decide +kernel
theorem dX11_catalogue_50 : decode cX11_catalogue 50 = .ok (.invokevirtual 147, 3) := by decide +kernel
theorem dX11_catalogue_53 : decode cX11_catalogue 53 = .ok (.aload_n 0, 1) := by decide +kernel
theorem dX11_catalogue_54 : decode cX11_catalogue 54 = .ok (.iconst 0, 1) := by decide +kernel
theorem dX11_catalogue_55 : decode cX11_catalogue 55 = .ok (.putfield 151, 3) := by decide +kernel
theorem dX11_catalogue_58 : decode cX11_catalogue 58 = .ok (.aload_n 0, 1) := by decide +kernel
theorem dX11_catalogue_59 : decode cX11_catalogue 59 = .ok (.getfield 24, 3) := by decide +kernel
theorem dX11_catalogue_62 : decode cX11_catalogue 62 = .ok (.getfield 154, 3) := by decide +kernel
theorem dX11_catalogue_65 : decode cX11_catalogue 65 = .ok (.ireturn, 1) := by decide +kernel
theorem dX11_fault_0 : decode cX11_fault 0 = .ok (.aload_n 0, 1) := by decide +kernel
theorem dX11_fault_1 : decode cX11_fault 1 = .ok (.getfield 137, 3) := by decide +kernel
theorem dX11_fault_4 : decode cX11_fault 4 = .ok (.ireturn, 1) := by decide +kernel
set_option maxRecDepth 20000 in
theorem ggX11_nights_X9_isEmpty : GoodIn wsX11_nights wsX9_isEmpty := goodIn_r _ [9, 10, 135, 136, 137, 138, 139, 140, 141, 142] (by decide +kernel) (by decide +kernel)
set_option maxRecDepth 20000 in
theorem gX11_nights_X9_isEmpty : GoodIn wsX11_nights (wsV RX11 157 RX9 yX9_isEmpty wsX9_isEmpty) := goodIn_app (goodIn_of _ (by decide +kernel)) ggX11_nights_X9_isEmpty
set_option maxRecDepth 20000 in
theorem ggX11_nights_X11_within : GoodIn wsX11_nights wsX11_within := goodIn_r _ [14] (by decide +kernel) (by decide +kernel)
set_option maxRecDepth 20000 in
theorem gX11_nights_X11_within : GoodIn wsX11_nights (va_wsS RX11 80 yX11_within wsX11_within) := goodIn_app (goodIn_of _ (by decide +kernel)) ggX11_nights_X11_within
set_option maxRecDepth 20000 in
theorem ggX11_nights_X11_keepForUndo : GoodIn wsX11_nights wsX11_keepForUndo := goodIn_r _ [18, 19, 20, 1, 21, 22, 23, 13, 24, 25, 26, 27, 8, 28, 29, 30, 10, 31, 32, 33, 34, 35, 36, 37, 38, 39, 124, 125, 126, 127, 128, 129, 130, 131, 132, 133, 134, 135, 136, 137, 138, 139, 140, 141, 142] (by decide +kernel) (by decide +kernel)
set_option maxRecDepth 20000 in
theorem gX11_nights_X11_keepForUndo : GoodIn wsX11_nights (wsV RX11 164 RX11 yX11_keepForUndo wsX11_keepForUndo) := goodIn_app (goodIn_of _ (by decide +kernel)) ggX11_nights_X11_keepForUndo
set_option maxRecDepth 20000 in
theorem ggX11_nights_X9_passNight : GoodIn wsX11_nights wsX9_passNight := goodIn_r _ [43, 10, 32, 31, 44, 45, 46, 47, 48, 49, 50, 51, 52, 53, 54, 55, 56, 57, 58, 59, 60, 61, 62, 63, 64, 65, 66, 67, 8, 68, 34, 35, 69, 70, 71, 72, 73, 74, 75, 76, 77, 78, 79, 80, 81, 82, 33, 83, 84, 85, 86, 87, 88, 89, 90, 91, 92, 93, 94, 30, 95, 96, 97, 98, 99, 100, 101, 102, 103, 104, 105, 106, 107, 108, 109, 110, 111, 112, 113, 114, 115, 116, 117, 118, 135, 136, 137, 138, 139, 140, 141, 142] (by decide +kernel) (by decide +kernel)
set_option maxRecDepth 20000 in
theorem gX11_nights_X9_passNight : GoodIn wsX11_nights (wsV RX11 167 RX9 yX9_passNight wsX9_passNight) := goodIn_app (goodIn_of _ (by decide +kernel)) ggX11_nights_X9_passNight
set_option maxRecDepth 20000 in
theorem ggX11_nights_X9_mateBits : GoodIn wsX11_nights wsX9_mateBits := goodIn_r _ [122, 10, 69, 34, 35, 123, 80, 81, 8, 82, 33, 83, 84, 85, 86, 135, 136, 137, 138, 139, 140, 141, 142] (by decide +kernel) (by decide +kernel)
set_option maxRecDepth 20000 in
theorem gX11_nights_X9_mateBits : GoodIn wsX11_nights (wsV RX11 171 RX9 yX9_mateBits wsX9_mateBits) := goodIn_app (goodIn_of _ (by decide +kernel)) ggX11_nights_X9_mateBits
theorem dX11_nights_0 : decode cX11_nights 0 = .ok (.aload_n 0, 1) := by decide +kernel
theorem dX11_nights_1 : decode cX11_nights 1 = .ok (.getfield 24, 3) := by decide +kernel
theorem dX11_nights_4 : decode cX11_nights 4 = .ok (.invokevirtual 157, 3) := by decide +kernel
theorem dX11_nights_7 : decode cX11_nights 7 = .ok (.ifCond .eq 6, 3) := by decide +kernel
theorem dX11_nights_10 : decode cX11_nights 10 = .ok (.ldc 160, 2) := by decide +kernel
theorem dX11_nights_12 : decode cX11_nights 12 = .ok (.ireturn, 1) := by decide +kernel
theorem dX11_nights_13 : decode cX11_nights 13 = .ok (.iload_n 1, 1) := by decide +kernel
theorem dX11_nights_14 : decode cX11_nights 14 = .ok (.iconst 1, 1) := by decide +kernel
theorem dX11_nights_15 : decode cX11_nights 15 = .ok (.bipush 24, 2) := by decide +kernel
theorem dX11_nights_17 : decode cX11_nights 17 = .ok (.invokestatic 80, 3) := by decide +kernel
theorem dX11_nights_20 : decode cX11_nights 20 = .ok (.ifCond .ne 6, 3) := by decide +kernel
theorem dX11_nights_23 : decode cX11_nights 23 = .ok (.ldc 84, 2) := by decide +kernel
theorem dX11_nights_25 : decode cX11_nights 25 = .ok (.ireturn, 1) := by decide +kernel
theorem dX11_nights_26 : decode cX11_nights 26 = .ok (.aload_n 0, 1) := by decide +kernel
theorem dX11_nights_27 : decode cX11_nights 27 = .ok (.getfield 24, 3) := by decide +kernel
theorem dX11_nights_30 : decode cX11_nights 30 = .ok (.getfield 161, 3) := by decide +kernel
theorem dX11_nights_33 : decode cX11_nights 33 = .ok (.iload_n 1, 1) := by decide +kernel
theorem dX11_nights_34 : decode cX11_nights 34 = .ok (.iadd, 1) := by decide +kernel
theorem dX11_nights_35 : decode cX11_nights 35 = .ok (.sipush 9999, 3) := by decide +kernel
theorem dX11_nights_38 : decode cX11_nights 38 = .ok (.if_icmp .le 6, 3) := by decide +kernel
theorem dX11_nights_41 : decode cX11_nights 41 = .ok (.ldc 127, 2) := by decide +kernel
theorem dX11_nights_43 : decode cX11_nights 43 = .ok (.ireturn, 1) := by decide +kernel
theorem dX11_nights_44 : decode cX11_nights 44 = .ok (.iconst 0, 1) := by decide +kernel
theorem dX11_nights_45 : decode cX11_nights 45 = .ok (.istore_n 2, 1) := by decide +kernel
theorem dX11_nights_46 : decode cX11_nights 46 = .ok (.iload_n 2, 1) := by decide +kernel
theorem dX11_nights_47 : decode cX11_nights 47 = .ok (.iload_n 1, 1) := by decide +kernel
theorem dX11_nights_48 : decode cX11_nights 48 = .ok (.if_icmp .ge 21, 3) := by decide +kernel
theorem dX11_nights_51 : decode cX11_nights 51 = .ok (.aload_n 0, 1) := by decide +kernel
theorem dX11_nights_52 : decode cX11_nights 52 = .ok (.invokevirtual 164, 3) := by decide +kernel
theorem dX11_nights_55 : decode cX11_nights 55 = .ok (.aload_n 0, 1) := by decide +kernel
theorem dX11_nights_56 : decode cX11_nights 56 = .ok (.getfield 24, 3) := by decide +kernel
theorem dX11_nights_59 : decode cX11_nights 59 = .ok (.iconst 0, 1) := by decide +kernel
theorem dX11_nights_60 : decode cX11_nights 60 = .ok (.invokevirtual 167, 3) := by decide +kernel
theorem dX11_nights_63 : decode cX11_nights 63 = .ok (.iinc 2 1, 3) := by decide +kernel
theorem dX11_nights_66 : decode cX11_nights 66 = .ok (.goto (-20), 3) := by decide +kernel
theorem dX11_nights_69 : decode cX11_nights 69 = .ok (.aload_n 0, 1) := by decide +kernel
theorem dX11_nights_70 : decode cX11_nights 70 = .ok (.getfield 24, 3) := by decide +kernel
theorem dX11_nights_73 : decode cX11_nights 73 = .ok (.invokevirtual 171, 3) := by decide +kernel
theorem dX11_nights_76 : decode cX11_nights 76 = .ok (.ireturn, 1) := by decide +kernel
set_option maxRecDepth 20000 in
theorem ggX11_put_X9_hasCard : GoodIn wsX11_put wsX9_hasCard := goodIn_r _ [9, 10, 65, 66, 67, 68, 69, 70, 71, 72] (by decide +kernel) (by decide +kernel)
set_option maxRecDepth 20000 in
theorem gX11_put_X9_hasCard : GoodIn wsX11_put (wsV RX11 175 RX9 yX9_hasCard wsX9_hasCard) := goodIn_app (goodIn_of _ (by decide +kernel)) ggX11_put_X9_hasCard
set_option maxRecDepth 20000 in
theorem ggX11_put_X9_hasDrawer : GoodIn wsX11_put wsX9_hasDrawer := goodIn_r _ [14, 15, 65, 66, 67, 68, 69, 70, 71, 72] (by decide +kernel) (by decide +kernel)
set_option maxRecDepth 20000 in
theorem gX11_put_X9_hasDrawer : GoodIn wsX11_put (wsV RX11 178 RX9 yX9_hasDrawer wsX9_hasDrawer) := goodIn_app (goodIn_of _ (by decide +kernel)) ggX11_put_X9_hasDrawer
set_option maxRecDepth 20000 in
theorem ggX11_put_X9_holdsOneMore : GoodIn wsX11_put wsX9_holdsOneMore := goodIn_r _ [19, 20, 21, 22, 23, 8, 24, 10, 25, 65, 66, 67, 68, 69, 70, 71, 72] (by decide +kernel) (by decide +kernel)
set_option maxRecDepth 20000 in
theorem gX11_put_X9_holdsOneMore : GoodIn wsX11_put (wsV RX11 185 RX9 yX9_holdsOneMore wsX9_holdsOneMore) := goodIn_app (goodIn_of _ (by decide +kernel)) ggX11_put_X9_holdsOneMore
set_option maxRecDepth 20000 in
theorem ggX11_put_X11_keepForUndo : GoodIn wsX11_put wsX11_keepForUndo := goodIn_r _ [30, 31, 32, 1, 33, 34, 35, 29, 36, 37, 38, 39, 8, 40, 15, 20, 10, 41, 42, 43, 25, 44, 45, 46, 47, 48, 54, 55, 56, 57, 58, 59, 60, 61, 62, 63, 64, 65, 66, 67, 68, 69, 70, 71, 72] (by decide +kernel) (by decide +kernel)
set_option maxRecDepth 20000 in
theorem gX11_put_X11_keepForUndo : GoodIn wsX11_put (wsV RX11 164 RX11 yX11_keepForUndo wsX11_keepForUndo) := goodIn_app (goodIn_of _ (by decide +kernel)) ggX11_put_X11_keepForUndo
set_option maxRecDepth 20000 in
theorem ggX11_put_X9_stand : GoodIn wsX11_put wsX9_stand := goodIn_r _ [52, 10, 25, 44, 53, 6, 7, 8, 9, 21, 22, 23, 24, 65, 66, 67, 68, 69, 70, 71, 72] (by decide +kernel) (by decide +kernel)
set_option maxRecDepth 20000 in
theorem gX11_put_X9_stand : GoodIn wsX11_put (wsV RX11 189 RX9 yX9_stand wsX9_stand) := goodIn_app (goodIn_of _ (by decide +kernel)) ggX11_put_X9_stand
theorem dX11_put_0 : decode cX11_put 0 = .ok (.aload_n 0, 1) := by decide +kernel
theorem dX11_put_1 : decode cX11_put 1 = .ok (.getfield 24, 3) := by decide +kernel
theorem dX11_put_4 : decode cX11_put 4 = .ok (.iload_n 1, 1) := by decide +kernel
theorem dX11_put_5 : decode cX11_put 5 = .ok (.invokevirtual 175, 3) := by decide +kernel
theorem dX11_put_8 : decode cX11_put 8 = .ok (.ifCond .eq 14, 3) := by decide +kernel
theorem dX11_put_11 : decode cX11_put 11 = .ok (.aload_n 0, 1) := by decide +kernel
theorem dX11_put_12 : decode cX11_put 12 = .ok (.getfield 24, 3) := by decide +kernel
theorem dX11_put_15 : decode cX11_put 15 = .ok (.iload_n 2, 1) := by decide +kernel
theorem dX11_put_16 : decode cX11_put 16 = .ok (.invokevirtual 178, 3) := by decide +kernel
theorem dX11_put_19 : decode cX11_put 19 = .ok (.ifCond .ne 6, 3) := by decide +kernel
theorem dX11_put_22 : decode cX11_put 22 = .ok (.ldc 84, 2) := by decide +kernel
theorem dX11_put_24 : decode cX11_put 24 = .ok (.ireturn, 1) := by decide +kernel
theorem dX11_put_25 : decode cX11_put 25 = .ok (.aload_n 0, 1) := by decide +kernel
theorem dX11_put_26 : decode cX11_put 26 = .ok (.getfield 24, 3) := by decide +kernel
theorem dX11_put_29 : decode cX11_put 29 = .ok (.getfield 181, 3) := by decide +kernel
theorem dX11_put_32 : decode cX11_put 32 = .ok (.iload_n 1, 1) := by decide +kernel
theorem dX11_put_33 : decode cX11_put 33 = .ok (.iaload, 1) := by decide +kernel
theorem dX11_put_34 : decode cX11_put 34 = .ok (.istore_n 3, 1) := by decide +kernel
theorem dX11_put_35 : decode cX11_put 35 = .ok (.iload_n 3, 1) := by decide +kernel
theorem dX11_put_36 : decode cX11_put 36 = .ok (.iload_n 2, 1) := by decide +kernel
theorem dX11_put_37 : decode cX11_put 37 = .ok (.if_icmp .eq 17, 3) := by decide +kernel
theorem dX11_put_40 : decode cX11_put 40 = .ok (.aload_n 0, 1) := by decide +kernel
theorem dX11_put_41 : decode cX11_put 41 = .ok (.getfield 24, 3) := by decide +kernel
theorem dX11_put_44 : decode cX11_put 44 = .ok (.iload_n 2, 1) := by decide +kernel
theorem dX11_put_45 : decode cX11_put 45 = .ok (.invokevirtual 185, 3) := by decide +kernel
theorem dX11_put_48 : decode cX11_put 48 = .ok (.ifCond .ne 6, 3) := by decide +kernel
theorem dX11_put_51 : decode cX11_put 51 = .ok (.ldc 160, 2) := by decide +kernel
theorem dX11_put_53 : decode cX11_put 53 = .ok (.ireturn, 1) := by decide +kernel
theorem dX11_put_54 : decode cX11_put 54 = .ok (.aload_n 0, 1) := by decide +kernel
theorem dX11_put_55 : decode cX11_put 55 = .ok (.invokevirtual 164, 3) := by decide +kernel
theorem dX11_put_58 : decode cX11_put 58 = .ok (.aload_n 0, 1) := by decide +kernel
theorem dX11_put_59 : decode cX11_put 59 = .ok (.getfield 24, 3) := by decide +kernel
theorem dX11_put_62 : decode cX11_put 62 = .ok (.iload_n 1, 1) := by decide +kernel
theorem dX11_put_63 : decode cX11_put 63 = .ok (.iload_n 2, 1) := by decide +kernel
theorem dX11_put_64 : decode cX11_put 64 = .ok (.ldc 188, 2) := by decide +kernel
theorem dX11_put_66 : decode cX11_put 66 = .ok (.invokevirtual 189, 3) := by decide +kernel
theorem dX11_put_69 : decode cX11_put 69 = .ok (.iload_n 3, 1) := by decide +kernel
theorem dX11_put_70 : decode cX11_put 70 = .ok (.ireturn, 1) := by decide +kernel
set_option maxRecDepth 20000 in
theorem ggX11_turn_X9_hasDrawer : GoodIn wsX11_turn wsX9_hasDrawer := goodIn_r _ [7, 8, 55, 56, 57, 58, 59, 60, 61, 62] (by decide +kernel) (by decide +kernel)
set_option maxRecDepth 20000 in
theorem gX11_turn_X9_hasDrawer : GoodIn wsX11_turn (wsV RX11 178 RX9 yX9_hasDrawer wsX9_hasDrawer) := goodIn_app (goodIn_of _ (by decide +kernel)) ggX11_turn_X9_hasDrawer
set_option maxRecDepth 20000 in
theorem ggX11_turn_X11_keepForUndo : GoodIn wsX11_turn wsX11_keepForUndo := goodIn_r _ [13, 14, 15, 1, 16, 17, 18, 12, 19, 20, 21, 22, 6, 23, 8, 24, 25, 26, 27, 28, 29, 30, 31, 32, 33, 34, 44, 45, 46, 47, 48, 49, 50, 51, 52, 53, 54, 55, 56, 57, 58, 59, 60, 61, 62] (by decide +kernel) (by decide +kernel)
set_option maxRecDepth 20000 in
theorem gX11_turn_X11_keepForUndo : GoodIn wsX11_turn (wsV RX11 164 RX11 yX11_keepForUndo wsX11_keepForUndo) := goodIn_app (goodIn_of _ (by decide +kernel)) ggX11_turn_X11_keepForUndo
set_option maxRecDepth 20000 in
theorem ggX11_turn_X9_reverse : GoodIn wsX11_turn wsX9_reverse := goodIn_r _ [38, 25, 29, 30, 39, 40, 41, 6, 42, 55, 56, 57, 58, 59, 60, 61, 62] (by decide +kernel) (by decide +kernel)
set_option maxRecDepth 20000 in
theorem gX11_turn_X9_reverse : GoodIn wsX11_turn (wsV RX11 193 RX9 yX9_reverse wsX9_reverse) := goodIn_app (goodIn_of _ (by decide +kernel)) ggX11_turn_X9_reverse
set_option maxRecDepth 20000 in
theorem ggX11_turn_X9_fill : GoodIn wsX11_turn wsX9_fill := goodIn_r _ [42, 25, 29, 55, 56, 57, 58, 59, 60, 61, 62] (by decide +kernel) (by decide +kernel)
set_option maxRecDepth 20000 in
theorem gX11_turn_X9_fill : GoodIn wsX11_turn (wsV RX11 196 RX9 yX9_fill wsX9_fill) := goodIn_app (goodIn_of _ (by decide +kernel)) ggX11_turn_X9_fill
theorem dX11_turn_0 : decode cX11_turn 0 = .ok (.aload_n 0, 1) := by decide +kernel
theorem dX11_turn_1 : decode cX11_turn 1 = .ok (.getfield 24, 3) := by decide +kernel
theorem dX11_turn_4 : decode cX11_turn 4 = .ok (.iload_n 1, 1) := by decide +kernel
theorem dX11_turn_5 : decode cX11_turn 5 = .ok (.invokevirtual 178, 3) := by decide +kernel
theorem dX11_turn_8 : decode cX11_turn 8 = .ok (.ifCond .ne 6, 3) := by decide +kernel
theorem dX11_turn_11 : decode cX11_turn 11 = .ok (.ldc 84, 2) := by decide +kernel
theorem dX11_turn_13 : decode cX11_turn 13 = .ok (.ireturn, 1) := by decide +kernel
theorem dX11_turn_14 : decode cX11_turn 14 = .ok (.aload_n 0, 1) := by decide +kernel
theorem dX11_turn_15 : decode cX11_turn 15 = .ok (.invokevirtual 164, 3) := by decide +kernel
theorem dX11_turn_18 : decode cX11_turn 18 = .ok (.aload_n 0, 1) := by decide +kernel
theorem dX11_turn_19 : decode cX11_turn 19 = .ok (.getfield 24, 3) := by decide +kernel
theorem dX11_turn_22 : decode cX11_turn 22 = .ok (.iload_n 1, 1) := by decide +kernel
theorem dX11_turn_23 : decode cX11_turn 23 = .ok (.invokevirtual 193, 3) := by decide +kernel
theorem dX11_turn_26 : decode cX11_turn 26 = .ok (.aload_n 0, 1) := by decide +kernel
theorem dX11_turn_27 : decode cX11_turn 27 = .ok (.getfield 24, 3) := by decide +kernel
theorem dX11_turn_30 : decode cX11_turn 30 = .ok (.iload_n 1, 1) := by decide +kernel
theorem dX11_turn_31 : decode cX11_turn 31 = .ok (.invokevirtual 196, 3) := by decide +kernel
theorem dX11_turn_34 : decode cX11_turn 34 = .ok (.ireturn, 1) := by decide +kernel
set_option maxRecDepth 20000 in
theorem ggX11_like_X9_hasCard : GoodIn wsX11_like wsX9_hasCard := goodIn_r _ [7, 8, 49, 50, 51, 52, 53, 54, 55, 56] (by decide +kernel) (by decide +kernel)
set_option maxRecDepth 20000 in
theorem gX11_like_X9_hasCard : GoodIn wsX11_like (wsV RX11 175 RX9 yX9_hasCard wsX9_hasCard) := goodIn_app (goodIn_of _ (by decide +kernel)) ggX11_like_X9_hasCard
set_option maxRecDepth 20000 in
theorem ggX11_like_X11_within : GoodIn wsX11_like wsX11_within := goodIn_r _ [12] (by decide +kernel) (by decide +kernel)
set_option maxRecDepth 20000 in
theorem gX11_like_X11_within : GoodIn wsX11_like (va_wsS RX11 80 yX11_within wsX11_within) := goodIn_app (goodIn_of _ (by decide +kernel)) ggX11_like_X11_within
set_option maxRecDepth 20000 in
theorem ggX11_like_X11_keepForUndo : GoodIn wsX11_like wsX11_keepForUndo := goodIn_r _ [16, 17, 18, 1, 19, 20, 21, 11, 22, 23, 24, 25, 6, 26, 27, 28, 8, 29, 30, 31, 32, 33, 34, 35, 36, 37, 38, 39, 40, 41, 42, 43, 44, 45, 46, 47, 48, 49, 50, 51, 52, 53, 54, 55, 56] (by decide +kernel) (by decide +kernel)
set_option maxRecDepth 20000 in
theorem gX11_like_X11_keepForUndo : GoodIn wsX11_like (wsV RX11 164 RX11 yX11_keepForUndo wsX11_keepForUndo) := goodIn_app (goodIn_of _ (by decide +kernel)) ggX11_like_X11_keepForUndo
theorem dX11_like_0 : decode cX11_like 0 = .ok (.aload_n 0, 1) := by decide +kernel
theorem dX11_like_1 : decode cX11_like 1 = .ok (.getfield 24, 3) := by decide +kernel
theorem dX11_like_4 : decode cX11_like 4 = .ok (.iload_n 1, 1) := by decide +kernel
theorem dX11_like_5 : decode cX11_like 5 = .ok (.invokevirtual 175, 3) := by decide +kernel
theorem dX11_like_8 : decode cX11_like 8 = .ok (.ifCond .eq 18, 3) := by decide +kernel
theorem dX11_like_11 : decode cX11_like 11 = .ok (.iload_n 2, 1) := by decide +kernel
theorem dX11_like_12 : decode cX11_like 12 = .ok (.iconst 0, 1) := by decide +kernel
theorem dX11_like_13 : decode cX11_like 13 = .ok (.bipush 7, 2) := by decide +kernel
theorem dX11_like_15 : decode cX11_like 15 = .ok (.invokestatic 80, 3) := by decide +kernel
theorem dX11_like_18 : decode cX11_like 18 = .ok (.ifCond .eq 8, 3) := by decide +kernel
theorem dX11_like_21 : decode cX11_like 21 = .ok (.iload_n 2, 1) := by decide +kernel
theorem dX11_like_22 : decode cX11_like 22 = .ok (.iload_n 1, 1) := by decide +kernel
theorem dX11_like_23 : decode cX11_like 23 = .ok (.if_icmp .ne 6, 3) := by decide +kernel
theorem dX11_like_26 : decode cX11_like 26 = .ok (.ldc 84, 2) := by decide +kernel
theorem dX11_like_28 : decode cX11_like 28 = .ok (.ireturn, 1) := by decide +kernel
theorem dX11_like_29 : decode cX11_like 29 = .ok (.aload_n 0, 1) := by decide +kernel
theorem dX11_like_30 : decode cX11_like 30 = .ok (.invokevirtual 164, 3) := by decide +kernel
theorem dX11_like_33 : decode cX11_like 33 = .ok (.aload_n 0, 1) := by decide +kernel
theorem dX11_like_34 : decode cX11_like 34 = .ok (.getfield 24, 3) := by decide +kernel
theorem dX11_like_37 : decode cX11_like 37 = .ok (.getfield 199, 3) := by decide +kernel
theorem dX11_like_40 : decode cX11_like 40 = .ok (.iload_n 1, 1) := by decide +kernel
theorem dX11_like_41 : decode cX11_like 41 = .ok (.iaload, 1) := by decide +kernel
theorem dX11_like_42 : decode cX11_like 42 = .ok (.istore_n 3, 1) := by decide +kernel
theorem dX11_like_43 : decode cX11_like 43 = .ok (.aload_n 0, 1) := by decide +kernel
theorem dX11_like_44 : decode cX11_like 44 = .ok (.getfield 24, 3) := by decide +kernel
theorem dX11_like_47 : decode cX11_like 47 = .ok (.getfield 199, 3) := by decide +kernel
theorem dX11_like_50 : decode cX11_like 50 = .ok (.iload_n 1, 1) := by decide +kernel
theorem dX11_like_51 : decode cX11_like 51 = .ok (.iload_n 2, 1) := by decide +kernel
theorem dX11_like_52 : decode cX11_like 52 = .ok (.iastore, 1) := by decide +kernel
theorem dX11_like_53 : decode cX11_like 53 = .ok (.iload_n 3, 1) := by decide +kernel
theorem dX11_like_54 : decode cX11_like 54 = .ok (.ireturn, 1) := by decide +kernel
set_option maxRecDepth 20000 in
theorem ggX11_undo_X9_become : GoodIn wsX11_undo wsX9_become := goodIn_r _ [9, 10, 11, 12, 13, 14, 15, 16, 17, 18, 19, 20, 8, 21, 33, 34, 35, 36, 37, 38, 39, 40] (by decide +kernel) (by decide +kernel)
set_option maxRecDepth 20000 in
theorem gX11_undo_X9_become : GoodIn wsX11_undo (wsV RX11 147 RX9 yX9_become wsX9_become) := goodIn_app (goodIn_of _ (by decide +kernel)) ggX11_undo_X9_become
theorem dX11_undo_0 : decode cX11_undo 0 = .ok (.aload_n 0, 1) := by decide +kernel
theorem dX11_undo_1 : decode cX11_undo 1 = .ok (.getfield 151, 3) := by decide +kernel
theorem dX11_undo_4 : decode cX11_undo 4 = .ok (.ifCond .ne 6, 3) := by decide +kernel
theorem dX11_undo_7 : decode cX11_undo 7 = .ok (.ldc 160, 2) := by decide +kernel
theorem dX11_undo_9 : decode cX11_undo 9 = .ok (.ireturn, 1) := by decide +kernel
theorem dX11_undo_10 : decode cX11_undo 10 = .ok (.aload_n 0, 1) := by decide +kernel
theorem dX11_undo_11 : decode cX11_undo 11 = .ok (.dup, 1) := by decide +kernel
theorem dX11_undo_12 : decode cX11_undo 12 = .ok (.getfield 151, 3) := by decide +kernel
theorem dX11_undo_15 : decode cX11_undo 15 = .ok (.iconst 1, 1) := by decide +kernel
theorem dX11_undo_16 : decode cX11_undo 16 = .ok (.isub, 1) := by decide +kernel
theorem dX11_undo_17 : decode cX11_undo 17 = .ok (.putfield 151, 3) := by decide +kernel
theorem dX11_undo_20 : decode cX11_undo 20 = .ok (.aload_n 0, 1) := by decide +kernel
theorem dX11_undo_21 : decode cX11_undo 21 = .ok (.getfield 24, 3) := by decide +kernel
theorem dX11_undo_24 : decode cX11_undo 24 = .ok (.aload_n 0, 1) := by decide +kernel
theorem dX11_undo_25 : decode cX11_undo 25 = .ok (.getfield 28, 3) := by decide +kernel
theorem dX11_undo_28 : decode cX11_undo 28 = .ok (.aload_n 0, 1) := by decide +kernel
theorem dX11_undo_29 : decode cX11_undo 29 = .ok (.getfield 151, 3) := by decide +kernel
theorem dX11_undo_32 : decode cX11_undo 32 = .ok (.aaload, 1) := by decide +kernel
theorem dX11_undo_33 : decode cX11_undo 33 = .ok (.invokevirtual 147, 3) := by decide +kernel
theorem dX11_undo_36 : decode cX11_undo 36 = .ok (.aload_n 0, 1) := by decide +kernel
theorem dX11_undo_37 : decode cX11_undo 37 = .ok (.getfield 151, 3) := by decide +kernel
theorem dX11_undo_40 : decode cX11_undo 40 = .ok (.ireturn, 1) := by decide +kernel
set_option maxRecDepth 20000 in
theorem ggX11_card_X9_hasCard : GoodIn wsX11_card wsX9_hasCard := goodIn_r _ [7, 8, 27, 28, 29, 30, 31, 32, 33, 34] (by decide +kernel) (by decide +kernel)
set_option maxRecDepth 20000 in
theorem gX11_card_X9_hasCard : GoodIn wsX11_card (wsV RX11 175 RX9 yX9_hasCard wsX9_hasCard) := goodIn_app (goodIn_of _ (by decide +kernel)) ggX11_card_X9_hasCard
set_option maxRecDepth 20000 in
theorem ggX11_card_X9_cardAt : GoodIn wsX11_card wsX9_cardAt := goodIn_r _ [12, 8, 13, 14, 15, 27, 28, 29, 30, 31, 32, 33, 34] (by decide +kernel) (by decide +kernel)
set_option maxRecDepth 20000 in
theorem gX11_card_X9_cardAt : GoodIn wsX11_card (wsV RX11 205 RX9 yX9_cardAt wsX9_cardAt) := goodIn_app (goodIn_of _ (by decide +kernel)) ggX11_card_X9_cardAt
theorem dX11_card_0 : decode cX11_card 0 = .ok (.aload_n 0, 1) := by decide +kernel
theorem dX11_card_1 : decode cX11_card 1 = .ok (.getfield 24, 3) := by decide +kernel
theorem dX11_card_4 : decode cX11_card 4 = .ok (.iload_n 1, 1) := by decide +kernel
theorem dX11_card_5 : decode cX11_card 5 = .ok (.invokevirtual 175, 3) := by decide +kernel
theorem dX11_card_8 : decode cX11_card 8 = .ok (.ifCond .ne 6, 3) := by decide +kernel
theorem dX11_card_11 : decode cX11_card 11 = .ok (.ldc 84, 2) := by decide +kernel
theorem dX11_card_13 : decode cX11_card 13 = .ok (.ireturn, 1) := by decide +kernel
theorem dX11_card_14 : decode cX11_card 14 = .ok (.iload_n 2, 1) := by decide +kernel
theorem dX11_card_15 : decode cX11_card 15 = .ok (.tableswitch 87 0 3 #[29, 39, 49, 59], 29) := by decide +kernel
theorem dX11_card_44 : decode cX11_card 44 = .ok (.aload_n 0, 1) := by decide +kernel
theorem dX11_card_45 : decode cX11_card 45 = .ok (.getfield 24, 3) := by decide +kernel
theorem dX11_card_48 : decode cX11_card 48 = .ok (.getfield 181, 3) := by decide +kernel
theorem dX11_card_51 : decode cX11_card 51 = .ok (.iload_n 1, 1) := by decide +kernel
theorem dX11_card_52 : decode cX11_card 52 = .ok (.iaload, 1) := by decide +kernel
theorem dX11_card_53 : decode cX11_card 53 = .ok (.ireturn, 1) := by decide +kernel
theorem dX11_card_54 : decode cX11_card 54 = .ok (.aload_n 0, 1) := by decide +kernel
theorem dX11_card_55 : decode cX11_card 55 = .ok (.getfield 24, 3) := by decide +kernel
theorem dX11_card_58 : decode cX11_card 58 = .ok (.getfield 202, 3) := by decide +kernel
theorem dX11_card_61 : decode cX11_card 61 = .ok (.iload_n 1, 1) := by decide +kernel
theorem dX11_card_62 : decode cX11_card 62 = .ok (.iaload, 1) := by decide +kernel
theorem dX11_card_63 : decode cX11_card 63 = .ok (.ireturn, 1) := by decide +kernel
theorem dX11_card_64 : decode cX11_card 64 = .ok (.aload_n 0, 1) := by decide +kernel
theorem dX11_card_65 : decode cX11_card 65 = .ok (.getfield 24, 3) := by decide +kernel
theorem dX11_card_68 : decode cX11_card 68 = .ok (.getfield 199, 3) := by decide +kernel
theorem dX11_card_71 : decode cX11_card 71 = .ok (.iload_n 1, 1) := by decide +kernel
theorem dX11_card_72 : decode cX11_card 72 = .ok (.iaload, 1) := by decide +kernel
theorem dX11_card_73 : decode cX11_card 73 = .ok (.ireturn, 1) := by decide +kernel
theorem dX11_card_74 : decode cX11_card 74 = .ok (.aload_n 0, 1) := by decide +kernel
theorem dX11_card_75 : decode cX11_card 75 = .ok (.getfield 24, 3) := by decide +kernel
theorem dX11_card_78 : decode cX11_card 78 = .ok (.aload_n 0, 1) := by decide +kernel
theorem dX11_card_79 : decode cX11_card 79 = .ok (.getfield 24, 3) := by decide +kernel
theorem dX11_card_82 : decode cX11_card 82 = .ok (.getfield 181, 3) := by decide +kernel
theorem dX11_card_85 : decode cX11_card 85 = .ok (.iload_n 1, 1) := by decide +kernel
theorem dX11_card_86 : decode cX11_card 86 = .ok (.iaload, 1) := by decide +kernel
theorem dX11_card_87 : decode cX11_card 87 = .ok (.aload_n 0, 1) := by decide +kernel
theorem dX11_card_88 : decode cX11_card 88 = .ok (.getfield 24, 3) := by decide +kernel
theorem dX11_card_91 : decode cX11_card 91 = .ok (.getfield 202, 3) := by decide +kernel
theorem dX11_card_94 : decode cX11_card 94 = .ok (.iload_n 1, 1) := by decide +kernel
theorem dX11_card_95 : decode cX11_card 95 = .ok (.iaload, 1) := by decide +kernel
theorem dX11_card_96 : decode cX11_card 96 = .ok (.iconst 1, 1) := by decide +kernel
theorem dX11_card_97 : decode cX11_card 97 = .ok (.isub, 1) := by decide +kernel
theorem dX11_card_98 : decode cX11_card 98 = .ok (.invokevirtual 205, 3) := by decide +kernel
theorem dX11_card_101 : decode cX11_card 101 = .ok (.ireturn, 1) := by decide +kernel
theorem dX11_card_102 : decode cX11_card 102 = .ok (.ldc 84, 2) := by decide +kernel
theorem dX11_card_104 : decode cX11_card 104 = .ok (.ireturn, 1) := by decide +kernel
set_option maxRecDepth 20000 in
theorem ggX11_drawer_X9_hasDrawer : GoodIn wsX11_drawer wsX9_hasDrawer := goodIn_r _ [7, 8, 36, 37, 38, 39, 40, 41, 42, 43] (by decide +kernel) (by decide +kernel)
set_option maxRecDepth 20000 in
theorem gX11_drawer_X9_hasDrawer : GoodIn wsX11_drawer (wsV RX11 178 RX9 yX9_hasDrawer wsX9_hasDrawer) := goodIn_app (goodIn_of _ (by decide +kernel)) ggX11_drawer_X9_hasDrawer
set_option maxRecDepth 20000 in
theorem ggX11_drawer_X9_fill : GoodIn wsX11_drawer wsX9_fill := goodIn_r _ [12, 13, 14, 36, 37, 38, 39, 40, 41, 42, 43] (by decide +kernel) (by decide +kernel)
set_option maxRecDepth 20000 in
theorem gX11_drawer_X9_fill : GoodIn wsX11_drawer (wsV RX11 196 RX9 yX9_fill wsX9_fill) := goodIn_app (goodIn_of _ (by decide +kernel)) ggX11_drawer_X9_fill
set_option maxRecDepth 20000 in
theorem ggX11_drawer_X9_cardBits : GoodIn wsX11_drawer wsX9_cardBits := goodIn_r _ [18, 13, 14, 36, 37, 38, 39, 40, 41, 42, 43] (by decide +kernel) (by decide +kernel)
set_option maxRecDepth 20000 in
theorem gX11_drawer_X9_cardBits : GoodIn wsX11_drawer (wsV RX11 209 RX9 yX9_cardBits wsX9_cardBits) := goodIn_app (goodIn_of _ (by decide +kernel)) ggX11_drawer_X9_cardBits
set_option maxRecDepth 20000 in
theorem ggX11_drawer_X9_cardAt : GoodIn wsX11_drawer wsX9_cardAt := goodIn_r _ [22, 13, 14, 23, 24, 36, 37, 38, 39, 40, 41, 42, 43] (by decide +kernel) (by decide +kernel)
set_option maxRecDepth 20000 in
theorem gX11_drawer_X9_cardAt : GoodIn wsX11_drawer (wsV RX11 205 RX9 yX9_cardAt wsX9_cardAt) := goodIn_app (goodIn_of _ (by decide +kernel)) ggX11_drawer_X9_cardAt
theorem dX11_drawer_0 : decode cX11_drawer 0 = .ok (.aload_n 0, 1) := by decide +kernel
theorem dX11_drawer_1 : decode cX11_drawer 1 = .ok (.getfield 24, 3) := by decide +kernel
theorem dX11_drawer_4 : decode cX11_drawer 4 = .ok (.iload_n 1, 1) := by decide +kernel
theorem dX11_drawer_5 : decode cX11_drawer 5 = .ok (.invokevirtual 178, 3) := by decide +kernel
theorem dX11_drawer_8 : decode cX11_drawer 8 = .ok (.ifCond .ne 6, 3) := by decide +kernel
theorem dX11_drawer_11 : decode cX11_drawer 11 = .ok (.ldc 84, 2) := by decide +kernel
theorem dX11_drawer_13 : decode cX11_drawer 13 = .ok (.ireturn, 1) := by decide +kernel
theorem dX11_drawer_14 : decode cX11_drawer 14 = .ok (.iload_n 2, 1) := by decide +kernel
theorem dX11_drawer_15 : decode cX11_drawer 15 = .ok (.tableswitch 53 0 2 #[25, 34, 43], 25) := by decide +kernel
theorem dX11_drawer_40 : decode cX11_drawer 40 = .ok (.aload_n 0, 1) := by decide +kernel
theorem dX11_drawer_41 : decode cX11_drawer 41 = .ok (.getfield 24, 3) := by decide +kernel
theorem dX11_drawer_44 : decode cX11_drawer 44 = .ok (.iload_n 1, 1) := by decide +kernel
theorem dX11_drawer_45 : decode cX11_drawer 45 = .ok (.invokevirtual 196, 3) := by decide +kernel
theorem dX11_drawer_48 : decode cX11_drawer 48 = .ok (.ireturn, 1) := by decide +kernel
theorem dX11_drawer_49 : decode cX11_drawer 49 = .ok (.aload_n 0, 1) := by decide +kernel
theorem dX11_drawer_50 : decode cX11_drawer 50 = .ok (.getfield 24, 3) := by decide +kernel
theorem dX11_drawer_53 : decode cX11_drawer 53 = .ok (.iload_n 1, 1) := by decide +kernel
theorem dX11_drawer_54 : decode cX11_drawer 54 = .ok (.invokevirtual 209, 3) := by decide +kernel
theorem dX11_drawer_57 : decode cX11_drawer 57 = .ok (.ireturn, 1) := by decide +kernel
theorem dX11_drawer_58 : decode cX11_drawer 58 = .ok (.aload_n 0, 1) := by decide +kernel
theorem dX11_drawer_59 : decode cX11_drawer 59 = .ok (.getfield 24, 3) := by decide +kernel
theorem dX11_drawer_62 : decode cX11_drawer 62 = .ok (.iload_n 1, 1) := by decide +kernel
theorem dX11_drawer_63 : decode cX11_drawer 63 = .ok (.iconst 0, 1) := by decide +kernel
theorem dX11_drawer_64 : decode cX11_drawer 64 = .ok (.invokevirtual 205, 3) := by decide +kernel
theorem dX11_drawer_67 : decode cX11_drawer 67 = .ok (.ireturn, 1) := by decide +kernel
theorem dX11_drawer_68 : decode cX11_drawer 68 = .ok (.ldc 84, 2) := by decide +kernel
theorem dX11_drawer_70 : decode cX11_drawer 70 = .ok (.ireturn, 1) := by decide +kernel
set_option maxRecDepth 20000 in
theorem ggX11_ahead_X9_hasCard : GoodIn wsX11_ahead wsX9_hasCard := goodIn_r _ [8, 9, 123, 124, 125, 126, 127, 128, 129, 130] (by decide +kernel) (by decide +kernel)
set_option maxRecDepth 20000 in
theorem gX11_ahead_X9_hasCard : GoodIn wsX11_ahead (wsV RX11 175 RX9 yX9_hasCard wsX9_hasCard) := goodIn_app (goodIn_of _ (by decide +kernel)) ggX11_ahead_X9_hasCard
set_option maxRecDepth 20000 in
theorem ggX11_ahead_X11_within : GoodIn wsX11_ahead wsX11_within := goodIn_r _ [13] (by decide +kernel) (by decide +kernel)
set_option maxRecDepth 20000 in
theorem gX11_ahead_X11_within : GoodIn wsX11_ahead (va_wsS RX11 80 yX11_within wsX11_within) := goodIn_app (goodIn_of _ (by decide +kernel)) ggX11_ahead_X11_within
set_option maxRecDepth 20000 in
theorem ggX11_ahead_X2_standing : GoodIn wsX11_ahead wsX2_standing := goodIn_r _ [18, 19, 20, 21, 22, 23, 7, 24, 25, 26, 9, 27, 28, 29, 30, 31, 32, 33, 34, 35, 36, 37, 38, 39, 40, 41, 42, 43, 44, 45, 46, 47, 48, 49, 50, 51, 52, 53, 54, 55, 56, 57, 58, 59, 60, 61, 62, 63, 64, 65, 66, 67, 68, 69, 70, 71, 72, 73, 74, 75, 76, 77, 78, 79, 5, 6, 8, 80, 81, 82, 83, 84, 85, 86, 87, 88, 89, 90, 91, 92, 93, 94, 95, 96, 97, 98, 99, 100, 101, 102, 103, 104, 105, 106, 107, 108, 109, 110, 111, 131, 132, 133, 134, 135, 123, 124, 125, 126, 127, 128, 129, 130] (by decide +kernel) (by decide +kernel)
set_option maxRecDepth 20000 in
theorem gX11_ahead_X2_standing : GoodIn wsX11_ahead (wsV RX11 212 RX2 yX2_standing wsX2_standing) := goodIn_app (goodIn_of _ (by decide +kernel)) ggX11_ahead_X2_standing
theorem dX11_ahead_0 : decode cX11_ahead 0 = .ok (.aload_n 0, 1) := by decide +kernel
theorem dX11_ahead_1 : decode cX11_ahead 1 = .ok (.getfield 24, 3) := by decide +kernel
theorem dX11_ahead_4 : decode cX11_ahead 4 = .ok (.iload_n 1, 1) := by decide +kernel
theorem dX11_ahead_5 : decode cX11_ahead 5 = .ok (.invokevirtual 175, 3) := by decide +kernel
theorem dX11_ahead_8 : decode cX11_ahead 8 = .ok (.ifCond .eq 22, 3) := by decide +kernel
theorem dX11_ahead_11 : decode cX11_ahead 11 = .ok (.iload_n 2, 1) := by decide +kernel
theorem dX11_ahead_12 : decode cX11_ahead 12 = .ok (.iconst 0, 1) := by decide +kernel
theorem dX11_ahead_13 : decode cX11_ahead 13 = .ok (.bipush 60, 2) := by decide +kernel
theorem dX11_ahead_15 : decode cX11_ahead 15 = .ok (.invokestatic 80, 3) := by decide +kernel
theorem dX11_ahead_18 : decode cX11_ahead 18 = .ok (.ifCond .eq 12, 3) := by decide +kernel
theorem dX11_ahead_21 : decode cX11_ahead 21 = .ok (.iload_n 3, 1) := by decide +kernel
theorem dX11_ahead_22 : decode cX11_ahead 22 = .ok (.iconst 0, 1) := by decide +kernel
theorem dX11_ahead_23 : decode cX11_ahead 23 = .ok (.iconst 1, 1) := by decide +kernel
theorem dX11_ahead_24 : decode cX11_ahead 24 = .ok (.invokestatic 80, 3) := by decide +kernel
theorem dX11_ahead_27 : decode cX11_ahead 27 = .ok (.ifCond .ne 6, 3) := by decide +kernel
theorem dX11_ahead_30 : decode cX11_ahead 30 = .ok (.ldc 84, 2) := by decide +kernel
theorem dX11_ahead_32 : decode cX11_ahead 32 = .ok (.ireturn, 1) := by decide +kernel
theorem dX11_ahead_33 : decode cX11_ahead 33 = .ok (.aload_n 0, 1) := by decide +kernel
theorem dX11_ahead_34 : decode cX11_ahead 34 = .ok (.getfield 72, 3) := by decide +kernel
theorem dX11_ahead_37 : decode cX11_ahead 37 = .ok (.iload_n 1, 1) := by decide +kernel
theorem dX11_ahead_38 : decode cX11_ahead 38 = .ok (.iload_n 2, 1) := by decide +kernel
theorem dX11_ahead_39 : decode cX11_ahead 39 = .ok (.iload_n 3, 1) := by decide +kernel
theorem dX11_ahead_40 : decode cX11_ahead 40 = .ok (.invokevirtual 212, 3) := by decide +kernel
theorem dX11_ahead_43 : decode cX11_ahead 43 = .ok (.ireturn, 1) := by decide +kernel
set_option maxRecDepth 20000 in
theorem ggX11_found_X9_hasCard : GoodIn wsX11_found wsX9_hasCard := goodIn_r _ [8, 9, 124, 125, 126, 127, 128, 129, 130, 131] (by decide +kernel) (by decide +kernel)
set_option maxRecDepth 20000 in
theorem gX11_found_X9_hasCard : GoodIn wsX11_found (wsV RX11 175 RX9 yX9_hasCard wsX9_hasCard) := goodIn_app (goodIn_of _ (by decide +kernel)) ggX11_found_X9_hasCard
set_option maxRecDepth 20000 in
theorem ggX11_found_X9_hasDrawer : GoodIn wsX11_found wsX9_hasDrawer := goodIn_r _ [13, 14, 124, 125, 126, 127, 128, 129, 130, 131] (by decide +kernel) (by decide +kernel)
set_option maxRecDepth 20000 in
theorem gX11_found_X9_hasDrawer : GoodIn wsX11_found (wsV RX11 178 RX9 yX9_hasDrawer wsX9_hasDrawer) := goodIn_app (goodIn_of _ (by decide +kernel)) ggX11_found_X9_hasDrawer
set_option maxRecDepth 20000 in
theorem ggX11_found_X2_firstNightIn : GoodIn wsX11_found wsX2_firstNightIn := goodIn_r _ [19, 20, 21, 22, 23, 24, 25, 7, 26, 14, 27, 9, 28, 29, 30, 31, 32, 33, 34, 35, 36, 37, 38, 39, 40, 41, 42, 43, 44, 45, 46, 47, 48, 49, 50, 51, 52, 53, 54, 55, 56, 57, 58, 59, 60, 61, 62, 63, 64, 65, 66, 67, 68, 69, 70, 71, 72, 73, 74, 75, 76, 77, 78, 79, 80, 5, 6, 8, 81, 82, 83, 84, 85, 86, 87, 88, 89, 90, 91, 92, 93, 94, 95, 96, 97, 98, 99, 100, 101, 102, 103, 104, 105, 106, 107, 108, 109, 110, 111, 112, 132, 133, 134, 135, 136, 124, 125, 126, 127, 128, 129, 130, 131] (by decide +kernel) (by decide +kernel)
set_option maxRecDepth 20000 in
theorem gX11_found_X2_firstNightIn : GoodIn wsX11_found (wsV RX11 216 RX2 yX2_firstNightIn wsX2_firstNightIn) := goodIn_app (goodIn_of _ (by decide +kernel)) ggX11_found_X2_firstNightIn
theorem dX11_found_0 : decode cX11_found 0 = .ok (.aload_n 0, 1) := by decide +kernel
theorem dX11_found_1 : decode cX11_found 1 = .ok (.getfield 24, 3) := by decide +kernel
theorem dX11_found_4 : decode cX11_found 4 = .ok (.iload_n 1, 1) := by decide +kernel
theorem dX11_found_5 : decode cX11_found 5 = .ok (.invokevirtual 175, 3) := by decide +kernel
theorem dX11_found_8 : decode cX11_found 8 = .ok (.ifCond .eq 14, 3) := by decide +kernel
theorem dX11_found_11 : decode cX11_found 11 = .ok (.aload_n 0, 1) := by decide +kernel
theorem dX11_found_12 : decode cX11_found 12 = .ok (.getfield 24, 3) := by decide +kernel
theorem dX11_found_15 : decode cX11_found 15 = .ok (.iload_n 2, 1) := by decide +kernel
theorem dX11_found_16 : decode cX11_found 16 = .ok (.invokevirtual 178, 3) := by decide +kernel
theorem dX11_found_19 : decode cX11_found 19 = .ok (.ifCond .ne 6, 3) := by decide +kernel
theorem dX11_found_22 : decode cX11_found 22 = .ok (.ldc 84, 2) := by decide +kernel
theorem dX11_found_24 : decode cX11_found 24 = .ok (.ireturn, 1) := by decide +kernel
theorem dX11_found_25 : decode cX11_found 25 = .ok (.aload_n 0, 1) := by decide +kernel
theorem dX11_found_26 : decode cX11_found 26 = .ok (.getfield 72, 3) := by decide +kernel
theorem dX11_found_29 : decode cX11_found 29 = .ok (.iload_n 1, 1) := by decide +kernel
theorem dX11_found_30 : decode cX11_found 30 = .ok (.iload_n 2, 1) := by decide +kernel
theorem dX11_found_31 : decode cX11_found 31 = .ok (.invokevirtual 216, 3) := by decide +kernel
theorem dX11_found_34 : decode cX11_found 34 = .ok (.ireturn, 1) := by decide +kernel
set_option maxRecDepth 20000 in
theorem ggX11_still_X9_isEmpty : GoodIn wsX11_still wsX9_isEmpty := goodIn_r _ [9, 10, 137, 138, 139, 140, 141, 142, 143, 144] (by decide +kernel) (by decide +kernel)
set_option maxRecDepth 20000 in
theorem gX11_still_X9_isEmpty : GoodIn wsX11_still (wsV RX11 157 RX9 yX9_isEmpty wsX9_isEmpty) := goodIn_app (goodIn_of _ (by decide +kernel)) ggX11_still_X9_isEmpty
set_option maxRecDepth 20000 in
theorem ggX11_still_X11_within : GoodIn wsX11_still wsX11_within := goodIn_r _ [14] (by decide +kernel) (by decide +kernel)
set_option maxRecDepth 20000 in
theorem gX11_still_X11_within : GoodIn wsX11_still (va_wsS RX11 80 yX11_within wsX11_within) := goodIn_app (goodIn_of _ (by decide +kernel)) ggX11_still_X11_within
set_option maxRecDepth 20000 in
theorem ggX11_still_X2_firstStill : GoodIn wsX11_still wsX2_firstStill := goodIn_r _ [19, 20, 21, 22, 23, 24, 25, 26, 8, 27, 28, 29, 10, 30, 31, 32, 33, 34, 35, 36, 37, 38, 39, 40, 41, 42, 43, 44, 45, 46, 47, 48, 49, 50, 51, 52, 53, 54, 55, 56, 57, 58, 59, 60, 61, 62, 63, 64, 65, 66, 67, 68, 69, 70, 71, 72, 73, 74, 75, 76, 77, 78, 79, 80, 81, 82, 83, 84, 85, 86, 87, 88, 89, 90, 91, 92, 93, 94, 95, 96, 97, 98, 99, 100, 101, 102, 103, 104, 105, 106, 107, 108, 109, 110, 111, 112, 113, 114, 115, 116, 117, 118, 119, 120, 121, 145, 146, 147, 148, 149, 137, 138, 139, 140, 141, 142, 143, 144] (by decide +kernel) (by decide +kernel)
set_option maxRecDepth 20000 in
theorem gX11_still_X2_firstStill : GoodIn wsX11_still (wsV RX11 219 RX2 yX2_firstStill wsX2_firstStill) := goodIn_app (goodIn_of _ (by decide +kernel)) ggX11_still_X2_firstStill
set_option maxRecDepth 20000 in
theorem ggX11_still_X2_firstRound : GoodIn wsX11_still wsX2_firstRound := goodIn_r _ [125, 20, 21, 23, 24, 25, 26, 8, 27, 28, 29, 10, 30, 31, 32, 33, 34, 35, 36, 37, 38, 39, 40, 41, 42, 43, 44, 45, 46, 47, 48, 49, 50, 51, 52, 53, 54, 55, 56, 57, 58, 59, 60, 61, 62, 63, 64, 65, 66, 67, 68, 69, 70, 71, 72, 73, 74, 75, 76, 77, 78, 79, 80, 81, 82, 83, 84, 85, 86, 87, 88, 89, 90, 91, 92, 93, 94, 95, 96, 97, 98, 99, 100, 101, 102, 103, 104, 105, 106, 107, 108, 109, 110, 111, 112, 113, 114, 115, 116, 117, 118, 119, 120, 121, 145, 146, 147, 148, 149, 137, 138, 139, 140, 141, 142, 143, 144] (by decide +kernel) (by decide +kernel)
set_option maxRecDepth 20000 in
theorem gX11_still_X2_firstRound : GoodIn wsX11_still (wsV RX11 222 RX2 yX2_firstRound wsX2_firstRound) := goodIn_app (goodIn_of _ (by decide +kernel)) ggX11_still_X2_firstRound
theorem dX11_still_0 : decode cX11_still 0 = .ok (.aload_n 0, 1) := by decide +kernel
theorem dX11_still_1 : decode cX11_still 1 = .ok (.getfield 24, 3) := by decide +kernel
theorem dX11_still_4 : decode cX11_still 4 = .ok (.invokevirtual 157, 3) := by decide +kernel
theorem dX11_still_7 : decode cX11_still 7 = .ok (.ifCond .eq 6, 3) := by decide +kernel
theorem dX11_still_10 : decode cX11_still 10 = .ok (.ldc 160, 2) := by decide +kernel
theorem dX11_still_12 : decode cX11_still 12 = .ok (.ireturn, 1) := by decide +kernel
theorem dX11_still_13 : decode cX11_still 13 = .ok (.iload_n 1, 1) := by decide +kernel
theorem dX11_still_14 : decode cX11_still 14 = .ok (.iconst 0, 1) := by decide +kernel
theorem dX11_still_15 : decode cX11_still 15 = .ok (.iconst 1, 1) := by decide +kernel
theorem dX11_still_16 : decode cX11_still 16 = .ok (.invokestatic 80, 3) := by decide +kernel
theorem dX11_still_19 : decode cX11_still 19 = .ok (.ifCond .ne 6, 3) := by decide +kernel
theorem dX11_still_22 : decode cX11_still 22 = .ok (.ldc 84, 2) := by decide +kernel
theorem dX11_still_24 : decode cX11_still 24 = .ok (.ireturn, 1) := by decide +kernel
theorem dX11_still_25 : decode cX11_still 25 = .ok (.iload_n 1, 1) := by decide +kernel
theorem dX11_still_26 : decode cX11_still 26 = .ok (.ifCond .ne 13, 3) := by decide +kernel
theorem dX11_still_29 : decode cX11_still 29 = .ok (.aload_n 0, 1) := by decide +kernel
theorem dX11_still_30 : decode cX11_still 30 = .ok (.getfield 72, 3) := by decide +kernel
theorem dX11_still_33 : decode cX11_still 33 = .ok (.invokevirtual 219, 3) := by decide +kernel
theorem dX11_still_36 : decode cX11_still 36 = .ok (.goto 10, 3) := by decide +kernel
theorem dX11_still_39 : decode cX11_still 39 = .ok (.aload_n 0, 1) := by decide +kernel
theorem dX11_still_40 : decode cX11_still 40 = .ok (.getfield 72, 3) := by decide +kernel
theorem dX11_still_43 : decode cX11_still 43 = .ok (.invokevirtual 222, 3) := by decide +kernel
theorem dX11_still_46 : decode cX11_still 46 = .ok (.ireturn, 1) := by decide +kernel
set_option maxRecDepth 20000 in
theorem ggX11_mates_X9_isEmpty : GoodIn wsX11_mates wsX9_isEmpty := goodIn_r _ [7, 8, 36, 37, 38, 39, 40, 41, 42, 43] (by decide +kernel) (by decide +kernel)
set_option maxRecDepth 20000 in
theorem gX11_mates_X9_isEmpty : GoodIn wsX11_mates (wsV RX11 157 RX9 yX9_isEmpty wsX9_isEmpty) := goodIn_app (goodIn_of _ (by decide +kernel)) ggX11_mates_X9_isEmpty
set_option maxRecDepth 20000 in
theorem ggX11_mates_X9_mateBits : GoodIn wsX11_mates wsX9_mateBits := goodIn_r _ [12, 8, 13, 14, 15, 16, 17, 18, 6, 19, 20, 21, 22, 23, 24, 36, 37, 38, 39, 40, 41, 42, 43] (by decide +kernel) (by decide +kernel)
set_option maxRecDepth 20000 in
theorem gX11_mates_X9_mateBits : GoodIn wsX11_mates (wsV RX11 171 RX9 yX9_mateBits wsX9_mateBits) := goodIn_app (goodIn_of _ (by decide +kernel)) ggX11_mates_X9_mateBits
theorem dX11_mates_0 : decode cX11_mates 0 = .ok (.aload_n 0, 1) := by decide +kernel
theorem dX11_mates_1 : decode cX11_mates 1 = .ok (.getfield 24, 3) := by decide +kernel
theorem dX11_mates_4 : decode cX11_mates 4 = .ok (.invokevirtual 157, 3) := by decide +kernel
theorem dX11_mates_7 : decode cX11_mates 7 = .ok (.ifCond .eq 8, 3) := by decide +kernel
theorem dX11_mates_10 : decode cX11_mates 10 = .ok (.ldc 160, 2) := by decide +kernel
theorem dX11_mates_12 : decode cX11_mates 12 = .ok (.goto 10, 3) := by decide +kernel
theorem dX11_mates_15 : decode cX11_mates 15 = .ok (.aload_n 0, 1) := by decide +kernel
theorem dX11_mates_16 : decode cX11_mates 16 = .ok (.getfield 24, 3) := by decide +kernel
theorem dX11_mates_19 : decode cX11_mates 19 = .ok (.invokevirtual 171, 3) := by decide +kernel
theorem dX11_mates_22 : decode cX11_mates 22 = .ok (.ireturn, 1) := by decide +kernel
set_option maxRecDepth 20000 in
theorem ggX11_rods_X9_hasCard : GoodIn wsX11_rods wsX9_hasCard := goodIn_r _ [9, 10, 142, 143, 144, 145, 146, 147, 148, 149] (by decide +kernel) (by decide +kernel)
set_option maxRecDepth 20000 in
theorem gX11_rods_X9_hasCard : GoodIn wsX11_rods (wsV RX11 175 RX9 yX9_hasCard wsX9_hasCard) := goodIn_app (goodIn_of _ (by decide +kernel)) ggX11_rods_X9_hasCard
set_option maxRecDepth 20000 in
theorem ggX11_rods_X9_hasDrawer : GoodIn wsX11_rods wsX9_hasDrawer := goodIn_r _ [14, 15, 142, 143, 144, 145, 146, 147, 148, 149] (by decide +kernel) (by decide +kernel)
set_option maxRecDepth 20000 in
theorem gX11_rods_X9_hasDrawer : GoodIn wsX11_rods (wsV RX11 178 RX9 yX9_hasDrawer wsX9_hasDrawer) := goodIn_app (goodIn_of _ (by decide +kernel)) ggX11_rods_X9_hasDrawer
set_option maxRecDepth 20000 in
theorem ggX11_rods_X11_within : GoodIn wsX11_rods wsX11_within := goodIn_r _ [19] (by decide +kernel) (by decide +kernel)
set_option maxRecDepth 20000 in
theorem gX11_rods_X11_within : GoodIn wsX11_rods (va_wsS RX11 80 yX11_within wsX11_within) := goodIn_app (goodIn_of _ (by decide +kernel)) ggX11_rods_X11_within
set_option maxRecDepth 20000 in
theorem ggX11_rods_X2_fewestRods : GoodIn wsX11_rods wsX2_fewestRods := goodIn_r _ [24, 25, 26, 27, 28, 29, 30, 31, 32, 33, 34, 35, 36, 23, 37, 38, 39, 40, 41, 42, 8, 43, 15, 44, 10, 45, 46, 47, 48, 49, 50, 51, 52, 53, 54, 55, 56, 57, 58, 59, 60, 61, 62, 63, 64, 65, 66, 67, 68, 69, 70, 71, 72, 73, 74, 75, 76, 77, 78, 79, 80, 81, 82, 83, 84, 85, 86, 87, 88, 89, 90, 91, 92, 93, 94, 95, 96, 97, 6, 7, 9, 98, 99, 100, 101, 102, 103, 104, 105, 106, 107, 108, 109, 110, 111, 112, 113, 114, 115, 116, 117, 118, 119, 120, 121, 122, 123, 124, 125, 126, 127, 128, 129, 150, 151, 152, 153, 154, 142, 143, 144, 145, 146, 147, 148, 149] (by decide +kernel) (by decide +kernel)
set_option maxRecDepth 20000 in
theorem gX11_rods_X2_fewestRods : GoodIn wsX11_rods (wsV RX11 225 RX2 yX2_fewestRods wsX2_fewestRods) := goodIn_app (goodIn_of _ (by decide +kernel)) ggX11_rods_X2_fewestRods
set_option maxRecDepth 20000 in
theorem ggX11_rods_J6_bitCount_0f7a4 : GoodIn wsX11_rods wsJ6_bitCount_0f7a4 := goodIn_r _ [30, 31, 32, 33] (by decide +kernel) (by decide +kernel)
set_option maxRecDepth 20000 in
theorem gX11_rods_J6_bitCount_0f7a4 : GoodIn wsX11_rods (va_wsS RX11 228 yJ6_bitCount_0f7a4 wsJ6_bitCount_0f7a4) := goodIn_app (goodIn_of _ (by decide +kernel)) ggX11_rods_J6_bitCount_0f7a4
theorem dX11_rods_0 : decode cX11_rods 0 = .ok (.aload_n 0, 1) := by decide +kernel
theorem dX11_rods_1 : decode cX11_rods 1 = .ok (.getfield 24, 3) := by decide +kernel
theorem dX11_rods_4 : decode cX11_rods 4 = .ok (.iload_n 1, 1) := by decide +kernel
theorem dX11_rods_5 : decode cX11_rods 5 = .ok (.invokevirtual 175, 3) := by decide +kernel
theorem dX11_rods_8 : decode cX11_rods 8 = .ok (.ifCond .eq 14, 3) := by decide +kernel
theorem dX11_rods_11 : decode cX11_rods 11 = .ok (.aload_n 0, 1) := by decide +kernel
theorem dX11_rods_12 : decode cX11_rods 12 = .ok (.getfield 24, 3) := by decide +kernel
theorem dX11_rods_15 : decode cX11_rods 15 = .ok (.iload_n 2, 1) := by decide +kernel
theorem dX11_rods_16 : decode cX11_rods 16 = .ok (.invokevirtual 178, 3) := by decide +kernel
theorem dX11_rods_19 : decode cX11_rods 19 = .ok (.ifCond .ne 6, 3) := by decide +kernel
theorem dX11_rods_22 : decode cX11_rods 22 = .ok (.ldc 84, 2) := by decide +kernel
theorem dX11_rods_24 : decode cX11_rods 24 = .ok (.ireturn, 1) := by decide +kernel
theorem dX11_rods_25 : decode cX11_rods 25 = .ok (.iload_n 3, 1) := by decide +kernel
theorem dX11_rods_26 : decode cX11_rods 26 = .ok (.iconst 1, 1) := by decide +kernel
theorem dX11_rods_27 : decode cX11_rods 27 = .ok (.bipush 20, 2) := by decide +kernel
theorem dX11_rods_29 : decode cX11_rods 29 = .ok (.invokestatic 80, 3) := by decide +kernel
theorem dX11_rods_32 : decode cX11_rods 32 = .ok (.ifCond .eq 13, 3) := by decide +kernel
theorem dX11_rods_35 : decode cX11_rods 35 = .ok (.iload 4, 2) := by decide +kernel
theorem dX11_rods_37 : decode cX11_rods 37 = .ok (.iconst 0, 1) := by decide +kernel
theorem dX11_rods_38 : decode cX11_rods 38 = .ok (.iconst 1, 1) := by decide +kernel
theorem dX11_rods_39 : decode cX11_rods 39 = .ok (.invokestatic 80, 3) := by decide +kernel
theorem dX11_rods_42 : decode cX11_rods 42 = .ok (.ifCond .ne 6, 3) := by decide +kernel
theorem dX11_rods_45 : decode cX11_rods 45 = .ok (.ldc 84, 2) := by decide +kernel
theorem dX11_rods_47 : decode cX11_rods 47 = .ok (.ireturn, 1) := by decide +kernel
theorem dX11_rods_48 : decode cX11_rods 48 = .ok (.aload_n 0, 1) := by decide +kernel
theorem dX11_rods_49 : decode cX11_rods 49 = .ok (.getfield 72, 3) := by decide +kernel
theorem dX11_rods_52 : decode cX11_rods 52 = .ok (.iload_n 1, 1) := by decide +kernel
theorem dX11_rods_53 : decode cX11_rods 53 = .ok (.iload_n 2, 1) := by decide +kernel
theorem dX11_rods_54 : decode cX11_rods 54 = .ok (.iload_n 3, 1) := by decide +kernel
theorem dX11_rods_55 : decode cX11_rods 55 = .ok (.invokevirtual 225, 3) := by decide +kernel
theorem dX11_rods_58 : decode cX11_rods 58 = .ok (.istore 5, 2) := by decide +kernel
theorem dX11_rods_60 : decode cX11_rods 60 = .ok (.iload 5, 2) := by decide +kernel
theorem dX11_rods_62 : decode cX11_rods 62 = .ok (.ldc 188, 2) := by decide +kernel
theorem dX11_rods_64 : decode cX11_rods 64 = .ok (.if_icmp .eq 9, 3) := by decide +kernel
theorem dX11_rods_67 : decode cX11_rods 67 = .ok (.iload 4, 2) := by decide +kernel
theorem dX11_rods_69 : decode cX11_rods 69 = .ok (.iconst 1, 1) := by decide +kernel
theorem dX11_rods_70 : decode cX11_rods 70 = .ok (.if_icmp .ne 8, 3) := by decide +kernel
theorem dX11_rods_73 : decode cX11_rods 73 = .ok (.iload 5, 2) := by decide +kernel
theorem dX11_rods_75 : decode cX11_rods 75 = .ok (.goto 8, 3) := by decide +kernel
theorem dX11_rods_78 : decode cX11_rods 78 = .ok (.iload 5, 2) := by decide +kernel
theorem dX11_rods_80 : decode cX11_rods 80 = .ok (.invokestatic 228, 3) := by decide +kernel
theorem dX11_rods_83 : decode cX11_rods 83 = .ok (.ireturn, 1) := by decide +kernel
set_option maxRecDepth 20000 in
theorem ggX11_tour_X9_isEmpty : GoodIn wsX11_tour wsX9_isEmpty := goodIn_r _ [9, 10, 155, 156, 157, 158, 159, 160, 161, 162] (by decide +kernel) (by decide +kernel)
set_option maxRecDepth 20000 in
theorem gX11_tour_X9_isEmpty : GoodIn wsX11_tour (wsV RX11 157 RX9 yX9_isEmpty wsX9_isEmpty) := goodIn_app (goodIn_of _ (by decide +kernel)) ggX11_tour_X9_isEmpty
set_option maxRecDepth 20000 in
theorem ggX11_tour_X11_within : GoodIn wsX11_tour wsX11_within := goodIn_r _ [14] (by decide +kernel) (by decide +kernel)
set_option maxRecDepth 20000 in
theorem gX11_tour_X11_within : GoodIn wsX11_tour (va_wsS RX11 80 yX11_within wsX11_within) := goodIn_app (goodIn_of _ (by decide +kernel)) ggX11_tour_X11_within
set_option maxRecDepth 20000 in
theorem ggX11_tour_X2_bestTour : GoodIn wsX11_tour wsX2_bestTour := goodIn_r _ [19, 20, 21, 22, 23, 18, 24, 25, 26, 27, 28, 29, 8, 30, 31, 32, 10, 33, 34, 35, 36, 37, 38, 39, 40, 41, 42, 43, 44, 45, 46, 47, 48, 49, 50, 51, 52, 53, 54, 55, 56, 57, 58, 59, 60, 61, 62, 63, 64, 65, 66, 67, 68, 69, 70, 71, 72, 73, 74, 75, 76, 77, 78, 79, 80, 81, 82, 83, 84, 85, 86, 87, 88, 89, 90, 91, 92, 93, 94, 95, 96, 97, 98, 99, 100, 101, 102, 103, 104, 105, 106, 107, 108, 109, 110, 111, 112, 113, 114, 115, 116, 117, 118, 119, 120, 121, 122, 123, 124, 125, 126, 127, 128, 129, 130, 131, 132, 133, 134, 135, 136, 137, 138, 139, 140, 141, 142, 143, 163, 164, 165, 166, 167, 155, 156, 157, 158, 159, 160, 161, 162] (by decide +kernel) (by decide +kernel)
set_option maxRecDepth 20000 in
theorem gX11_tour_X2_bestTour : GoodIn wsX11_tour (wsV RX11 233 RX2 yX2_bestTour wsX2_bestTour) := goodIn_app (goodIn_of _ (by decide +kernel)) ggX11_tour_X2_bestTour
theorem dX11_tour_0 : decode cX11_tour 0 = .ok (.aload_n 0, 1) := by decide +kernel
theorem dX11_tour_1 : decode cX11_tour 1 = .ok (.getfield 24, 3) := by decide +kernel
theorem dX11_tour_4 : decode cX11_tour 4 = .ok (.invokevirtual 157, 3) := by decide +kernel
theorem dX11_tour_7 : decode cX11_tour 7 = .ok (.ifCond .eq 6, 3) := by decide +kernel
theorem dX11_tour_10 : decode cX11_tour 10 = .ok (.ldc 160, 2) := by decide +kernel
theorem dX11_tour_12 : decode cX11_tour 12 = .ok (.ireturn, 1) := by decide +kernel
theorem dX11_tour_13 : decode cX11_tour 13 = .ok (.iload_n 1, 1) := by decide +kernel
theorem dX11_tour_14 : decode cX11_tour 14 = .ok (.iconst 1, 1) := by decide +kernel
theorem dX11_tour_15 : decode cX11_tour 15 = .ok (.iconst 4, 1) := by decide +kernel
theorem dX11_tour_16 : decode cX11_tour 16 = .ok (.invokestatic 80, 3) := by decide +kernel
theorem dX11_tour_19 : decode cX11_tour 19 = .ok (.ifCond .eq 12, 3) := by decide +kernel
theorem dX11_tour_22 : decode cX11_tour 22 = .ok (.iload_n 2, 1) := by decide +kernel
theorem dX11_tour_23 : decode cX11_tour 23 = .ok (.iconst 0, 1) := by decide +kernel
theorem dX11_tour_24 : decode cX11_tour 24 = .ok (.iconst 1, 1) := by decide +kernel
theorem dX11_tour_25 : decode cX11_tour 25 = .ok (.invokestatic 80, 3) := by decide +kernel
theorem dX11_tour_28 : decode cX11_tour 28 = .ok (.ifCond .ne 6, 3) := by decide +kernel
theorem dX11_tour_31 : decode cX11_tour 31 = .ok (.ldc 84, 2) := by decide +kernel
theorem dX11_tour_33 : decode cX11_tour 33 = .ok (.ireturn, 1) := by decide +kernel
theorem dX11_tour_34 : decode cX11_tour 34 = .ok (.aload_n 0, 1) := by decide +kernel
theorem dX11_tour_35 : decode cX11_tour 35 = .ok (.getfield 72, 3) := by decide +kernel
theorem dX11_tour_38 : decode cX11_tour 38 = .ok (.iload_n 1, 1) := by decide +kernel
theorem dX11_tour_39 : decode cX11_tour 39 = .ok (.iload_n 2, 1) := by decide +kernel
theorem dX11_tour_40 : decode cX11_tour 40 = .ok (.invokevirtual 233, 3) := by decide +kernel
theorem dX11_tour_43 : decode cX11_tour 43 = .ok (.ireturn, 1) := by decide +kernel
set_option maxRecDepth 20000 in
theorem ggX11_fits_X9_hasCard : GoodIn wsX11_fits wsX9_hasCard := goodIn_r _ [9, 10, 169, 170, 171, 172, 173, 174, 175, 176] (by decide +kernel) (by decide +kernel)
set_option maxRecDepth 20000 in
theorem gX11_fits_X9_hasCard : GoodIn wsX11_fits (wsV RX11 175 RX9 yX9_hasCard wsX9_hasCard) := goodIn_app (goodIn_of _ (by decide +kernel)) ggX11_fits_X9_hasCard
set_option maxRecDepth 20000 in
theorem ggX11_fits_X11_isRow : GoodIn wsX11_fits wsX11_isRow := goodIn_r _ [14, 15, 16, 13, 17] (by decide +kernel) (by decide +kernel)
set_option maxRecDepth 20000 in
theorem gX11_fits_X11_isRow : GoodIn wsX11_fits (va_wsS RX11 76 yX11_isRow wsX11_isRow) := goodIn_app (goodIn_of _ (by decide +kernel)) ggX11_fits_X11_isRow
set_option maxRecDepth 20000 in
theorem ggX11_fits_X11_within : GoodIn wsX11_fits wsX11_within := goodIn_r _ [17] (by decide +kernel) (by decide +kernel)
set_option maxRecDepth 20000 in
theorem gX11_fits_X11_within : GoodIn wsX11_fits (va_wsS RX11 80 yX11_within wsX11_within) := goodIn_app (goodIn_of _ (by decide +kernel)) ggX11_fits_X11_within
set_option maxRecDepth 20000 in
theorem ggX11_fits_X8_isMissing : GoodIn wsX11_fits wsX8_isMissing := goodIn_r _ [22, 23, 177, 178, 179] (by decide +kernel) (by decide +kernel)
set_option maxRecDepth 20000 in
theorem gX11_fits_X8_isMissing : GoodIn wsX11_fits (wsV RX11 96 RX8 yX8_isMissing wsX8_isMissing) := goodIn_app (goodIn_of _ (by decide +kernel)) ggX11_fits_X8_isMissing
set_option maxRecDepth 20000 in
theorem ggX11_fits_X11_find : GoodIn wsX11_fits wsX11_find := goodIn_r _ [27, 28, 29, 158, 159, 160, 161, 162, 163, 164, 165, 166, 167, 168] (by decide +kernel) (by decide +kernel)
set_option maxRecDepth 20000 in
theorem gX11_fits_X11_find : GoodIn wsX11_fits (wsV RX11 85 RX11 yX11_find wsX11_find) := goodIn_app (goodIn_of _ (by decide +kernel)) ggX11_fits_X11_find
set_option maxRecDepth 20000 in
theorem ggX11_fits_X8_reaches : GoodIn wsX11_fits wsX8_reaches := goodIn_r _ [33, 34, 177, 178, 179] (by decide +kernel) (by decide +kernel)
set_option maxRecDepth 20000 in
theorem gX11_fits_X8_reaches : GoodIn wsX11_fits (wsV RX11 100 RX8 yX8_reaches wsX8_reaches) := goodIn_app (goodIn_of _ (by decide +kernel)) ggX11_fits_X8_reaches
set_option maxRecDepth 20000 in
theorem ggX11_fits_X2_fitting : GoodIn wsX11_fits wsX2_fitting := goodIn_r _ [39, 40, 41, 42, 43, 44, 8, 45, 46, 47, 10, 48, 49, 50, 51, 52, 53, 54, 55, 56, 57, 58, 59, 38, 60, 61, 62, 16, 13, 17, 63, 64, 65, 66, 67, 68, 69, 70, 71, 6, 7, 9, 72, 73, 74, 75, 76, 77, 78, 79, 80, 81, 82, 83, 84, 85, 86, 87, 88, 89, 90, 91, 92, 93, 94, 95, 96, 97, 98, 99, 100, 101, 102, 103, 104, 105, 106, 107, 108, 109, 110, 111, 112, 113, 114, 115, 116, 117, 118, 119, 120, 121, 122, 123, 124, 125, 126, 127, 128, 129, 130, 131, 132, 133, 134, 135, 136, 137, 138, 139, 140, 141, 142, 143, 144, 145, 146, 147, 148, 149, 150, 21, 151, 152, 153, 31, 32, 33, 34, 180, 181, 182, 183, 184, 169, 170, 171, 172, 173, 174, 175, 176, 177, 178, 179] (by decide +kernel) (by decide +kernel)
set_option maxRecDepth 20000 in
theorem gX11_fits_X2_fitting : GoodIn wsX11_fits (wsV RX11 236 RX2 yX2_fitting wsX2_fitting) := goodIn_app (goodIn_of _ (by decide +kernel)) ggX11_fits_X2_fitting
set_option maxRecDepth 20000 in
theorem ggX11_fits_X11_findNothing : GoodIn wsX11_fits wsX11_findNothing := goodIn_r _ [157, 28, 158, 159, 160, 161, 162, 163, 164, 165, 166, 167, 168] (by decide +kernel) (by decide +kernel)
set_option maxRecDepth 20000 in
theorem gX11_fits_X11_findNothing : GoodIn wsX11_fits (wsV RX11 93 RX11 yX11_findNothing wsX11_findNothing) := goodIn_app (goodIn_of _ (by decide +kernel)) ggX11_fits_X11_findNothing
theorem dX11_fits_0 : decode cX11_fits 0 = .ok (.aload_n 0, 1) := by decide +kernel
theorem dX11_fits_1 : decode cX11_fits 1 = .ok (.getfield 24, 3) := by decide +kernel
theorem dX11_fits_4 : decode cX11_fits 4 = .ok (.iload_n 1, 1) := by decide +kernel
theorem dX11_fits_5 : decode cX11_fits 5 = .ok (.invokevirtual 175, 3) := by decide +kernel
theorem dX11_fits_8 : decode cX11_fits 8 = .ok (.ifCond .eq 10, 3) := by decide +kernel
theorem dX11_fits_11 : decode cX11_fits 11 = .ok (.iload_n 2, 1) := by decide +kernel
theorem dX11_fits_12 : decode cX11_fits 12 = .ok (.invokestatic 76, 3) := by decide +kernel
theorem dX11_fits_15 : decode cX11_fits 15 = .ok (.ifCond .ne 6, 3) := by decide +kernel
theorem dX11_fits_18 : decode cX11_fits 18 = .ok (.ldc 84, 2) := by decide +kernel
theorem dX11_fits_20 : decode cX11_fits 20 = .ok (.ireturn, 1) := by decide +kernel
theorem dX11_fits_21 : decode cX11_fits 21 = .ok (.iload 4, 2) := by decide +kernel
theorem dX11_fits_23 : decode cX11_fits 23 = .ok (.iconst 1, 1) := by decide +kernel
theorem dX11_fits_24 : decode cX11_fits 24 = .ok (.bipush 12, 2) := by decide +kernel
theorem dX11_fits_26 : decode cX11_fits 26 = .ok (.invokestatic 80, 3) := by decide +kernel
theorem dX11_fits_29 : decode cX11_fits 29 = .ok (.ifCond .eq 13, 3) := by decide +kernel
theorem dX11_fits_32 : decode cX11_fits 32 = .ok (.iload 5, 2) := by decide +kernel
theorem dX11_fits_34 : decode cX11_fits 34 = .ok (.iconst 0, 1) := by decide +kernel
theorem dX11_fits_35 : decode cX11_fits 35 = .ok (.iconst 3, 1) := by decide +kernel
theorem dX11_fits_36 : decode cX11_fits 36 = .ok (.invokestatic 80, 3) := by decide +kernel
theorem dX11_fits_39 : decode cX11_fits 39 = .ok (.ifCond .ne 6, 3) := by decide +kernel
theorem dX11_fits_42 : decode cX11_fits 42 = .ok (.ldc 84, 2) := by decide +kernel
theorem dX11_fits_44 : decode cX11_fits 44 = .ok (.ireturn, 1) := by decide +kernel
theorem dX11_fits_45 : decode cX11_fits 45 = .ok (.aload_n 0, 1) := by decide +kernel
theorem dX11_fits_46 : decode cX11_fits 46 = .ok (.getfield 11, 3) := by decide +kernel
theorem dX11_fits_49 : decode cX11_fits 49 = .ok (.iload_n 2, 1) := by decide +kernel
theorem dX11_fits_50 : decode cX11_fits 50 = .ok (.aaload, 1) := by decide +kernel
theorem dX11_fits_51 : decode cX11_fits 51 = .ok (.astore 6, 2) := by decide +kernel
theorem dX11_fits_53 : decode cX11_fits 53 = .ok (.aload 6, 2) := by decide +kernel
theorem dX11_fits_55 : decode cX11_fits 55 = .ok (.invokevirtual 96, 3) := by decide +kernel
theorem dX11_fits_58 : decode cX11_fits 58 = .ok (.ifCond .eq 9, 3) := by decide +kernel
theorem dX11_fits_61 : decode cX11_fits 61 = .ok (.aload_n 0, 1) := by decide +kernel
theorem dX11_fits_62 : decode cX11_fits 62 = .ok (.iconst 1, 1) := by decide +kernel
theorem dX11_fits_63 : decode cX11_fits 63 = .ok (.invokevirtual 85, 3) := by decide +kernel
theorem dX11_fits_66 : decode cX11_fits 66 = .ok (.ireturn, 1) := by decide +kernel
theorem dX11_fits_67 : decode cX11_fits 67 = .ok (.aload 6, 2) := by decide +kernel
theorem dX11_fits_69 : decode cX11_fits 69 = .ok (.iload_n 3, 1) := by decide +kernel
theorem dX11_fits_70 : decode cX11_fits 70 = .ok (.iload 4, 2) := by decide +kernel
theorem dX11_fits_72 : decode cX11_fits 72 = .ok (.invokevirtual 100, 3) := by decide +kernel
theorem dX11_fits_75 : decode cX11_fits 75 = .ok (.ifCond .ne 9, 3) := by decide +kernel
theorem dX11_fits_78 : decode cX11_fits 78 = .ok (.aload_n 0, 1) := by decide +kernel
theorem dX11_fits_79 : decode cX11_fits 79 = .ok (.iconst 2, 1) := by decide +kernel
theorem dX11_fits_80 : decode cX11_fits 80 = .ok (.invokevirtual 85, 3) := by decide +kernel
theorem dX11_fits_83 : decode cX11_fits 83 = .ok (.ireturn, 1) := by decide +kernel
theorem dX11_fits_84 : decode cX11_fits 84 = .ok (.aload_n 0, 1) := by decide +kernel
theorem dX11_fits_85 : decode cX11_fits 85 = .ok (.aload_n 0, 1) := by decide +kernel
theorem dX11_fits_86 : decode cX11_fits 86 = .ok (.getfield 72, 3) := by decide +kernel
theorem dX11_fits_89 : decode cX11_fits 89 = .ok (.iload_n 1, 1) := by decide +kernel
theorem dX11_fits_90 : decode cX11_fits 90 = .ok (.aload 6, 2) := by decide +kernel
theorem dX11_fits_92 : decode cX11_fits 92 = .ok (.iload_n 3, 1) := by decide +kernel
theorem dX11_fits_93 : decode cX11_fits 93 = .ok (.iload 4, 2) := by decide +kernel
theorem dX11_fits_95 : decode cX11_fits 95 = .ok (.iload 5, 2) := by decide +kernel
theorem dX11_fits_97 : decode cX11_fits 97 = .ok (.invokevirtual 236, 3) := by decide +kernel
theorem dX11_fits_100 : decode cX11_fits 100 = .ok (.invokevirtual 93, 3) := by decide +kernel
theorem dX11_fits_103 : decode cX11_fits 103 = .ok (.ireturn, 1) := by decide +kernel
set_option maxRecDepth 20000 in
theorem ggX11_asleep_X9_hasCard : GoodIn wsX11_asleep wsX9_hasCard := goodIn_r _ [8, 9, 148, 149, 150, 151, 152, 153, 154, 155] (by decide +kernel) (by decide +kernel)
set_option maxRecDepth 20000 in
theorem gX11_asleep_X9_hasCard : GoodIn wsX11_asleep (wsV RX11 175 RX9 yX9_hasCard wsX9_hasCard) := goodIn_app (goodIn_of _ (by decide +kernel)) ggX11_asleep_X9_hasCard
set_option maxRecDepth 20000 in
theorem ggX11_asleep_X9_hasDrawer : GoodIn wsX11_asleep wsX9_hasDrawer := goodIn_r _ [13, 14, 148, 149, 150, 151, 152, 153, 154, 155] (by decide +kernel) (by decide +kernel)
set_option maxRecDepth 20000 in
theorem gX11_asleep_X9_hasDrawer : GoodIn wsX11_asleep (wsV RX11 178 RX9 yX9_hasDrawer wsX9_hasDrawer) := goodIn_app (goodIn_of _ (by decide +kernel)) ggX11_asleep_X9_hasDrawer
set_option maxRecDepth 20000 in
theorem ggX11_asleep_X11_within : GoodIn wsX11_asleep wsX11_within := goodIn_r _ [18] (by decide +kernel) (by decide +kernel)
set_option maxRecDepth 20000 in
theorem gX11_asleep_X11_within : GoodIn wsX11_asleep (va_wsS RX11 80 yX11_within wsX11_within) := goodIn_app (goodIn_of _ (by decide +kernel)) ggX11_asleep_X11_within
set_option maxRecDepth 20000 in
theorem ggX11_asleep_X2_chance : GoodIn wsX11_asleep wsX2_chance := goodIn_r _ [23, 24, 25, 26, 27, 28, 29, 30, 31, 32, 7, 33, 14, 34, 9, 35, 36, 37, 38, 39, 40, 41, 42, 43, 44, 45, 46, 47, 48, 49, 50, 51, 52, 53, 54, 55, 56, 57, 58, 59, 60, 61, 62, 63, 64, 65, 66, 67, 68, 69, 70, 71, 72, 73, 74, 75, 76, 77, 78, 79, 80, 81, 82, 83, 84, 85, 86, 87, 5, 6, 8, 88, 89, 90, 91, 92, 93, 94, 95, 96, 97, 98, 99, 100, 101, 102, 103, 104, 105, 106, 107, 108, 109, 110, 111, 112, 113, 114, 115, 116, 117, 118, 119, 120, 121, 122, 123, 124, 125, 126, 127, 128, 129, 22, 130, 131, 132, 133, 134, 135, 136, 156, 157, 158, 159, 160, 148, 149, 150, 151, 152, 153, 154, 155] (by decide +kernel) (by decide +kernel)
set_option maxRecDepth 20000 in
theorem gX11_asleep_X2_chance : GoodIn wsX11_asleep (wsV RX11 240 RX2 yX2_chance wsX2_chance) := goodIn_app (goodIn_of _ (by decide +kernel)) ggX11_asleep_X2_chance
theorem dX11_asleep_0 : decode cX11_asleep 0 = .ok (.aload_n 0, 1) := by decide +kernel
theorem dX11_asleep_1 : decode cX11_asleep 1 = .ok (.getfield 24, 3) := by decide +kernel
theorem dX11_asleep_4 : decode cX11_asleep 4 = .ok (.iload_n 1, 1) := by decide +kernel
theorem dX11_asleep_5 : decode cX11_asleep 5 = .ok (.invokevirtual 175, 3) := by decide +kernel
theorem dX11_asleep_8 : decode cX11_asleep 8 = .ok (.ifCond .eq 14, 3) := by decide +kernel
theorem dX11_asleep_11 : decode cX11_asleep 11 = .ok (.aload_n 0, 1) := by decide +kernel
theorem dX11_asleep_12 : decode cX11_asleep 12 = .ok (.getfield 24, 3) := by decide +kernel
theorem dX11_asleep_15 : decode cX11_asleep 15 = .ok (.iload_n 2, 1) := by decide +kernel
theorem dX11_asleep_16 : decode cX11_asleep 16 = .ok (.invokevirtual 178, 3) := by decide +kernel
theorem dX11_asleep_19 : decode cX11_asleep 19 = .ok (.ifCond .ne 6, 3) := by decide +kernel
theorem dX11_asleep_22 : decode cX11_asleep 22 = .ok (.ldc 84, 2) := by decide +kernel
theorem dX11_asleep_24 : decode cX11_asleep 24 = .ok (.ireturn, 1) := by decide +kernel
theorem dX11_asleep_25 : decode cX11_asleep 25 = .ok (.iload_n 3, 1) := by decide +kernel
theorem dX11_asleep_26 : decode cX11_asleep 26 = .ok (.iconst 0, 1) := by decide +kernel
theorem dX11_asleep_27 : decode cX11_asleep 27 = .ok (.bipush 10, 2) := by decide +kernel
theorem dX11_asleep_29 : decode cX11_asleep 29 = .ok (.invokestatic 80, 3) := by decide +kernel
theorem dX11_asleep_32 : decode cX11_asleep 32 = .ok (.ifCond .eq 13, 3) := by decide +kernel
theorem dX11_asleep_35 : decode cX11_asleep 35 = .ok (.iload 4, 2) := by decide +kernel
theorem dX11_asleep_37 : decode cX11_asleep 37 = .ok (.iconst 0, 1) := by decide +kernel
theorem dX11_asleep_38 : decode cX11_asleep 38 = .ok (.iconst 1, 1) := by decide +kernel
theorem dX11_asleep_39 : decode cX11_asleep 39 = .ok (.invokestatic 80, 3) := by decide +kernel
theorem dX11_asleep_42 : decode cX11_asleep 42 = .ok (.ifCond .ne 6, 3) := by decide +kernel
theorem dX11_asleep_45 : decode cX11_asleep 45 = .ok (.ldc 84, 2) := by decide +kernel
theorem dX11_asleep_47 : decode cX11_asleep 47 = .ok (.ireturn, 1) := by decide +kernel
theorem dX11_asleep_48 : decode cX11_asleep 48 = .ok (.aload_n 0, 1) := by decide +kernel
theorem dX11_asleep_49 : decode cX11_asleep 49 = .ok (.getfield 72, 3) := by decide +kernel
theorem dX11_asleep_52 : decode cX11_asleep 52 = .ok (.iload_n 1, 1) := by decide +kernel
theorem dX11_asleep_53 : decode cX11_asleep 53 = .ok (.iload_n 2, 1) := by decide +kernel
theorem dX11_asleep_54 : decode cX11_asleep 54 = .ok (.iload_n 3, 1) := by decide +kernel
theorem dX11_asleep_55 : decode cX11_asleep 55 = .ok (.iload 4, 2) := by decide +kernel
theorem dX11_asleep_57 : decode cX11_asleep 57 = .ok (.invokevirtual 240, 3) := by decide +kernel
theorem dX11_asleep_60 : decode cX11_asleep 60 = .ok (.ireturn, 1) := by decide +kernel
set_option maxRecDepth 20000 in
theorem ggX11_drawn_X9_isEmpty : GoodIn wsX11_drawn wsX9_isEmpty := goodIn_r _ [10, 11, 153, 154, 155, 156, 157, 158, 159, 160] (by decide +kernel) (by decide +kernel)
set_option maxRecDepth 20000 in
theorem gX11_drawn_X9_isEmpty : GoodIn wsX11_drawn (wsV RX11 157 RX9 yX9_isEmpty wsX9_isEmpty) := goodIn_app (goodIn_of _ (by decide +kernel)) ggX11_drawn_X9_isEmpty
set_option maxRecDepth 20000 in
theorem ggX11_drawn_X11_within : GoodIn wsX11_drawn wsX11_within := goodIn_r _ [15] (by decide +kernel) (by decide +kernel)
set_option maxRecDepth 20000 in
theorem gX11_drawn_X11_within : GoodIn wsX11_drawn (va_wsS RX11 80 yX11_within wsX11_within) := goodIn_app (goodIn_of _ (by decide +kernel)) ggX11_drawn_X11_within
set_option maxRecDepth 20000 in
theorem ggX11_drawn_X2_years : GoodIn wsX11_drawn wsX2_years := goodIn_r _ [20, 21, 22, 23, 24, 25, 26, 27, 9, 28, 29, 30, 11, 31, 32, 33, 34, 35, 36, 37, 38, 39, 40, 41, 42, 19, 43, 44, 45, 46, 47, 48, 49, 50, 51, 52, 53, 54, 55, 56, 57, 58, 59, 60, 61, 62, 63, 64, 65, 66, 67, 68, 69, 70, 71, 72, 73, 74, 75, 76, 77, 78, 79, 80, 81, 82, 83, 84, 85, 86, 87, 88, 89, 90, 91, 92, 93, 94, 95, 96, 97, 98, 99, 100, 101, 102, 103, 104, 105, 106, 107, 108, 109, 110, 111, 112, 113, 114, 115, 116, 117, 118, 119, 120, 121, 122, 123, 124, 125, 126, 127, 128, 129, 130, 131, 132, 133, 134, 135, 136, 137, 138, 139, 140, 141, 161, 162, 163, 164, 165, 153, 154, 155, 156, 157, 158, 159, 160] (by decide +kernel) (by decide +kernel)
set_option maxRecDepth 20000 in
theorem gX11_drawn_X2_years : GoodIn wsX11_drawn (wsV RX11 245 RX2 yX2_years wsX2_years) := goodIn_app (goodIn_of _ (by decide +kernel)) ggX11_drawn_X2_years
theorem dX11_drawn_0 : decode cX11_drawn 0 = .ok (.aload_n 0, 1) := by decide +kernel
theorem dX11_drawn_1 : decode cX11_drawn 1 = .ok (.getfield 24, 3) := by decide +kernel
theorem dX11_drawn_4 : decode cX11_drawn 4 = .ok (.invokevirtual 157, 3) := by decide +kernel
theorem dX11_drawn_7 : decode cX11_drawn 7 = .ok (.ifCond .eq 6, 3) := by decide +kernel
theorem dX11_drawn_10 : decode cX11_drawn 10 = .ok (.ldc 160, 2) := by decide +kernel
theorem dX11_drawn_12 : decode cX11_drawn 12 = .ok (.ireturn, 1) := by decide +kernel
theorem dX11_drawn_13 : decode cX11_drawn 13 = .ok (.iload_n 1, 1) := by decide +kernel
theorem dX11_drawn_14 : decode cX11_drawn 14 = .ok (.iconst 0, 1) := by decide +kernel
theorem dX11_drawn_15 : decode cX11_drawn 15 = .ok (.bipush 60, 2) := by decide +kernel
theorem dX11_drawn_17 : decode cX11_drawn 17 = .ok (.invokestatic 80, 3) := by decide +kernel
theorem dX11_drawn_20 : decode cX11_drawn 20 = .ok (.ifCond .eq 22, 3) := by decide +kernel
theorem dX11_drawn_23 : decode cX11_drawn 23 = .ok (.iload_n 2, 1) := by decide +kernel
theorem dX11_drawn_24 : decode cX11_drawn 24 = .ok (.iconst 1, 1) := by decide +kernel
theorem dX11_drawn_25 : decode cX11_drawn 25 = .ok (.ldc 244, 2) := by decide +kernel
theorem dX11_drawn_27 : decode cX11_drawn 27 = .ok (.invokestatic 80, 3) := by decide +kernel
theorem dX11_drawn_30 : decode cX11_drawn 30 = .ok (.ifCond .eq 12, 3) := by decide +kernel
theorem dX11_drawn_33 : decode cX11_drawn 33 = .ok (.iload_n 3, 1) := by decide +kernel
theorem dX11_drawn_34 : decode cX11_drawn 34 = .ok (.iconst 0, 1) := by decide +kernel
theorem dX11_drawn_35 : decode cX11_drawn 35 = .ok (.iconst 1, 1) := by decide +kernel
theorem dX11_drawn_36 : decode cX11_drawn 36 = .ok (.invokestatic 80, 3) := by decide +kernel
theorem dX11_drawn_39 : decode cX11_drawn 39 = .ok (.ifCond .ne 6, 3) := by decide +kernel
theorem dX11_drawn_42 : decode cX11_drawn 42 = .ok (.ldc 84, 2) := by decide +kernel
theorem dX11_drawn_44 : decode cX11_drawn 44 = .ok (.ireturn, 1) := by decide +kernel
theorem dX11_drawn_45 : decode cX11_drawn 45 = .ok (.aload_n 0, 1) := by decide +kernel
theorem dX11_drawn_46 : decode cX11_drawn 46 = .ok (.getfield 72, 3) := by decide +kernel
theorem dX11_drawn_49 : decode cX11_drawn 49 = .ok (.iload_n 1, 1) := by decide +kernel
theorem dX11_drawn_50 : decode cX11_drawn 50 = .ok (.iload_n 2, 1) := by decide +kernel
theorem dX11_drawn_51 : decode cX11_drawn 51 = .ok (.iload_n 3, 1) := by decide +kernel
theorem dX11_drawn_52 : decode cX11_drawn 52 = .ok (.invokevirtual 245, 3) := by decide +kernel
theorem dX11_drawn_55 : decode cX11_drawn 55 = .ok (.ireturn, 1) := by decide +kernel
set_option maxRecDepth 20000 in
theorem ggX11_image_X11_within : GoodIn wsX11_image wsX11_within := goodIn_r _ [8] (by decide +kernel) (by decide +kernel)
set_option maxRecDepth 20000 in
theorem gX11_image_X11_within : GoodIn wsX11_image (va_wsS RX11 80 yX11_within wsX11_within) := goodIn_app (goodIn_of _ (by decide +kernel)) ggX11_image_X11_within
set_option maxRecDepth 20000 in
theorem ggX11_image_X9_isEmpty : GoodIn wsX11_image wsX9_isEmpty := goodIn_r _ [13, 14, 41, 42, 43, 44, 45, 46, 47, 48] (by decide +kernel) (by decide +kernel)
set_option maxRecDepth 20000 in
theorem gX11_image_X9_isEmpty : GoodIn wsX11_image (wsV RX11 157 RX9 yX9_isEmpty wsX9_isEmpty) := goodIn_app (goodIn_of _ (by decide +kernel)) ggX11_image_X9_isEmpty
set_option maxRecDepth 20000 in
theorem ggX11_image_X9_become : GoodIn wsX11_image wsX9_become := goodIn_r _ [18, 19, 20, 14, 21, 22, 23, 24, 25, 26, 27, 28, 12, 29, 41, 42, 43, 44, 45, 46, 47, 48] (by decide +kernel) (by decide +kernel)
set_option maxRecDepth 20000 in
theorem gX11_image_X9_become : GoodIn wsX11_image (wsV RX11 147 RX9 yX9_become wsX9_become) := goodIn_app (goodIn_of _ (by decide +kernel)) ggX11_image_X9_become
theorem dX11_image_0 : decode cX11_image 0 = .ok (.iload_n 1, 1) := by decide +kernel
theorem dX11_image_1 : decode cX11_image 1 = .ok (.iconst 0, 1) := by decide +kernel
theorem dX11_image_2 : decode cX11_image 2 = .ok (.iconst 1, 1) := by decide +kernel
theorem dX11_image_3 : decode cX11_image 3 = .ok (.invokestatic 80, 3) := by decide +kernel
theorem dX11_image_6 : decode cX11_image 6 = .ok (.ifCond .ne 6, 3) := by decide +kernel
theorem dX11_image_9 : decode cX11_image 9 = .ok (.ldc 84, 2) := by decide +kernel
theorem dX11_image_11 : decode cX11_image 11 = .ok (.ireturn, 1) := by decide +kernel
theorem dX11_image_12 : decode cX11_image 12 = .ok (.aload_n 0, 1) := by decide +kernel
theorem dX11_image_13 : decode cX11_image 13 = .ok (.getfield 24, 3) := by decide +kernel
theorem dX11_image_16 : decode cX11_image 16 = .ok (.invokevirtual 157, 3) := by decide +kernel
theorem dX11_image_19 : decode cX11_image 19 = .ok (.ifCond .eq 6, 3) := by decide +kernel
theorem dX11_image_22 : decode cX11_image 22 = .ok (.ldc 160, 2) := by decide +kernel
theorem dX11_image_24 : decode cX11_image 24 = .ok (.ireturn, 1) := by decide +kernel
theorem dX11_image_25 : decode cX11_image 25 = .ok (.aload_n 0, 1) := by decide +kernel
theorem dX11_image_26 : decode cX11_image 26 = .ok (.getfield 32, 3) := by decide +kernel
theorem dX11_image_29 : decode cX11_image 29 = .ok (.iload_n 1, 1) := by decide +kernel
theorem dX11_image_30 : decode cX11_image 30 = .ok (.aaload, 1) := by decide +kernel
theorem dX11_image_31 : decode cX11_image 31 = .ok (.aload_n 0, 1) := by decide +kernel
theorem dX11_image_32 : decode cX11_image 32 = .ok (.getfield 24, 3) := by decide +kernel
theorem dX11_image_35 : decode cX11_image 35 = .ok (.invokevirtual 147, 3) := by decide +kernel
theorem dX11_image_38 : decode cX11_image 38 = .ok (.iconst 1, 1) := by decide +kernel
theorem dX11_image_39 : decode cX11_image 39 = .ok (.ireturn, 1) := by decide +kernel
set_option maxRecDepth 20000 in
theorem ggX11_restore_X11_within : GoodIn wsX11_restore wsX11_within := goodIn_r _ [9] (by decide +kernel) (by decide +kernel)
set_option maxRecDepth 20000 in
theorem gX11_restore_X11_within : GoodIn wsX11_restore (va_wsS RX11 80 yX11_within wsX11_within) := goodIn_app (goodIn_of _ (by decide +kernel)) ggX11_restore_X11_within
set_option maxRecDepth 20000 in
theorem ggX11_restore_X9_isEmpty : GoodIn wsX11_restore wsX9_isEmpty := goodIn_r _ [14, 15, 42, 43, 44, 45, 46, 47, 48, 49] (by decide +kernel) (by decide +kernel)
set_option maxRecDepth 20000 in
theorem gX11_restore_X9_isEmpty : GoodIn wsX11_restore (wsV RX11 157 RX9 yX9_isEmpty wsX9_isEmpty) := goodIn_app (goodIn_of _ (by decide +kernel)) ggX11_restore_X9_isEmpty
set_option maxRecDepth 20000 in
theorem ggX11_restore_X9_become : GoodIn wsX11_restore wsX9_become := goodIn_r _ [19, 20, 21, 15, 22, 23, 24, 25, 26, 27, 28, 29, 13, 30, 42, 43, 44, 45, 46, 47, 48, 49] (by decide +kernel) (by decide +kernel)
set_option maxRecDepth 20000 in
theorem gX11_restore_X9_become : GoodIn wsX11_restore (wsV RX11 147 RX9 yX9_become wsX9_become) := goodIn_app (goodIn_of _ (by decide +kernel)) ggX11_restore_X9_become
theorem dX11_restore_0 : decode cX11_restore 0 = .ok (.iload_n 1, 1) := by decide +kernel
theorem dX11_restore_1 : decode cX11_restore 1 = .ok (.iconst 0, 1) := by decide +kernel
theorem dX11_restore_2 : decode cX11_restore 2 = .ok (.iconst 1, 1) := by decide +kernel
theorem dX11_restore_3 : decode cX11_restore 3 = .ok (.invokestatic 80, 3) := by decide +kernel
theorem dX11_restore_6 : decode cX11_restore 6 = .ok (.ifCond .ne 6, 3) := by decide +kernel
theorem dX11_restore_9 : decode cX11_restore 9 = .ok (.ldc 84, 2) := by decide +kernel
theorem dX11_restore_11 : decode cX11_restore 11 = .ok (.ireturn, 1) := by decide +kernel
theorem dX11_restore_12 : decode cX11_restore 12 = .ok (.aload_n 0, 1) := by decide +kernel
theorem dX11_restore_13 : decode cX11_restore 13 = .ok (.getfield 32, 3) := by decide +kernel
theorem dX11_restore_16 : decode cX11_restore 16 = .ok (.iload_n 1, 1) := by decide +kernel
theorem dX11_restore_17 : decode cX11_restore 17 = .ok (.aaload, 1) := by decide +kernel
theorem dX11_restore_18 : decode cX11_restore 18 = .ok (.invokevirtual 157, 3) := by decide +kernel
theorem dX11_restore_21 : decode cX11_restore 21 = .ok (.ifCond .eq 6, 3) := by decide +kernel
theorem dX11_restore_24 : decode cX11_restore 24 = .ok (.ldc 160, 2) := by decide +kernel
theorem dX11_restore_26 : decode cX11_restore 26 = .ok (.ireturn, 1) := by decide +kernel
theorem dX11_restore_27 : decode cX11_restore 27 = .ok (.aload_n 0, 1) := by decide +kernel
theorem dX11_restore_28 : decode cX11_restore 28 = .ok (.getfield 24, 3) := by decide +kernel
theorem dX11_restore_31 : decode cX11_restore 31 = .ok (.aload_n 0, 1) := by decide +kernel
theorem dX11_restore_32 : decode cX11_restore 32 = .ok (.getfield 32, 3) := by decide +kernel
theorem dX11_restore_35 : decode cX11_restore 35 = .ok (.iload_n 1, 1) := by decide +kernel
theorem dX11_restore_36 : decode cX11_restore 36 = .ok (.aaload, 1) := by decide +kernel
theorem dX11_restore_37 : decode cX11_restore 37 = .ok (.invokevirtual 147, 3) := by decide +kernel
theorem dX11_restore_40 : decode cX11_restore 40 = .ok (.aload_n 0, 1) := by decide +kernel
theorem dX11_restore_41 : decode cX11_restore 41 = .ok (.iconst 0, 1) := by decide +kernel
theorem dX11_restore_42 : decode cX11_restore 42 = .ok (.putfield 151, 3) := by decide +kernel
theorem dX11_restore_45 : decode cX11_restore 45 = .ok (.iconst 1, 1) := by decide +kernel
theorem dX11_restore_46 : decode cX11_restore 46 = .ok (.ireturn, 1) := by decide +kernel
set_option maxRecDepth 20000 in
theorem ggX11_kind_X11_sortOf : GoodIn wsX11_kind wsX11_sortOf := goodIn_r _ [6, 7, 8, 9, 10, 11, 12, 13, 36, 37, 38, 39, 40, 41, 42, 43, 44, 45, 46, 47, 48, 49, 50, 51, 52, 53, 54] (by decide +kernel) (by decide +kernel)
set_option maxRecDepth 20000 in
theorem gX11_kind_X11_sortOf : GoodIn wsX11_kind (wsV RX11 248 RX11 yX11_sortOf wsX11_sortOf) := goodIn_app (goodIn_of _ (by decide +kernel)) ggX11_kind_X11_sortOf
set_option maxRecDepth 20000 in
theorem ggX11_kind_X1_number : GoodIn wsX11_kind wsX1_number := goodIn_r _ [19] (by decide +kernel) (by decide +kernel)
set_option maxRecDepth 20000 in
theorem gX11_kind_X1_number_u252X1 : GoodIn wsX11_kind (va_wsU RX11 252 RX1 "DrawerCards$Kind" ⟨"DrawerCards$Kind", "number", "()I"⟩ yX1_number wsX1_number) := goodIn_app (goodIn_of _ (by decide +kernel)) ggX11_kind_X1_number
set_option maxRecDepth 20000 in
theorem ggX11_kind_X3_number : GoodIn wsX11_kind wsX3_number := goodIn_r _ [23] (by decide +kernel) (by decide +kernel)
set_option maxRecDepth 20000 in
theorem gX11_kind_X3_number_u252X3 : GoodIn wsX11_kind (va_wsU RX11 252 RX3 "DrawerCards$Kind" ⟨"DrawerCards$Kind", "number", "()I"⟩ yX3_number wsX3_number) := goodIn_app (goodIn_of _ (by decide +kernel)) ggX11_kind_X3_number
set_option maxRecDepth 20000 in
theorem ggX11_kind_X5_number : GoodIn wsX11_kind wsX5_number := goodIn_r _ [27] (by decide +kernel) (by decide +kernel)
set_option maxRecDepth 20000 in
theorem gX11_kind_X5_number_u252X5 : GoodIn wsX11_kind (va_wsU RX11 252 RX5 "DrawerCards$Kind" ⟨"DrawerCards$Kind", "number", "()I"⟩ yX5_number wsX5_number) := goodIn_app (goodIn_of _ (by decide +kernel)) ggX11_kind_X5_number
set_option maxRecDepth 20000 in
theorem ggX11_kind_X7_number : GoodIn wsX11_kind wsX7_number := goodIn_r _ [31] (by decide +kernel) (by decide +kernel)
set_option maxRecDepth 20000 in
theorem gX11_kind_X7_number_u252X7 : GoodIn wsX11_kind (va_wsU RX11 252 RX7 "DrawerCards$Kind" ⟨"DrawerCards$Kind", "number", "()I"⟩ yX7_number wsX7_number) := goodIn_app (goodIn_of _ (by decide +kernel)) ggX11_kind_X7_number
set_option maxRecDepth 20000 in
theorem ggX11_kind_X10_number : GoodIn wsX11_kind wsX10_number := goodIn_r _ [35] (by decide +kernel) (by decide +kernel)
set_option maxRecDepth 20000 in
theorem gX11_kind_X10_number_u252X10 : GoodIn wsX11_kind (va_wsU RX11 252 RX10 "DrawerCards$Kind" ⟨"DrawerCards$Kind", "number", "()I"⟩ yX10_number wsX10_number) := goodIn_app (goodIn_of _ (by decide +kernel)) ggX11_kind_X10_number
theorem dX11_kind_0 : decode cX11_kind 0 = .ok (.aload_n 0, 1) := by decide +kernel
theorem dX11_kind_1 : decode cX11_kind 1 = .ok (.iload_n 1, 1) := by decide +kernel
theorem dX11_kind_2 : decode cX11_kind 2 = .ok (.invokevirtual 248, 3) := by decide +kernel
theorem dX11_kind_5 : decode cX11_kind 5 = .ok (.astore_n 2, 1) := by decide +kernel
theorem dX11_kind_6 : decode cX11_kind 6 = .ok (.aload_n 2, 1) := by decide +kernel
theorem dX11_kind_7 : decode cX11_kind 7 = .ok (.ifnonnull 8, 3) := by decide +kernel
theorem dX11_kind_10 : decode cX11_kind 10 = .ok (.ldc 84, 2) := by decide +kernel
theorem dX11_kind_12 : decode cX11_kind 12 = .ok (.goto 7, 3) := by decide +kernel
theorem dX11_kind_15 : decode cX11_kind 15 = .ok (.aload_n 2, 1) := by decide +kernel
theorem dX11_kind_16 : decode cX11_kind 16 = .ok (.invokevirtual 252, 3) := by decide +kernel
theorem dX11_kind_19 : decode cX11_kind 19 = .ok (.ireturn, 1) := by decide +kernel
set_option maxRecDepth 20000 in
theorem ggX11_as_X11_sortOf : GoodIn wsX11_as wsX11_sortOf := goodIn_r _ [6, 7, 8, 9, 10, 11, 12, 13, 42, 43, 44, 45, 46, 47, 48, 49, 50, 51, 52, 53, 54, 55, 56, 57, 58, 59, 60] (by decide +kernel) (by decide +kernel)
set_option maxRecDepth 20000 in
theorem gX11_as_X11_sortOf : GoodIn wsX11_as (wsV RX11 248 RX11 yX11_sortOf wsX11_sortOf) := goodIn_app (goodIn_of _ (by decide +kernel)) ggX11_as_X11_sortOf
set_option maxRecDepth 20000 in
theorem ggX11_as_X11_within : GoodIn wsX11_as wsX11_within := goodIn_r _ [16] (by decide +kernel) (by decide +kernel)
set_option maxRecDepth 20000 in
theorem gX11_as_X11_within : GoodIn wsX11_as (va_wsS RX11 80 yX11_within wsX11_within) := goodIn_app (goodIn_of _ (by decide +kernel)) ggX11_as_X11_within
set_option maxRecDepth 20000 in
theorem ggX11_as_X4_isOne : GoodIn wsX11_as wsX4_isOne := goodIn_r _ [22, 23, 24, 25, 26, 27] (by decide +kernel) (by decide +kernel)
set_option maxRecDepth 20000 in
theorem gX11_as_X4_isOne_u255X1 : GoodIn wsX11_as (va_wsU RX11 255 RX1 "DrawerCards$Kind" ⟨"DrawerCards$Kind", "isOne", "(I)Z"⟩ yX4_isOne wsX4_isOne) := goodIn_app (goodIn_of _ (by decide +kernel)) ggX11_as_X4_isOne
set_option maxRecDepth 20000 in
theorem gX11_as_X4_isOne_u255X3 : GoodIn wsX11_as (va_wsU RX11 255 RX3 "DrawerCards$Kind" ⟨"DrawerCards$Kind", "isOne", "(I)Z"⟩ yX4_isOne wsX4_isOne) := goodIn_app (goodIn_of _ (by decide +kernel)) ggX11_as_X4_isOne
set_option maxRecDepth 20000 in
theorem gX11_as_X4_isOne_u255X5 : GoodIn wsX11_as (va_wsU RX11 255 RX5 "DrawerCards$Kind" ⟨"DrawerCards$Kind", "isOne", "(I)Z"⟩ yX4_isOne wsX4_isOne) := goodIn_app (goodIn_of _ (by decide +kernel)) ggX11_as_X4_isOne
set_option maxRecDepth 20000 in
theorem gX11_as_X4_isOne_u255X7 : GoodIn wsX11_as (va_wsU RX11 255 RX7 "DrawerCards$Kind" ⟨"DrawerCards$Kind", "isOne", "(I)Z"⟩ yX4_isOne wsX4_isOne) := goodIn_app (goodIn_of _ (by decide +kernel)) ggX11_as_X4_isOne
set_option maxRecDepth 20000 in
theorem gX11_as_X4_isOne_u255X10 : GoodIn wsX11_as (va_wsU RX11 255 RX10 "DrawerCards$Kind" ⟨"DrawerCards$Kind", "isOne", "(I)Z"⟩ yX4_isOne wsX4_isOne) := goodIn_app (goodIn_of _ (by decide +kernel)) ggX11_as_X4_isOne
set_option maxRecDepth 20000 in
theorem ggX11_as_X11_find : GoodIn wsX11_as wsX11_find := goodIn_r _ [35, 36, 37, 42, 43, 44, 45, 46, 47, 48, 49, 50, 51, 52] (by decide +kernel) (by decide +kernel)
set_option maxRecDepth 20000 in
theorem gX11_as_X11_find : GoodIn wsX11_as (wsV RX11 85 RX11 yX11_find wsX11_find) := goodIn_app (goodIn_of _ (by decide +kernel)) ggX11_as_X11_find
set_option maxRecDepth 20000 in
theorem ggX11_as_X11_findNothing : GoodIn wsX11_as wsX11_findNothing := goodIn_r _ [41, 36, 42, 43, 44, 45, 46, 47, 48, 49, 50, 51, 52] (by decide +kernel) (by decide +kernel)
set_option maxRecDepth 20000 in
theorem gX11_as_X11_findNothing : GoodIn wsX11_as (wsV RX11 93 RX11 yX11_findNothing wsX11_findNothing) := goodIn_app (goodIn_of _ (by decide +kernel)) ggX11_as_X11_findNothing
theorem dX11_as_0 : decode cX11_as 0 = .ok (.aload_n 0, 1) := by decide +kernel
theorem dX11_as_1 : decode cX11_as 1 = .ok (.iload_n 1, 1) := by decide +kernel
theorem dX11_as_2 : decode cX11_as 2 = .ok (.invokevirtual 248, 3) := by decide +kernel
theorem dX11_as_5 : decode cX11_as 5 = .ok (.astore_n 3, 1) := by decide +kernel
theorem dX11_as_6 : decode cX11_as 6 = .ok (.aload_n 3, 1) := by decide +kernel
theorem dX11_as_7 : decode cX11_as 7 = .ok (.ifnull 12, 3) := by decide +kernel
theorem dX11_as_10 : decode cX11_as 10 = .ok (.iload_n 2, 1) := by decide +kernel
theorem dX11_as_11 : decode cX11_as 11 = .ok (.iconst 0, 1) := by decide +kernel
