theorem dX11_as_12 : decode cX11_as 12 = .ok (.iconst 5, 1) := by decide +kernel
theorem dX11_as_13 : decode cX11_as 13 = .ok (.invokestatic 80, 3) := by decide +kernel
theorem dX11_as_16 : decode cX11_as 16 = .ok (.ifCond .ne 6, 3) := by decide +kernel
theorem dX11_as_19 : decode cX11_as 19 = .ok (.ldc 84, 2) := by decide +kernel
theorem dX11_as_21 : decode cX11_as 21 = .ok (.ireturn, 1) := by decide +kernel
theorem dX11_as_22 : decode cX11_as 22 = .ok (.aload_n 3, 1) := by decide +kernel
theorem dX11_as_23 : decode cX11_as 23 = .ok (.iload_n 2, 1) := by decide +kernel
theorem dX11_as_24 : decode cX11_as 24 = .ok (.invokevirtual 255, 3) := by decide +kernel
theorem dX11_as_27 : decode cX11_as 27 = .ok (.ifCond .ne 9, 3) := by decide +kernel
theorem dX11_as_30 : decode cX11_as 30 = .ok (.aload_n 0, 1) := by decide +kernel
theorem dX11_as_31 : decode cX11_as 31 = .ok (.iconst 3, 1) := by decide +kernel
theorem dX11_as_32 : decode cX11_as 32 = .ok (.invokevirtual 85, 3) := by decide +kernel
theorem dX11_as_35 : decode cX11_as 35 = .ok (.ireturn, 1) := by decide +kernel
theorem dX11_as_36 : decode cX11_as 36 = .ok (.aload_n 0, 1) := by decide +kernel
theorem dX11_as_37 : decode cX11_as 37 = .ok (.iload_n 1, 1) := by decide +kernel
theorem dX11_as_38 : decode cX11_as 38 = .ok (.invokevirtual 93, 3) := by decide +kernel
theorem dX11_as_41 : decode cX11_as 41 = .ok (.ireturn, 1) := by decide +kernel
set_option maxRecDepth 20000 in
theorem ggX11_ask_X11_sortOf : GoodIn wsX11_ask wsX11_sortOf := goodIn_r _ [8, 3, 9, 10, 11, 12, 13, 14, 106, 107, 108, 109, 110, 111, 112, 113, 114, 115, 116, 117, 118, 119, 120, 121, 122, 123, 124] (by decide +kernel) (by decide +kernel)
set_option maxRecDepth 20000 in
theorem gX11_ask_X11_sortOf : GoodIn wsX11_ask (wsV RX11 248 RX11 yX11_sortOf wsX11_sortOf) := goodIn_app (goodIn_of _ (by decide +kernel)) ggX11_ask_X11_sortOf
set_option maxRecDepth 20000 in
theorem ggX11_ask_X11_within : GoodIn wsX11_ask wsX11_within := goodIn_r _ [17] (by decide +kernel) (by decide +kernel)
set_option maxRecDepth 20000 in
theorem gX11_ask_X11_within : GoodIn wsX11_ask (va_wsS RX11 80 yX11_within wsX11_within) := goodIn_app (goodIn_of _ (by decide +kernel)) ggX11_ask_X11_within
set_option maxRecDepth 20000 in
theorem ggX11_ask_X0_start : GoodIn wsX11_ask wsX0_start := goodIn_r _ [22, 23, 24, 25, 26, 125, 126, 127, 128, 129] (by decide +kernel) (by decide +kernel)
set_option maxRecDepth 20000 in
theorem gX11_ask_X0_start : GoodIn wsX11_ask (wsV RX11 258 RX0 yX0_start wsX0_start) := goodIn_app (goodIn_of _ (by decide +kernel)) ggX11_ask_X0_start
set_option maxRecDepth 20000 in
theorem ggX11_ask_X1_size : GoodIn wsX11_ask wsX1_size := goodIn_r _ [33, 34, 35, 36, 21, 37, 23, 38, 39, 40, 41, 42, 43, 44, 45, 46, 28, 47, 48, 49, 50, 51, 125, 126, 127, 128, 129] (by decide +kernel) (by decide +kernel)
set_option maxRecDepth 20000 in
theorem gX11_ask_X1_size_u261X1 : GoodIn wsX11_ask (va_wsO RX11 261 RX1 "DrawerCards$Kind" ⟨"DrawerCards$Kind", "size", "(LDrawerCards$Asking;)I"⟩ yX1_size wsX1_size) := goodIn_app (goodIn_of _ (by decide +kernel)) ggX11_ask_X1_size
set_option maxRecDepth 20000 in
theorem ggX11_ask_X3_size : GoodIn wsX11_ask wsX3_size := goodIn_r _ [55, 56, 35, 36, 21, 37, 23, 38, 57, 28, 58, 48, 49, 50, 51, 59, 60, 61, 54, 62, 63, 64, 65, 66, 67, 68, 69, 70, 71, 72, 73, 74, 75, 76, 77, 78, 79, 80, 81, 82, 83, 125, 126, 127, 128, 129] (by decide +kernel) (by decide +kernel)
set_option maxRecDepth 20000 in
theorem gX11_ask_X3_size_u261X3 : GoodIn wsX11_ask (va_wsO RX11 261 RX3 "DrawerCards$Kind" ⟨"DrawerCards$Kind", "size", "(LDrawerCards$Asking;)I"⟩ yX3_size wsX3_size) := goodIn_app (goodIn_of _ (by decide +kernel)) ggX11_ask_X3_size
set_option maxRecDepth 20000 in
theorem ggX11_ask_X5_size : GoodIn wsX11_ask wsX5_size := goodIn_r _ [86, 74, 35, 36, 21, 37, 23, 38, 87, 88, 76, 53, 54, 55, 56, 57, 28, 58, 48, 49, 50, 51, 59, 60, 61, 62, 63, 64, 65, 66, 67, 68, 69, 70, 71, 72, 73, 75, 77, 78, 79, 80, 81, 82, 83, 125, 126, 127, 128, 129] (by decide +kernel) (by decide +kernel)
set_option maxRecDepth 20000 in
theorem gX11_ask_X5_size_u261X5 : GoodIn wsX11_ask (va_wsO RX11 261 RX5 "DrawerCards$Kind" ⟨"DrawerCards$Kind", "size", "(LDrawerCards$Asking;)I"⟩ yX5_size wsX5_size) := goodIn_app (goodIn_of _ (by decide +kernel)) ggX11_ask_X5_size
set_option maxRecDepth 20000 in
theorem ggX11_ask_X7_size : GoodIn wsX11_ask wsX7_size := goodIn_r _ [44, 45, 35, 36, 21, 37, 23, 38, 46, 28, 47, 48, 49, 50, 51, 125, 126, 127, 128, 129] (by decide +kernel) (by decide +kernel)
set_option maxRecDepth 20000 in
theorem gX11_ask_X7_size_u261X7 : GoodIn wsX11_ask (va_wsO RX11 261 RX7 "DrawerCards$Kind" ⟨"DrawerCards$Kind", "size", "(LDrawerCards$Asking;)I"⟩ yX7_size wsX7_size) := goodIn_app (goodIn_of _ (by decide +kernel)) ggX11_ask_X7_size
set_option maxRecDepth 20000 in
theorem gX11_ask_X3_size_u261X10 : GoodIn wsX11_ask (va_wsO RX11 261 RX10 "DrawerCards$Kind" ⟨"DrawerCards$Kind", "size", "(LDrawerCards$Asking;)I"⟩ yX3_size wsX3_size) := goodIn_app (goodIn_of _ (by decide +kernel)) ggX11_ask_X3_size
set_option maxRecDepth 20000 in
theorem ggX11_ask_X7_mark : GoodIn wsX11_ask wsX7_mark := goodIn_r _ [95, 45, 35, 36, 21, 37, 23, 38, 96, 64, 47, 65, 49, 66, 51, 97, 40, 98, 99, 31, 32, 33, 34, 39, 41, 42, 43, 44, 46, 28, 48, 50, 100, 101, 125, 126, 127, 128, 129] (by decide +kernel) (by decide +kernel)
set_option maxRecDepth 20000 in
theorem gX11_ask_X7_mark_u265X1 : GoodIn wsX11_ask (va_wsO RX11 265 RX1 "DrawerCards$Kind" ⟨"DrawerCards$Kind", "mark", "(LDrawerCards$Asking;)I"⟩ yX7_mark wsX7_mark) := goodIn_app (goodIn_of _ (by decide +kernel)) ggX11_ask_X7_mark
set_option maxRecDepth 20000 in
theorem ggX11_ask_X3_mark : GoodIn wsX11_ask wsX3_mark := goodIn_r _ [62, 56, 35, 36, 21, 37, 23, 38, 63, 64, 58, 65, 49, 66, 51, 125, 126, 127, 128, 129] (by decide +kernel) (by decide +kernel)
set_option maxRecDepth 20000 in
theorem gX11_ask_X3_mark_u265X3 : GoodIn wsX11_ask (va_wsO RX11 265 RX3 "DrawerCards$Kind" ⟨"DrawerCards$Kind", "mark", "(LDrawerCards$Asking;)I"⟩ yX3_mark wsX3_mark) := goodIn_app (goodIn_of _ (by decide +kernel)) ggX11_ask_X3_mark
set_option maxRecDepth 20000 in
theorem ggX11_ask_X5_mark : GoodIn wsX11_ask wsX5_mark := goodIn_r _ [73, 74, 35, 36, 21, 37, 23, 38, 75, 68, 76, 60, 54, 62, 56, 63, 64, 58, 65, 49, 66, 51, 125, 126, 127, 128, 129] (by decide +kernel) (by decide +kernel)
set_option maxRecDepth 20000 in
theorem gX11_ask_X5_mark_u265X5 : GoodIn wsX11_ask (va_wsO RX11 265 RX5 "DrawerCards$Kind" ⟨"DrawerCards$Kind", "mark", "(LDrawerCards$Asking;)I"⟩ yX5_mark wsX5_mark) := goodIn_app (goodIn_of _ (by decide +kernel)) ggX11_ask_X5_mark
set_option maxRecDepth 20000 in
theorem gX11_ask_X7_mark_u265X7 : GoodIn wsX11_ask (va_wsO RX11 265 RX7 "DrawerCards$Kind" ⟨"DrawerCards$Kind", "mark", "(LDrawerCards$Asking;)I"⟩ yX7_mark wsX7_mark) := goodIn_app (goodIn_of _ (by decide +kernel)) ggX11_ask_X7_mark
set_option maxRecDepth 20000 in
theorem ggX11_ask_X10_mark : GoodIn wsX11_ask wsX10_mark := goodIn_r _ [80, 81, 35, 36, 21, 37, 23, 38, 82, 68, 83, 60, 54, 62, 56, 63, 64, 58, 65, 49, 66, 51, 125, 126, 127, 128, 129] (by decide +kernel) (by decide +kernel)
set_option maxRecDepth 20000 in
theorem gX11_ask_X10_mark_u265X10 : GoodIn wsX11_ask (va_wsO RX11 265 RX10 "DrawerCards$Kind" ⟨"DrawerCards$Kind", "mark", "(LDrawerCards$Asking;)I"⟩ yX10_mark wsX10_mark) := goodIn_app (goodIn_of _ (by decide +kernel)) ggX11_ask_X10_mark
theorem dX11_ask_0 : decode cX11_ask 0 = .ok (.aload_n 0, 1) := by decide +kernel
theorem dX11_ask_1 : decode cX11_ask 1 = .ok (.iload_n 1, 1) := by decide +kernel
theorem dX11_ask_2 : decode cX11_ask 2 = .ok (.invokevirtual 248, 3) := by decide +kernel
theorem dX11_ask_5 : decode cX11_ask 5 = .ok (.astore_n 3, 1) := by decide +kernel
theorem dX11_ask_6 : decode cX11_ask 6 = .ok (.aload_n 3, 1) := by decide +kernel
theorem dX11_ask_7 : decode cX11_ask 7 = .ok (.ifnull 12, 3) := by decide +kernel
theorem dX11_ask_10 : decode cX11_ask 10 = .ok (.iload_n 2, 1) := by decide +kernel
theorem dX11_ask_11 : decode cX11_ask 11 = .ok (.iconst 0, 1) := by decide +kernel
theorem dX11_ask_12 : decode cX11_ask 12 = .ok (.iconst 1, 1) := by decide +kernel
theorem dX11_ask_13 : decode cX11_ask 13 = .ok (.invokestatic 80, 3) := by decide +kernel
theorem dX11_ask_16 : decode cX11_ask 16 = .ok (.ifCond .ne 6, 3) := by decide +kernel
theorem dX11_ask_19 : decode cX11_ask 19 = .ok (.ldc 84, 2) := by decide +kernel
theorem dX11_ask_21 : decode cX11_ask 21 = .ok (.ireturn, 1) := by decide +kernel
theorem dX11_ask_22 : decode cX11_ask 22 = .ok (.aload_n 0, 1) := by decide +kernel
theorem dX11_ask_23 : decode cX11_ask 23 = .ok (.getfield 38, 3) := by decide +kernel
theorem dX11_ask_26 : decode cX11_ask 26 = .ok (.iload_n 1, 1) := by decide +kernel
theorem dX11_ask_27 : decode cX11_ask 27 = .ok (.aload_n 0, 1) := by decide +kernel
theorem dX11_ask_28 : decode cX11_ask 28 = .ok (.getfield 24, 3) := by decide +kernel
theorem dX11_ask_31 : decode cX11_ask 31 = .ok (.getfield 199, 3) := by decide +kernel
theorem dX11_ask_34 : decode cX11_ask 34 = .ok (.iload_n 1, 1) := by decide +kernel
theorem dX11_ask_35 : decode cX11_ask 35 = .ok (.iaload, 1) := by decide +kernel
theorem dX11_ask_36 : decode cX11_ask 36 = .ok (.aload_n 0, 1) := by decide +kernel
theorem dX11_ask_37 : decode cX11_ask 37 = .ok (.getfield 24, 3) := by decide +kernel
theorem dX11_ask_40 : decode cX11_ask 40 = .ok (.getfield 202, 3) := by decide +kernel
theorem dX11_ask_43 : decode cX11_ask 43 = .ok (.iload_n 1, 1) := by decide +kernel
theorem dX11_ask_44 : decode cX11_ask 44 = .ok (.iaload, 1) := by decide +kernel
theorem dX11_ask_45 : decode cX11_ask 45 = .ok (.invokevirtual 258, 3) := by decide +kernel
theorem dX11_ask_48 : decode cX11_ask 48 = .ok (.iload_n 2, 1) := by decide +kernel
theorem dX11_ask_49 : decode cX11_ask 49 = .ok (.ifCond .ne 14, 3) := by decide +kernel
theorem dX11_ask_52 : decode cX11_ask 52 = .ok (.aload_n 3, 1) := by decide +kernel
theorem dX11_ask_53 : decode cX11_ask 53 = .ok (.aload_n 0, 1) := by decide +kernel
theorem dX11_ask_54 : decode cX11_ask 54 = .ok (.getfield 38, 3) := by decide +kernel
theorem dX11_ask_57 : decode cX11_ask 57 = .ok (.invokevirtual 261, 3) := by decide +kernel
theorem dX11_ask_60 : decode cX11_ask 60 = .ok (.goto 11, 3) := by decide +kernel
theorem dX11_ask_63 : decode cX11_ask 63 = .ok (.aload_n 3, 1) := by decide +kernel
theorem dX11_ask_64 : decode cX11_ask 64 = .ok (.aload_n 0, 1) := by decide +kernel
theorem dX11_ask_65 : decode cX11_ask 65 = .ok (.getfield 38, 3) := by decide +kernel
theorem dX11_ask_68 : decode cX11_ask 68 = .ok (.invokevirtual 265, 3) := by decide +kernel
theorem dX11_ask_71 : decode cX11_ask 71 = .ok (.ireturn, 1) := by decide +kernel
set_option maxRecDepth 20000 in
theorem ggX11_trace_X0_begun : GoodIn wsX11_trace wsX0_begun := goodIn_r _ [6, 7, 8, 9, 10, 11, 12, 24, 25, 26, 27, 28] (by decide +kernel) (by decide +kernel)
set_option maxRecDepth 20000 in
theorem gX11_trace_X0_begun : GoodIn wsX11_trace (wsV RX11 268 RX0 yX0_begun wsX0_begun) := goodIn_app (goodIn_of _ (by decide +kernel)) ggX11_trace_X0_begun
theorem dX11_trace_0 : decode cX11_trace 0 = .ok (.aload_n 0, 1) := by decide +kernel
theorem dX11_trace_1 : decode cX11_trace 1 = .ok (.getfield 38, 3) := by decide +kernel
theorem dX11_trace_4 : decode cX11_trace 4 = .ok (.iload_n 1, 1) := by decide +kernel
theorem dX11_trace_5 : decode cX11_trace 5 = .ok (.invokevirtual 268, 3) := by decide +kernel
theorem dX11_trace_8 : decode cX11_trace 8 = .ok (.ireturn, 1) := by decide +kernel
set_option maxRecDepth 20000 in
theorem ggX11_count_X11_rowsThere : GoodIn wsX11_count wsX11_rowsThere := goodIn_r _ [9, 10, 11, 12, 13, 14, 15, 16, 24, 25, 26, 27, 28, 29, 30, 31, 32, 33, 34, 53, 54, 55] (by decide +kernel) (by decide +kernel)
set_option maxRecDepth 20000 in
theorem gX11_count_X11_rowsThere : GoodIn wsX11_count (wsV RX11 271 RX11 yX11_rowsThere wsX11_rowsThere) := goodIn_app (goodIn_of _ (by decide +kernel)) ggX11_count_X11_rowsThere
set_option maxRecDepth 20000 in
theorem ggX11_count_X9_figures : GoodIn wsX11_count wsX9_figures := goodIn_r _ [21, 22, 23, 35, 36, 37, 38, 39, 40, 41, 42] (by decide +kernel) (by decide +kernel)
set_option maxRecDepth 20000 in
theorem gX11_count_X9_figures : GoodIn wsX11_count (wsV RX11 281 RX9 yX9_figures wsX9_figures) := goodIn_app (goodIn_of _ (by decide +kernel)) ggX11_count_X9_figures
theorem dX11_count_0 : decode cX11_count 0 = .ok (.iload_n 1, 1) := by decide +kernel
theorem dX11_count_1 : decode cX11_count 1 = .ok (.tableswitch 105 0 7 #[47, 52, 60, 68, 76, 84, 89, 97], 47) := by decide +kernel
theorem dX11_count_48 : decode cX11_count 48 = .ok (.aload_n 0, 1) := by decide +kernel
theorem dX11_count_49 : decode cX11_count 49 = .ok (.invokevirtual 271, 3) := by decide +kernel
theorem dX11_count_52 : decode cX11_count 52 = .ok (.ireturn, 1) := by decide +kernel
theorem dX11_count_53 : decode cX11_count 53 = .ok (.aload_n 0, 1) := by decide +kernel
theorem dX11_count_54 : decode cX11_count 54 = .ok (.getfield 24, 3) := by decide +kernel
theorem dX11_count_57 : decode cX11_count 57 = .ok (.getfield 274, 3) := by decide +kernel
theorem dX11_count_60 : decode cX11_count 60 = .ok (.ireturn, 1) := by decide +kernel
theorem dX11_count_61 : decode cX11_count 61 = .ok (.aload_n 0, 1) := by decide +kernel
theorem dX11_count_62 : decode cX11_count 62 = .ok (.getfield 24, 3) := by decide +kernel
theorem dX11_count_65 : decode cX11_count 65 = .ok (.getfield 154, 3) := by decide +kernel
theorem dX11_count_68 : decode cX11_count 68 = .ok (.ireturn, 1) := by decide +kernel
theorem dX11_count_69 : decode cX11_count 69 = .ok (.aload_n 0, 1) := by decide +kernel
theorem dX11_count_70 : decode cX11_count 70 = .ok (.getfield 24, 3) := by decide +kernel
theorem dX11_count_73 : decode cX11_count 73 = .ok (.getfield 161, 3) := by decide +kernel
theorem dX11_count_76 : decode cX11_count 76 = .ok (.ireturn, 1) := by decide +kernel
theorem dX11_count_77 : decode cX11_count 77 = .ok (.aload_n 0, 1) := by decide +kernel
theorem dX11_count_78 : decode cX11_count 78 = .ok (.getfield 24, 3) := by decide +kernel
theorem dX11_count_81 : decode cX11_count 81 = .ok (.getfield 277, 3) := by decide +kernel
theorem dX11_count_84 : decode cX11_count 84 = .ok (.ireturn, 1) := by decide +kernel
theorem dX11_count_85 : decode cX11_count 85 = .ok (.aload_n 0, 1) := by decide +kernel
theorem dX11_count_86 : decode cX11_count 86 = .ok (.getfield 151, 3) := by decide +kernel
theorem dX11_count_89 : decode cX11_count 89 = .ok (.ireturn, 1) := by decide +kernel
theorem dX11_count_90 : decode cX11_count 90 = .ok (.aload_n 0, 1) := by decide +kernel
theorem dX11_count_91 : decode cX11_count 91 = .ok (.getfield 63, 3) := by decide +kernel
theorem dX11_count_94 : decode cX11_count 94 = .ok (.getfield 280, 3) := by decide +kernel
theorem dX11_count_97 : decode cX11_count 97 = .ok (.ireturn, 1) := by decide +kernel
theorem dX11_count_98 : decode cX11_count 98 = .ok (.aload_n 0, 1) := by decide +kernel
theorem dX11_count_99 : decode cX11_count 99 = .ok (.getfield 24, 3) := by decide +kernel
theorem dX11_count_102 : decode cX11_count 102 = .ok (.invokevirtual 281, 3) := by decide +kernel
theorem dX11_count_105 : decode cX11_count 105 = .ok (.ireturn, 1) := by decide +kernel
theorem dX11_count_106 : decode cX11_count 106 = .ok (.ldc 84, 2) := by decide +kernel
theorem dX11_count_108 : decode cX11_count 108 = .ok (.ireturn, 1) := by decide +kernel
theorem dX11_status_0 : decode cX11_status 0 = .ok (.aload_n 0, 1) := by decide +kernel
theorem dX11_status_1 : decode cX11_status 1 = .ok (.getfield 284, 3) := by decide +kernel
theorem dX11_status_4 : decode cX11_status 4 = .ok (.ireturn, 1) := by decide +kernel
theorem dX11_within_0 : decode cX11_within 0 = .ok (.iload_n 0, 1) := by decide +kernel
theorem dX11_within_1 : decode cX11_within 1 = .ok (.iload_n 1, 1) := by decide +kernel
theorem dX11_within_2 : decode cX11_within 2 = .ok (.if_icmp .lt 12, 3) := by decide +kernel
theorem dX11_within_5 : decode cX11_within 5 = .ok (.iload_n 0, 1) := by decide +kernel
theorem dX11_within_6 : decode cX11_within 6 = .ok (.iload_n 2, 1) := by decide +kernel
theorem dX11_within_7 : decode cX11_within 7 = .ok (.if_icmp .gt 7, 3) := by decide +kernel
theorem dX11_within_10 : decode cX11_within 10 = .ok (.iconst 1, 1) := by decide +kernel
theorem dX11_within_11 : decode cX11_within 11 = .ok (.goto 4, 3) := by decide +kernel
theorem dX11_within_14 : decode cX11_within 14 = .ok (.iconst 0, 1) := by decide +kernel
theorem dX11_within_15 : decode cX11_within 15 = .ok (.ireturn, 1) := by decide +kernel
set_option maxRecDepth 20000 in
theorem ggX11_isRow_X11_within : GoodIn wsX11_isRow wsX11_within := goodIn_r _ [4] (by decide +kernel) (by decide +kernel)
set_option maxRecDepth 20000 in
theorem gX11_isRow_X11_within : GoodIn wsX11_isRow (va_wsS RX11 80 yX11_within wsX11_within) := goodIn_app (goodIn_of _ (by decide +kernel)) ggX11_isRow_X11_within
theorem dX11_isRow_0 : decode cX11_isRow 0 = .ok (.iload_n 0, 1) := by decide +kernel
theorem dX11_isRow_1 : decode cX11_isRow 1 = .ok (.iconst 0, 1) := by decide +kernel
theorem dX11_isRow_2 : decode cX11_isRow 2 = .ok (.bipush 7, 2) := by decide +kernel
theorem dX11_isRow_4 : decode cX11_isRow 4 = .ok (.invokestatic 80, 3) := by decide +kernel
theorem dX11_isRow_7 : decode cX11_isRow 7 = .ok (.ireturn, 1) := by decide +kernel
theorem dX11_find_0 : decode cX11_find 0 = .ok (.aload_n 0, 1) := by decide +kernel
theorem dX11_find_1 : decode cX11_find 1 = .ok (.iload_n 1, 1) := by decide +kernel
theorem dX11_find_2 : decode cX11_find 2 = .ok (.putfield 284, 3) := by decide +kernel
theorem dX11_find_5 : decode cX11_find 5 = .ok (.ldc_w 287, 3) := by decide +kernel
theorem dX11_find_8 : decode cX11_find 8 = .ok (.iload_n 1, 1) := by decide +kernel
theorem dX11_find_9 : decode cX11_find 9 = .ok (.isub, 1) := by decide +kernel
theorem dX11_find_10 : decode cX11_find 10 = .ok (.ireturn, 1) := by decide +kernel
theorem dX11_findNothing_0 : decode cX11_findNothing 0 = .ok (.aload_n 0, 1) := by decide +kernel
theorem dX11_findNothing_1 : decode cX11_findNothing 1 = .ok (.iconst 0, 1) := by decide +kernel
theorem dX11_findNothing_2 : decode cX11_findNothing 2 = .ok (.putfield 284, 3) := by decide +kernel
theorem dX11_findNothing_5 : decode cX11_findNothing 5 = .ok (.iload_n 1, 1) := by decide +kernel
theorem dX11_findNothing_6 : decode cX11_findNothing 6 = .ok (.ireturn, 1) := by decide +kernel
set_option maxRecDepth 20000 in
theorem ggX11_rowsThere_X8_isMissing : GoodIn wsX11_rowsThere wsX8_isMissing := goodIn_r _ [6, 7, 19, 20, 21] (by decide +kernel) (by decide +kernel)
set_option maxRecDepth 20000 in
theorem gX11_rowsThere_X8_isMissing : GoodIn wsX11_rowsThere (wsV RX11 96 RX8 yX8_isMissing wsX8_isMissing) := goodIn_app (goodIn_of _ (by decide +kernel)) ggX11_rowsThere_X8_isMissing
theorem dX11_rowsThere_0 : decode cX11_rowsThere 0 = .ok (.iconst 0, 1) := by decide +kernel
theorem dX11_rowsThere_1 : decode cX11_rowsThere 1 = .ok (.istore_n 1, 1) := by decide +kernel
theorem dX11_rowsThere_2 : decode cX11_rowsThere 2 = .ok (.iconst 0, 1) := by decide +kernel
theorem dX11_rowsThere_3 : decode cX11_rowsThere 3 = .ok (.istore_n 2, 1) := by decide +kernel
theorem dX11_rowsThere_4 : decode cX11_rowsThere 4 = .ok (.iload_n 2, 1) := by decide +kernel
theorem dX11_rowsThere_5 : decode cX11_rowsThere 5 = .ok (.bipush 8, 2) := by decide +kernel
theorem dX11_rowsThere_7 : decode cX11_rowsThere 7 = .ok (.if_icmp .ge 24, 3) := by decide +kernel
theorem dX11_rowsThere_10 : decode cX11_rowsThere 10 = .ok (.aload_n 0, 1) := by decide +kernel
theorem dX11_rowsThere_11 : decode cX11_rowsThere 11 = .ok (.getfield 11, 3) := by decide +kernel
theorem dX11_rowsThere_14 : decode cX11_rowsThere 14 = .ok (.iload_n 2, 1) := by decide +kernel
theorem dX11_rowsThere_15 : decode cX11_rowsThere 15 = .ok (.aaload, 1) := by decide +kernel
theorem dX11_rowsThere_16 : decode cX11_rowsThere 16 = .ok (.invokevirtual 96, 3) := by decide +kernel
theorem dX11_rowsThere_19 : decode cX11_rowsThere 19 = .ok (.ifCond .ne 6, 3) := by decide +kernel
theorem dX11_rowsThere_22 : decode cX11_rowsThere 22 = .ok (.iinc 1 1, 3) := by decide +kernel
theorem dX11_rowsThere_25 : decode cX11_rowsThere 25 = .ok (.iinc 2 1, 3) := by decide +kernel
theorem dX11_rowsThere_28 : decode cX11_rowsThere 28 = .ok (.goto (-24), 3) := by decide +kernel
theorem dX11_rowsThere_31 : decode cX11_rowsThere 31 = .ok (.iload_n 1, 1) := by decide +kernel
theorem dX11_rowsThere_32 : decode cX11_rowsThere 32 = .ok (.ireturn, 1) := by decide +kernel
set_option maxRecDepth 20000 in
theorem ggX11_sortOf_X9_hasCard : GoodIn wsX11_sortOf wsX9_hasCard := goodIn_r _ [6, 7, 19, 20, 21, 22, 23, 24, 25, 26] (by decide +kernel) (by decide +kernel)
set_option maxRecDepth 20000 in
theorem gX11_sortOf_X9_hasCard : GoodIn wsX11_sortOf (wsV RX11 175 RX9 yX9_hasCard wsX9_hasCard) := goodIn_app (goodIn_of _ (by decide +kernel)) ggX11_sortOf_X9_hasCard
theorem dX11_sortOf_0 : decode cX11_sortOf 0 = .ok (.aload_n 0, 1) := by decide +kernel
theorem dX11_sortOf_1 : decode cX11_sortOf 1 = .ok (.getfield 24, 3) := by decide +kernel
theorem dX11_sortOf_4 : decode cX11_sortOf 4 = .ok (.iload_n 1, 1) := by decide +kernel
theorem dX11_sortOf_5 : decode cX11_sortOf 5 = .ok (.invokevirtual 175, 3) := by decide +kernel
theorem dX11_sortOf_8 : decode cX11_sortOf 8 = .ok (.ifCond .eq 15, 3) := by decide +kernel
theorem dX11_sortOf_11 : decode cX11_sortOf 11 = .ok (.aload_n 0, 1) := by decide +kernel
theorem dX11_sortOf_12 : decode cX11_sortOf 12 = .ok (.getfield 24, 3) := by decide +kernel
theorem dX11_sortOf_15 : decode cX11_sortOf 15 = .ok (.getfield 288, 3) := by decide +kernel
theorem dX11_sortOf_18 : decode cX11_sortOf 18 = .ok (.iload_n 1, 1) := by decide +kernel
theorem dX11_sortOf_19 : decode cX11_sortOf 19 = .ok (.aaload, 1) := by decide +kernel
theorem dX11_sortOf_20 : decode cX11_sortOf 20 = .ok (.goto 4, 3) := by decide +kernel
theorem dX11_sortOf_23 : decode cX11_sortOf 23 = .ok (.aconst_null, 1) := by decide +kernel
theorem dX11_sortOf_24 : decode cX11_sortOf 24 = .ok (.areturn, 1) := by decide +kernel
set_option maxRecDepth 20000 in
theorem ggX11_keepForUndo_X11_forgetOldest : GoodIn wsX11_keepForUndo wsX11_forgetOldest := goodIn_r _ [8, 2, 1, 26, 27, 28, 29, 30, 31, 32, 33, 34, 35, 36] (by decide +kernel) (by decide +kernel)
set_option maxRecDepth 20000 in
theorem gX11_keepForUndo_X11_forgetOldest : GoodIn wsX11_keepForUndo (wsV RX11 291 RX11 yX11_forgetOldest wsX11_forgetOldest) := goodIn_app (goodIn_of _ (by decide +kernel)) ggX11_keepForUndo_X11_forgetOldest
set_option maxRecDepth 20000 in
theorem ggX11_keepForUndo_X9_become : GoodIn wsX11_keepForUndo wsX9_become := goodIn_r _ [13, 14, 15, 16, 17, 18, 19, 20, 21, 22, 23, 24, 12, 25, 37, 38, 39, 40, 41, 42, 43, 44] (by decide +kernel) (by decide +kernel)
set_option maxRecDepth 20000 in
theorem gX11_keepForUndo_X9_become : GoodIn wsX11_keepForUndo (wsV RX11 147 RX9 yX9_become wsX9_become) := goodIn_app (goodIn_of _ (by decide +kernel)) ggX11_keepForUndo_X9_become
theorem dX11_keepForUndo_0 : decode cX11_keepForUndo 0 = .ok (.aload_n 0, 1) := by decide +kernel
theorem dX11_keepForUndo_1 : decode cX11_keepForUndo 1 = .ok (.getfield 151, 3) := by decide +kernel
theorem dX11_keepForUndo_4 : decode cX11_keepForUndo 4 = .ok (.bipush 24, 2) := by decide +kernel
theorem dX11_keepForUndo_6 : decode cX11_keepForUndo 6 = .ok (.if_icmp .ne 7, 3) := by decide +kernel
theorem dX11_keepForUndo_9 : decode cX11_keepForUndo 9 = .ok (.aload_n 0, 1) := by decide +kernel
theorem dX11_keepForUndo_10 : decode cX11_keepForUndo 10 = .ok (.invokevirtual 291, 3) := by decide +kernel
theorem dX11_keepForUndo_13 : decode cX11_keepForUndo 13 = .ok (.aload_n 0, 1) := by decide +kernel
theorem dX11_keepForUndo_14 : decode cX11_keepForUndo 14 = .ok (.getfield 28, 3) := by decide +kernel
theorem dX11_keepForUndo_17 : decode cX11_keepForUndo 17 = .ok (.aload_n 0, 1) := by decide +kernel
theorem dX11_keepForUndo_18 : decode cX11_keepForUndo 18 = .ok (.getfield 151, 3) := by decide +kernel
theorem dX11_keepForUndo_21 : decode cX11_keepForUndo 21 = .ok (.aaload, 1) := by decide +kernel
theorem dX11_keepForUndo_22 : decode cX11_keepForUndo 22 = .ok (.aload_n 0, 1) := by decide +kernel
theorem dX11_keepForUndo_23 : decode cX11_keepForUndo 23 = .ok (.getfield 24, 3) := by decide +kernel
theorem dX11_keepForUndo_26 : decode cX11_keepForUndo 26 = .ok (.invokevirtual 147, 3) := by decide +kernel
theorem dX11_keepForUndo_29 : decode cX11_keepForUndo 29 = .ok (.aload_n 0, 1) := by decide +kernel
theorem dX11_keepForUndo_30 : decode cX11_keepForUndo 30 = .ok (.dup, 1) := by decide +kernel
theorem dX11_keepForUndo_31 : decode cX11_keepForUndo 31 = .ok (.getfield 151, 3) := by decide +kernel
theorem dX11_keepForUndo_34 : decode cX11_keepForUndo 34 = .ok (.iconst 1, 1) := by decide +kernel
theorem dX11_keepForUndo_35 : decode cX11_keepForUndo 35 = .ok (.iadd, 1) := by decide +kernel
theorem dX11_keepForUndo_36 : decode cX11_keepForUndo 36 = .ok (.putfield 151, 3) := by decide +kernel
theorem dX11_keepForUndo_39 : decode cX11_keepForUndo 39 = .ok (.return_, 1) := by decide +kernel
theorem dX11_forgetOldest_0 : decode cX11_forgetOldest 0 = .ok (.aload_n 0, 1) := by decide +kernel
theorem dX11_forgetOldest_1 : decode cX11_forgetOldest 1 = .ok (.getfield 28, 3) := by decide +kernel
theorem dX11_forgetOldest_4 : decode cX11_forgetOldest 4 = .ok (.iconst 0, 1) := by decide +kernel
theorem dX11_forgetOldest_5 : decode cX11_forgetOldest 5 = .ok (.aaload, 1) := by decide +kernel
theorem dX11_forgetOldest_6 : decode cX11_forgetOldest 6 = .ok (.astore_n 1, 1) := by decide +kernel
theorem dX11_forgetOldest_7 : decode cX11_forgetOldest 7 = .ok (.iconst 1, 1) := by decide +kernel
theorem dX11_forgetOldest_8 : decode cX11_forgetOldest 8 = .ok (.istore_n 2, 1) := by decide +kernel
theorem dX11_forgetOldest_9 : decode cX11_forgetOldest 9 = .ok (.iload_n 2, 1) := by decide +kernel
theorem dX11_forgetOldest_10 : decode cX11_forgetOldest 10 = .ok (.bipush 24, 2) := by decide +kernel
theorem dX11_forgetOldest_12 : decode cX11_forgetOldest 12 = .ok (.if_icmp .ge 23, 3) := by decide +kernel
theorem dX11_forgetOldest_15 : decode cX11_forgetOldest 15 = .ok (.aload_n 0, 1) := by decide +kernel
theorem dX11_forgetOldest_16 : decode cX11_forgetOldest 16 = .ok (.getfield 28, 3) := by decide +kernel
theorem dX11_forgetOldest_19 : decode cX11_forgetOldest 19 = .ok (.iload_n 2, 1) := by decide +kernel
theorem dX11_forgetOldest_20 : decode cX11_forgetOldest 20 = .ok (.iconst 1, 1) := by decide +kernel
theorem dX11_forgetOldest_21 : decode cX11_forgetOldest 21 = .ok (.isub, 1) := by decide +kernel
theorem dX11_forgetOldest_22 : decode cX11_forgetOldest 22 = .ok (.aload_n 0, 1) := by decide +kernel
theorem dX11_forgetOldest_23 : decode cX11_forgetOldest 23 = .ok (.getfield 28, 3) := by decide +kernel
theorem dX11_forgetOldest_26 : decode cX11_forgetOldest 26 = .ok (.iload_n 2, 1) := by decide +kernel
theorem dX11_forgetOldest_27 : decode cX11_forgetOldest 27 = .ok (.aaload, 1) := by decide +kernel
theorem dX11_forgetOldest_28 : decode cX11_forgetOldest 28 = .ok (.aastore, 1) := by decide +kernel
theorem dX11_forgetOldest_29 : decode cX11_forgetOldest 29 = .ok (.iinc 2 1, 3) := by decide +kernel
theorem dX11_forgetOldest_32 : decode cX11_forgetOldest 32 = .ok (.goto (-23), 3) := by decide +kernel
theorem dX11_forgetOldest_35 : decode cX11_forgetOldest 35 = .ok (.aload_n 0, 1) := by decide +kernel
theorem dX11_forgetOldest_36 : decode cX11_forgetOldest 36 = .ok (.getfield 28, 3) := by decide +kernel
theorem dX11_forgetOldest_39 : decode cX11_forgetOldest 39 = .ok (.bipush 23, 2) := by decide +kernel
theorem dX11_forgetOldest_41 : decode cX11_forgetOldest 41 = .ok (.aload_n 1, 1) := by decide +kernel
theorem dX11_forgetOldest_42 : decode cX11_forgetOldest 42 = .ok (.aastore, 1) := by decide +kernel
theorem dX11_forgetOldest_43 : decode cX11_forgetOldest 43 = .ok (.aload_n 0, 1) := by decide +kernel
theorem dX11_forgetOldest_44 : decode cX11_forgetOldest 44 = .ok (.dup, 1) := by decide +kernel
theorem dX11_forgetOldest_45 : decode cX11_forgetOldest 45 = .ok (.getfield 151, 3) := by decide +kernel
theorem dX11_forgetOldest_48 : decode cX11_forgetOldest 48 = .ok (.iconst 1, 1) := by decide +kernel
theorem dX11_forgetOldest_49 : decode cX11_forgetOldest 49 = .ok (.isub, 1) := by decide +kernel
theorem dX11_forgetOldest_50 : decode cX11_forgetOldest 50 = .ok (.putfield 151, 3) := by decide +kernel
theorem dX11_forgetOldest_53 : decode cX11_forgetOldest 53 = .ok (.return_, 1) := by decide +kernel
theorem dX12_init_0 : decode cX12_init 0 = .ok (.aload_n 0, 1) := by decide +kernel
theorem dX12_init_1 : decode cX12_init 1 = .ok (.invokespecial 1, 3) := by decide +kernel
theorem dX12_init_4 : decode cX12_init 4 = .ok (.aload_n 0, 1) := by decide +kernel
theorem dX12_init_5 : decode cX12_init 5 = .ok (.bipush 8, 2) := by decide +kernel
theorem dX12_init_7 : decode cX12_init 7 = .ok (.newarray .int, 2) := by decide +kernel
theorem dX12_init_9 : decode cX12_init 9 = .ok (.putfield 7, 3) := by decide +kernel
theorem dX12_init_12 : decode cX12_init 12 = .ok (.aload_n 0, 1) := by decide +kernel
theorem dX12_init_13 : decode cX12_init 13 = .ok (.bipush 8, 2) := by decide +kernel
theorem dX12_init_15 : decode cX12_init 15 = .ok (.newarray .int, 2) := by decide +kernel
theorem dX12_init_17 : decode cX12_init 17 = .ok (.putfield 13, 3) := by decide +kernel
theorem dX12_init_20 : decode cX12_init 20 = .ok (.aload_n 0, 1) := by decide +kernel
theorem dX12_init_21 : decode cX12_init 21 = .ok (.sipush 320, 3) := by decide +kernel
theorem dX12_init_24 : decode cX12_init 24 = .ok (.newarray .int, 2) := by decide +kernel
theorem dX12_init_26 : decode cX12_init 26 = .ok (.putfield 16, 3) := by decide +kernel
theorem dX12_init_29 : decode cX12_init 29 = .ok (.aload_n 0, 1) := by decide +kernel
theorem dX12_init_30 : decode cX12_init 30 = .ok (.bipush 60, 2) := by decide +kernel
theorem dX12_init_32 : decode cX12_init 32 = .ok (.newarray .int, 2) := by decide +kernel
theorem dX12_init_34 : decode cX12_init 34 = .ok (.putfield 19, 3) := by decide +kernel
theorem dX12_init_37 : decode cX12_init 37 = .ok (.aload_n 0, 1) := by decide +kernel
theorem dX12_init_38 : decode cX12_init 38 = .ok (.bipush 37, 2) := by decide +kernel
theorem dX12_init_40 : decode cX12_init 40 = .ok (.newarray .int, 2) := by decide +kernel
theorem dX12_init_42 : decode cX12_init 42 = .ok (.putfield 22, 3) := by decide +kernel
theorem dX12_init_45 : decode cX12_init 45 = .ok (.aload_n 0, 1) := by decide +kernel
theorem dX12_init_46 : decode cX12_init 46 = .ok (.bipush 37, 2) := by decide +kernel
theorem dX12_init_48 : decode cX12_init 48 = .ok (.newarray .int, 2) := by decide +kernel
theorem dX12_init_50 : decode cX12_init 50 = .ok (.putfield 25, 3) := by decide +kernel
theorem dX12_init_53 : decode cX12_init 53 = .ok (.aload_n 0, 1) := by decide +kernel
theorem dX12_init_54 : decode cX12_init 54 = .ok (.bipush 37, 2) := by decide +kernel
theorem dX12_init_56 : decode cX12_init 56 = .ok (.newarray .int, 2) := by decide +kernel
theorem dX12_init_58 : decode cX12_init 58 = .ok (.putfield 28, 3) := by decide +kernel
theorem dX12_init_61 : decode cX12_init 61 = .ok (.aload_n 0, 1) := by decide +kernel
theorem dX12_init_62 : decode cX12_init 62 = .ok (.bipush 37, 2) := by decide +kernel
theorem dX12_init_64 : decode cX12_init 64 = .ok (.newarray .int, 2) := by decide +kernel
theorem dX12_init_66 : decode cX12_init 66 = .ok (.putfield 31, 3) := by decide +kernel
theorem dX12_init_69 : decode cX12_init 69 = .ok (.aload_n 0, 1) := by decide +kernel
theorem dX12_init_70 : decode cX12_init 70 = .ok (.bipush 74, 2) := by decide +kernel
theorem dX12_init_72 : decode cX12_init 72 = .ok (.newarray .int, 2) := by decide +kernel
theorem dX12_init_74 : decode cX12_init 74 = .ok (.putfield 34, 3) := by decide +kernel
theorem dX12_init_77 : decode cX12_init 77 = .ok (.aload_n 0, 1) := by decide +kernel
theorem dX12_init_78 : decode cX12_init 78 = .ok (.iconst 2, 1) := by decide +kernel
theorem dX12_init_79 : decode cX12_init 79 = .ok (.newarray .boolean, 2) := by decide +kernel
theorem dX12_init_81 : decode cX12_init 81 = .ok (.putfield 37, 3) := by decide +kernel
theorem dX12_init_84 : decode cX12_init 84 = .ok (.aload_n 0, 1) := by decide +kernel
theorem dX12_init_85 : decode cX12_init 85 = .ok (.sipush 888, 3) := by decide +kernel
theorem dX12_init_88 : decode cX12_init 88 = .ok (.newarray .int, 2) := by decide +kernel
theorem dX12_init_90 : decode cX12_init 90 = .ok (.putfield 41, 3) := by decide +kernel
theorem dX12_init_93 : decode cX12_init 93 = .ok (.aload_n 0, 1) := by decide +kernel
theorem dX12_init_94 : decode cX12_init 94 = .ok (.bipush 16, 2) := by decide +kernel
theorem dX12_init_96 : decode cX12_init 96 = .ok (.newarray .int, 2) := by decide +kernel
theorem dX12_init_98 : decode cX12_init 98 = .ok (.putfield 44, 3) := by decide +kernel
theorem dX12_init_101 : decode cX12_init 101 = .ok (.aload_n 0, 1) := by decide +kernel
theorem dX12_init_102 : decode cX12_init 102 = .ok (.bipush 16, 2) := by decide +kernel
theorem dX12_init_104 : decode cX12_init 104 = .ok (.newarray .int, 2) := by decide +kernel
theorem dX12_init_106 : decode cX12_init 106 = .ok (.putfield 47, 3) := by decide +kernel
theorem dX12_init_109 : decode cX12_init 109 = .ok (.aload_n 0, 1) := by decide +kernel
theorem dX12_init_110 : decode cX12_init 110 = .ok (.bipush 24, 2) := by decide +kernel
theorem dX12_init_112 : decode cX12_init 112 = .ok (.newarray .int, 2) := by decide +kernel
theorem dX12_init_114 : decode cX12_init 114 = .ok (.putfield 50, 3) := by decide +kernel
theorem dX12_init_117 : decode cX12_init 117 = .ok (.iconst 0, 1) := by decide +kernel
theorem dX12_init_118 : decode cX12_init 118 = .ok (.istore_n 1, 1) := by decide +kernel
theorem dX12_init_119 : decode cX12_init 119 = .ok (.iload_n 1, 1) := by decide +kernel
theorem dX12_init_120 : decode cX12_init 120 = .ok (.bipush 8, 2) := by decide +kernel
theorem dX12_init_122 : decode cX12_init 122 = .ok (.if_icmp .ge 16, 3) := by decide +kernel
theorem dX12_init_125 : decode cX12_init 125 = .ok (.aload_n 0, 1) := by decide +kernel
theorem dX12_init_126 : decode cX12_init 126 = .ok (.getfield 7, 3) := by decide +kernel
theorem dX12_init_129 : decode cX12_init 129 = .ok (.iload_n 1, 1) := by decide +kernel
theorem dX12_init_130 : decode cX12_init 130 = .ok (.iconst (-1), 1) := by decide +kernel
theorem dX12_init_131 : decode cX12_init 131 = .ok (.iastore, 1) := by decide +kernel
theorem dX12_init_132 : decode cX12_init 132 = .ok (.iinc 1 1, 3) := by decide +kernel
theorem dX12_init_135 : decode cX12_init 135 = .ok (.goto (-16), 3) := by decide +kernel
theorem dX12_init_138 : decode cX12_init 138 = .ok (.return_, 1) := by decide +kernel
theorem dX12_in_0 : decode cX12_in 0 = .ok (.iload_n 0, 1) := by decide +kernel
theorem dX12_in_1 : decode cX12_in 1 = .ok (.iload_n 1, 1) := by decide +kernel
theorem dX12_in_2 : decode cX12_in 2 = .ok (.if_icmp .lt 12, 3) := by decide +kernel
theorem dX12_in_5 : decode cX12_in 5 = .ok (.iload_n 0, 1) := by decide +kernel
theorem dX12_in_6 : decode cX12_in 6 = .ok (.iload_n 2, 1) := by decide +kernel
theorem dX12_in_7 : decode cX12_in 7 = .ok (.if_icmp .gt 7, 3) := by decide +kernel
theorem dX12_in_10 : decode cX12_in 10 = .ok (.iconst 1, 1) := by decide +kernel
theorem dX12_in_11 : decode cX12_in 11 = .ok (.goto 4, 3) := by decide +kernel
theorem dX12_in_14 : decode cX12_in 14 = .ok (.iconst 0, 1) := by decide +kernel
theorem dX12_in_15 : decode cX12_in 15 = .ok (.ireturn, 1) := by decide +kernel
theorem dX12_isIn_0 : decode cX12_isIn 0 = .ok (.iload_n 0, 1) := by decide +kernel
theorem dX12_isIn_1 : decode cX12_isIn 1 = .ok (.iload_n 1, 1) := by decide +kernel
theorem dX12_isIn_2 : decode cX12_isIn 2 = .ok (.ishr, 1) := by decide +kernel
theorem dX12_isIn_3 : decode cX12_isIn 3 = .ok (.iconst 1, 1) := by decide +kernel
theorem dX12_isIn_4 : decode cX12_isIn 4 = .ok (.iand, 1) := by decide +kernel
theorem dX12_isIn_5 : decode cX12_isIn 5 = .ok (.iconst 1, 1) := by decide +kernel
theorem dX12_isIn_6 : decode cX12_isIn 6 = .ok (.if_icmp .ne 7, 3) := by decide +kernel
theorem dX12_isIn_9 : decode cX12_isIn 9 = .ok (.iconst 1, 1) := by decide +kernel
theorem dX12_isIn_10 : decode cX12_isIn 10 = .ok (.goto 4, 3) := by decide +kernel
theorem dX12_isIn_13 : decode cX12_isIn 13 = .ok (.iconst 0, 1) := by decide +kernel
theorem dX12_isIn_14 : decode cX12_isIn 14 = .ok (.ireturn, 1) := by decide +kernel
theorem dX12_lay_0 : decode cX12_lay 0 = .ok (.iconst 0, 1) := by decide +kernel
theorem dX12_lay_1 : decode cX12_lay 1 = .ok (.istore 4, 2) := by decide +kernel
theorem dX12_lay_3 : decode cX12_lay 3 = .ok (.iload 4, 2) := by decide +kernel
theorem dX12_lay_5 : decode cX12_lay 5 = .ok (.bipush 37, 2) := by decide +kernel
theorem dX12_lay_7 : decode cX12_lay 7 = .ok (.if_icmp .ge 21, 3) := by decide +kernel
theorem dX12_lay_10 : decode cX12_lay 10 = .ok (.aload_n 2, 1) := by decide +kernel
theorem dX12_lay_11 : decode cX12_lay 11 = .ok (.iload_n 3, 1) := by decide +kernel
theorem dX12_lay_12 : decode cX12_lay 12 = .ok (.iload 4, 2) := by decide +kernel
theorem dX12_lay_14 : decode cX12_lay 14 = .ok (.iadd, 1) := by decide +kernel
theorem dX12_lay_15 : decode cX12_lay 15 = .ok (.aload_n 0, 1) := by decide +kernel
theorem dX12_lay_16 : decode cX12_lay 16 = .ok (.iload_n 1, 1) := by decide +kernel
theorem dX12_lay_17 : decode cX12_lay 17 = .ok (.iload 4, 2) := by decide +kernel
theorem dX12_lay_19 : decode cX12_lay 19 = .ok (.iadd, 1) := by decide +kernel
theorem dX12_lay_20 : decode cX12_lay 20 = .ok (.iaload, 1) := by decide +kernel
theorem dX12_lay_21 : decode cX12_lay 21 = .ok (.iastore, 1) := by decide +kernel
theorem dX12_lay_22 : decode cX12_lay 22 = .ok (.iinc 4 1, 3) := by decide +kernel
theorem dX12_lay_25 : decode cX12_lay 25 = .ok (.goto (-22), 3) := by decide +kernel
theorem dX12_lay_28 : decode cX12_lay 28 = .ok (.return_, 1) := by decide +kernel
theorem dX12_isThere_0 : decode cX12_isThere 0 = .ok (.aload_n 0, 1) := by decide +kernel
theorem dX12_isThere_1 : decode cX12_isThere 1 = .ok (.getfield 22, 3) := by decide +kernel
theorem dX12_isThere_4 : decode cX12_isThere 4 = .ok (.iconst 4, 1) := by decide +kernel
theorem dX12_isThere_5 : decode cX12_isThere 5 = .ok (.iaload, 1) := by decide +kernel
theorem dX12_isThere_6 : decode cX12_isThere 6 = .ok (.iconst 1, 1) := by decide +kernel
theorem dX12_isThere_7 : decode cX12_isThere 7 = .ok (.if_icmp .ne 7, 3) := by decide +kernel
theorem dX12_isThere_10 : decode cX12_isThere 10 = .ok (.iconst 1, 1) := by decide +kernel
theorem dX12_isThere_11 : decode cX12_isThere 11 = .ok (.goto 4, 3) := by decide +kernel
theorem dX12_isThere_14 : decode cX12_isThere 14 = .ok (.iconst 0, 1) := by decide +kernel
theorem dX12_isThere_15 : decode cX12_isThere 15 = .ok (.ireturn, 1) := by decide +kernel
set_option maxRecDepth 20000 in
theorem ggX12_isOne_X12_in : GoodIn wsX12_isOne wsX12_in := goodIn_r _ [5] (by decide +kernel) (by decide +kernel)
set_option maxRecDepth 20000 in
theorem gX12_isOne_X12_in : GoodIn wsX12_isOne (va_wsS RX12 53 yX12_in wsX12_in) := goodIn_app (goodIn_of _ (by decide +kernel)) ggX12_isOne_X12_in
theorem dX12_isOne_0 : decode cX12_isOne 0 = .ok (.iload_n 1, 1) := by decide +kernel
theorem dX12_isOne_1 : decode cX12_isOne 1 = .ok (.iconst 0, 1) := by decide +kernel
theorem dX12_isOne_2 : decode cX12_isOne 2 = .ok (.aload_n 0, 1) := by decide +kernel
theorem dX12_isOne_3 : decode cX12_isOne 3 = .ok (.getfield 22, 3) := by decide +kernel
theorem dX12_isOne_6 : decode cX12_isOne 6 = .ok (.iconst 3, 1) := by decide +kernel
theorem dX12_isOne_7 : decode cX12_isOne 7 = .ok (.iaload, 1) := by decide +kernel
theorem dX12_isOne_8 : decode cX12_isOne 8 = .ok (.iconst 1, 1) := by decide +kernel
theorem dX12_isOne_9 : decode cX12_isOne 9 = .ok (.isub, 1) := by decide +kernel
theorem dX12_isOne_10 : decode cX12_isOne 10 = .ok (.invokestatic 53, 3) := by decide +kernel
theorem dX12_isOne_13 : decode cX12_isOne 13 = .ok (.ireturn, 1) := by decide +kernel
set_option maxRecDepth 20000 in
theorem ggX12_isDrawer_X12_in : GoodIn wsX12_isDrawer wsX12_in := goodIn_r _ [5] (by decide +kernel) (by decide +kernel)
set_option maxRecDepth 20000 in
theorem gX12_isDrawer_X12_in : GoodIn wsX12_isDrawer (va_wsS RX12 53 yX12_in wsX12_in) := goodIn_app (goodIn_of _ (by decide +kernel)) ggX12_isDrawer_X12_in
theorem dX12_isDrawer_0 : decode cX12_isDrawer 0 = .ok (.iload_n 1, 1) := by decide +kernel
theorem dX12_isDrawer_1 : decode cX12_isDrawer 1 = .ok (.iconst 0, 1) := by decide +kernel
theorem dX12_isDrawer_2 : decode cX12_isDrawer 2 = .ok (.aload_n 0, 1) := by decide +kernel
theorem dX12_isDrawer_3 : decode cX12_isDrawer 3 = .ok (.getfield 22, 3) := by decide +kernel
theorem dX12_isDrawer_6 : decode cX12_isDrawer 6 = .ok (.iconst 1, 1) := by decide +kernel
theorem dX12_isDrawer_7 : decode cX12_isDrawer 7 = .ok (.iaload, 1) := by decide +kernel
theorem dX12_isDrawer_8 : decode cX12_isDrawer 8 = .ok (.iconst 1, 1) := by decide +kernel
theorem dX12_isDrawer_9 : decode cX12_isDrawer 9 = .ok (.isub, 1) := by decide +kernel
theorem dX12_isDrawer_10 : decode cX12_isDrawer 10 = .ok (.invokestatic 53, 3) := by decide +kernel
theorem dX12_isDrawer_13 : decode cX12_isDrawer 13 = .ok (.ireturn, 1) := by decide +kernel
theorem dX12_finds_0 : decode cX12_finds 0 = .ok (.aload_n 0, 1) := by decide +kernel
theorem dX12_finds_1 : decode cX12_finds 1 = .ok (.iload_n 1, 1) := by decide +kernel
theorem dX12_finds_2 : decode cX12_finds 2 = .ok (.putfield 57, 3) := by decide +kernel
theorem dX12_finds_5 : decode cX12_finds 5 = .ok (.ldc 61, 2) := by decide +kernel
theorem dX12_finds_7 : decode cX12_finds 7 = .ok (.iload_n 1, 1) := by decide +kernel
theorem dX12_finds_8 : decode cX12_finds 8 = .ok (.isub, 1) := by decide +kernel
theorem dX12_finds_9 : decode cX12_finds 9 = .ok (.ireturn, 1) := by decide +kernel
theorem dX12_done_0 : decode cX12_done 0 = .ok (.aload_n 0, 1) := by decide +kernel
theorem dX12_done_1 : decode cX12_done 1 = .ok (.iconst 0, 1) := by decide +kernel
theorem dX12_done_2 : decode cX12_done 2 = .ok (.putfield 57, 3) := by decide +kernel
theorem dX12_done_5 : decode cX12_done 5 = .ok (.iload_n 1, 1) := by decide +kernel
theorem dX12_done_6 : decode cX12_done 6 = .ok (.ireturn, 1) := by decide +kernel
set_option maxRecDepth 20000 in
theorem ggX12_isRow_X12_in : GoodIn wsX12_isRow wsX12_in := goodIn_r _ [4] (by decide +kernel) (by decide +kernel)
set_option maxRecDepth 20000 in
theorem gX12_isRow_X12_in : GoodIn wsX12_isRow (va_wsS RX12 53 yX12_in wsX12_in) := goodIn_app (goodIn_of _ (by decide +kernel)) ggX12_isRow_X12_in
theorem dX12_isRow_0 : decode cX12_isRow 0 = .ok (.iload_n 0, 1) := by decide +kernel
theorem dX12_isRow_1 : decode cX12_isRow 1 = .ok (.iconst 0, 1) := by decide +kernel
theorem dX12_isRow_2 : decode cX12_isRow 2 = .ok (.bipush 7, 2) := by decide +kernel
theorem dX12_isRow_4 : decode cX12_isRow 4 = .ok (.invokestatic 53, 3) := by decide +kernel
theorem dX12_isRow_7 : decode cX12_isRow 7 = .ok (.ireturn, 1) := by decide +kernel
set_option maxRecDepth 20000 in
theorem ggX12_row_X12_isRow : GoodIn wsX12_row wsX12_isRow := goodIn_r _ [8, 9, 10, 7, 11] (by decide +kernel) (by decide +kernel)
set_option maxRecDepth 20000 in
theorem gX12_row_X12_isRow : GoodIn wsX12_row (va_wsS RX12 62 yX12_isRow wsX12_isRow) := goodIn_app (goodIn_of _ (by decide +kernel)) ggX12_row_X12_isRow
set_option maxRecDepth 20000 in
theorem ggX12_row_X12_in : GoodIn wsX12_row wsX12_in := goodIn_r _ [11] (by decide +kernel) (by decide +kernel)
set_option maxRecDepth 20000 in
theorem gX12_row_X12_in : GoodIn wsX12_row (va_wsS RX12 53 yX12_in wsX12_in) := goodIn_app (goodIn_of _ (by decide +kernel)) ggX12_row_X12_in
set_option maxRecDepth 20000 in
theorem ggX12_row_X12_finds : GoodIn wsX12_row wsX12_finds := goodIn_r _ [15, 16, 17, 22, 23, 24, 25, 26, 27, 28, 29, 30, 31, 32, 33, 34, 35, 36, 37, 38, 39, 40, 41, 42, 43, 44, 45] (by decide +kernel) (by decide +kernel)
set_option maxRecDepth 20000 in
theorem gX12_row_X12_finds : GoodIn wsX12_row (wsV RX12 67 RX12 yX12_finds wsX12_finds) := goodIn_app (goodIn_of _ (by decide +kernel)) ggX12_row_X12_finds
set_option maxRecDepth 20000 in
theorem ggX12_row_X12_done : GoodIn wsX12_row wsX12_done := goodIn_r _ [21, 16, 22, 23, 24, 25, 26, 27, 28, 29, 30, 31, 32, 33, 34, 35, 36, 37, 38, 39, 40, 41, 42, 43, 44, 45] (by decide +kernel) (by decide +kernel)
set_option maxRecDepth 20000 in
theorem gX12_row_X12_done : GoodIn wsX12_row (wsV RX12 71 RX12 yX12_done wsX12_done) := goodIn_app (goodIn_of _ (by decide +kernel)) ggX12_row_X12_done
theorem dX12_row_0 : decode cX12_row 0 = .ok (.iload_n 1, 1) := by decide +kernel
theorem dX12_row_1 : decode cX12_row 1 = .ok (.invokestatic 62, 3) := by decide +kernel
theorem dX12_row_4 : decode cX12_row 4 = .ok (.ifCond .eq 18, 3) := by decide +kernel
theorem dX12_row_7 : decode cX12_row 7 = .ok (.iload_n 2, 1) := by decide +kernel
theorem dX12_row_8 : decode cX12_row 8 = .ok (.iconst 0, 1) := by decide +kernel
theorem dX12_row_9 : decode cX12_row 9 = .ok (.iconst 2, 1) := by decide +kernel
theorem dX12_row_10 : decode cX12_row 10 = .ok (.invokestatic 53, 3) := by decide +kernel
theorem dX12_row_13 : decode cX12_row 13 = .ok (.ifCond .eq 9, 3) := by decide +kernel
theorem dX12_row_16 : decode cX12_row 16 = .ok (.iload_n 3, 1) := by decide +kernel
theorem dX12_row_17 : decode cX12_row 17 = .ok (.bipush 40, 2) := by decide +kernel
theorem dX12_row_19 : decode cX12_row 19 = .ok (.if_icmp .le 6, 3) := by decide +kernel
theorem dX12_row_22 : decode cX12_row 22 = .ok (.ldc 66, 2) := by decide +kernel
theorem dX12_row_24 : decode cX12_row 24 = .ok (.ireturn, 1) := by decide +kernel
theorem dX12_row_25 : decode cX12_row 25 = .ok (.iload_n 3, 1) := by decide +kernel
theorem dX12_row_26 : decode cX12_row 26 = .ok (.ifCond .ge 9, 3) := by decide +kernel
theorem dX12_row_29 : decode cX12_row 29 = .ok (.aload_n 0, 1) := by decide +kernel
theorem dX12_row_30 : decode cX12_row 30 = .ok (.iconst 4, 1) := by decide +kernel
theorem dX12_row_31 : decode cX12_row 31 = .ok (.invokevirtual 67, 3) := by decide +kernel
theorem dX12_row_34 : decode cX12_row 34 = .ok (.ireturn, 1) := by decide +kernel
theorem dX12_row_35 : decode cX12_row 35 = .ok (.aload_n 0, 1) := by decide +kernel
theorem dX12_row_36 : decode cX12_row 36 = .ok (.getfield 7, 3) := by decide +kernel
theorem dX12_row_39 : decode cX12_row 39 = .ok (.iload_n 1, 1) := by decide +kernel
theorem dX12_row_40 : decode cX12_row 40 = .ok (.iload_n 2, 1) := by decide +kernel
theorem dX12_row_41 : decode cX12_row 41 = .ok (.iastore, 1) := by decide +kernel
theorem dX12_row_42 : decode cX12_row 42 = .ok (.aload_n 0, 1) := by decide +kernel
theorem dX12_row_43 : decode cX12_row 43 = .ok (.getfield 13, 3) := by decide +kernel
theorem dX12_row_46 : decode cX12_row 46 = .ok (.iload_n 1, 1) := by decide +kernel
theorem dX12_row_47 : decode cX12_row 47 = .ok (.iload_n 3, 1) := by decide +kernel
theorem dX12_row_48 : decode cX12_row 48 = .ok (.iastore, 1) := by decide +kernel
theorem dX12_row_49 : decode cX12_row 49 = .ok (.iconst 0, 1) := by decide +kernel
theorem dX12_row_50 : decode cX12_row 50 = .ok (.istore 4, 2) := by decide +kernel
theorem dX12_row_52 : decode cX12_row 52 = .ok (.iload 4, 2) := by decide +kernel
theorem dX12_row_54 : decode cX12_row 54 = .ok (.bipush 40, 2) := by decide +kernel
theorem dX12_row_56 : decode cX12_row 56 = .ok (.if_icmp .ge 22, 3) := by decide +kernel
theorem dX12_row_59 : decode cX12_row 59 = .ok (.aload_n 0, 1) := by decide +kernel
theorem dX12_row_60 : decode cX12_row 60 = .ok (.getfield 16, 3) := by decide +kernel
theorem dX12_row_63 : decode cX12_row 63 = .ok (.bipush 40, 2) := by decide +kernel
theorem dX12_row_65 : decode cX12_row 65 = .ok (.iload_n 1, 1) := by decide +kernel
theorem dX12_row_66 : decode cX12_row 66 = .ok (.imul, 1) := by decide +kernel
theorem dX12_row_67 : decode cX12_row 67 = .ok (.iload 4, 2) := by decide +kernel
theorem dX12_row_69 : decode cX12_row 69 = .ok (.iadd, 1) := by decide +kernel
theorem dX12_row_70 : decode cX12_row 70 = .ok (.iconst 0, 1) := by decide +kernel
theorem dX12_row_71 : decode cX12_row 71 = .ok (.iastore, 1) := by decide +kernel
theorem dX12_row_72 : decode cX12_row 72 = .ok (.iinc 4 1, 3) := by decide +kernel
theorem dX12_row_75 : decode cX12_row 75 = .ok (.goto (-23), 3) := by decide +kernel
theorem dX12_row_78 : decode cX12_row 78 = .ok (.aload_n 0, 1) := by decide +kernel
theorem dX12_row_79 : decode cX12_row 79 = .ok (.iload_n 3, 1) := by decide +kernel
theorem dX12_row_80 : decode cX12_row 80 = .ok (.invokevirtual 71, 3) := by decide +kernel
theorem dX12_row_83 : decode cX12_row 83 = .ok (.ireturn, 1) := by decide +kernel
set_option maxRecDepth 20000 in
theorem ggX12_set_X12_isRow : GoodIn wsX12_set wsX12_isRow := goodIn_r _ [8, 9, 10, 7, 11] (by decide +kernel) (by decide +kernel)
set_option maxRecDepth 20000 in
theorem gX12_set_X12_isRow : GoodIn wsX12_set (va_wsS RX12 62 yX12_isRow wsX12_isRow) := goodIn_app (goodIn_of _ (by decide +kernel)) ggX12_set_X12_isRow
set_option maxRecDepth 20000 in
theorem ggX12_set_X12_finds : GoodIn wsX12_set wsX12_finds := goodIn_r _ [15, 16, 17, 22, 23, 24, 25, 26, 27, 28, 29, 30, 31, 32, 33, 34, 35, 36, 37, 38, 39, 40, 41, 42, 43, 44, 45] (by decide +kernel) (by decide +kernel)
set_option maxRecDepth 20000 in
theorem gX12_set_X12_finds : GoodIn wsX12_set (wsV RX12 67 RX12 yX12_finds wsX12_finds) := goodIn_app (goodIn_of _ (by decide +kernel)) ggX12_set_X12_finds
set_option maxRecDepth 20000 in
theorem ggX12_set_X12_in : GoodIn wsX12_set wsX12_in := goodIn_r _ [11] (by decide +kernel) (by decide +kernel)
set_option maxRecDepth 20000 in
theorem gX12_set_X12_in : GoodIn wsX12_set (va_wsS RX12 53 yX12_in wsX12_in) := goodIn_app (goodIn_of _ (by decide +kernel)) ggX12_set_X12_in
set_option maxRecDepth 20000 in
theorem ggX12_set_X12_done : GoodIn wsX12_set wsX12_done := goodIn_r _ [21, 16, 22, 23, 24, 25, 26, 27, 28, 29, 30, 31, 32, 33, 34, 35, 36, 37, 38, 39, 40, 41, 42, 43, 44, 45] (by decide +kernel) (by decide +kernel)
set_option maxRecDepth 20000 in
theorem gX12_set_X12_done : GoodIn wsX12_set (wsV RX12 71 RX12 yX12_done wsX12_done) := goodIn_app (goodIn_of _ (by decide +kernel)) ggX12_set_X12_done
theorem dX12_set_0 : decode cX12_set 0 = .ok (.iload_n 1, 1) := by decide +kernel
theorem dX12_set_1 : decode cX12_set 1 = .ok (.invokestatic 62, 3) := by decide +kernel
theorem dX12_set_4 : decode cX12_set 4 = .ok (.ifCond .ne 6, 3) := by decide +kernel
theorem dX12_set_7 : decode cX12_set 7 = .ok (.ldc 66, 2) := by decide +kernel
theorem dX12_set_9 : decode cX12_set 9 = .ok (.ireturn, 1) := by decide +kernel
theorem dX12_set_10 : decode cX12_set 10 = .ok (.aload_n 0, 1) := by decide +kernel
theorem dX12_set_11 : decode cX12_set 11 = .ok (.getfield 7, 3) := by decide +kernel
theorem dX12_set_14 : decode cX12_set 14 = .ok (.iload_n 1, 1) := by decide +kernel
theorem dX12_set_15 : decode cX12_set 15 = .ok (.iaload, 1) := by decide +kernel
theorem dX12_set_16 : decode cX12_set 16 = .ok (.ifCond .ge 9, 3) := by decide +kernel
theorem dX12_set_19 : decode cX12_set 19 = .ok (.aload_n 0, 1) := by decide +kernel
theorem dX12_set_20 : decode cX12_set 20 = .ok (.iconst 1, 1) := by decide +kernel
theorem dX12_set_21 : decode cX12_set 21 = .ok (.invokevirtual 67, 3) := by decide +kernel
theorem dX12_set_24 : decode cX12_set 24 = .ok (.ireturn, 1) := by decide +kernel
theorem dX12_set_25 : decode cX12_set 25 = .ok (.iload_n 2, 1) := by decide +kernel
theorem dX12_set_26 : decode cX12_set 26 = .ok (.iconst 0, 1) := by decide +kernel
theorem dX12_set_27 : decode cX12_set 27 = .ok (.aload_n 0, 1) := by decide +kernel
theorem dX12_set_28 : decode cX12_set 28 = .ok (.getfield 13, 3) := by decide +kernel
theorem dX12_set_31 : decode cX12_set 31 = .ok (.iload_n 1, 1) := by decide +kernel
theorem dX12_set_32 : decode cX12_set 32 = .ok (.iaload, 1) := by decide +kernel
theorem dX12_set_33 : decode cX12_set 33 = .ok (.iconst 1, 1) := by decide +kernel
theorem dX12_set_34 : decode cX12_set 34 = .ok (.isub, 1) := by decide +kernel
theorem dX12_set_35 : decode cX12_set 35 = .ok (.invokestatic 53, 3) := by decide +kernel
theorem dX12_set_38 : decode cX12_set 38 = .ok (.ifCond .ne 9, 3) := by decide +kernel
theorem dX12_set_41 : decode cX12_set 41 = .ok (.aload_n 0, 1) := by decide +kernel
theorem dX12_set_42 : decode cX12_set 42 = .ok (.iconst 2, 1) := by decide +kernel
theorem dX12_set_43 : decode cX12_set 43 = .ok (.invokevirtual 67, 3) := by decide +kernel
theorem dX12_set_46 : decode cX12_set 46 = .ok (.ireturn, 1) := by decide +kernel
theorem dX12_set_47 : decode cX12_set 47 = .ok (.aload_n 0, 1) := by decide +kernel
theorem dX12_set_48 : decode cX12_set 48 = .ok (.getfield 16, 3) := by decide +kernel
theorem dX12_set_51 : decode cX12_set 51 = .ok (.bipush 40, 2) := by decide +kernel
theorem dX12_set_53 : decode cX12_set 53 = .ok (.iload_n 1, 1) := by decide +kernel
theorem dX12_set_54 : decode cX12_set 54 = .ok (.imul, 1) := by decide +kernel
theorem dX12_set_55 : decode cX12_set 55 = .ok (.iload_n 2, 1) := by decide +kernel
theorem dX12_set_56 : decode cX12_set 56 = .ok (.iadd, 1) := by decide +kernel
theorem dX12_set_57 : decode cX12_set 57 = .ok (.aload_n 0, 1) := by decide +kernel
theorem dX12_set_58 : decode cX12_set 58 = .ok (.getfield 7, 3) := by decide +kernel
theorem dX12_set_61 : decode cX12_set 61 = .ok (.iload_n 1, 1) := by decide +kernel
theorem dX12_set_62 : decode cX12_set 62 = .ok (.iaload, 1) := by decide +kernel
theorem dX12_set_63 : decode cX12_set 63 = .ok (.ifCond .ne 8, 3) := by decide +kernel
theorem dX12_set_66 : decode cX12_set 66 = .ok (.iload_n 3, 1) := by decide +kernel
theorem dX12_set_67 : decode cX12_set 67 = .ok (.i2b, 1) := by decide +kernel
theorem dX12_set_68 : decode cX12_set 68 = .ok (.goto 19, 3) := by decide +kernel
theorem dX12_set_71 : decode cX12_set 71 = .ok (.aload_n 0, 1) := by decide +kernel
theorem dX12_set_72 : decode cX12_set 72 = .ok (.getfield 7, 3) := by decide +kernel
theorem dX12_set_75 : decode cX12_set 75 = .ok (.iload_n 1, 1) := by decide +kernel
theorem dX12_set_76 : decode cX12_set 76 = .ok (.iaload, 1) := by decide +kernel
theorem dX12_set_77 : decode cX12_set 77 = .ok (.iconst 1, 1) := by decide +kernel
theorem dX12_set_78 : decode cX12_set 78 = .ok (.if_icmp .ne 8, 3) := by decide +kernel
theorem dX12_set_81 : decode cX12_set 81 = .ok (.iload_n 3, 1) := by decide +kernel
theorem dX12_set_82 : decode cX12_set 82 = .ok (.i2s, 1) := by decide +kernel
theorem dX12_set_83 : decode cX12_set 83 = .ok (.goto 4, 3) := by decide +kernel
theorem dX12_set_86 : decode cX12_set 86 = .ok (.iload_n 3, 1) := by decide +kernel
theorem dX12_set_87 : decode cX12_set 87 = .ok (.iastore, 1) := by decide +kernel
theorem dX12_set_88 : decode cX12_set 88 = .ok (.aload_n 0, 1) := by decide +kernel
theorem dX12_set_89 : decode cX12_set 89 = .ok (.aload_n 0, 1) := by decide +kernel
theorem dX12_set_90 : decode cX12_set 90 = .ok (.getfield 16, 3) := by decide +kernel
theorem dX12_set_93 : decode cX12_set 93 = .ok (.bipush 40, 2) := by decide +kernel
theorem dX12_set_95 : decode cX12_set 95 = .ok (.iload_n 1, 1) := by decide +kernel
theorem dX12_set_96 : decode cX12_set 96 = .ok (.imul, 1) := by decide +kernel
theorem dX12_set_97 : decode cX12_set 97 = .ok (.iload_n 2, 1) := by decide +kernel
theorem dX12_set_98 : decode cX12_set 98 = .ok (.iadd, 1) := by decide +kernel
theorem dX12_set_99 : decode cX12_set 99 = .ok (.iaload, 1) := by decide +kernel
theorem dX12_set_100 : decode cX12_set 100 = .ok (.invokevirtual 71, 3) := by decide +kernel
theorem dX12_set_103 : decode cX12_set 103 = .ok (.ireturn, 1) := by decide +kernel
theorem dX12_isPart_0 : decode cX12_isPart 0 = .ok (.iload_n 0, 1) := by decide +kernel
theorem dX12_isPart_1 : decode cX12_isPart 1 = .ok (.ifCond .lt 23, 3) := by decide +kernel
theorem dX12_isPart_4 : decode cX12_isPart 4 = .ok (.iload_n 1, 1) := by decide +kernel
theorem dX12_isPart_5 : decode cX12_isPart 5 = .ok (.ifCond .lt 19, 3) := by decide +kernel
theorem dX12_isPart_8 : decode cX12_isPart 8 = .ok (.iload_n 1, 1) := by decide +kernel
theorem dX12_isPart_9 : decode cX12_isPart 9 = .ok (.iload_n 2, 1) := by decide +kernel
theorem dX12_isPart_10 : decode cX12_isPart 10 = .ok (.if_icmp .gt 14, 3) := by decide +kernel
theorem dX12_isPart_13 : decode cX12_isPart 13 = .ok (.iload_n 0, 1) := by decide +kernel
theorem dX12_isPart_14 : decode cX12_isPart 14 = .ok (.iload_n 2, 1) := by decide +kernel
theorem dX12_isPart_15 : decode cX12_isPart 15 = .ok (.iload_n 1, 1) := by decide +kernel
theorem dX12_isPart_16 : decode cX12_isPart 16 = .ok (.isub, 1) := by decide +kernel
theorem dX12_isPart_17 : decode cX12_isPart 17 = .ok (.if_icmp .gt 7, 3) := by decide +kernel
theorem dX12_isPart_20 : decode cX12_isPart 20 = .ok (.iconst 1, 1) := by decide +kernel
theorem dX12_isPart_21 : decode cX12_isPart 21 = .ok (.goto 4, 3) := by decide +kernel
theorem dX12_isPart_24 : decode cX12_isPart 24 = .ok (.iconst 0, 1) := by decide +kernel
theorem dX12_isPart_25 : decode cX12_isPart 25 = .ok (.ireturn, 1) := by decide +kernel
set_option maxRecDepth 20000 in
theorem ggX12_copy_X12_isRow : GoodIn wsX12_copy wsX12_isRow := goodIn_r _ [8, 9, 10, 7, 11] (by decide +kernel) (by decide +kernel)
set_option maxRecDepth 20000 in
theorem gX12_copy_X12_isRow : GoodIn wsX12_copy (va_wsS RX12 62 yX12_isRow wsX12_isRow) := goodIn_app (goodIn_of _ (by decide +kernel)) ggX12_copy_X12_isRow
set_option maxRecDepth 20000 in
theorem ggX12_copy_X12_finds : GoodIn wsX12_copy wsX12_finds := goodIn_r _ [15, 16, 17, 25, 26, 27, 28, 29, 30, 31, 32, 33, 34, 35, 36, 37, 38, 39, 40, 41, 42, 43, 44, 45, 46, 47, 48] (by decide +kernel) (by decide +kernel)
set_option maxRecDepth 20000 in
theorem gX12_copy_X12_finds : GoodIn wsX12_copy (wsV RX12 67 RX12 yX12_finds wsX12_finds) := goodIn_app (goodIn_of _ (by decide +kernel)) ggX12_copy_X12_finds
set_option maxRecDepth 20000 in
theorem ggX12_copy_X12_isPart : GoodIn wsX12_copy wsX12_isPart := goodIn_r _ [20] (by decide +kernel) (by decide +kernel)
set_option maxRecDepth 20000 in
theorem gX12_copy_X12_isPart : GoodIn wsX12_copy (va_wsS RX12 74 yX12_isPart wsX12_isPart) := goodIn_app (goodIn_of _ (by decide +kernel)) ggX12_copy_X12_isPart
set_option maxRecDepth 20000 in
theorem ggX12_copy_X12_done : GoodIn wsX12_copy wsX12_done := goodIn_r _ [24, 16, 25, 26, 27, 28, 29, 30, 31, 32, 33, 34, 35, 36, 37, 38, 39, 40, 41, 42, 43, 44, 45, 46, 47, 48] (by decide +kernel) (by decide +kernel)
set_option maxRecDepth 20000 in
theorem gX12_copy_X12_done : GoodIn wsX12_copy (wsV RX12 71 RX12 yX12_done wsX12_done) := goodIn_app (goodIn_of _ (by decide +kernel)) ggX12_copy_X12_done
theorem dX12_copy_0 : decode cX12_copy 0 = .ok (.iload_n 1, 1) := by decide +kernel
theorem dX12_copy_1 : decode cX12_copy 1 = .ok (.invokestatic 62, 3) := by decide +kernel
theorem dX12_copy_4 : decode cX12_copy 4 = .ok (.ifCond .eq 10, 3) := by decide +kernel
theorem dX12_copy_7 : decode cX12_copy 7 = .ok (.iload_n 3, 1) := by decide +kernel
theorem dX12_copy_8 : decode cX12_copy 8 = .ok (.invokestatic 62, 3) := by decide +kernel
theorem dX12_copy_11 : decode cX12_copy 11 = .ok (.ifCond .ne 6, 3) := by decide +kernel
theorem dX12_copy_14 : decode cX12_copy 14 = .ok (.ldc 66, 2) := by decide +kernel
theorem dX12_copy_16 : decode cX12_copy 16 = .ok (.ireturn, 1) := by decide +kernel
theorem dX12_copy_17 : decode cX12_copy 17 = .ok (.aload_n 0, 1) := by decide +kernel
theorem dX12_copy_18 : decode cX12_copy 18 = .ok (.getfield 7, 3) := by decide +kernel
theorem dX12_copy_21 : decode cX12_copy 21 = .ok (.iload_n 1, 1) := by decide +kernel
theorem dX12_copy_22 : decode cX12_copy 22 = .ok (.iaload, 1) := by decide +kernel
theorem dX12_copy_23 : decode cX12_copy 23 = .ok (.ifCond .lt 12, 3) := by decide +kernel
theorem dX12_copy_26 : decode cX12_copy 26 = .ok (.aload_n 0, 1) := by decide +kernel
theorem dX12_copy_27 : decode cX12_copy 27 = .ok (.getfield 7, 3) := by decide +kernel
theorem dX12_copy_30 : decode cX12_copy 30 = .ok (.iload_n 3, 1) := by decide +kernel
theorem dX12_copy_31 : decode cX12_copy 31 = .ok (.iaload, 1) := by decide +kernel
theorem dX12_copy_32 : decode cX12_copy 32 = .ok (.ifCond .ge 9, 3) := by decide +kernel
theorem dX12_copy_35 : decode cX12_copy 35 = .ok (.aload_n 0, 1) := by decide +kernel
theorem dX12_copy_36 : decode cX12_copy 36 = .ok (.iconst 1, 1) := by decide +kernel
theorem dX12_copy_37 : decode cX12_copy 37 = .ok (.invokevirtual 67, 3) := by decide +kernel
theorem dX12_copy_40 : decode cX12_copy 40 = .ok (.ireturn, 1) := by decide +kernel
theorem dX12_copy_41 : decode cX12_copy 41 = .ok (.aload_n 0, 1) := by decide +kernel
theorem dX12_copy_42 : decode cX12_copy 42 = .ok (.getfield 7, 3) := by decide +kernel
theorem dX12_copy_45 : decode cX12_copy 45 = .ok (.iload_n 1, 1) := by decide +kernel
theorem dX12_copy_46 : decode cX12_copy 46 = .ok (.iaload, 1) := by decide +kernel
theorem dX12_copy_47 : decode cX12_copy 47 = .ok (.aload_n 0, 1) := by decide +kernel
theorem dX12_copy_48 : decode cX12_copy 48 = .ok (.getfield 7, 3) := by decide +kernel
theorem dX12_copy_51 : decode cX12_copy 51 = .ok (.iload_n 3, 1) := by decide +kernel
theorem dX12_copy_52 : decode cX12_copy 52 = .ok (.iaload, 1) := by decide +kernel
theorem dX12_copy_53 : decode cX12_copy 53 = .ok (.if_icmp .eq 9, 3) := by decide +kernel
theorem dX12_copy_56 : decode cX12_copy 56 = .ok (.aload_n 0, 1) := by decide +kernel
theorem dX12_copy_57 : decode cX12_copy 57 = .ok (.iconst 5, 1) := by decide +kernel
theorem dX12_copy_58 : decode cX12_copy 58 = .ok (.invokevirtual 67, 3) := by decide +kernel
theorem dX12_copy_61 : decode cX12_copy 61 = .ok (.ireturn, 1) := by decide +kernel
theorem dX12_copy_62 : decode cX12_copy 62 = .ok (.iload_n 2, 1) := by decide +kernel
theorem dX12_copy_63 : decode cX12_copy 63 = .ok (.iload 5, 2) := by decide +kernel
theorem dX12_copy_65 : decode cX12_copy 65 = .ok (.aload_n 0, 1) := by decide +kernel
theorem dX12_copy_66 : decode cX12_copy 66 = .ok (.getfield 13, 3) := by decide +kernel
theorem dX12_copy_69 : decode cX12_copy 69 = .ok (.iload_n 1, 1) := by decide +kernel
theorem dX12_copy_70 : decode cX12_copy 70 = .ok (.iaload, 1) := by decide +kernel
theorem dX12_copy_71 : decode cX12_copy 71 = .ok (.invokestatic 74, 3) := by decide +kernel
theorem dX12_copy_74 : decode cX12_copy 74 = .ok (.ifCond .eq 19, 3) := by decide +kernel
theorem dX12_copy_77 : decode cX12_copy 77 = .ok (.iload 4, 2) := by decide +kernel
theorem dX12_copy_79 : decode cX12_copy 79 = .ok (.iload 5, 2) := by decide +kernel
theorem dX12_copy_81 : decode cX12_copy 81 = .ok (.aload_n 0, 1) := by decide +kernel
theorem dX12_copy_82 : decode cX12_copy 82 = .ok (.getfield 13, 3) := by decide +kernel
theorem dX12_copy_85 : decode cX12_copy 85 = .ok (.iload_n 3, 1) := by decide +kernel
theorem dX12_copy_86 : decode cX12_copy 86 = .ok (.iaload, 1) := by decide +kernel
theorem dX12_copy_87 : decode cX12_copy 87 = .ok (.invokestatic 74, 3) := by decide +kernel
theorem dX12_copy_90 : decode cX12_copy 90 = .ok (.ifCond .ne 9, 3) := by decide +kernel
theorem dX12_copy_93 : decode cX12_copy 93 = .ok (.aload_n 0, 1) := by decide +kernel
theorem dX12_copy_94 : decode cX12_copy 94 = .ok (.iconst 2, 1) := by decide +kernel
theorem dX12_copy_95 : decode cX12_copy 95 = .ok (.invokevirtual 67, 3) := by decide +kernel
theorem dX12_copy_98 : decode cX12_copy 98 = .ok (.ireturn, 1) := by decide +kernel
theorem dX12_copy_99 : decode cX12_copy 99 = .ok (.iload_n 1, 1) := by decide +kernel
theorem dX12_copy_100 : decode cX12_copy 100 = .ok (.iload_n 3, 1) := by decide +kernel
theorem dX12_copy_101 : decode cX12_copy 101 = .ok (.if_icmp .ne 13, 3) := by decide +kernel
theorem dX12_copy_104 : decode cX12_copy 104 = .ok (.iload 4, 2) := by decide +kernel
theorem dX12_copy_106 : decode cX12_copy 106 = .ok (.iload_n 2, 1) := by decide +kernel
theorem dX12_copy_107 : decode cX12_copy 107 = .ok (.if_icmp .le 7, 3) := by decide +kernel
theorem dX12_copy_110 : decode cX12_copy 110 = .ok (.iconst 1, 1) := by decide +kernel
theorem dX12_copy_111 : decode cX12_copy 111 = .ok (.goto 4, 3) := by decide +kernel
theorem dX12_copy_114 : decode cX12_copy 114 = .ok (.iconst 0, 1) := by decide +kernel
theorem dX12_copy_115 : decode cX12_copy 115 = .ok (.istore 6, 2) := by decide +kernel
theorem dX12_copy_117 : decode cX12_copy 117 = .ok (.iconst 0, 1) := by decide +kernel
theorem dX12_copy_118 : decode cX12_copy 118 = .ok (.istore 7, 2) := by decide +kernel
theorem dX12_copy_120 : decode cX12_copy 120 = .ok (.iload 7, 2) := by decide +kernel
theorem dX12_copy_122 : decode cX12_copy 122 = .ok (.iload 5, 2) := by decide +kernel
theorem dX12_copy_124 : decode cX12_copy 124 = .ok (.if_icmp .ge 57, 3) := by decide +kernel
theorem dX12_copy_127 : decode cX12_copy 127 = .ok (.iload 6, 2) := by decide +kernel
theorem dX12_copy_129 : decode cX12_copy 129 = .ok (.ifCond .eq 13, 3) := by decide +kernel
theorem dX12_copy_132 : decode cX12_copy 132 = .ok (.iload 5, 2) := by decide +kernel
theorem dX12_copy_134 : decode cX12_copy 134 = .ok (.iconst 1, 1) := by decide +kernel
theorem dX12_copy_135 : decode cX12_copy 135 = .ok (.isub, 1) := by decide +kernel
theorem dX12_copy_136 : decode cX12_copy 136 = .ok (.iload 7, 2) := by decide +kernel
theorem dX12_copy_138 : decode cX12_copy 138 = .ok (.isub, 1) := by decide +kernel
theorem dX12_copy_139 : decode cX12_copy 139 = .ok (.goto 5, 3) := by decide +kernel
theorem dX12_copy_142 : decode cX12_copy 142 = .ok (.iload 7, 2) := by decide +kernel
theorem dX12_copy_144 : decode cX12_copy 144 = .ok (.istore 8, 2) := by decide +kernel
theorem dX12_copy_146 : decode cX12_copy 146 = .ok (.aload_n 0, 1) := by decide +kernel
theorem dX12_copy_147 : decode cX12_copy 147 = .ok (.getfield 16, 3) := by decide +kernel
theorem dX12_copy_150 : decode cX12_copy 150 = .ok (.bipush 40, 2) := by decide +kernel
theorem dX12_copy_152 : decode cX12_copy 152 = .ok (.iload_n 3, 1) := by decide +kernel
theorem dX12_copy_153 : decode cX12_copy 153 = .ok (.imul, 1) := by decide +kernel
theorem dX12_copy_154 : decode cX12_copy 154 = .ok (.iload 4, 2) := by decide +kernel
theorem dX12_copy_156 : decode cX12_copy 156 = .ok (.iadd, 1) := by decide +kernel
theorem dX12_copy_157 : decode cX12_copy 157 = .ok (.iload 8, 2) := by decide +kernel
theorem dX12_copy_159 : decode cX12_copy 159 = .ok (.iadd, 1) := by decide +kernel
theorem dX12_copy_160 : decode cX12_copy 160 = .ok (.aload_n 0, 1) := by decide +kernel
theorem dX12_copy_161 : decode cX12_copy 161 = .ok (.getfield 16, 3) := by decide +kernel
theorem dX12_copy_164 : decode cX12_copy 164 = .ok (.bipush 40, 2) := by decide +kernel
theorem dX12_copy_166 : decode cX12_copy 166 = .ok (.iload_n 1, 1) := by decide +kernel
theorem dX12_copy_167 : decode cX12_copy 167 = .ok (.imul, 1) := by decide +kernel
theorem dX12_copy_168 : decode cX12_copy 168 = .ok (.iload_n 2, 1) := by decide +kernel
theorem dX12_copy_169 : decode cX12_copy 169 = .ok (.iadd, 1) := by decide +kernel
theorem dX12_copy_170 : decode cX12_copy 170 = .ok (.iload 8, 2) := by decide +kernel
theorem dX12_copy_172 : decode cX12_copy 172 = .ok (.iadd, 1) := by decide +kernel
theorem dX12_copy_173 : decode cX12_copy 173 = .ok (.iaload, 1) := by decide +kernel
theorem dX12_copy_174 : decode cX12_copy 174 = .ok (.iastore, 1) := by decide +kernel
theorem dX12_copy_175 : decode cX12_copy 175 = .ok (.iinc 7 1, 3) := by decide +kernel
theorem dX12_copy_178 : decode cX12_copy 178 = .ok (.goto (-58), 3) := by decide +kernel
theorem dX12_copy_181 : decode cX12_copy 181 = .ok (.aload_n 0, 1) := by decide +kernel
theorem dX12_copy_182 : decode cX12_copy 182 = .ok (.iload 5, 2) := by decide +kernel
theorem dX12_copy_184 : decode cX12_copy 184 = .ok (.invokevirtual 71, 3) := by decide +kernel
theorem dX12_copy_187 : decode cX12_copy 187 = .ok (.ireturn, 1) := by decide +kernel
set_option maxRecDepth 20000 in
theorem ggX12_drop_X12_isRow : GoodIn wsX12_drop wsX12_isRow := goodIn_r _ [7, 8, 9, 6, 10] (by decide +kernel) (by decide +kernel)
set_option maxRecDepth 20000 in
theorem gX12_drop_X12_isRow : GoodIn wsX12_drop (va_wsS RX12 62 yX12_isRow wsX12_isRow) := goodIn_app (goodIn_of _ (by decide +kernel)) ggX12_drop_X12_isRow
set_option maxRecDepth 20000 in
theorem ggX12_drop_X12_finds : GoodIn wsX12_drop wsX12_finds := goodIn_r _ [14, 15, 16, 21, 22, 23, 24, 25, 26, 27, 28, 29, 30, 31, 32, 33, 34, 35, 36, 37, 38, 39, 40, 41, 42, 43, 44] (by decide +kernel) (by decide +kernel)
set_option maxRecDepth 20000 in
theorem gX12_drop_X12_finds : GoodIn wsX12_drop (wsV RX12 67 RX12 yX12_finds wsX12_finds) := goodIn_app (goodIn_of _ (by decide +kernel)) ggX12_drop_X12_finds
set_option maxRecDepth 20000 in
theorem ggX12_drop_X12_done : GoodIn wsX12_drop wsX12_done := goodIn_r _ [20, 15, 21, 22, 23, 24, 25, 26, 27, 28, 29, 30, 31, 32, 33, 34, 35, 36, 37, 38, 39, 40, 41, 42, 43, 44] (by decide +kernel) (by decide +kernel)
set_option maxRecDepth 20000 in
theorem gX12_drop_X12_done : GoodIn wsX12_drop (wsV RX12 71 RX12 yX12_done wsX12_done) := goodIn_app (goodIn_of _ (by decide +kernel)) ggX12_drop_X12_done
theorem dX12_drop_0 : decode cX12_drop 0 = .ok (.iload_n 1, 1) := by decide +kernel
theorem dX12_drop_1 : decode cX12_drop 1 = .ok (.invokestatic 62, 3) := by decide +kernel
theorem dX12_drop_4 : decode cX12_drop 4 = .ok (.ifCond .ne 6, 3) := by decide +kernel
theorem dX12_drop_7 : decode cX12_drop 7 = .ok (.ldc 66, 2) := by decide +kernel
theorem dX12_drop_9 : decode cX12_drop 9 = .ok (.ireturn, 1) := by decide +kernel
theorem dX12_drop_10 : decode cX12_drop 10 = .ok (.aload_n 0, 1) := by decide +kernel
theorem dX12_drop_11 : decode cX12_drop 11 = .ok (.getfield 7, 3) := by decide +kernel
theorem dX12_drop_14 : decode cX12_drop 14 = .ok (.iload_n 1, 1) := by decide +kernel
theorem dX12_drop_15 : decode cX12_drop 15 = .ok (.iaload, 1) := by decide +kernel
theorem dX12_drop_16 : decode cX12_drop 16 = .ok (.ifCond .ge 9, 3) := by decide +kernel
theorem dX12_drop_19 : decode cX12_drop 19 = .ok (.aload_n 0, 1) := by decide +kernel
theorem dX12_drop_20 : decode cX12_drop 20 = .ok (.iconst 1, 1) := by decide +kernel
theorem dX12_drop_21 : decode cX12_drop 21 = .ok (.invokevirtual 67, 3) := by decide +kernel
theorem dX12_drop_24 : decode cX12_drop 24 = .ok (.ireturn, 1) := by decide +kernel
theorem dX12_drop_25 : decode cX12_drop 25 = .ok (.aload_n 0, 1) := by decide +kernel
theorem dX12_drop_26 : decode cX12_drop 26 = .ok (.getfield 7, 3) := by decide +kernel
theorem dX12_drop_29 : decode cX12_drop 29 = .ok (.iload_n 1, 1) := by decide +kernel
theorem dX12_drop_30 : decode cX12_drop 30 = .ok (.iconst (-1), 1) := by decide +kernel
theorem dX12_drop_31 : decode cX12_drop 31 = .ok (.iastore, 1) := by decide +kernel
theorem dX12_drop_32 : decode cX12_drop 32 = .ok (.aload_n 0, 1) := by decide +kernel
theorem dX12_drop_33 : decode cX12_drop 33 = .ok (.aload_n 0, 1) := by decide +kernel
theorem dX12_drop_34 : decode cX12_drop 34 = .ok (.getfield 13, 3) := by decide +kernel
theorem dX12_drop_37 : decode cX12_drop 37 = .ok (.iload_n 1, 1) := by decide +kernel
theorem dX12_drop_38 : decode cX12_drop 38 = .ok (.iaload, 1) := by decide +kernel
theorem dX12_drop_39 : decode cX12_drop 39 = .ok (.invokevirtual 71, 3) := by decide +kernel
theorem dX12_drop_42 : decode cX12_drop 42 = .ok (.ireturn, 1) := by decide +kernel
set_option maxRecDepth 20000 in
theorem ggX12_feed_X12_in : GoodIn wsX12_feed wsX12_in := goodIn_r _ [8] (by decide +kernel) (by decide +kernel)
set_option maxRecDepth 20000 in
theorem gX12_feed_X12_in : GoodIn wsX12_feed (va_wsS RX12 53 yX12_in wsX12_in) := goodIn_app (goodIn_of _ (by decide +kernel)) ggX12_feed_X12_in
theorem dX12_feed_0 : decode cX12_feed 0 = .ok (.iload_n 1, 1) := by decide +kernel
theorem dX12_feed_1 : decode cX12_feed 1 = .ok (.iconst 0, 1) := by decide +kernel
theorem dX12_feed_2 : decode cX12_feed 2 = .ok (.sipush 255, 3) := by decide +kernel
theorem dX12_feed_5 : decode cX12_feed 5 = .ok (.invokestatic 53, 3) := by decide +kernel
theorem dX12_feed_8 : decode cX12_feed 8 = .ok (.ifCond .ne 6, 3) := by decide +kernel
theorem dX12_feed_11 : decode cX12_feed 11 = .ok (.ldc 66, 2) := by decide +kernel
theorem dX12_feed_13 : decode cX12_feed 13 = .ok (.ireturn, 1) := by decide +kernel
theorem dX12_feed_14 : decode cX12_feed 14 = .ok (.aload_n 0, 1) := by decide +kernel
theorem dX12_feed_15 : decode cX12_feed 15 = .ok (.getfield 77, 3) := by decide +kernel
theorem dX12_feed_18 : decode cX12_feed 18 = .ok (.bipush 60, 2) := by decide +kernel
theorem dX12_feed_20 : decode cX12_feed 20 = .ok (.if_icmp .ne 6, 3) := by decide +kernel
theorem dX12_feed_23 : decode cX12_feed 23 = .ok (.ldc 80, 2) := by decide +kernel
theorem dX12_feed_25 : decode cX12_feed 25 = .ok (.ireturn, 1) := by decide +kernel
theorem dX12_feed_26 : decode cX12_feed 26 = .ok (.aload_n 0, 1) := by decide +kernel
theorem dX12_feed_27 : decode cX12_feed 27 = .ok (.getfield 19, 3) := by decide +kernel
theorem dX12_feed_30 : decode cX12_feed 30 = .ok (.aload_n 0, 1) := by decide +kernel
theorem dX12_feed_31 : decode cX12_feed 31 = .ok (.getfield 77, 3) := by decide +kernel
theorem dX12_feed_34 : decode cX12_feed 34 = .ok (.iload_n 1, 1) := by decide +kernel
theorem dX12_feed_35 : decode cX12_feed 35 = .ok (.iastore, 1) := by decide +kernel
theorem dX12_feed_36 : decode cX12_feed 36 = .ok (.aload_n 0, 1) := by decide +kernel
theorem dX12_feed_37 : decode cX12_feed 37 = .ok (.dup, 1) := by decide +kernel
theorem dX12_feed_38 : decode cX12_feed 38 = .ok (.getfield 77, 3) := by decide +kernel
theorem dX12_feed_41 : decode cX12_feed 41 = .ok (.iconst 1, 1) := by decide +kernel
theorem dX12_feed_42 : decode cX12_feed 42 = .ok (.iadd, 1) := by decide +kernel
theorem dX12_feed_43 : decode cX12_feed 43 = .ok (.putfield 77, 3) := by decide +kernel
theorem dX12_feed_46 : decode cX12_feed 46 = .ok (.aload_n 0, 1) := by decide +kernel
theorem dX12_feed_47 : decode cX12_feed 47 = .ok (.getfield 77, 3) := by decide +kernel
theorem dX12_feed_50 : decode cX12_feed 50 = .ok (.ireturn, 1) := by decide +kernel
set_option maxRecDepth 20000 in
theorem ggX12_nextToken_X12_in : GoodIn wsX12_nextToken wsX12_in := goodIn_r _ [10] (by decide +kernel) (by decide +kernel)
set_option maxRecDepth 20000 in
theorem gX12_nextToken_X12_in : GoodIn wsX12_nextToken (va_wsS RX12 53 yX12_in wsX12_in) := goodIn_app (goodIn_of _ (by decide +kernel)) ggX12_nextToken_X12_in
theorem dX12_nextToken_0 : decode cX12_nextToken 0 = .ok (.aload_n 0, 1) := by decide +kernel
theorem dX12_nextToken_1 : decode cX12_nextToken 1 = .ok (.aload_n 0, 1) := by decide +kernel
theorem dX12_nextToken_2 : decode cX12_nextToken 2 = .ok (.getfield 81, 3) := by decide +kernel
theorem dX12_nextToken_5 : decode cX12_nextToken 5 = .ok (.putfield 84, 3) := by decide +kernel
theorem dX12_nextToken_8 : decode cX12_nextToken 8 = .ok (.aload_n 0, 1) := by decide +kernel
theorem dX12_nextToken_9 : decode cX12_nextToken 9 = .ok (.iconst 0, 1) := by decide +kernel
theorem dX12_nextToken_10 : decode cX12_nextToken 10 = .ok (.putfield 87, 3) := by decide +kernel
theorem dX12_nextToken_13 : decode cX12_nextToken 13 = .ok (.aload_n 0, 1) := by decide +kernel
theorem dX12_nextToken_14 : decode cX12_nextToken 14 = .ok (.getfield 81, 3) := by decide +kernel
theorem dX12_nextToken_17 : decode cX12_nextToken 17 = .ok (.aload_n 0, 1) := by decide +kernel
theorem dX12_nextToken_18 : decode cX12_nextToken 18 = .ok (.getfield 77, 3) := by decide +kernel
theorem dX12_nextToken_21 : decode cX12_nextToken 21 = .ok (.if_icmp .ne 10, 3) := by decide +kernel
theorem dX12_nextToken_24 : decode cX12_nextToken 24 = .ok (.aload_n 0, 1) := by decide +kernel
theorem dX12_nextToken_25 : decode cX12_nextToken 25 = .ok (.bipush (-2), 2) := by decide +kernel
theorem dX12_nextToken_27 : decode cX12_nextToken 27 = .ok (.putfield 90, 3) := by decide +kernel
theorem dX12_nextToken_30 : decode cX12_nextToken 30 = .ok (.return_, 1) := by decide +kernel
theorem dX12_nextToken_31 : decode cX12_nextToken 31 = .ok (.aload_n 0, 1) := by decide +kernel
theorem dX12_nextToken_32 : decode cX12_nextToken 32 = .ok (.getfield 19, 3) := by decide +kernel
theorem dX12_nextToken_35 : decode cX12_nextToken 35 = .ok (.aload_n 0, 1) := by decide +kernel
theorem dX12_nextToken_36 : decode cX12_nextToken 36 = .ok (.getfield 81, 3) := by decide +kernel
theorem dX12_nextToken_39 : decode cX12_nextToken 39 = .ok (.iaload, 1) := by decide +kernel
theorem dX12_nextToken_40 : decode cX12_nextToken 40 = .ok (.istore_n 1, 1) := by decide +kernel
theorem dX12_nextToken_41 : decode cX12_nextToken 41 = .ok (.iload_n 1, 1) := by decide +kernel
theorem dX12_nextToken_42 : decode cX12_nextToken 42 = .ok (.bipush 48, 2) := by decide +kernel
theorem dX12_nextToken_44 : decode cX12_nextToken 44 = .ok (.bipush 57, 2) := by decide +kernel
theorem dX12_nextToken_46 : decode cX12_nextToken 46 = .ok (.invokestatic 53, 3) := by decide +kernel
theorem dX12_nextToken_49 : decode cX12_nextToken 49 = .ok (.ifCond .eq 114, 3) := by decide +kernel
theorem dX12_nextToken_52 : decode cX12_nextToken 52 = .ok (.aload_n 0, 1) := by decide +kernel
theorem dX12_nextToken_53 : decode cX12_nextToken 53 = .ok (.getfield 81, 3) := by decide +kernel
theorem dX12_nextToken_56 : decode cX12_nextToken 56 = .ok (.aload_n 0, 1) := by decide +kernel
theorem dX12_nextToken_57 : decode cX12_nextToken 57 = .ok (.getfield 77, 3) := by decide +kernel
theorem dX12_nextToken_60 : decode cX12_nextToken 60 = .ok (.if_icmp .ge 79, 3) := by decide +kernel
theorem dX12_nextToken_63 : decode cX12_nextToken 63 = .ok (.aload_n 0, 1) := by decide +kernel
theorem dX12_nextToken_64 : decode cX12_nextToken 64 = .ok (.getfield 19, 3) := by decide +kernel
theorem dX12_nextToken_67 : decode cX12_nextToken 67 = .ok (.aload_n 0, 1) := by decide +kernel
theorem dX12_nextToken_68 : decode cX12_nextToken 68 = .ok (.getfield 81, 3) := by decide +kernel
theorem dX12_nextToken_71 : decode cX12_nextToken 71 = .ok (.iaload, 1) := by decide +kernel
theorem dX12_nextToken_72 : decode cX12_nextToken 72 = .ok (.bipush 48, 2) := by decide +kernel
theorem dX12_nextToken_74 : decode cX12_nextToken 74 = .ok (.bipush 57, 2) := by decide +kernel
theorem dX12_nextToken_76 : decode cX12_nextToken 76 = .ok (.invokestatic 53, 3) := by decide +kernel
theorem dX12_nextToken_79 : decode cX12_nextToken 79 = .ok (.ifCond .eq 60, 3) := by decide +kernel
theorem dX12_nextToken_82 : decode cX12_nextToken 82 = .ok (.aload_n 0, 1) := by decide +kernel
theorem dX12_nextToken_83 : decode cX12_nextToken 83 = .ok (.aload_n 0, 1) := by decide +kernel
theorem dX12_nextToken_84 : decode cX12_nextToken 84 = .ok (.getfield 81, 3) := by decide +kernel
theorem dX12_nextToken_87 : decode cX12_nextToken 87 = .ok (.aload_n 0, 1) := by decide +kernel
theorem dX12_nextToken_88 : decode cX12_nextToken 88 = .ok (.getfield 84, 3) := by decide +kernel
theorem dX12_nextToken_91 : decode cX12_nextToken 91 = .ok (.isub, 1) := by decide +kernel
theorem dX12_nextToken_92 : decode cX12_nextToken 92 = .ok (.iconst 2, 1) := by decide +kernel
theorem dX12_nextToken_93 : decode cX12_nextToken 93 = .ok (.if_icmp .ge 26, 3) := by decide +kernel
theorem dX12_nextToken_96 : decode cX12_nextToken 96 = .ok (.bipush 10, 2) := by decide +kernel
theorem dX12_nextToken_98 : decode cX12_nextToken 98 = .ok (.aload_n 0, 1) := by decide +kernel
theorem dX12_nextToken_99 : decode cX12_nextToken 99 = .ok (.getfield 87, 3) := by decide +kernel
theorem dX12_nextToken_102 : decode cX12_nextToken 102 = .ok (.imul, 1) := by decide +kernel
theorem dX12_nextToken_103 : decode cX12_nextToken 103 = .ok (.aload_n 0, 1) := by decide +kernel
theorem dX12_nextToken_104 : decode cX12_nextToken 104 = .ok (.getfield 19, 3) := by decide +kernel
theorem dX12_nextToken_107 : decode cX12_nextToken 107 = .ok (.aload_n 0, 1) := by decide +kernel
theorem dX12_nextToken_108 : decode cX12_nextToken 108 = .ok (.getfield 81, 3) := by decide +kernel
theorem dX12_nextToken_111 : decode cX12_nextToken 111 = .ok (.iaload, 1) := by decide +kernel
theorem dX12_nextToken_112 : decode cX12_nextToken 112 = .ok (.iadd, 1) := by decide +kernel
theorem dX12_nextToken_113 : decode cX12_nextToken 113 = .ok (.bipush 48, 2) := by decide +kernel
theorem dX12_nextToken_115 : decode cX12_nextToken 115 = .ok (.isub, 1) := by decide +kernel
theorem dX12_nextToken_116 : decode cX12_nextToken 116 = .ok (.goto 7, 3) := by decide +kernel
theorem dX12_nextToken_119 : decode cX12_nextToken 119 = .ok (.aload_n 0, 1) := by decide +kernel
theorem dX12_nextToken_120 : decode cX12_nextToken 120 = .ok (.getfield 87, 3) := by decide +kernel
theorem dX12_nextToken_123 : decode cX12_nextToken 123 = .ok (.putfield 87, 3) := by decide +kernel
theorem dX12_nextToken_126 : decode cX12_nextToken 126 = .ok (.aload_n 0, 1) := by decide +kernel
theorem dX12_nextToken_127 : decode cX12_nextToken 127 = .ok (.dup, 1) := by decide +kernel
theorem dX12_nextToken_128 : decode cX12_nextToken 128 = .ok (.getfield 81, 3) := by decide +kernel
theorem dX12_nextToken_131 : decode cX12_nextToken 131 = .ok (.iconst 1, 1) := by decide +kernel
theorem dX12_nextToken_132 : decode cX12_nextToken 132 = .ok (.iadd, 1) := by decide +kernel
theorem dX12_nextToken_133 : decode cX12_nextToken 133 = .ok (.putfield 81, 3) := by decide +kernel
theorem dX12_nextToken_136 : decode cX12_nextToken 136 = .ok (.goto (-84), 3) := by decide +kernel
theorem dX12_nextToken_139 : decode cX12_nextToken 139 = .ok (.aload_n 0, 1) := by decide +kernel
theorem dX12_nextToken_140 : decode cX12_nextToken 140 = .ok (.aload_n 0, 1) := by decide +kernel
theorem dX12_nextToken_141 : decode cX12_nextToken 141 = .ok (.getfield 81, 3) := by decide +kernel
theorem dX12_nextToken_144 : decode cX12_nextToken 144 = .ok (.aload_n 0, 1) := by decide +kernel
theorem dX12_nextToken_145 : decode cX12_nextToken 145 = .ok (.getfield 84, 3) := by decide +kernel
theorem dX12_nextToken_148 : decode cX12_nextToken 148 = .ok (.isub, 1) := by decide +kernel
theorem dX12_nextToken_149 : decode cX12_nextToken 149 = .ok (.iconst 2, 1) := by decide +kernel
theorem dX12_nextToken_150 : decode cX12_nextToken 150 = .ok (.if_icmp .le 8, 3) := by decide +kernel
theorem dX12_nextToken_153 : decode cX12_nextToken 153 = .ok (.bipush (-3), 2) := by decide +kernel
theorem dX12_nextToken_155 : decode cX12_nextToken 155 = .ok (.goto 4, 3) := by decide +kernel
theorem dX12_nextToken_158 : decode cX12_nextToken 158 = .ok (.iconst (-1), 1) := by decide +kernel
theorem dX12_nextToken_159 : decode cX12_nextToken 159 = .ok (.putfield 90, 3) := by decide +kernel
theorem dX12_nextToken_162 : decode cX12_nextToken 162 = .ok (.return_, 1) := by decide +kernel
theorem dX12_nextToken_163 : decode cX12_nextToken 163 = .ok (.aload_n 0, 1) := by decide +kernel
theorem dX12_nextToken_164 : decode cX12_nextToken 164 = .ok (.iload_n 1, 1) := by decide +kernel
theorem dX12_nextToken_165 : decode cX12_nextToken 165 = .ok (.bipush 97, 2) := by decide +kernel
theorem dX12_nextToken_167 : decode cX12_nextToken 167 = .ok (.bipush 122, 2) := by decide +kernel
theorem dX12_nextToken_169 : decode cX12_nextToken 169 = .ok (.invokestatic 53, 3) := by decide +kernel
theorem dX12_nextToken_172 : decode cX12_nextToken 172 = .ok (.ifCond .ne 15, 3) := by decide +kernel
theorem dX12_nextToken_175 : decode cX12_nextToken 175 = .ok (.iload_n 1, 1) := by decide +kernel
theorem dX12_nextToken_176 : decode cX12_nextToken 176 = .ok (.bipush 44, 2) := by decide +kernel
theorem dX12_nextToken_178 : decode cX12_nextToken 178 = .ok (.if_icmp .eq 9, 3) := by decide +kernel
theorem dX12_nextToken_181 : decode cX12_nextToken 181 = .ok (.iload_n 1, 1) := by decide +kernel
theorem dX12_nextToken_182 : decode cX12_nextToken 182 = .ok (.bipush 59, 2) := by decide +kernel
theorem dX12_nextToken_184 : decode cX12_nextToken 184 = .ok (.if_icmp .ne 7, 3) := by decide +kernel
theorem dX12_nextToken_187 : decode cX12_nextToken 187 = .ok (.iload_n 1, 1) := by decide +kernel
theorem dX12_nextToken_188 : decode cX12_nextToken 188 = .ok (.goto 5, 3) := by decide +kernel
theorem dX12_nextToken_191 : decode cX12_nextToken 191 = .ok (.bipush (-3), 2) := by decide +kernel
theorem dX12_nextToken_193 : decode cX12_nextToken 193 = .ok (.putfield 90, 3) := by decide +kernel
theorem dX12_nextToken_196 : decode cX12_nextToken 196 = .ok (.aload_n 0, 1) := by decide +kernel
theorem dX12_nextToken_197 : decode cX12_nextToken 197 = .ok (.dup, 1) := by decide +kernel
theorem dX12_nextToken_198 : decode cX12_nextToken 198 = .ok (.getfield 81, 3) := by decide +kernel
theorem dX12_nextToken_201 : decode cX12_nextToken 201 = .ok (.iconst 1, 1) := by decide +kernel
theorem dX12_nextToken_202 : decode cX12_nextToken 202 = .ok (.iadd, 1) := by decide +kernel
theorem dX12_nextToken_203 : decode cX12_nextToken 203 = .ok (.putfield 81, 3) := by decide +kernel
theorem dX12_nextToken_206 : decode cX12_nextToken 206 = .ok (.return_, 1) := by decide +kernel
theorem dX12_fails_0 : decode cX12_fails 0 = .ok (.aload_n 0, 1) := by decide +kernel
theorem dX12_fails_1 : decode cX12_fails 1 = .ok (.iload_n 1, 1) := by decide +kernel
theorem dX12_fails_2 : decode cX12_fails 2 = .ok (.putfield 93, 3) := by decide +kernel
theorem dX12_fails_5 : decode cX12_fails 5 = .ok (.iconst 0, 1) := by decide +kernel
theorem dX12_fails_6 : decode cX12_fails 6 = .ok (.ireturn, 1) := by decide +kernel
set_option maxRecDepth 20000 in
theorem ggX12_isSign_X12_nextToken : GoodIn wsX12_isSign wsX12_nextToken := goodIn_r _ [6, 7, 8, 9, 10, 1, 11, 12, 13, 5, 14, 20, 21, 22, 23, 24, 25, 26, 27, 28, 29, 30, 31, 32, 33, 34, 35, 36, 37, 38, 39, 40, 41, 42, 43] (by decide +kernel) (by decide +kernel)
set_option maxRecDepth 20000 in
theorem gX12_isSign_X12_nextToken : GoodIn wsX12_isSign (wsV RX12 96 RX12 yX12_nextToken wsX12_nextToken) := goodIn_app (goodIn_of _ (by decide +kernel)) ggX12_isSign_X12_nextToken
set_option maxRecDepth 20000 in
theorem ggX12_isSign_X12_fails : GoodIn wsX12_isSign wsX12_fails := goodIn_r _ [18, 19, 20, 21, 22, 23, 24, 25, 26, 27, 28, 29, 30, 31, 32, 33, 34, 35, 36, 37, 38, 39, 40, 41, 42, 43] (by decide +kernel) (by decide +kernel)
set_option maxRecDepth 20000 in
theorem gX12_isSign_X12_fails : GoodIn wsX12_isSign (wsV RX12 99 RX12 yX12_fails wsX12_fails) := goodIn_app (goodIn_of _ (by decide +kernel)) ggX12_isSign_X12_fails
theorem dX12_isSign_0 : decode cX12_isSign 0 = .ok (.aload_n 0, 1) := by decide +kernel
theorem dX12_isSign_1 : decode cX12_isSign 1 = .ok (.invokevirtual 96, 3) := by decide +kernel
theorem dX12_isSign_4 : decode cX12_isSign 4 = .ok (.aload_n 0, 1) := by decide +kernel
theorem dX12_isSign_5 : decode cX12_isSign 5 = .ok (.getfield 90, 3) := by decide +kernel
theorem dX12_isSign_8 : decode cX12_isSign 8 = .ok (.iload_n 1, 1) := by decide +kernel
theorem dX12_isSign_9 : decode cX12_isSign 9 = .ok (.if_icmp .eq 11, 3) := by decide +kernel
theorem dX12_isSign_12 : decode cX12_isSign 12 = .ok (.aload_n 0, 1) := by decide +kernel
theorem dX12_isSign_13 : decode cX12_isSign 13 = .ok (.iconst 1, 1) := by decide +kernel
theorem dX12_isSign_14 : decode cX12_isSign 14 = .ok (.invokevirtual 99, 3) := by decide +kernel
theorem dX12_isSign_17 : decode cX12_isSign 17 = .ok (.ifCond .eq 7, 3) := by decide +kernel
theorem dX12_isSign_20 : decode cX12_isSign 20 = .ok (.iconst 1, 1) := by decide +kernel
theorem dX12_isSign_21 : decode cX12_isSign 21 = .ok (.goto 4, 3) := by decide +kernel
theorem dX12_isSign_24 : decode cX12_isSign 24 = .ok (.iconst 0, 1) := by decide +kernel
theorem dX12_isSign_25 : decode cX12_isSign 25 = .ok (.ireturn, 1) := by decide +kernel
set_option maxRecDepth 20000 in
theorem ggX12_isNumber_X12_nextToken : GoodIn wsX12_isNumber wsX12_nextToken := goodIn_r _ [7, 8, 9, 2, 10, 1, 11, 12, 13, 6, 14, 20, 21, 22, 23, 24, 25, 26, 27, 28, 29, 30, 31, 32, 33, 34, 35, 36, 37, 38, 39, 40, 41, 42, 43] (by decide +kernel) (by decide +kernel)
set_option maxRecDepth 20000 in
theorem gX12_isNumber_X12_nextToken : GoodIn wsX12_isNumber (wsV RX12 96 RX12 yX12_nextToken wsX12_nextToken) := goodIn_app (goodIn_of _ (by decide +kernel)) ggX12_isNumber_X12_nextToken
set_option maxRecDepth 20000 in
theorem ggX12_isNumber_X12_fails : GoodIn wsX12_isNumber wsX12_fails := goodIn_r _ [18, 19, 20, 21, 22, 23, 24, 25, 26, 27, 28, 29, 30, 31, 32, 33, 34, 35, 36, 37, 38, 39, 40, 41, 42, 43] (by decide +kernel) (by decide +kernel)
set_option maxRecDepth 20000 in
theorem gX12_isNumber_X12_fails : GoodIn wsX12_isNumber (wsV RX12 99 RX12 yX12_fails wsX12_fails) := goodIn_app (goodIn_of _ (by decide +kernel)) ggX12_isNumber_X12_fails
set_option maxRecDepth 20000 in
theorem ggX12_isNumber_X12_in : GoodIn wsX12_isNumber wsX12_in := goodIn_r _ [14] (by decide +kernel) (by decide +kernel)
set_option maxRecDepth 20000 in
theorem gX12_isNumber_X12_in : GoodIn wsX12_isNumber (va_wsS RX12 53 yX12_in wsX12_in) := goodIn_app (goodIn_of _ (by decide +kernel)) ggX12_isNumber_X12_in
theorem dX12_isNumber_0 : decode cX12_isNumber 0 = .ok (.aload_n 0, 1) := by decide +kernel
theorem dX12_isNumber_1 : decode cX12_isNumber 1 = .ok (.invokevirtual 96, 3) := by decide +kernel
theorem dX12_isNumber_4 : decode cX12_isNumber 4 = .ok (.aload_n 0, 1) := by decide +kernel
theorem dX12_isNumber_5 : decode cX12_isNumber 5 = .ok (.getfield 90, 3) := by decide +kernel
theorem dX12_isNumber_8 : decode cX12_isNumber 8 = .ok (.iconst (-1), 1) := by decide +kernel
theorem dX12_isNumber_9 : decode cX12_isNumber 9 = .ok (.if_icmp .eq 9, 3) := by decide +kernel
theorem dX12_isNumber_12 : decode cX12_isNumber 12 = .ok (.aload_n 0, 1) := by decide +kernel
theorem dX12_isNumber_13 : decode cX12_isNumber 13 = .ok (.iconst 1, 1) := by decide +kernel
theorem dX12_isNumber_14 : decode cX12_isNumber 14 = .ok (.invokevirtual 99, 3) := by decide +kernel
theorem dX12_isNumber_17 : decode cX12_isNumber 17 = .ok (.ireturn, 1) := by decide +kernel
theorem dX12_isNumber_18 : decode cX12_isNumber 18 = .ok (.aload_n 0, 1) := by decide +kernel
theorem dX12_isNumber_19 : decode cX12_isNumber 19 = .ok (.getfield 87, 3) := by decide +kernel
theorem dX12_isNumber_22 : decode cX12_isNumber 22 = .ok (.iload_n 1, 1) := by decide +kernel
theorem dX12_isNumber_23 : decode cX12_isNumber 23 = .ok (.iload_n 2, 1) := by decide +kernel
theorem dX12_isNumber_24 : decode cX12_isNumber 24 = .ok (.invokestatic 53, 3) := by decide +kernel
theorem dX12_isNumber_27 : decode cX12_isNumber 27 = .ok (.ifCond .ne 11, 3) := by decide +kernel
theorem dX12_isNumber_30 : decode cX12_isNumber 30 = .ok (.aload_n 0, 1) := by decide +kernel
theorem dX12_isNumber_31 : decode cX12_isNumber 31 = .ok (.iconst 2, 1) := by decide +kernel
theorem dX12_isNumber_32 : decode cX12_isNumber 32 = .ok (.invokevirtual 99, 3) := by decide +kernel
theorem dX12_isNumber_35 : decode cX12_isNumber 35 = .ok (.ifCond .eq 7, 3) := by decide +kernel
theorem dX12_isNumber_38 : decode cX12_isNumber 38 = .ok (.iconst 1, 1) := by decide +kernel
theorem dX12_isNumber_39 : decode cX12_isNumber 39 = .ok (.goto 4, 3) := by decide +kernel
theorem dX12_isNumber_42 : decode cX12_isNumber 42 = .ok (.iconst 0, 1) := by decide +kernel
theorem dX12_isNumber_43 : decode cX12_isNumber 43 = .ok (.ireturn, 1) := by decide +kernel
theorem dX12_sortBy_0 : decode cX12_sortBy 0 = .ok (.iload_n 0, 1) := by decide +kernel
theorem dX12_sortBy_1 : decode cX12_sortBy 1 = .ok (.bipush 102, 2) := by decide +kernel
theorem dX12_sortBy_3 : decode cX12_sortBy 3 = .ok (.if_icmp .ne 7, 3) := by decide +kernel
theorem dX12_sortBy_6 : decode cX12_sortBy 6 = .ok (.iconst 1, 1) := by decide +kernel
theorem dX12_sortBy_7 : decode cX12_sortBy 7 = .ok (.goto 44, 3) := by decide +kernel
theorem dX12_sortBy_10 : decode cX12_sortBy 10 = .ok (.iload_n 0, 1) := by decide +kernel
theorem dX12_sortBy_11 : decode cX12_sortBy 11 = .ok (.bipush 111, 2) := by decide +kernel
theorem dX12_sortBy_13 : decode cX12_sortBy 13 = .ok (.if_icmp .ne 7, 3) := by decide +kernel
theorem dX12_sortBy_16 : decode cX12_sortBy 16 = .ok (.iconst 2, 1) := by decide +kernel
theorem dX12_sortBy_17 : decode cX12_sortBy 17 = .ok (.goto 34, 3) := by decide +kernel
theorem dX12_sortBy_20 : decode cX12_sortBy 20 = .ok (.iload_n 0, 1) := by decide +kernel
theorem dX12_sortBy_21 : decode cX12_sortBy 21 = .ok (.bipush 119, 2) := by decide +kernel
theorem dX12_sortBy_23 : decode cX12_sortBy 23 = .ok (.if_icmp .ne 7, 3) := by decide +kernel
theorem dX12_sortBy_26 : decode cX12_sortBy 26 = .ok (.iconst 3, 1) := by decide +kernel
theorem dX12_sortBy_27 : decode cX12_sortBy 27 = .ok (.goto 24, 3) := by decide +kernel
theorem dX12_sortBy_30 : decode cX12_sortBy 30 = .ok (.iload_n 0, 1) := by decide +kernel
theorem dX12_sortBy_31 : decode cX12_sortBy 31 = .ok (.bipush 114, 2) := by decide +kernel
theorem dX12_sortBy_33 : decode cX12_sortBy 33 = .ok (.if_icmp .ne 7, 3) := by decide +kernel
theorem dX12_sortBy_36 : decode cX12_sortBy 36 = .ok (.iconst 4, 1) := by decide +kernel
theorem dX12_sortBy_37 : decode cX12_sortBy 37 = .ok (.goto 14, 3) := by decide +kernel
theorem dX12_sortBy_40 : decode cX12_sortBy 40 = .ok (.iload_n 0, 1) := by decide +kernel
theorem dX12_sortBy_41 : decode cX12_sortBy 41 = .ok (.bipush 98, 2) := by decide +kernel
theorem dX12_sortBy_43 : decode cX12_sortBy 43 = .ok (.if_icmp .ne 7, 3) := by decide +kernel
theorem dX12_sortBy_46 : decode cX12_sortBy 46 = .ok (.iconst 5, 1) := by decide +kernel
theorem dX12_sortBy_47 : decode cX12_sortBy 47 = .ok (.goto 4, 3) := by decide +kernel
theorem dX12_sortBy_50 : decode cX12_sortBy 50 = .ok (.iconst 0, 1) := by decide +kernel
theorem dX12_sortBy_51 : decode cX12_sortBy 51 = .ok (.ireturn, 1) := by decide +kernel
theorem dX12_inDrawer_0 : decode cX12_inDrawer 0 = .ok (.iconst 0, 1) := by decide +kernel
theorem dX12_inDrawer_1 : decode cX12_inDrawer 1 = .ok (.istore_n 2, 1) := by decide +kernel
theorem dX12_inDrawer_2 : decode cX12_inDrawer 2 = .ok (.iconst 0, 1) := by decide +kernel
theorem dX12_inDrawer_3 : decode cX12_inDrawer 3 = .ok (.istore_n 3, 1) := by decide +kernel
theorem dX12_inDrawer_4 : decode cX12_inDrawer 4 = .ok (.iload_n 3, 1) := by decide +kernel
theorem dX12_inDrawer_5 : decode cX12_inDrawer 5 = .ok (.aload_n 0, 1) := by decide +kernel
theorem dX12_inDrawer_6 : decode cX12_inDrawer 6 = .ok (.iconst 3, 1) := by decide +kernel
theorem dX12_inDrawer_7 : decode cX12_inDrawer 7 = .ok (.iaload, 1) := by decide +kernel
theorem dX12_inDrawer_8 : decode cX12_inDrawer 8 = .ok (.if_icmp .ge 27, 3) := by decide +kernel
theorem dX12_inDrawer_11 : decode cX12_inDrawer 11 = .ok (.iload_n 2, 1) := by decide +kernel
theorem dX12_inDrawer_12 : decode cX12_inDrawer 12 = .ok (.aload_n 0, 1) := by decide +kernel
theorem dX12_inDrawer_13 : decode cX12_inDrawer 13 = .ok (.bipush 21, 2) := by decide +kernel
theorem dX12_inDrawer_15 : decode cX12_inDrawer 15 = .ok (.iload_n 3, 1) := by decide +kernel
theorem dX12_inDrawer_16 : decode cX12_inDrawer 16 = .ok (.iadd, 1) := by decide +kernel
theorem dX12_inDrawer_17 : decode cX12_inDrawer 17 = .ok (.iaload, 1) := by decide +kernel
theorem dX12_inDrawer_18 : decode cX12_inDrawer 18 = .ok (.iload_n 1, 1) := by decide +kernel
theorem dX12_inDrawer_19 : decode cX12_inDrawer 19 = .ok (.if_icmp .ne 7, 3) := by decide +kernel
theorem dX12_inDrawer_22 : decode cX12_inDrawer 22 = .ok (.iconst 1, 1) := by decide +kernel
theorem dX12_inDrawer_23 : decode cX12_inDrawer 23 = .ok (.goto 4, 3) := by decide +kernel
theorem dX12_inDrawer_26 : decode cX12_inDrawer 26 = .ok (.iconst 0, 1) := by decide +kernel
theorem dX12_inDrawer_27 : decode cX12_inDrawer 27 = .ok (.iadd, 1) := by decide +kernel
theorem dX12_inDrawer_28 : decode cX12_inDrawer 28 = .ok (.istore_n 2, 1) := by decide +kernel
theorem dX12_inDrawer_29 : decode cX12_inDrawer 29 = .ok (.iinc 3 1, 3) := by decide +kernel
theorem dX12_inDrawer_32 : decode cX12_inDrawer 32 = .ok (.goto (-28), 3) := by decide +kernel
theorem dX12_inDrawer_35 : decode cX12_inDrawer 35 = .ok (.iload_n 2, 1) := by decide +kernel
theorem dX12_inDrawer_36 : decode cX12_inDrawer 36 = .ok (.ireturn, 1) := by decide +kernel
set_option maxRecDepth 20000 in
theorem ggX12_isLaw_X12_isSign : GoodIn wsX12_isLaw wsX12_isSign := goodIn_r _ [7, 8, 9, 10, 11, 6, 12, 13, 14, 2, 15, 16, 17, 18, 19, 20, 21, 22, 23, 24, 29, 30, 31, 32, 33, 34, 35, 36, 37, 38, 39, 40, 41, 42, 43, 44, 45, 46, 47, 48, 49, 50, 51, 52] (by decide +kernel) (by decide +kernel)
set_option maxRecDepth 20000 in
theorem gX12_isLaw_X12_isSign : GoodIn wsX12_isLaw (wsV RX12 102 RX12 yX12_isSign wsX12_isSign) := goodIn_app (goodIn_of _ (by decide +kernel)) ggX12_isLaw_X12_isSign
set_option maxRecDepth 20000 in
theorem ggX12_isLaw_X12_isNumber : GoodIn wsX12_isLaw wsX12_isNumber := goodIn_r _ [28, 8, 2, 9, 10, 11, 6, 12, 13, 14, 15, 16, 17, 18, 19, 20, 21, 22, 23, 24, 29, 30, 31, 32, 33, 34, 35, 36, 37, 38, 39, 40, 41, 42, 43, 44, 45, 46, 47, 48, 49, 50, 51, 52] (by decide +kernel) (by decide +kernel)
set_option maxRecDepth 20000 in
theorem gX12_isLaw_X12_isNumber : GoodIn wsX12_isLaw (wsV RX12 105 RX12 yX12_isNumber wsX12_isNumber) := goodIn_app (goodIn_of _ (by decide +kernel)) ggX12_isLaw_X12_isNumber
theorem dX12_isLaw_0 : decode cX12_isLaw 0 = .ok (.aload_n 0, 1) := by decide +kernel
theorem dX12_isLaw_1 : decode cX12_isLaw 1 = .ok (.bipush 99, 2) := by decide +kernel
theorem dX12_isLaw_3 : decode cX12_isLaw 3 = .ok (.invokevirtual 102, 3) := by decide +kernel
theorem dX12_isLaw_6 : decode cX12_isLaw 6 = .ok (.ifCond .eq 13, 3) := by decide +kernel
theorem dX12_isLaw_9 : decode cX12_isLaw 9 = .ok (.aload_n 0, 1) := by decide +kernel
theorem dX12_isLaw_10 : decode cX12_isLaw 10 = .ok (.iconst 2, 1) := by decide +kernel
theorem dX12_isLaw_11 : decode cX12_isLaw 11 = .ok (.bipush 6, 2) := by decide +kernel
theorem dX12_isLaw_13 : decode cX12_isLaw 13 = .ok (.invokevirtual 105, 3) := by decide +kernel
theorem dX12_isLaw_16 : decode cX12_isLaw 16 = .ok (.ifCond .ne 5, 3) := by decide +kernel
theorem dX12_isLaw_19 : decode cX12_isLaw 19 = .ok (.iconst 0, 1) := by decide +kernel
theorem dX12_isLaw_20 : decode cX12_isLaw 20 = .ok (.ireturn, 1) := by decide +kernel
theorem dX12_isLaw_21 : decode cX12_isLaw 21 = .ok (.aload_n 0, 1) := by decide +kernel
theorem dX12_isLaw_22 : decode cX12_isLaw 22 = .ok (.getfield 25, 3) := by decide +kernel
theorem dX12_isLaw_25 : decode cX12_isLaw 25 = .ok (.iconst 1, 1) := by decide +kernel
theorem dX12_isLaw_26 : decode cX12_isLaw 26 = .ok (.aload_n 0, 1) := by decide +kernel
theorem dX12_isLaw_27 : decode cX12_isLaw 27 = .ok (.getfield 87, 3) := by decide +kernel
theorem dX12_isLaw_30 : decode cX12_isLaw 30 = .ok (.iastore, 1) := by decide +kernel
theorem dX12_isLaw_31 : decode cX12_isLaw 31 = .ok (.aload_n 0, 1) := by decide +kernel
theorem dX12_isLaw_32 : decode cX12_isLaw 32 = .ok (.bipush 44, 2) := by decide +kernel
theorem dX12_isLaw_34 : decode cX12_isLaw 34 = .ok (.invokevirtual 102, 3) := by decide +kernel
theorem dX12_isLaw_37 : decode cX12_isLaw 37 = .ok (.ifCond .eq 13, 3) := by decide +kernel
theorem dX12_isLaw_40 : decode cX12_isLaw 40 = .ok (.aload_n 0, 1) := by decide +kernel
theorem dX12_isLaw_41 : decode cX12_isLaw 41 = .ok (.iconst 1, 1) := by decide +kernel
theorem dX12_isLaw_42 : decode cX12_isLaw 42 = .ok (.bipush 8, 2) := by decide +kernel
theorem dX12_isLaw_44 : decode cX12_isLaw 44 = .ok (.invokevirtual 105, 3) := by decide +kernel
theorem dX12_isLaw_47 : decode cX12_isLaw 47 = .ok (.ifCond .ne 5, 3) := by decide +kernel
theorem dX12_isLaw_50 : decode cX12_isLaw 50 = .ok (.iconst 0, 1) := by decide +kernel
theorem dX12_isLaw_51 : decode cX12_isLaw 51 = .ok (.ireturn, 1) := by decide +kernel
theorem dX12_isLaw_52 : decode cX12_isLaw 52 = .ok (.aload_n 0, 1) := by decide +kernel
theorem dX12_isLaw_53 : decode cX12_isLaw 53 = .ok (.getfield 25, 3) := by decide +kernel
theorem dX12_isLaw_56 : decode cX12_isLaw 56 = .ok (.iconst 2, 1) := by decide +kernel
theorem dX12_isLaw_57 : decode cX12_isLaw 57 = .ok (.aload_n 0, 1) := by decide +kernel
theorem dX12_isLaw_58 : decode cX12_isLaw 58 = .ok (.getfield 87, 3) := by decide +kernel
theorem dX12_isLaw_61 : decode cX12_isLaw 61 = .ok (.iastore, 1) := by decide +kernel
theorem dX12_isLaw_62 : decode cX12_isLaw 62 = .ok (.aload_n 0, 1) := by decide +kernel
theorem dX12_isLaw_63 : decode cX12_isLaw 63 = .ok (.bipush 59, 2) := by decide +kernel
theorem dX12_isLaw_65 : decode cX12_isLaw 65 = .ok (.invokevirtual 102, 3) := by decide +kernel
theorem dX12_isLaw_68 : decode cX12_isLaw 68 = .ok (.ireturn, 1) := by decide +kernel
set_option maxRecDepth 20000 in
theorem ggX12_isCard_X12_sortBy : GoodIn wsX12_isCard wsX12_sortBy := goodIn_r _ [7] (by decide +kernel) (by decide +kernel)
set_option maxRecDepth 20000 in
theorem gX12_isCard_X12_sortBy : GoodIn wsX12_isCard (va_wsS RX12 109 yX12_sortBy wsX12_sortBy) := goodIn_app (goodIn_of _ (by decide +kernel)) ggX12_isCard_X12_sortBy
set_option maxRecDepth 20000 in
theorem ggX12_isCard_X12_fails : GoodIn wsX12_isCard wsX12_fails := goodIn_r _ [11, 12, 35, 36, 37, 38, 39, 40, 41, 42, 43, 44, 45, 46, 47, 48, 49, 50, 51, 52, 53, 54, 55, 56, 57, 58] (by decide +kernel) (by decide +kernel)
set_option maxRecDepth 20000 in
theorem gX12_isCard_X12_fails : GoodIn wsX12_isCard (wsV RX12 99 RX12 yX12_fails wsX12_fails) := goodIn_app (goodIn_of _ (by decide +kernel)) ggX12_isCard_X12_fails
set_option maxRecDepth 20000 in
theorem ggX12_isCard_X12_isNumber : GoodIn wsX12_isCard wsX12_isNumber := goodIn_r _ [16, 1, 3, 17, 18, 19, 6, 20, 21, 22, 23, 24, 25, 26, 27, 8, 9, 10, 11, 12, 35, 36, 37, 38, 39, 40, 41, 42, 43, 44, 45, 46, 47, 48, 49, 50, 51, 52, 53, 54, 55, 56, 57, 58] (by decide +kernel) (by decide +kernel)
set_option maxRecDepth 20000 in
theorem gX12_isCard_X12_isNumber : GoodIn wsX12_isCard (wsV RX12 105 RX12 yX12_isNumber wsX12_isNumber) := goodIn_app (goodIn_of _ (by decide +kernel)) ggX12_isCard_X12_isNumber
set_option maxRecDepth 20000 in
theorem ggX12_isCard_X12_inDrawer : GoodIn wsX12_isCard wsX12_inDrawer := goodIn_r _ [30] (by decide +kernel) (by decide +kernel)
set_option maxRecDepth 20000 in
theorem gX12_isCard_X12_inDrawer : GoodIn wsX12_isCard (va_wsS RX12 112 yX12_inDrawer wsX12_inDrawer) := goodIn_app (goodIn_of _ (by decide +kernel)) ggX12_isCard_X12_inDrawer
set_option maxRecDepth 20000 in
theorem ggX12_isCard_X12_isSign : GoodIn wsX12_isCard wsX12_isSign := goodIn_r _ [34, 1, 17, 18, 19, 6, 20, 21, 22, 3, 23, 24, 25, 26, 27, 8, 9, 10, 11, 12, 35, 36, 37, 38, 39, 40, 41, 42, 43, 44, 45, 46, 47, 48, 49, 50, 51, 52, 53, 54, 55, 56, 57, 58] (by decide +kernel) (by decide +kernel)
set_option maxRecDepth 20000 in
theorem gX12_isCard_X12_isSign : GoodIn wsX12_isCard (wsV RX12 102 RX12 yX12_isSign wsX12_isSign) := goodIn_app (goodIn_of _ (by decide +kernel)) ggX12_isCard_X12_isSign
theorem dX12_isCard_0 : decode cX12_isCard 0 = .ok (.aload_n 0, 1) := by decide +kernel
theorem dX12_isCard_1 : decode cX12_isCard 1 = .ok (.getfield 90, 3) := by decide +kernel
theorem dX12_isCard_4 : decode cX12_isCard 4 = .ok (.ifCond .le 13, 3) := by decide +kernel
theorem dX12_isCard_7 : decode cX12_isCard 7 = .ok (.aload_n 0, 1) := by decide +kernel
theorem dX12_isCard_8 : decode cX12_isCard 8 = .ok (.getfield 90, 3) := by decide +kernel
theorem dX12_isCard_11 : decode cX12_isCard 11 = .ok (.invokestatic 109, 3) := by decide +kernel
theorem dX12_isCard_14 : decode cX12_isCard 14 = .ok (.goto 4, 3) := by decide +kernel
theorem dX12_isCard_17 : decode cX12_isCard 17 = .ok (.iconst 0, 1) := by decide +kernel
theorem dX12_isCard_18 : decode cX12_isCard 18 = .ok (.istore_n 1, 1) := by decide +kernel
theorem dX12_isCard_19 : decode cX12_isCard 19 = .ok (.iload_n 1, 1) := by decide +kernel
theorem dX12_isCard_20 : decode cX12_isCard 20 = .ok (.ifCond .ne 9, 3) := by decide +kernel
theorem dX12_isCard_23 : decode cX12_isCard 23 = .ok (.aload_n 0, 1) := by decide +kernel
theorem dX12_isCard_24 : decode cX12_isCard 24 = .ok (.iconst 1, 1) := by decide +kernel
theorem dX12_isCard_25 : decode cX12_isCard 25 = .ok (.invokevirtual 99, 3) := by decide +kernel
theorem dX12_isCard_28 : decode cX12_isCard 28 = .ok (.ireturn, 1) := by decide +kernel
theorem dX12_isCard_29 : decode cX12_isCard 29 = .ok (.aload_n 0, 1) := by decide +kernel
theorem dX12_isCard_30 : decode cX12_isCard 30 = .ok (.getfield 25, 3) := by decide +kernel
theorem dX12_isCard_33 : decode cX12_isCard 33 = .ok (.iconst 3, 1) := by decide +kernel
theorem dX12_isCard_34 : decode cX12_isCard 34 = .ok (.iaload, 1) := by decide +kernel
theorem dX12_isCard_35 : decode cX12_isCard 35 = .ok (.istore_n 2, 1) := by decide +kernel
theorem dX12_isCard_36 : decode cX12_isCard 36 = .ok (.iload_n 2, 1) := by decide +kernel
theorem dX12_isCard_37 : decode cX12_isCard 37 = .ok (.bipush 8, 2) := by decide +kernel
theorem dX12_isCard_39 : decode cX12_isCard 39 = .ok (.if_icmp .ne 9, 3) := by decide +kernel
theorem dX12_isCard_42 : decode cX12_isCard 42 = .ok (.aload_n 0, 1) := by decide +kernel
theorem dX12_isCard_43 : decode cX12_isCard 43 = .ok (.iconst 3, 1) := by decide +kernel
theorem dX12_isCard_44 : decode cX12_isCard 44 = .ok (.invokevirtual 99, 3) := by decide +kernel
theorem dX12_isCard_47 : decode cX12_isCard 47 = .ok (.ireturn, 1) := by decide +kernel
theorem dX12_isCard_48 : decode cX12_isCard 48 = .ok (.aload_n 0, 1) := by decide +kernel
theorem dX12_isCard_49 : decode cX12_isCard 49 = .ok (.iconst 0, 1) := by decide +kernel
theorem dX12_isCard_50 : decode cX12_isCard 50 = .ok (.aload_n 0, 1) := by decide +kernel
theorem dX12_isCard_51 : decode cX12_isCard 51 = .ok (.getfield 25, 3) := by decide +kernel
theorem dX12_isCard_54 : decode cX12_isCard 54 = .ok (.iconst 1, 1) := by decide +kernel
theorem dX12_isCard_55 : decode cX12_isCard 55 = .ok (.iaload, 1) := by decide +kernel
theorem dX12_isCard_56 : decode cX12_isCard 56 = .ok (.iconst 1, 1) := by decide +kernel
theorem dX12_isCard_57 : decode cX12_isCard 57 = .ok (.isub, 1) := by decide +kernel
theorem dX12_isCard_58 : decode cX12_isCard 58 = .ok (.invokevirtual 105, 3) := by decide +kernel
theorem dX12_isCard_61 : decode cX12_isCard 61 = .ok (.ifCond .ne 5, 3) := by decide +kernel
theorem dX12_isCard_64 : decode cX12_isCard 64 = .ok (.iconst 0, 1) := by decide +kernel
theorem dX12_isCard_65 : decode cX12_isCard 65 = .ok (.ireturn, 1) := by decide +kernel
theorem dX12_isCard_66 : decode cX12_isCard 66 = .ok (.aload_n 0, 1) := by decide +kernel
theorem dX12_isCard_67 : decode cX12_isCard 67 = .ok (.getfield 87, 3) := by decide +kernel
theorem dX12_isCard_70 : decode cX12_isCard 70 = .ok (.istore_n 3, 1) := by decide +kernel
theorem dX12_isCard_71 : decode cX12_isCard 71 = .ok (.aload_n 0, 1) := by decide +kernel
theorem dX12_isCard_72 : decode cX12_isCard 72 = .ok (.getfield 25, 3) := by decide +kernel
theorem dX12_isCard_75 : decode cX12_isCard 75 = .ok (.iload_n 3, 1) := by decide +kernel
theorem dX12_isCard_76 : decode cX12_isCard 76 = .ok (.invokestatic 112, 3) := by decide +kernel
theorem dX12_isCard_79 : decode cX12_isCard 79 = .ok (.aload_n 0, 1) := by decide +kernel
theorem dX12_isCard_80 : decode cX12_isCard 80 = .ok (.getfield 25, 3) := by decide +kernel
theorem dX12_isCard_83 : decode cX12_isCard 83 = .ok (.iconst 2, 1) := by decide +kernel
theorem dX12_isCard_84 : decode cX12_isCard 84 = .ok (.iaload, 1) := by decide +kernel
theorem dX12_isCard_85 : decode cX12_isCard 85 = .ok (.if_icmp .lt 9, 3) := by decide +kernel
theorem dX12_isCard_88 : decode cX12_isCard 88 = .ok (.aload_n 0, 1) := by decide +kernel
theorem dX12_isCard_89 : decode cX12_isCard 89 = .ok (.iconst 2, 1) := by decide +kernel
theorem dX12_isCard_90 : decode cX12_isCard 90 = .ok (.invokevirtual 99, 3) := by decide +kernel
theorem dX12_isCard_93 : decode cX12_isCard 93 = .ok (.ireturn, 1) := by decide +kernel
theorem dX12_isCard_94 : decode cX12_isCard 94 = .ok (.aload_n 0, 1) := by decide +kernel
theorem dX12_isCard_95 : decode cX12_isCard 95 = .ok (.bipush 44, 2) := by decide +kernel
theorem dX12_isCard_97 : decode cX12_isCard 97 = .ok (.invokevirtual 102, 3) := by decide +kernel
theorem dX12_isCard_100 : decode cX12_isCard 100 = .ok (.ifCond .eq 13, 3) := by decide +kernel
theorem dX12_isCard_103 : decode cX12_isCard 103 = .ok (.aload_n 0, 1) := by decide +kernel
theorem dX12_isCard_104 : decode cX12_isCard 104 = .ok (.iconst 0, 1) := by decide +kernel
theorem dX12_isCard_105 : decode cX12_isCard 105 = .ok (.bipush 7, 2) := by decide +kernel
theorem dX12_isCard_107 : decode cX12_isCard 107 = .ok (.invokevirtual 105, 3) := by decide +kernel
theorem dX12_isCard_110 : decode cX12_isCard 110 = .ok (.ifCond .ne 5, 3) := by decide +kernel
theorem dX12_isCard_113 : decode cX12_isCard 113 = .ok (.iconst 0, 1) := by decide +kernel
theorem dX12_isCard_114 : decode cX12_isCard 114 = .ok (.ireturn, 1) := by decide +kernel
theorem dX12_isCard_115 : decode cX12_isCard 115 = .ok (.aload_n 0, 1) := by decide +kernel
theorem dX12_isCard_116 : decode cX12_isCard 116 = .ok (.getfield 87, 3) := by decide +kernel
theorem dX12_isCard_119 : decode cX12_isCard 119 = .ok (.iload_n 2, 1) := by decide +kernel
theorem dX12_isCard_120 : decode cX12_isCard 120 = .ok (.if_icmp .ne 9, 3) := by decide +kernel
theorem dX12_isCard_123 : decode cX12_isCard 123 = .ok (.aload_n 0, 1) := by decide +kernel
theorem dX12_isCard_124 : decode cX12_isCard 124 = .ok (.iconst 2, 1) := by decide +kernel
theorem dX12_isCard_125 : decode cX12_isCard 125 = .ok (.invokevirtual 99, 3) := by decide +kernel
theorem dX12_isCard_128 : decode cX12_isCard 128 = .ok (.ireturn, 1) := by decide +kernel
theorem dX12_isCard_129 : decode cX12_isCard 129 = .ok (.aload_n 0, 1) := by decide +kernel
theorem dX12_isCard_130 : decode cX12_isCard 130 = .ok (.getfield 25, 3) := by decide +kernel
theorem dX12_isCard_133 : decode cX12_isCard 133 = .ok (.bipush 29, 2) := by decide +kernel
theorem dX12_isCard_135 : decode cX12_isCard 135 = .ok (.iload_n 2, 1) := by decide +kernel
theorem dX12_isCard_136 : decode cX12_isCard 136 = .ok (.iadd, 1) := by decide +kernel
theorem dX12_isCard_137 : decode cX12_isCard 137 = .ok (.aload_n 0, 1) := by decide +kernel
theorem dX12_isCard_138 : decode cX12_isCard 138 = .ok (.getfield 25, 3) := by decide +kernel
theorem dX12_isCard_141 : decode cX12_isCard 141 = .ok (.iload_n 3, 1) := by decide +kernel
theorem dX12_isCard_142 : decode cX12_isCard 142 = .ok (.invokestatic 112, 3) := by decide +kernel
theorem dX12_isCard_145 : decode cX12_isCard 145 = .ok (.iastore, 1) := by decide +kernel
theorem dX12_isCard_146 : decode cX12_isCard 146 = .ok (.aload_n 0, 1) := by decide +kernel
theorem dX12_isCard_147 : decode cX12_isCard 147 = .ok (.getfield 25, 3) := by decide +kernel
theorem dX12_isCard_150 : decode cX12_isCard 150 = .ok (.bipush 21, 2) := by decide +kernel
theorem dX12_isCard_152 : decode cX12_isCard 152 = .ok (.iload_n 2, 1) := by decide +kernel
theorem dX12_isCard_153 : decode cX12_isCard 153 = .ok (.iadd, 1) := by decide +kernel
theorem dX12_isCard_154 : decode cX12_isCard 154 = .ok (.iload_n 3, 1) := by decide +kernel
theorem dX12_isCard_155 : decode cX12_isCard 155 = .ok (.iastore, 1) := by decide +kernel
theorem dX12_isCard_156 : decode cX12_isCard 156 = .ok (.aload_n 0, 1) := by decide +kernel
theorem dX12_isCard_157 : decode cX12_isCard 157 = .ok (.getfield 25, 3) := by decide +kernel
theorem dX12_isCard_160 : decode cX12_isCard 160 = .ok (.iconst 5, 1) := by decide +kernel
theorem dX12_isCard_161 : decode cX12_isCard 161 = .ok (.iload_n 2, 1) := by decide +kernel
theorem dX12_isCard_162 : decode cX12_isCard 162 = .ok (.iadd, 1) := by decide +kernel
theorem dX12_isCard_163 : decode cX12_isCard 163 = .ok (.iload_n 1, 1) := by decide +kernel
theorem dX12_isCard_164 : decode cX12_isCard 164 = .ok (.iastore, 1) := by decide +kernel
theorem dX12_isCard_165 : decode cX12_isCard 165 = .ok (.aload_n 0, 1) := by decide +kernel
theorem dX12_isCard_166 : decode cX12_isCard 166 = .ok (.getfield 25, 3) := by decide +kernel
theorem dX12_isCard_169 : decode cX12_isCard 169 = .ok (.bipush 13, 2) := by decide +kernel
theorem dX12_isCard_171 : decode cX12_isCard 171 = .ok (.iload_n 2, 1) := by decide +kernel
theorem dX12_isCard_172 : decode cX12_isCard 172 = .ok (.iadd, 1) := by decide +kernel
theorem dX12_isCard_173 : decode cX12_isCard 173 = .ok (.aload_n 0, 1) := by decide +kernel
theorem dX12_isCard_174 : decode cX12_isCard 174 = .ok (.getfield 87, 3) := by decide +kernel
theorem dX12_isCard_177 : decode cX12_isCard 177 = .ok (.iastore, 1) := by decide +kernel
theorem dX12_isCard_178 : decode cX12_isCard 178 = .ok (.aload_n 0, 1) := by decide +kernel
theorem dX12_isCard_179 : decode cX12_isCard 179 = .ok (.getfield 25, 3) := by decide +kernel
theorem dX12_isCard_182 : decode cX12_isCard 182 = .ok (.iconst 3, 1) := by decide +kernel
theorem dX12_isCard_183 : decode cX12_isCard 183 = .ok (.dup2, 1) := by decide +kernel
theorem dX12_isCard_184 : decode cX12_isCard 184 = .ok (.iaload, 1) := by decide +kernel
theorem dX12_isCard_185 : decode cX12_isCard 185 = .ok (.iconst 1, 1) := by decide +kernel
theorem dX12_isCard_186 : decode cX12_isCard 186 = .ok (.iadd, 1) := by decide +kernel
theorem dX12_isCard_187 : decode cX12_isCard 187 = .ok (.iastore, 1) := by decide +kernel
theorem dX12_isCard_188 : decode cX12_isCard 188 = .ok (.aload_n 0, 1) := by decide +kernel
theorem dX12_isCard_189 : decode cX12_isCard 189 = .ok (.bipush 59, 2) := by decide +kernel
theorem dX12_isCard_191 : decode cX12_isCard 191 = .ok (.invokevirtual 102, 3) := by decide +kernel
theorem dX12_isCard_194 : decode cX12_isCard 194 = .ok (.ireturn, 1) := by decide +kernel
set_option maxRecDepth 20000 in
theorem ggX12_isRead_X12_isLaw : GoodIn wsX12_isRead wsX12_isLaw := goodIn_r _ [8, 1, 9, 10, 11, 12, 7, 13, 3, 14, 15, 16, 17, 2, 18, 19, 20, 21, 22, 23, 24, 25, 26, 27, 28, 29, 30, 31, 32, 43, 44, 45, 46, 47, 48, 49, 50, 51, 52, 53, 54, 55, 56, 57, 58, 59, 60, 61, 62, 63, 64, 65, 66] (by decide +kernel) (by decide +kernel)
set_option maxRecDepth 20000 in
theorem gX12_isRead_X12_isLaw : GoodIn wsX12_isRead (wsV RX12 116 RX12 yX12_isLaw wsX12_isLaw) := goodIn_app (goodIn_of _ (by decide +kernel)) ggX12_isRead_X12_isLaw
set_option maxRecDepth 20000 in
theorem ggX12_isRead_X12_nextToken : GoodIn wsX12_isRead wsX12_nextToken := goodIn_r _ [17, 2, 18, 9, 19, 3, 20, 21, 22, 7, 23, 43, 44, 45, 46, 47, 48, 49, 50, 51, 52, 53, 54, 55, 56, 57, 58, 59, 60, 61, 62, 63, 64, 65, 66] (by decide +kernel) (by decide +kernel)
set_option maxRecDepth 20000 in
theorem gX12_isRead_X12_nextToken : GoodIn wsX12_isRead (wsV RX12 96 RX12 yX12_nextToken wsX12_nextToken) := goodIn_app (goodIn_of _ (by decide +kernel)) ggX12_isRead_X12_nextToken
set_option maxRecDepth 20000 in
theorem ggX12_isRead_X12_fails : GoodIn wsX12_isRead wsX12_fails := goodIn_r _ [27, 28, 43, 44, 45, 46, 47, 48, 49, 50, 51, 52, 53, 54, 55, 56, 57, 58, 59, 60, 61, 62, 63, 64, 65, 66] (by decide +kernel) (by decide +kernel)
set_option maxRecDepth 20000 in
theorem gX12_isRead_X12_fails : GoodIn wsX12_isRead (wsV RX12 99 RX12 yX12_fails wsX12_fails) := goodIn_app (goodIn_of _ (by decide +kernel)) ggX12_isRead_X12_fails
set_option maxRecDepth 20000 in
theorem ggX12_isRead_X12_isCard : GoodIn wsX12_isRead wsX12_isCard := goodIn_r _ [36, 3, 1, 9, 37, 38, 7, 39, 24, 25, 26, 27, 28, 29, 30, 31, 32, 14, 15, 16, 17, 2, 18, 19, 20, 21, 22, 23, 40, 41, 42, 10, 11, 12, 13, 43, 44, 45, 46, 47, 48, 49, 50, 51, 52, 53, 54, 55, 56, 57, 58, 59, 60, 61, 62, 63, 64, 65, 66] (by decide +kernel) (by decide +kernel)
set_option maxRecDepth 20000 in
theorem gX12_isRead_X12_isCard : GoodIn wsX12_isRead (wsV RX12 120 RX12 yX12_isCard wsX12_isCard) := goodIn_app (goodIn_of _ (by decide +kernel)) ggX12_isRead_X12_isCard
theorem dX12_isRead_0 : decode cX12_isRead 0 = .ok (.iconst 0, 1) := by decide +kernel
theorem dX12_isRead_1 : decode cX12_isRead 1 = .ok (.istore_n 1, 1) := by decide +kernel
theorem dX12_isRead_2 : decode cX12_isRead 2 = .ok (.iload_n 1, 1) := by decide +kernel
theorem dX12_isRead_3 : decode cX12_isRead 3 = .ok (.bipush 37, 2) := by decide +kernel
theorem dX12_isRead_5 : decode cX12_isRead 5 = .ok (.if_icmp .ge 16, 3) := by decide +kernel
theorem dX12_isRead_8 : decode cX12_isRead 8 = .ok (.aload_n 0, 1) := by decide +kernel
theorem dX12_isRead_9 : decode cX12_isRead 9 = .ok (.getfield 25, 3) := by decide +kernel
theorem dX12_isRead_12 : decode cX12_isRead 12 = .ok (.iload_n 1, 1) := by decide +kernel
theorem dX12_isRead_13 : decode cX12_isRead 13 = .ok (.iconst 0, 1) := by decide +kernel
theorem dX12_isRead_14 : decode cX12_isRead 14 = .ok (.iastore, 1) := by decide +kernel
theorem dX12_isRead_15 : decode cX12_isRead 15 = .ok (.iinc 1 1, 3) := by decide +kernel
theorem dX12_isRead_18 : decode cX12_isRead 18 = .ok (.goto (-16), 3) := by decide +kernel
theorem dX12_isRead_21 : decode cX12_isRead 21 = .ok (.aload_n 0, 1) := by decide +kernel
theorem dX12_isRead_22 : decode cX12_isRead 22 = .ok (.iconst 0, 1) := by decide +kernel
theorem dX12_isRead_23 : decode cX12_isRead 23 = .ok (.putfield 81, 3) := by decide +kernel
theorem dX12_isRead_26 : decode cX12_isRead 26 = .ok (.aload_n 0, 1) := by decide +kernel
theorem dX12_isRead_27 : decode cX12_isRead 27 = .ok (.getfield 25, 3) := by decide +kernel
theorem dX12_isRead_30 : decode cX12_isRead 30 = .ok (.iconst 4, 1) := by decide +kernel
theorem dX12_isRead_31 : decode cX12_isRead 31 = .ok (.iconst 1, 1) := by decide +kernel
theorem dX12_isRead_32 : decode cX12_isRead 32 = .ok (.iastore, 1) := by decide +kernel
theorem dX12_isRead_33 : decode cX12_isRead 33 = .ok (.aload_n 0, 1) := by decide +kernel
theorem dX12_isRead_34 : decode cX12_isRead 34 = .ok (.invokevirtual 116, 3) := by decide +kernel
theorem dX12_isRead_37 : decode cX12_isRead 37 = .ok (.ifCond .ne 5, 3) := by decide +kernel
theorem dX12_isRead_40 : decode cX12_isRead 40 = .ok (.iconst 0, 1) := by decide +kernel
theorem dX12_isRead_41 : decode cX12_isRead 41 = .ok (.ireturn, 1) := by decide +kernel
theorem dX12_isRead_42 : decode cX12_isRead 42 = .ok (.aload_n 0, 1) := by decide +kernel
theorem dX12_isRead_43 : decode cX12_isRead 43 = .ok (.invokevirtual 96, 3) := by decide +kernel
theorem dX12_isRead_46 : decode cX12_isRead 46 = .ok (.aload_n 0, 1) := by decide +kernel
theorem dX12_isRead_47 : decode cX12_isRead 47 = .ok (.getfield 90, 3) := by decide +kernel
theorem dX12_isRead_50 : decode cX12_isRead 50 = .ok (.bipush (-2), 2) := by decide +kernel
theorem dX12_isRead_52 : decode cX12_isRead 52 = .ok (.if_icmp .ne 9, 3) := by decide +kernel
theorem dX12_isRead_55 : decode cX12_isRead 55 = .ok (.aload_n 0, 1) := by decide +kernel
theorem dX12_isRead_56 : decode cX12_isRead 56 = .ok (.iconst 1, 1) := by decide +kernel
theorem dX12_isRead_57 : decode cX12_isRead 57 = .ok (.invokevirtual 99, 3) := by decide +kernel
theorem dX12_isRead_60 : decode cX12_isRead 60 = .ok (.ireturn, 1) := by decide +kernel
theorem dX12_isRead_61 : decode cX12_isRead 61 = .ok (.aload_n 0, 1) := by decide +kernel
theorem dX12_isRead_62 : decode cX12_isRead 62 = .ok (.getfield 90, 3) := by decide +kernel
theorem dX12_isRead_65 : decode cX12_isRead 65 = .ok (.bipush (-2), 2) := by decide +kernel
theorem dX12_isRead_67 : decode cX12_isRead 67 = .ok (.if_icmp .eq 19, 3) := by decide +kernel
theorem dX12_isRead_70 : decode cX12_isRead 70 = .ok (.aload_n 0, 1) := by decide +kernel
theorem dX12_isRead_71 : decode cX12_isRead 71 = .ok (.invokevirtual 120, 3) := by decide +kernel
theorem dX12_isRead_74 : decode cX12_isRead 74 = .ok (.ifCond .ne 5, 3) := by decide +kernel
theorem dX12_isRead_77 : decode cX12_isRead 77 = .ok (.iconst 0, 1) := by decide +kernel
theorem dX12_isRead_78 : decode cX12_isRead 78 = .ok (.ireturn, 1) := by decide +kernel
theorem dX12_isRead_79 : decode cX12_isRead 79 = .ok (.aload_n 0, 1) := by decide +kernel
theorem dX12_isRead_80 : decode cX12_isRead 80 = .ok (.invokevirtual 96, 3) := by decide +kernel
theorem dX12_isRead_83 : decode cX12_isRead 83 = .ok (.goto (-22), 3) := by decide +kernel
theorem dX12_isRead_86 : decode cX12_isRead 86 = .ok (.iconst 1, 1) := by decide +kernel
theorem dX12_isRead_87 : decode cX12_isRead 87 = .ok (.ireturn, 1) := by decide +kernel
set_option maxRecDepth 20000 in
theorem ggX12_catalogue_X12_isRead : GoodIn wsX12_catalogue wsX12_isRead := goodIn_r _ [13, 6, 14, 15, 16, 17, 18, 12, 19, 20, 21, 22, 23, 24, 25, 26, 27, 28, 5, 1, 29, 30, 31, 32, 33, 34, 35, 36, 2, 37, 38, 39, 40, 41, 42, 43, 44, 45, 46, 47, 48, 49, 50, 54, 55, 56, 57, 58, 59, 60, 61, 62, 63, 64, 65, 66, 67, 68, 69, 70, 71, 72, 73, 74, 75, 76, 77] (by decide +kernel) (by decide +kernel)
set_option maxRecDepth 20000 in
theorem gX12_catalogue_X12_isRead : GoodIn wsX12_catalogue (wsV RX12 123 RX12 yX12_isRead wsX12_isRead) := goodIn_app (goodIn_of _ (by decide +kernel)) ggX12_catalogue_X12_isRead
set_option maxRecDepth 20000 in
theorem ggX12_catalogue_X12_lay : GoodIn wsX12_catalogue wsX12_lay := goodIn_r _ [53] (by decide +kernel) (by decide +kernel)
set_option maxRecDepth 20000 in
theorem gX12_catalogue_X12_lay : GoodIn wsX12_catalogue (va_wsS RX12 130 yX12_lay wsX12_lay) := goodIn_app (goodIn_of _ (by decide +kernel)) ggX12_catalogue_X12_lay
theorem dX12_catalogue_0 : decode cX12_catalogue 0 = .ok (.aload_n 0, 1) := by decide +kernel
