theorem dX0_init_0 : decode cX0_init 0 = .ok (.aload_n 0, 1) := by decide +kernel
theorem dX0_init_1 : decode cX0_init 1 = .ok (.invokespecial 3, 3) := by decide +kernel
theorem dX0_init_4 : decode cX0_init 4 = .ok (.aload_n 0, 1) := by decide +kernel
theorem dX0_init_5 : decode cX0_init 5 = .ok (.bipush 16, 2) := by decide +kernel
theorem dX0_init_7 : decode cX0_init 7 = .ok (.newarray .int, 2) := by decide +kernel
theorem dX0_init_9 : decode cX0_init 9 = .ok (.putfield 11, 3) := by decide +kernel
theorem dX0_init_12 : decode cX0_init 12 = .ok (.return_, 1) := by decide +kernel
theorem dX0_start_0 : decode cX0_start 0 = .ok (.aload_n 0, 1) := by decide +kernel
theorem dX0_start_1 : decode cX0_start 1 = .ok (.iconst 0, 1) := by decide +kernel
theorem dX0_start_2 : decode cX0_start 2 = .ok (.putfield 15, 3) := by decide +kernel
theorem dX0_start_5 : decode cX0_start 5 = .ok (.aload_n 0, 1) := by decide +kernel
theorem dX0_start_6 : decode cX0_start 6 = .ok (.iload_n 1, 1) := by decide +kernel
theorem dX0_start_7 : decode cX0_start 7 = .ok (.putfield 19, 3) := by decide +kernel
theorem dX0_start_10 : decode cX0_start 10 = .ok (.aload_n 0, 1) := by decide +kernel
theorem dX0_start_11 : decode cX0_start 11 = .ok (.iload_n 2, 1) := by decide +kernel
theorem dX0_start_12 : decode cX0_start 12 = .ok (.putfield 22, 3) := by decide +kernel
theorem dX0_start_15 : decode cX0_start 15 = .ok (.aload_n 0, 1) := by decide +kernel
theorem dX0_start_16 : decode cX0_start 16 = .ok (.iload_n 3, 1) := by decide +kernel
theorem dX0_start_17 : decode cX0_start 17 = .ok (.putfield 25, 3) := by decide +kernel
theorem dX0_start_20 : decode cX0_start 20 = .ok (.return_, 1) := by decide +kernel
theorem dX0_begin_0 : decode cX0_begin 0 = .ok (.aload_n 0, 1) := by decide +kernel
theorem dX0_begin_1 : decode cX0_begin 1 = .ok (.getfield 15, 3) := by decide +kernel
theorem dX0_begin_4 : decode cX0_begin 4 = .ok (.bipush 16, 2) := by decide +kernel
theorem dX0_begin_6 : decode cX0_begin 6 = .ok (.if_icmp .lt 4, 3) := by decide +kernel
theorem dX0_begin_9 : decode cX0_begin 9 = .ok (.return_, 1) := by decide +kernel
theorem dX0_begin_10 : decode cX0_begin 10 = .ok (.aload_n 0, 1) := by decide +kernel
theorem dX0_begin_11 : decode cX0_begin 11 = .ok (.getfield 11, 3) := by decide +kernel
theorem dX0_begin_14 : decode cX0_begin 14 = .ok (.aload_n 0, 1) := by decide +kernel
theorem dX0_begin_15 : decode cX0_begin 15 = .ok (.getfield 15, 3) := by decide +kernel
theorem dX0_begin_18 : decode cX0_begin 18 = .ok (.iload_n 1, 1) := by decide +kernel
theorem dX0_begin_19 : decode cX0_begin 19 = .ok (.iastore, 1) := by decide +kernel
theorem dX0_begin_20 : decode cX0_begin 20 = .ok (.aload_n 0, 1) := by decide +kernel
theorem dX0_begin_21 : decode cX0_begin 21 = .ok (.dup, 1) := by decide +kernel
theorem dX0_begin_22 : decode cX0_begin 22 = .ok (.getfield 15, 3) := by decide +kernel
theorem dX0_begin_25 : decode cX0_begin 25 = .ok (.iconst 1, 1) := by decide +kernel
theorem dX0_begin_26 : decode cX0_begin 26 = .ok (.iadd, 1) := by decide +kernel
theorem dX0_begin_27 : decode cX0_begin 27 = .ok (.putfield 15, 3) := by decide +kernel
theorem dX0_begin_30 : decode cX0_begin 30 = .ok (.return_, 1) := by decide +kernel
set_option maxRecDepth 20000 in
theorem ggX0_begun_X11_within : GoodIn wsX0_begun wsX11_within := goodIn_r _ [6] (by decide +kernel) (by decide +kernel)
set_option maxRecDepth 20000 in
theorem gX0_begun_X11_within_n28 : GoodIn wsX0_begun (wsX11_within) := ggX0_begun_X11_within
theorem dX0_begun_0 : decode cX0_begun 0 = .ok (.iload_n 1, 1) := by decide +kernel
theorem dX0_begun_1 : decode cX0_begun 1 = .ok (.iconst 0, 1) := by decide +kernel
theorem dX0_begun_2 : decode cX0_begun 2 = .ok (.aload_n 0, 1) := by decide +kernel
theorem dX0_begun_3 : decode cX0_begun 3 = .ok (.getfield 15, 3) := by decide +kernel
theorem dX0_begun_6 : decode cX0_begun 6 = .ok (.iconst 1, 1) := by decide +kernel
theorem dX0_begun_7 : decode cX0_begun 7 = .ok (.isub, 1) := by decide +kernel
theorem dX0_begun_8 : decode cX0_begun 8 = .ok (.invokestatic 28, 3) := by decide +kernel
theorem dX0_begun_11 : decode cX0_begun 11 = .ok (.ifCond .eq 12, 3) := by decide +kernel
theorem dX0_begun_14 : decode cX0_begun 14 = .ok (.aload_n 0, 1) := by decide +kernel
theorem dX0_begun_15 : decode cX0_begun 15 = .ok (.getfield 11, 3) := by decide +kernel
theorem dX0_begun_18 : decode cX0_begun 18 = .ok (.iload_n 1, 1) := by decide +kernel
theorem dX0_begun_19 : decode cX0_begun 19 = .ok (.iaload, 1) := by decide +kernel
theorem dX0_begun_20 : decode cX0_begun 20 = .ok (.goto 5, 3) := by decide +kernel
theorem dX0_begun_23 : decode cX0_begun 23 = .ok (.ldc 32, 2) := by decide +kernel
theorem dX0_begun_25 : decode cX0_begun 25 = .ok (.ireturn, 1) := by decide +kernel
set_option maxRecDepth 20000 in
theorem ggX1_init_X7_init : GoodIn wsX1_init wsX7_init := goodIn_r _ [3, 4, 5, 6, 7, 8, 9] (by decide +kernel) (by decide +kernel)
set_option maxRecDepth 20000 in
theorem gX1_init_X7_init_n3 : GoodIn wsX1_init (wsX7_init) := ggX1_init_X7_init
theorem dX1_init_0 : decode cX1_init 0 = .ok (.aload_n 0, 1) := by decide +kernel
theorem dX1_init_1 : decode cX1_init 1 = .ok (.invokespecial 3, 3) := by decide +kernel
theorem dX1_init_4 : decode cX1_init 4 = .ok (.return_, 1) := by decide +kernel
theorem dX1_number_0 : decode cX1_number 0 = .ok (.iconst 5, 1) := by decide +kernel
theorem dX1_number_1 : decode cX1_number 1 = .ok (.ireturn, 1) := by decide +kernel
theorem dX1_letter_0 : decode cX1_letter 0 = .ok (.bipush 98, 2) := by decide +kernel
theorem dX1_letter_2 : decode cX1_letter 2 = .ok (.ireturn, 1) := by decide +kernel
set_option maxRecDepth 20000 in
theorem ggX1_wander_X9_cardAt : GoodIn wsX1_wander wsX9_cardAt := goodIn_r _ [6, 7, 8, 9, 10, 15, 16, 17, 18, 19, 20, 21, 22] (by decide +kernel) (by decide +kernel)
set_option maxRecDepth 20000 in
theorem gX1_wander_X9_cardAt : GoodIn wsX1_wander (wsV RX1 18 RX9 yX9_cardAt wsX9_cardAt) := goodIn_app (goodIn_of _ (by decide +kernel)) ggX1_wander_X9_cardAt
set_option maxRecDepth 20000 in
theorem ggX1_wander_X9_changePlaces : GoodIn wsX1_wander wsX9_changePlaces := goodIn_r _ [14, 9, 15, 16, 17, 18, 19, 20, 21, 22] (by decide +kernel) (by decide +kernel)
set_option maxRecDepth 20000 in
theorem gX1_wander_X9_changePlaces : GoodIn wsX1_wander (wsV RX1 23 RX9 yX9_changePlaces wsX9_changePlaces) := goodIn_app (goodIn_of _ (by decide +kernel)) ggX1_wander_X9_changePlaces
theorem dX1_wander_0 : decode cX1_wander 0 = .ok (.aload_n 1, 1) := by decide +kernel
theorem dX1_wander_1 : decode cX1_wander 1 = .ok (.aload_n 1, 1) := by decide +kernel
theorem dX1_wander_2 : decode cX1_wander 2 = .ok (.getfield 9, 3) := by decide +kernel
theorem dX1_wander_5 : decode cX1_wander 5 = .ok (.iload_n 2, 1) := by decide +kernel
theorem dX1_wander_6 : decode cX1_wander 6 = .ok (.iaload, 1) := by decide +kernel
theorem dX1_wander_7 : decode cX1_wander 7 = .ok (.aload_n 1, 1) := by decide +kernel
theorem dX1_wander_8 : decode cX1_wander 8 = .ok (.getfield 15, 3) := by decide +kernel
theorem dX1_wander_11 : decode cX1_wander 11 = .ok (.iload_n 2, 1) := by decide +kernel
theorem dX1_wander_12 : decode cX1_wander 12 = .ok (.iaload, 1) := by decide +kernel
theorem dX1_wander_13 : decode cX1_wander 13 = .ok (.iconst 1, 1) := by decide +kernel
theorem dX1_wander_14 : decode cX1_wander 14 = .ok (.isub, 1) := by decide +kernel
theorem dX1_wander_15 : decode cX1_wander 15 = .ok (.invokevirtual 18, 3) := by decide +kernel
theorem dX1_wander_18 : decode cX1_wander 18 = .ok (.istore_n 3, 1) := by decide +kernel
theorem dX1_wander_19 : decode cX1_wander 19 = .ok (.iload_n 3, 1) := by decide +kernel
theorem dX1_wander_20 : decode cX1_wander 20 = .ok (.ldc 22, 2) := by decide +kernel
theorem dX1_wander_22 : decode cX1_wander 22 = .ok (.if_icmp .eq 9, 3) := by decide +kernel
theorem dX1_wander_25 : decode cX1_wander 25 = .ok (.aload_n 1, 1) := by decide +kernel
theorem dX1_wander_26 : decode cX1_wander 26 = .ok (.iload_n 2, 1) := by decide +kernel
theorem dX1_wander_27 : decode cX1_wander 27 = .ok (.iload_n 3, 1) := by decide +kernel
theorem dX1_wander_28 : decode cX1_wander 28 = .ok (.invokevirtual 23, 3) := by decide +kernel
theorem dX1_wander_31 : decode cX1_wander 31 = .ok (.return_, 1) := by decide +kernel
set_option maxRecDepth 20000 in
theorem ggX1_size_X0_begin : GoodIn wsX1_size wsX0_begin := goodIn_r _ [5, 6, 7, 22, 23, 24, 25, 26] (by decide +kernel) (by decide +kernel)
set_option maxRecDepth 20000 in
theorem gX1_size_X0_begin : GoodIn wsX1_size (wsV RX1 27 RX0 yX0_begin wsX0_begin) := goodIn_app (goodIn_of _ (by decide +kernel)) ggX1_size_X0_begin
set_option maxRecDepth 20000 in
theorem ggX1_size_X7_size : GoodIn wsX1_size wsX7_size := goodIn_r _ [13, 14, 2, 3, 4, 5, 6, 7, 15, 16, 17, 18, 19, 20, 21, 22, 23, 24, 25, 26] (by decide +kernel) (by decide +kernel)
set_option maxRecDepth 20000 in
theorem gX1_size_X7_size_s33 : GoodIn wsX1_size (va_wsSU RX1 33 yX7_size wsX7_size) := goodIn_app (goodIn_of _ (by decide +kernel)) ggX1_size_X7_size
theorem dX1_size_0 : decode cX1_size 0 = .ok (.aload_n 1, 1) := by decide +kernel
theorem dX1_size_1 : decode cX1_size 1 = .ok (.bipush 14, 2) := by decide +kernel
theorem dX1_size_3 : decode cX1_size 3 = .ok (.invokevirtual 27, 3) := by decide +kernel
theorem dX1_size_6 : decode cX1_size 6 = .ok (.iconst 2, 1) := by decide +kernel
theorem dX1_size_7 : decode cX1_size 7 = .ok (.aload_n 0, 1) := by decide +kernel
theorem dX1_size_8 : decode cX1_size 8 = .ok (.aload_n 1, 1) := by decide +kernel
theorem dX1_size_9 : decode cX1_size 9 = .ok (.invokespecial 33, 3) := by decide +kernel
theorem dX1_size_12 : decode cX1_size 12 = .ok (.imul, 1) := by decide +kernel
theorem dX1_size_13 : decode cX1_size 13 = .ok (.ireturn, 1) := by decide +kernel
set_option maxRecDepth 20000 in
theorem ggX2_init_X9_init : GoodIn wsX2_init wsX9_init := goodIn_r _ [14, 15, 2, 3, 16, 17, 9, 18, 19, 20, 21, 22, 23, 24, 25, 26, 27, 28] (by decide +kernel) (by decide +kernel)
set_option maxRecDepth 20000 in
theorem gX2_init_X9_init_n11 : GoodIn wsX2_init (wsX9_init) := ggX2_init_X9_init
theorem dX2_init_0 : decode cX2_init 0 = .ok (.aload_n 0, 1) := by decide +kernel
theorem dX2_init_1 : decode cX2_init 1 = .ok (.invokespecial 3, 3) := by decide +kernel
theorem dX2_init_4 : decode cX2_init 4 = .ok (.aload_n 0, 1) := by decide +kernel
theorem dX2_init_5 : decode cX2_init 5 = .ok (.new 9, 3) := by decide +kernel
theorem dX2_init_8 : decode cX2_init 8 = .ok (.dup, 1) := by decide +kernel
theorem dX2_init_9 : decode cX2_init 9 = .ok (.invokespecial 11, 3) := by decide +kernel
theorem dX2_init_12 : decode cX2_init 12 = .ok (.putfield 12, 3) := by decide +kernel
theorem dX2_init_15 : decode cX2_init 15 = .ok (.aload_n 0, 1) := by decide +kernel
theorem dX2_init_16 : decode cX2_init 16 = .ok (.new 9, 3) := by decide +kernel
theorem dX2_init_19 : decode cX2_init 19 = .ok (.dup, 1) := by decide +kernel
theorem dX2_init_20 : decode cX2_init 20 = .ok (.invokespecial 11, 3) := by decide +kernel
theorem dX2_init_23 : decode cX2_init 23 = .ok (.putfield 18, 3) := by decide +kernel
theorem dX2_init_26 : decode cX2_init 26 = .ok (.aload_n 0, 1) := by decide +kernel
theorem dX2_init_27 : decode cX2_init 27 = .ok (.bipush 24, 2) := by decide +kernel
theorem dX2_init_29 : decode cX2_init 29 = .ok (.newarray .int, 2) := by decide +kernel
theorem dX2_init_31 : decode cX2_init 31 = .ok (.putfield 21, 3) := by decide +kernel
theorem dX2_init_34 : decode cX2_init 34 = .ok (.aload_n 0, 1) := by decide +kernel
theorem dX2_init_35 : decode cX2_init 35 = .ok (.aload_n 1, 1) := by decide +kernel
theorem dX2_init_36 : decode cX2_init 36 = .ok (.putfield 25, 3) := by decide +kernel
theorem dX2_init_39 : decode cX2_init 39 = .ok (.aload_n 0, 1) := by decide +kernel
theorem dX2_init_40 : decode cX2_init 40 = .ok (.aload_n 2, 1) := by decide +kernel
theorem dX2_init_41 : decode cX2_init 41 = .ok (.putfield 28, 3) := by decide +kernel
theorem dX2_init_44 : decode cX2_init 44 = .ok (.return_, 1) := by decide +kernel
set_option maxRecDepth 20000 in
theorem ggX2_standing_X9_become : GoodIn wsX2_standing wsX9_become := goodIn_r _ [7, 8, 9, 10, 11, 12, 13, 14, 15, 16, 17, 18, 6, 19, 104, 105, 106, 107, 108, 109, 110, 111] (by decide +kernel) (by decide +kernel)
set_option maxRecDepth 20000 in
theorem gX2_standing_X9_become : GoodIn wsX2_standing (wsV RX2 32 RX9 yX9_become wsX9_become) := goodIn_app (goodIn_of _ (by decide +kernel)) ggX2_standing_X9_become
set_option maxRecDepth 20000 in
theorem ggX2_standing_X9_passNight : GoodIn wsX2_standing wsX9_passNight := goodIn_r _ [23, 10, 12, 11, 24, 25, 26, 27, 28, 29, 30, 31, 32, 33, 34, 35, 36, 37, 38, 39, 40, 41, 42, 43, 44, 45, 46, 47, 6, 48, 14, 15, 49, 50, 51, 52, 53, 54, 55, 56, 57, 58, 59, 60, 61, 62, 13, 63, 64, 65, 66, 67, 68, 69, 70, 71, 72, 73, 74, 9, 75, 76, 77, 78, 79, 80, 81, 82, 83, 84, 85, 86, 87, 88, 89, 90, 91, 92, 93, 94, 95, 96, 97, 98, 104, 105, 106, 107, 108, 109, 110, 111] (by decide +kernel) (by decide +kernel)
set_option maxRecDepth 20000 in
theorem gX2_standing_X9_passNight : GoodIn wsX2_standing (wsV RX2 36 RX9 yX9_passNight wsX9_passNight) := goodIn_app (goodIn_of _ (by decide +kernel)) ggX2_standing_X9_passNight
theorem dX2_standing_0 : decode cX2_standing 0 = .ok (.aload_n 0, 1) := by decide +kernel
theorem dX2_standing_1 : decode cX2_standing 1 = .ok (.getfield 12, 3) := by decide +kernel
theorem dX2_standing_4 : decode cX2_standing 4 = .ok (.aload_n 0, 1) := by decide +kernel
theorem dX2_standing_5 : decode cX2_standing 5 = .ok (.getfield 25, 3) := by decide +kernel
theorem dX2_standing_8 : decode cX2_standing 8 = .ok (.invokevirtual 32, 3) := by decide +kernel
theorem dX2_standing_11 : decode cX2_standing 11 = .ok (.iconst 0, 1) := by decide +kernel
theorem dX2_standing_12 : decode cX2_standing 12 = .ok (.istore 4, 2) := by decide +kernel
theorem dX2_standing_14 : decode cX2_standing 14 = .ok (.iload 4, 2) := by decide +kernel
theorem dX2_standing_16 : decode cX2_standing 16 = .ok (.iload_n 2, 1) := by decide +kernel
theorem dX2_standing_17 : decode cX2_standing 17 = .ok (.if_icmp .ge 17, 3) := by decide +kernel
theorem dX2_standing_20 : decode cX2_standing 20 = .ok (.aload_n 0, 1) := by decide +kernel
theorem dX2_standing_21 : decode cX2_standing 21 = .ok (.getfield 12, 3) := by decide +kernel
theorem dX2_standing_24 : decode cX2_standing 24 = .ok (.iconst 0, 1) := by decide +kernel
theorem dX2_standing_25 : decode cX2_standing 25 = .ok (.invokevirtual 36, 3) := by decide +kernel
theorem dX2_standing_28 : decode cX2_standing 28 = .ok (.iinc 4 1, 3) := by decide +kernel
theorem dX2_standing_31 : decode cX2_standing 31 = .ok (.goto (-17), 3) := by decide +kernel
theorem dX2_standing_34 : decode cX2_standing 34 = .ok (.iload_n 3, 1) := by decide +kernel
theorem dX2_standing_35 : decode cX2_standing 35 = .ok (.ifCond .ne 15, 3) := by decide +kernel
theorem dX2_standing_38 : decode cX2_standing 38 = .ok (.aload_n 0, 1) := by decide +kernel
theorem dX2_standing_39 : decode cX2_standing 39 = .ok (.getfield 12, 3) := by decide +kernel
theorem dX2_standing_42 : decode cX2_standing 42 = .ok (.getfield 40, 3) := by decide +kernel
theorem dX2_standing_45 : decode cX2_standing 45 = .ok (.iload_n 1, 1) := by decide +kernel
theorem dX2_standing_46 : decode cX2_standing 46 = .ok (.iaload, 1) := by decide +kernel
theorem dX2_standing_47 : decode cX2_standing 47 = .ok (.goto 12, 3) := by decide +kernel
theorem dX2_standing_50 : decode cX2_standing 50 = .ok (.aload_n 0, 1) := by decide +kernel
theorem dX2_standing_51 : decode cX2_standing 51 = .ok (.getfield 12, 3) := by decide +kernel
theorem dX2_standing_54 : decode cX2_standing 54 = .ok (.getfield 43, 3) := by decide +kernel
theorem dX2_standing_57 : decode cX2_standing 57 = .ok (.iload_n 1, 1) := by decide +kernel
theorem dX2_standing_58 : decode cX2_standing 58 = .ok (.iaload, 1) := by decide +kernel
theorem dX2_standing_59 : decode cX2_standing 59 = .ok (.ireturn, 1) := by decide +kernel
set_option maxRecDepth 20000 in
theorem ggX2_firstNightIn_X9_become : GoodIn wsX2_firstNightIn wsX9_become := goodIn_r _ [8, 9, 10, 11, 12, 13, 14, 15, 16, 17, 18, 19, 7, 20, 105, 106, 107, 108, 109, 110, 111, 112] (by decide +kernel) (by decide +kernel)
set_option maxRecDepth 20000 in
theorem gX2_firstNightIn_X9_become : GoodIn wsX2_firstNightIn (wsV RX2 32 RX9 yX9_become wsX9_become) := goodIn_app (goodIn_of _ (by decide +kernel)) ggX2_firstNightIn_X9_become
set_option maxRecDepth 20000 in
theorem ggX2_firstNightIn_X9_passNight : GoodIn wsX2_firstNightIn wsX9_passNight := goodIn_r _ [24, 11, 13, 12, 25, 26, 27, 28, 29, 30, 31, 32, 33, 34, 35, 36, 37, 38, 39, 40, 41, 42, 43, 44, 45, 46, 47, 48, 7, 49, 15, 16, 50, 51, 52, 53, 54, 55, 56, 57, 58, 59, 60, 61, 62, 63, 14, 64, 65, 66, 67, 68, 69, 70, 71, 72, 73, 74, 75, 10, 76, 77, 78, 79, 80, 81, 82, 83, 84, 85, 86, 87, 88, 89, 90, 91, 92, 93, 94, 95, 96, 97, 98, 99, 105, 106, 107, 108, 109, 110, 111, 112] (by decide +kernel) (by decide +kernel)
set_option maxRecDepth 20000 in
theorem gX2_firstNightIn_X9_passNight : GoodIn wsX2_firstNightIn (wsV RX2 36 RX9 yX9_passNight wsX9_passNight) := goodIn_app (goodIn_of _ (by decide +kernel)) ggX2_firstNightIn_X9_passNight
theorem dX2_firstNightIn_0 : decode cX2_firstNightIn 0 = .ok (.aload_n 0, 1) := by decide +kernel
theorem dX2_firstNightIn_1 : decode cX2_firstNightIn 1 = .ok (.getfield 12, 3) := by decide +kernel
theorem dX2_firstNightIn_4 : decode cX2_firstNightIn 4 = .ok (.aload_n 0, 1) := by decide +kernel
theorem dX2_firstNightIn_5 : decode cX2_firstNightIn 5 = .ok (.getfield 25, 3) := by decide +kernel
theorem dX2_firstNightIn_8 : decode cX2_firstNightIn 8 = .ok (.invokevirtual 32, 3) := by decide +kernel
theorem dX2_firstNightIn_11 : decode cX2_firstNightIn 11 = .ok (.iconst 0, 1) := by decide +kernel
theorem dX2_firstNightIn_12 : decode cX2_firstNightIn 12 = .ok (.istore_n 3, 1) := by decide +kernel
theorem dX2_firstNightIn_13 : decode cX2_firstNightIn 13 = .ok (.iload_n 3, 1) := by decide +kernel
theorem dX2_firstNightIn_14 : decode cX2_firstNightIn 14 = .ok (.bipush 60, 2) := by decide +kernel
theorem dX2_firstNightIn_16 : decode cX2_firstNightIn 16 = .ok (.if_icmp .gt 32, 3) := by decide +kernel
theorem dX2_firstNightIn_19 : decode cX2_firstNightIn 19 = .ok (.aload_n 0, 1) := by decide +kernel
theorem dX2_firstNightIn_20 : decode cX2_firstNightIn 20 = .ok (.getfield 12, 3) := by decide +kernel
theorem dX2_firstNightIn_23 : decode cX2_firstNightIn 23 = .ok (.getfield 40, 3) := by decide +kernel
theorem dX2_firstNightIn_26 : decode cX2_firstNightIn 26 = .ok (.iload_n 1, 1) := by decide +kernel
theorem dX2_firstNightIn_27 : decode cX2_firstNightIn 27 = .ok (.iaload, 1) := by decide +kernel
theorem dX2_firstNightIn_28 : decode cX2_firstNightIn 28 = .ok (.iload_n 2, 1) := by decide +kernel
theorem dX2_firstNightIn_29 : decode cX2_firstNightIn 29 = .ok (.if_icmp .ne 5, 3) := by decide +kernel
theorem dX2_firstNightIn_32 : decode cX2_firstNightIn 32 = .ok (.iload_n 3, 1) := by decide +kernel
theorem dX2_firstNightIn_33 : decode cX2_firstNightIn 33 = .ok (.ireturn, 1) := by decide +kernel
theorem dX2_firstNightIn_34 : decode cX2_firstNightIn 34 = .ok (.aload_n 0, 1) := by decide +kernel
theorem dX2_firstNightIn_35 : decode cX2_firstNightIn 35 = .ok (.getfield 12, 3) := by decide +kernel
theorem dX2_firstNightIn_38 : decode cX2_firstNightIn 38 = .ok (.iconst 0, 1) := by decide +kernel
theorem dX2_firstNightIn_39 : decode cX2_firstNightIn 39 = .ok (.invokevirtual 36, 3) := by decide +kernel
theorem dX2_firstNightIn_42 : decode cX2_firstNightIn 42 = .ok (.iinc 3 1, 3) := by decide +kernel
theorem dX2_firstNightIn_45 : decode cX2_firstNightIn 45 = .ok (.goto (-32), 3) := by decide +kernel
theorem dX2_firstNightIn_48 : decode cX2_firstNightIn 48 = .ok (.ldc 46, 2) := by decide +kernel
theorem dX2_firstNightIn_50 : decode cX2_firstNightIn 50 = .ok (.ireturn, 1) := by decide +kernel
set_option maxRecDepth 20000 in
theorem ggX2_firstStill_X9_become : GoodIn wsX2_firstStill wsX9_become := goodIn_r _ [9, 10, 11, 12, 13, 14, 15, 16, 17, 18, 19, 20, 8, 21, 110, 111, 112, 113, 114, 115, 116, 117] (by decide +kernel) (by decide +kernel)
set_option maxRecDepth 20000 in
theorem gX2_firstStill_X9_become : GoodIn wsX2_firstStill (wsV RX2 32 RX9 yX9_become wsX9_become) := goodIn_app (goodIn_of _ (by decide +kernel)) ggX2_firstStill_X9_become
set_option maxRecDepth 20000 in
theorem ggX2_firstStill_X9_passNight : GoodIn wsX2_firstStill wsX9_passNight := goodIn_r _ [25, 12, 14, 13, 26, 27, 28, 29, 30, 31, 32, 33, 34, 35, 36, 37, 38, 39, 40, 41, 42, 43, 44, 45, 46, 47, 48, 49, 8, 50, 16, 17, 51, 52, 53, 54, 55, 56, 57, 58, 59, 60, 61, 62, 63, 64, 15, 65, 66, 67, 68, 69, 70, 71, 72, 73, 74, 75, 76, 11, 77, 78, 79, 80, 81, 82, 83, 84, 85, 86, 87, 88, 89, 90, 91, 92, 93, 94, 95, 96, 97, 98, 99, 100, 110, 111, 112, 113, 114, 115, 116, 117] (by decide +kernel) (by decide +kernel)
set_option maxRecDepth 20000 in
theorem gX2_firstStill_X9_passNight : GoodIn wsX2_firstStill (wsV RX2 36 RX9 yX9_passNight wsX9_passNight) := goodIn_app (goodIn_of _ (by decide +kernel)) ggX2_firstStill_X9_passNight
set_option maxRecDepth 20000 in
theorem ggX2_firstStill_X9_standsAs : GoodIn wsX2_firstStill wsX9_standsAs := goodIn_r _ [104, 12, 16, 17, 110, 111, 112, 113, 114, 115, 116, 117] (by decide +kernel) (by decide +kernel)
set_option maxRecDepth 20000 in
theorem gX2_firstStill_X9_standsAs : GoodIn wsX2_firstStill (wsV RX2 47 RX9 yX9_standsAs wsX9_standsAs) := goodIn_app (goodIn_of _ (by decide +kernel)) ggX2_firstStill_X9_standsAs
theorem dX2_firstStill_0 : decode cX2_firstStill 0 = .ok (.aload_n 0, 1) := by decide +kernel
theorem dX2_firstStill_1 : decode cX2_firstStill 1 = .ok (.getfield 12, 3) := by decide +kernel
theorem dX2_firstStill_4 : decode cX2_firstStill 4 = .ok (.aload_n 0, 1) := by decide +kernel
theorem dX2_firstStill_5 : decode cX2_firstStill 5 = .ok (.getfield 25, 3) := by decide +kernel
theorem dX2_firstStill_8 : decode cX2_firstStill 8 = .ok (.invokevirtual 32, 3) := by decide +kernel
theorem dX2_firstStill_11 : decode cX2_firstStill 11 = .ok (.iconst 0, 1) := by decide +kernel
theorem dX2_firstStill_12 : decode cX2_firstStill 12 = .ok (.istore_n 1, 1) := by decide +kernel
theorem dX2_firstStill_13 : decode cX2_firstStill 13 = .ok (.iload_n 1, 1) := by decide +kernel
theorem dX2_firstStill_14 : decode cX2_firstStill 14 = .ok (.sipush 200, 3) := by decide +kernel
theorem dX2_firstStill_17 : decode cX2_firstStill 17 = .ok (.if_icmp .gt 44, 3) := by decide +kernel
theorem dX2_firstStill_20 : decode cX2_firstStill 20 = .ok (.aload_n 0, 1) := by decide +kernel
theorem dX2_firstStill_21 : decode cX2_firstStill 21 = .ok (.getfield 18, 3) := by decide +kernel
theorem dX2_firstStill_24 : decode cX2_firstStill 24 = .ok (.aload_n 0, 1) := by decide +kernel
theorem dX2_firstStill_25 : decode cX2_firstStill 25 = .ok (.getfield 12, 3) := by decide +kernel
theorem dX2_firstStill_28 : decode cX2_firstStill 28 = .ok (.invokevirtual 32, 3) := by decide +kernel
theorem dX2_firstStill_31 : decode cX2_firstStill 31 = .ok (.aload_n 0, 1) := by decide +kernel
theorem dX2_firstStill_32 : decode cX2_firstStill 32 = .ok (.getfield 12, 3) := by decide +kernel
theorem dX2_firstStill_35 : decode cX2_firstStill 35 = .ok (.iconst 0, 1) := by decide +kernel
theorem dX2_firstStill_36 : decode cX2_firstStill 36 = .ok (.invokevirtual 36, 3) := by decide +kernel
theorem dX2_firstStill_39 : decode cX2_firstStill 39 = .ok (.aload_n 0, 1) := by decide +kernel
theorem dX2_firstStill_40 : decode cX2_firstStill 40 = .ok (.getfield 12, 3) := by decide +kernel
theorem dX2_firstStill_43 : decode cX2_firstStill 43 = .ok (.aload_n 0, 1) := by decide +kernel
theorem dX2_firstStill_44 : decode cX2_firstStill 44 = .ok (.getfield 18, 3) := by decide +kernel
theorem dX2_firstStill_47 : decode cX2_firstStill 47 = .ok (.invokevirtual 47, 3) := by decide +kernel
theorem dX2_firstStill_50 : decode cX2_firstStill 50 = .ok (.ifCond .eq 5, 3) := by decide +kernel
theorem dX2_firstStill_53 : decode cX2_firstStill 53 = .ok (.iload_n 1, 1) := by decide +kernel
theorem dX2_firstStill_54 : decode cX2_firstStill 54 = .ok (.ireturn, 1) := by decide +kernel
theorem dX2_firstStill_55 : decode cX2_firstStill 55 = .ok (.iinc 1 1, 3) := by decide +kernel
theorem dX2_firstStill_58 : decode cX2_firstStill 58 = .ok (.goto (-45), 3) := by decide +kernel
theorem dX2_firstStill_61 : decode cX2_firstStill 61 = .ok (.ldc 46, 2) := by decide +kernel
theorem dX2_firstStill_63 : decode cX2_firstStill 63 = .ok (.ireturn, 1) := by decide +kernel
set_option maxRecDepth 20000 in
theorem ggX2_firstRound_X9_become : GoodIn wsX2_firstRound wsX9_become := goodIn_r _ [8, 9, 10, 11, 12, 13, 14, 15, 16, 17, 18, 19, 7, 20, 109, 110, 111, 112, 113, 114, 115, 116] (by decide +kernel) (by decide +kernel)
set_option maxRecDepth 20000 in
theorem gX2_firstRound_X9_become : GoodIn wsX2_firstRound (wsV RX2 32 RX9 yX9_become wsX9_become) := goodIn_app (goodIn_of _ (by decide +kernel)) ggX2_firstRound_X9_become
set_option maxRecDepth 20000 in
theorem ggX2_firstRound_X9_passNight : GoodIn wsX2_firstRound wsX9_passNight := goodIn_r _ [24, 11, 13, 12, 25, 26, 27, 28, 29, 30, 31, 32, 33, 34, 35, 36, 37, 38, 39, 40, 41, 42, 43, 44, 45, 46, 47, 48, 7, 49, 15, 16, 50, 51, 52, 53, 54, 55, 56, 57, 58, 59, 60, 61, 62, 63, 14, 64, 65, 66, 67, 68, 69, 70, 71, 72, 73, 74, 75, 10, 76, 77, 78, 79, 80, 81, 82, 83, 84, 85, 86, 87, 88, 89, 90, 91, 92, 93, 94, 95, 96, 97, 98, 99, 109, 110, 111, 112, 113, 114, 115, 116] (by decide +kernel) (by decide +kernel)
set_option maxRecDepth 20000 in
theorem gX2_firstRound_X9_passNight : GoodIn wsX2_firstRound (wsV RX2 36 RX9 yX9_passNight wsX9_passNight) := goodIn_app (goodIn_of _ (by decide +kernel)) ggX2_firstRound_X9_passNight
set_option maxRecDepth 20000 in
theorem ggX2_firstRound_X9_standsAs : GoodIn wsX2_firstRound wsX9_standsAs := goodIn_r _ [103, 11, 15, 16, 109, 110, 111, 112, 113, 114, 115, 116] (by decide +kernel) (by decide +kernel)
set_option maxRecDepth 20000 in
theorem gX2_firstRound_X9_standsAs : GoodIn wsX2_firstRound (wsV RX2 47 RX9 yX9_standsAs wsX9_standsAs) := goodIn_app (goodIn_of _ (by decide +kernel)) ggX2_firstRound_X9_standsAs
theorem dX2_firstRound_0 : decode cX2_firstRound 0 = .ok (.aload_n 0, 1) := by decide +kernel
theorem dX2_firstRound_1 : decode cX2_firstRound 1 = .ok (.getfield 12, 3) := by decide +kernel
theorem dX2_firstRound_4 : decode cX2_firstRound 4 = .ok (.aload_n 0, 1) := by decide +kernel
theorem dX2_firstRound_5 : decode cX2_firstRound 5 = .ok (.getfield 25, 3) := by decide +kernel
theorem dX2_firstRound_8 : decode cX2_firstRound 8 = .ok (.invokevirtual 32, 3) := by decide +kernel
theorem dX2_firstRound_11 : decode cX2_firstRound 11 = .ok (.iconst 1, 1) := by decide +kernel
theorem dX2_firstRound_12 : decode cX2_firstRound 12 = .ok (.istore_n 1, 1) := by decide +kernel
theorem dX2_firstRound_13 : decode cX2_firstRound 13 = .ok (.iload_n 1, 1) := by decide +kernel
theorem dX2_firstRound_14 : decode cX2_firstRound 14 = .ok (.sipush 200, 3) := by decide +kernel
theorem dX2_firstRound_17 : decode cX2_firstRound 17 = .ok (.if_icmp .gt 33, 3) := by decide +kernel
theorem dX2_firstRound_20 : decode cX2_firstRound 20 = .ok (.aload_n 0, 1) := by decide +kernel
theorem dX2_firstRound_21 : decode cX2_firstRound 21 = .ok (.getfield 12, 3) := by decide +kernel
theorem dX2_firstRound_24 : decode cX2_firstRound 24 = .ok (.iconst 0, 1) := by decide +kernel
theorem dX2_firstRound_25 : decode cX2_firstRound 25 = .ok (.invokevirtual 36, 3) := by decide +kernel
theorem dX2_firstRound_28 : decode cX2_firstRound 28 = .ok (.aload_n 0, 1) := by decide +kernel
theorem dX2_firstRound_29 : decode cX2_firstRound 29 = .ok (.getfield 12, 3) := by decide +kernel
theorem dX2_firstRound_32 : decode cX2_firstRound 32 = .ok (.aload_n 0, 1) := by decide +kernel
theorem dX2_firstRound_33 : decode cX2_firstRound 33 = .ok (.getfield 25, 3) := by decide +kernel
theorem dX2_firstRound_36 : decode cX2_firstRound 36 = .ok (.invokevirtual 47, 3) := by decide +kernel
theorem dX2_firstRound_39 : decode cX2_firstRound 39 = .ok (.ifCond .eq 5, 3) := by decide +kernel
theorem dX2_firstRound_42 : decode cX2_firstRound 42 = .ok (.iload_n 1, 1) := by decide +kernel
theorem dX2_firstRound_43 : decode cX2_firstRound 43 = .ok (.ireturn, 1) := by decide +kernel
theorem dX2_firstRound_44 : decode cX2_firstRound 44 = .ok (.iinc 1 1, 3) := by decide +kernel
theorem dX2_firstRound_47 : decode cX2_firstRound 47 = .ok (.goto (-34), 3) := by decide +kernel
theorem dX2_firstRound_50 : decode cX2_firstRound 50 = .ok (.ldc 46, 2) := by decide +kernel
theorem dX2_firstRound_52 : decode cX2_firstRound 52 = .ok (.ireturn, 1) := by decide +kernel
set_option maxRecDepth 20000 in
theorem ggX2_fewestRods_J6_bitCount_0f7a4 : GoodIn wsX2_fewestRods wsJ6_bitCount_0f7a4 := goodIn_r _ [6, 7, 8, 9] (by decide +kernel) (by decide +kernel)
set_option maxRecDepth 20000 in
theorem gX2_fewestRods_J6_bitCount_0f7a4 : GoodIn wsX2_fewestRods (va_wsS RX2 55 yJ6_bitCount_0f7a4 wsJ6_bitCount_0f7a4) := goodIn_app (goodIn_of _ (by decide +kernel)) ggX2_fewestRods_J6_bitCount_0f7a4
set_option maxRecDepth 20000 in
theorem ggX2_fewestRods_X2_isInWithRods : GoodIn wsX2_fewestRods wsX2_isInWithRods := goodIn_r _ [14, 15, 2, 16, 17, 18, 19, 20, 21, 22, 23, 24, 25, 26, 27, 28, 29, 30, 31, 32, 33, 34, 35, 36, 37, 38, 39, 40, 41, 42, 43, 44, 45, 46, 47, 48, 49, 50, 51, 52, 53, 54, 55, 56, 57, 58, 59, 60, 61, 62, 63, 64, 65, 66, 67, 68, 69, 70, 71, 72, 73, 74, 75, 76, 77, 78, 79, 80, 81, 82, 83, 84, 85, 86, 87, 88, 89, 90, 91, 92, 93, 94, 95, 96, 97, 98, 99, 100, 101, 102, 103, 104, 105, 106, 107, 108, 109, 110, 111, 112, 113, 114, 115, 116, 117, 118, 119, 120, 121, 122, 123, 124, 125] (by decide +kernel) (by decide +kernel)
set_option maxRecDepth 20000 in
theorem gX2_fewestRods_X2_isInWithRods : GoodIn wsX2_fewestRods (wsV RX2 61 RX2 yX2_isInWithRods wsX2_isInWithRods) := goodIn_app (goodIn_of _ (by decide +kernel)) ggX2_fewestRods_X2_isInWithRods
theorem dX2_fewestRods_0 : decode cX2_fewestRods 0 = .ok (.ldc 46, 2) := by decide +kernel
theorem dX2_fewestRods_2 : decode cX2_fewestRods 2 = .ok (.istore 4, 2) := by decide +kernel
theorem dX2_fewestRods_4 : decode cX2_fewestRods 4 = .ok (.bipush 9, 2) := by decide +kernel
theorem dX2_fewestRods_6 : decode cX2_fewestRods 6 = .ok (.istore 5, 2) := by decide +kernel
theorem dX2_fewestRods_8 : decode cX2_fewestRods 8 = .ok (.iconst 1, 1) := by decide +kernel
theorem dX2_fewestRods_9 : decode cX2_fewestRods 9 = .ok (.aload_n 0, 1) := by decide +kernel
theorem dX2_fewestRods_10 : decode cX2_fewestRods 10 = .ok (.getfield 25, 3) := by decide +kernel
theorem dX2_fewestRods_13 : decode cX2_fewestRods 13 = .ok (.getfield 51, 3) := by decide +kernel
theorem dX2_fewestRods_16 : decode cX2_fewestRods 16 = .ok (.ishl, 1) := by decide +kernel
theorem dX2_fewestRods_17 : decode cX2_fewestRods 17 = .ok (.istore 6, 2) := by decide +kernel
theorem dX2_fewestRods_19 : decode cX2_fewestRods 19 = .ok (.iconst 0, 1) := by decide +kernel
theorem dX2_fewestRods_20 : decode cX2_fewestRods 20 = .ok (.istore 7, 2) := by decide +kernel
theorem dX2_fewestRods_22 : decode cX2_fewestRods 22 = .ok (.iload 7, 2) := by decide +kernel
theorem dX2_fewestRods_24 : decode cX2_fewestRods 24 = .ok (.iload 6, 2) := by decide +kernel
theorem dX2_fewestRods_26 : decode cX2_fewestRods 26 = .ok (.if_icmp .ge 43, 3) := by decide +kernel
theorem dX2_fewestRods_29 : decode cX2_fewestRods 29 = .ok (.iload 7, 2) := by decide +kernel
theorem dX2_fewestRods_31 : decode cX2_fewestRods 31 = .ok (.invokestatic 55, 3) := by decide +kernel
theorem dX2_fewestRods_34 : decode cX2_fewestRods 34 = .ok (.istore 8, 2) := by decide +kernel
theorem dX2_fewestRods_36 : decode cX2_fewestRods 36 = .ok (.iload 8, 2) := by decide +kernel
theorem dX2_fewestRods_38 : decode cX2_fewestRods 38 = .ok (.iload 5, 2) := by decide +kernel
theorem dX2_fewestRods_40 : decode cX2_fewestRods 40 = .ok (.if_icmp .ge 23, 3) := by decide +kernel
theorem dX2_fewestRods_43 : decode cX2_fewestRods 43 = .ok (.aload_n 0, 1) := by decide +kernel
theorem dX2_fewestRods_44 : decode cX2_fewestRods 44 = .ok (.iload 7, 2) := by decide +kernel
theorem dX2_fewestRods_46 : decode cX2_fewestRods 46 = .ok (.iload_n 1, 1) := by decide +kernel
theorem dX2_fewestRods_47 : decode cX2_fewestRods 47 = .ok (.iload_n 2, 1) := by decide +kernel
theorem dX2_fewestRods_48 : decode cX2_fewestRods 48 = .ok (.iload_n 3, 1) := by decide +kernel
theorem dX2_fewestRods_49 : decode cX2_fewestRods 49 = .ok (.invokevirtual 61, 3) := by decide +kernel
theorem dX2_fewestRods_52 : decode cX2_fewestRods 52 = .ok (.ifCond .eq 11, 3) := by decide +kernel
theorem dX2_fewestRods_55 : decode cX2_fewestRods 55 = .ok (.iload 7, 2) := by decide +kernel
theorem dX2_fewestRods_57 : decode cX2_fewestRods 57 = .ok (.istore 4, 2) := by decide +kernel
theorem dX2_fewestRods_59 : decode cX2_fewestRods 59 = .ok (.iload 8, 2) := by decide +kernel
theorem dX2_fewestRods_61 : decode cX2_fewestRods 61 = .ok (.istore 5, 2) := by decide +kernel
theorem dX2_fewestRods_63 : decode cX2_fewestRods 63 = .ok (.iinc 7 1, 3) := by decide +kernel
theorem dX2_fewestRods_66 : decode cX2_fewestRods 66 = .ok (.goto (-44), 3) := by decide +kernel
theorem dX2_fewestRods_69 : decode cX2_fewestRods 69 = .ok (.iload 4, 2) := by decide +kernel
theorem dX2_fewestRods_71 : decode cX2_fewestRods 71 = .ok (.ireturn, 1) := by decide +kernel
set_option maxRecDepth 20000 in
theorem ggX2_isInWithRods_X9_become : GoodIn wsX2_isInWithRods wsX9_become := goodIn_r _ [8, 9, 10, 11, 12, 13, 14, 15, 16, 17, 18, 19, 7, 20, 105, 106, 107, 108, 109, 110, 111, 112] (by decide +kernel) (by decide +kernel)
set_option maxRecDepth 20000 in
theorem gX2_isInWithRods_X9_become : GoodIn wsX2_isInWithRods (wsV RX2 32 RX9 yX9_become wsX9_become) := goodIn_app (goodIn_of _ (by decide +kernel)) ggX2_isInWithRods_X9_become
set_option maxRecDepth 20000 in
theorem ggX2_isInWithRods_X9_passNight : GoodIn wsX2_isInWithRods wsX9_passNight := goodIn_r _ [24, 11, 13, 12, 25, 26, 27, 28, 29, 30, 31, 32, 33, 34, 35, 36, 37, 38, 39, 40, 41, 42, 43, 44, 45, 46, 47, 48, 7, 49, 15, 16, 50, 51, 52, 53, 54, 55, 56, 57, 58, 59, 60, 61, 62, 63, 14, 64, 65, 66, 67, 68, 69, 70, 71, 72, 73, 74, 75, 10, 76, 77, 78, 79, 80, 81, 82, 83, 84, 85, 86, 87, 88, 89, 90, 91, 92, 93, 94, 95, 96, 97, 98, 99, 105, 106, 107, 108, 109, 110, 111, 112] (by decide +kernel) (by decide +kernel)
set_option maxRecDepth 20000 in
theorem gX2_isInWithRods_X9_passNight : GoodIn wsX2_isInWithRods (wsV RX2 36 RX9 yX9_passNight wsX9_passNight) := goodIn_app (goodIn_of _ (by decide +kernel)) ggX2_isInWithRods_X9_passNight
theorem dX2_isInWithRods_0 : decode cX2_isInWithRods 0 = .ok (.aload_n 0, 1) := by decide +kernel
theorem dX2_isInWithRods_1 : decode cX2_isInWithRods 1 = .ok (.getfield 12, 3) := by decide +kernel
theorem dX2_isInWithRods_4 : decode cX2_isInWithRods 4 = .ok (.aload_n 0, 1) := by decide +kernel
theorem dX2_isInWithRods_5 : decode cX2_isInWithRods 5 = .ok (.getfield 25, 3) := by decide +kernel
theorem dX2_isInWithRods_8 : decode cX2_isInWithRods 8 = .ok (.invokevirtual 32, 3) := by decide +kernel
theorem dX2_isInWithRods_11 : decode cX2_isInWithRods 11 = .ok (.iconst 0, 1) := by decide +kernel
theorem dX2_isInWithRods_12 : decode cX2_isInWithRods 12 = .ok (.istore 5, 2) := by decide +kernel
theorem dX2_isInWithRods_14 : decode cX2_isInWithRods 14 = .ok (.iload 5, 2) := by decide +kernel
theorem dX2_isInWithRods_16 : decode cX2_isInWithRods 16 = .ok (.aload_n 0, 1) := by decide +kernel
theorem dX2_isInWithRods_17 : decode cX2_isInWithRods 17 = .ok (.getfield 12, 3) := by decide +kernel
theorem dX2_isInWithRods_20 : decode cX2_isInWithRods 20 = .ok (.getfield 51, 3) := by decide +kernel
theorem dX2_isInWithRods_23 : decode cX2_isInWithRods 23 = .ok (.if_icmp .ge 34, 3) := by decide +kernel
theorem dX2_isInWithRods_26 : decode cX2_isInWithRods 26 = .ok (.iload_n 1, 1) := by decide +kernel
theorem dX2_isInWithRods_27 : decode cX2_isInWithRods 27 = .ok (.iload 5, 2) := by decide +kernel
theorem dX2_isInWithRods_29 : decode cX2_isInWithRods 29 = .ok (.ishr, 1) := by decide +kernel
theorem dX2_isInWithRods_30 : decode cX2_isInWithRods 30 = .ok (.iconst 1, 1) := by decide +kernel
theorem dX2_isInWithRods_31 : decode cX2_isInWithRods 31 = .ok (.iand, 1) := by decide +kernel
theorem dX2_isInWithRods_32 : decode cX2_isInWithRods 32 = .ok (.ifCond .eq 19, 3) := by decide +kernel
theorem dX2_isInWithRods_35 : decode cX2_isInWithRods 35 = .ok (.aload_n 0, 1) := by decide +kernel
theorem dX2_isInWithRods_36 : decode cX2_isInWithRods 36 = .ok (.getfield 12, 3) := by decide +kernel
theorem dX2_isInWithRods_39 : decode cX2_isInWithRods 39 = .ok (.getfield 65, 3) := by decide +kernel
theorem dX2_isInWithRods_42 : decode cX2_isInWithRods 42 = .ok (.iload 5, 2) := by decide +kernel
theorem dX2_isInWithRods_44 : decode cX2_isInWithRods 44 = .ok (.aload_n 0, 1) := by decide +kernel
theorem dX2_isInWithRods_45 : decode cX2_isInWithRods 45 = .ok (.getfield 28, 3) := by decide +kernel
theorem dX2_isInWithRods_48 : decode cX2_isInWithRods 48 = .ok (.iconst 4, 1) := by decide +kernel
theorem dX2_isInWithRods_49 : decode cX2_isInWithRods 49 = .ok (.aaload, 1) := by decide +kernel
theorem dX2_isInWithRods_50 : decode cX2_isInWithRods 50 = .ok (.aastore, 1) := by decide +kernel
theorem dX2_isInWithRods_51 : decode cX2_isInWithRods 51 = .ok (.iinc 5 1, 3) := by decide +kernel
theorem dX2_isInWithRods_54 : decode cX2_isInWithRods 54 = .ok (.goto (-40), 3) := by decide +kernel
theorem dX2_isInWithRods_57 : decode cX2_isInWithRods 57 = .ok (.iconst 0, 1) := by decide +kernel
theorem dX2_isInWithRods_58 : decode cX2_isInWithRods 58 = .ok (.istore 5, 2) := by decide +kernel
theorem dX2_isInWithRods_60 : decode cX2_isInWithRods 60 = .ok (.iload 5, 2) := by decide +kernel
theorem dX2_isInWithRods_62 : decode cX2_isInWithRods 62 = .ok (.iload 4, 2) := by decide +kernel
theorem dX2_isInWithRods_64 : decode cX2_isInWithRods 64 = .ok (.if_icmp .ge 17, 3) := by decide +kernel
theorem dX2_isInWithRods_67 : decode cX2_isInWithRods 67 = .ok (.aload_n 0, 1) := by decide +kernel
theorem dX2_isInWithRods_68 : decode cX2_isInWithRods 68 = .ok (.getfield 12, 3) := by decide +kernel
theorem dX2_isInWithRods_71 : decode cX2_isInWithRods 71 = .ok (.iconst 0, 1) := by decide +kernel
theorem dX2_isInWithRods_72 : decode cX2_isInWithRods 72 = .ok (.invokevirtual 36, 3) := by decide +kernel
theorem dX2_isInWithRods_75 : decode cX2_isInWithRods 75 = .ok (.iinc 5 1, 3) := by decide +kernel
theorem dX2_isInWithRods_78 : decode cX2_isInWithRods 78 = .ok (.goto (-18), 3) := by decide +kernel
theorem dX2_isInWithRods_81 : decode cX2_isInWithRods 81 = .ok (.aload_n 0, 1) := by decide +kernel
theorem dX2_isInWithRods_82 : decode cX2_isInWithRods 82 = .ok (.getfield 12, 3) := by decide +kernel
theorem dX2_isInWithRods_85 : decode cX2_isInWithRods 85 = .ok (.getfield 40, 3) := by decide +kernel
theorem dX2_isInWithRods_88 : decode cX2_isInWithRods 88 = .ok (.iload_n 2, 1) := by decide +kernel
theorem dX2_isInWithRods_89 : decode cX2_isInWithRods 89 = .ok (.iaload, 1) := by decide +kernel
theorem dX2_isInWithRods_90 : decode cX2_isInWithRods 90 = .ok (.iload_n 3, 1) := by decide +kernel
theorem dX2_isInWithRods_91 : decode cX2_isInWithRods 91 = .ok (.if_icmp .ne 7, 3) := by decide +kernel
theorem dX2_isInWithRods_94 : decode cX2_isInWithRods 94 = .ok (.iconst 1, 1) := by decide +kernel
theorem dX2_isInWithRods_95 : decode cX2_isInWithRods 95 = .ok (.goto 4, 3) := by decide +kernel
theorem dX2_isInWithRods_98 : decode cX2_isInWithRods 98 = .ok (.iconst 0, 1) := by decide +kernel
theorem dX2_isInWithRods_99 : decode cX2_isInWithRods 99 = .ok (.ireturn, 1) := by decide +kernel
set_option maxRecDepth 20000 in
theorem ggX2_bestTour_X2_lookIntoDrawers : GoodIn wsX2_bestTour wsX2_lookIntoDrawers := goodIn_r _ [6, 7, 1, 8, 9, 10, 11, 12, 13, 14, 15, 16, 17, 18, 19, 20, 21, 22, 23, 24, 25, 26, 27, 28, 29, 30, 31, 32, 33, 34, 35, 36, 37, 38, 39, 40, 41, 42, 43, 44, 45, 46, 47, 48, 49, 50, 51, 52, 53, 54, 55, 56, 57, 58, 59, 60, 61, 62, 63, 64, 65, 66, 67, 68, 69, 70, 71, 72, 73, 74, 75, 76, 77, 78, 79, 80, 81, 82, 83, 84, 85, 86, 87, 88, 89, 90, 91, 92, 93, 94, 95, 96, 97, 98, 99, 100, 101, 102, 103, 104, 105, 106, 107, 108, 128, 129, 130, 131, 132, 133, 134, 135, 136, 137, 138, 139, 140] (by decide +kernel) (by decide +kernel)
set_option maxRecDepth 20000 in
theorem gX2_bestTour_X2_lookIntoDrawers : GoodIn wsX2_bestTour (wsV RX2 68 RX2 yX2_lookIntoDrawers wsX2_lookIntoDrawers) := goodIn_app (goodIn_of _ (by decide +kernel)) ggX2_bestTour_X2_lookIntoDrawers
set_option maxRecDepth 20000 in
theorem ggX2_bestTour_X2_seenOn : GoodIn wsX2_bestTour wsX2_seenOn := goodIn_r _ [112, 1, 113, 114, 115, 116, 8, 128, 129, 130, 131, 132, 133, 134, 135, 136, 137, 138, 139, 140] (by decide +kernel) (by decide +kernel)
set_option maxRecDepth 20000 in
theorem gX2_bestTour_X2_seenOn : GoodIn wsX2_bestTour (wsV RX2 74 RX2 yX2_seenOn wsX2_seenOn) := goodIn_app (goodIn_of _ (by decide +kernel)) ggX2_bestTour_X2_seenOn
set_option maxRecDepth 20000 in
theorem ggX2_bestTour_J6_bitCount_0f7a4 : GoodIn wsX2_bestTour wsJ6_bitCount_0f7a4 := goodIn_r _ [120, 121, 122, 123] (by decide +kernel) (by decide +kernel)
set_option maxRecDepth 20000 in
theorem gX2_bestTour_J6_bitCount_0f7a4 : GoodIn wsX2_bestTour (va_wsS RX2 55 yJ6_bitCount_0f7a4 wsJ6_bitCount_0f7a4) := goodIn_app (goodIn_of _ (by decide +kernel)) ggX2_bestTour_J6_bitCount_0f7a4
set_option maxRecDepth 20000 in
theorem ggX2_bestTour_X2_tourFigures : GoodIn wsX2_bestTour wsX2_tourFigures := goodIn_r _ [127, 1, 113, 114, 115, 116, 128, 129, 130, 131, 132, 133, 134, 135, 136, 137, 138, 139, 140] (by decide +kernel) (by decide +kernel)
set_option maxRecDepth 20000 in
theorem gX2_bestTour_X2_tourFigures : GoodIn wsX2_bestTour (wsV RX2 78 RX2 yX2_tourFigures wsX2_tourFigures) := goodIn_app (goodIn_of _ (by decide +kernel)) ggX2_bestTour_X2_tourFigures
theorem dX2_bestTour_0 : decode cX2_bestTour 0 = .ok (.aload_n 0, 1) := by decide +kernel
theorem dX2_bestTour_1 : decode cX2_bestTour 1 = .ok (.iload_n 1, 1) := by decide +kernel
theorem dX2_bestTour_2 : decode cX2_bestTour 2 = .ok (.invokevirtual 68, 3) := by decide +kernel
theorem dX2_bestTour_5 : decode cX2_bestTour 5 = .ok (.iconst (-1), 1) := by decide +kernel
theorem dX2_bestTour_6 : decode cX2_bestTour 6 = .ok (.istore_n 3, 1) := by decide +kernel
theorem dX2_bestTour_7 : decode cX2_bestTour 7 = .ok (.iconst 0, 1) := by decide +kernel
theorem dX2_bestTour_8 : decode cX2_bestTour 8 = .ok (.istore 4, 2) := by decide +kernel
theorem dX2_bestTour_10 : decode cX2_bestTour 10 = .ok (.iconst 1, 1) := by decide +kernel
theorem dX2_bestTour_11 : decode cX2_bestTour 11 = .ok (.istore 5, 2) := by decide +kernel
theorem dX2_bestTour_13 : decode cX2_bestTour 13 = .ok (.iconst 0, 1) := by decide +kernel
theorem dX2_bestTour_14 : decode cX2_bestTour 14 = .ok (.istore 6, 2) := by decide +kernel
theorem dX2_bestTour_16 : decode cX2_bestTour 16 = .ok (.iload 6, 2) := by decide +kernel
theorem dX2_bestTour_18 : decode cX2_bestTour 18 = .ok (.iload_n 1, 1) := by decide +kernel
theorem dX2_bestTour_19 : decode cX2_bestTour 19 = .ok (.if_icmp .ge 21, 3) := by decide +kernel
theorem dX2_bestTour_22 : decode cX2_bestTour 22 = .ok (.iload 5, 2) := by decide +kernel
theorem dX2_bestTour_24 : decode cX2_bestTour 24 = .ok (.aload_n 0, 1) := by decide +kernel
theorem dX2_bestTour_25 : decode cX2_bestTour 25 = .ok (.getfield 25, 3) := by decide +kernel
theorem dX2_bestTour_28 : decode cX2_bestTour 28 = .ok (.getfield 71, 3) := by decide +kernel
theorem dX2_bestTour_31 : decode cX2_bestTour 31 = .ok (.imul, 1) := by decide +kernel
theorem dX2_bestTour_32 : decode cX2_bestTour 32 = .ok (.istore 5, 2) := by decide +kernel
theorem dX2_bestTour_34 : decode cX2_bestTour 34 = .ok (.iinc 6 1, 3) := by decide +kernel
theorem dX2_bestTour_37 : decode cX2_bestTour 37 = .ok (.goto (-21), 3) := by decide +kernel
theorem dX2_bestTour_40 : decode cX2_bestTour 40 = .ok (.iconst 0, 1) := by decide +kernel
theorem dX2_bestTour_41 : decode cX2_bestTour 41 = .ok (.istore 6, 2) := by decide +kernel
theorem dX2_bestTour_43 : decode cX2_bestTour 43 = .ok (.iload 6, 2) := by decide +kernel
theorem dX2_bestTour_45 : decode cX2_bestTour 45 = .ok (.iload 5, 2) := by decide +kernel
theorem dX2_bestTour_47 : decode cX2_bestTour 47 = .ok (.if_icmp .ge 34, 3) := by decide +kernel
theorem dX2_bestTour_50 : decode cX2_bestTour 50 = .ok (.aload_n 0, 1) := by decide +kernel
theorem dX2_bestTour_51 : decode cX2_bestTour 51 = .ok (.iload 6, 2) := by decide +kernel
theorem dX2_bestTour_53 : decode cX2_bestTour 53 = .ok (.iload_n 1, 1) := by decide +kernel
theorem dX2_bestTour_54 : decode cX2_bestTour 54 = .ok (.invokevirtual 74, 3) := by decide +kernel
theorem dX2_bestTour_57 : decode cX2_bestTour 57 = .ok (.invokestatic 55, 3) := by decide +kernel
theorem dX2_bestTour_60 : decode cX2_bestTour 60 = .ok (.istore 7, 2) := by decide +kernel
theorem dX2_bestTour_62 : decode cX2_bestTour 62 = .ok (.iload 7, 2) := by decide +kernel
theorem dX2_bestTour_64 : decode cX2_bestTour 64 = .ok (.iload_n 3, 1) := by decide +kernel
theorem dX2_bestTour_65 : decode cX2_bestTour 65 = .ok (.if_icmp .le 10, 3) := by decide +kernel
theorem dX2_bestTour_68 : decode cX2_bestTour 68 = .ok (.iload 7, 2) := by decide +kernel
theorem dX2_bestTour_70 : decode cX2_bestTour 70 = .ok (.istore_n 3, 1) := by decide +kernel
theorem dX2_bestTour_71 : decode cX2_bestTour 71 = .ok (.iload 6, 2) := by decide +kernel
theorem dX2_bestTour_73 : decode cX2_bestTour 73 = .ok (.istore 4, 2) := by decide +kernel
theorem dX2_bestTour_75 : decode cX2_bestTour 75 = .ok (.iinc 6 1, 3) := by decide +kernel
theorem dX2_bestTour_78 : decode cX2_bestTour 78 = .ok (.goto (-35), 3) := by decide +kernel
theorem dX2_bestTour_81 : decode cX2_bestTour 81 = .ok (.iload_n 2, 1) := by decide +kernel
theorem dX2_bestTour_82 : decode cX2_bestTour 82 = .ok (.ifCond .ne 7, 3) := by decide +kernel
theorem dX2_bestTour_85 : decode cX2_bestTour 85 = .ok (.iload_n 3, 1) := by decide +kernel
theorem dX2_bestTour_86 : decode cX2_bestTour 86 = .ok (.goto 10, 3) := by decide +kernel
theorem dX2_bestTour_89 : decode cX2_bestTour 89 = .ok (.aload_n 0, 1) := by decide +kernel
theorem dX2_bestTour_90 : decode cX2_bestTour 90 = .ok (.iload 4, 2) := by decide +kernel
theorem dX2_bestTour_92 : decode cX2_bestTour 92 = .ok (.iload_n 1, 1) := by decide +kernel
theorem dX2_bestTour_93 : decode cX2_bestTour 93 = .ok (.invokevirtual 78, 3) := by decide +kernel
theorem dX2_bestTour_96 : decode cX2_bestTour 96 = .ok (.ireturn, 1) := by decide +kernel
set_option maxRecDepth 20000 in
theorem ggX2_lookIntoDrawers_X9_become : GoodIn wsX2_lookIntoDrawers wsX9_become := goodIn_r _ [8, 9, 10, 11, 12, 13, 14, 15, 16, 17, 18, 19, 7, 20, 109, 110, 111, 112, 113, 114, 115, 116] (by decide +kernel) (by decide +kernel)
set_option maxRecDepth 20000 in
theorem gX2_lookIntoDrawers_X9_become : GoodIn wsX2_lookIntoDrawers (wsV RX2 32 RX9 yX9_become wsX9_become) := goodIn_app (goodIn_of _ (by decide +kernel)) ggX2_lookIntoDrawers_X9_become
set_option maxRecDepth 20000 in
theorem ggX2_lookIntoDrawers_X9_cardBits : GoodIn wsX2_lookIntoDrawers wsX9_cardBits := goodIn_r _ [24, 11, 15, 109, 110, 111, 112, 113, 114, 115, 116] (by decide +kernel) (by decide +kernel)
set_option maxRecDepth 20000 in
theorem gX2_lookIntoDrawers_X9_cardBits : GoodIn wsX2_lookIntoDrawers (wsV RX2 81 RX9 yX9_cardBits wsX9_cardBits) := goodIn_app (goodIn_of _ (by decide +kernel)) ggX2_lookIntoDrawers_X9_cardBits
set_option maxRecDepth 20000 in
theorem ggX2_lookIntoDrawers_X9_passNight : GoodIn wsX2_lookIntoDrawers wsX9_passNight := goodIn_r _ [28, 11, 13, 12, 29, 30, 31, 32, 33, 34, 35, 36, 37, 38, 39, 40, 41, 42, 43, 44, 45, 46, 47, 48, 49, 50, 51, 52, 7, 53, 15, 16, 54, 55, 56, 57, 58, 59, 60, 61, 62, 63, 64, 65, 66, 67, 14, 68, 69, 70, 71, 72, 73, 74, 75, 76, 77, 78, 79, 10, 80, 81, 82, 83, 84, 85, 86, 87, 88, 89, 90, 91, 92, 93, 94, 95, 96, 97, 98, 99, 100, 101, 102, 103, 109, 110, 111, 112, 113, 114, 115, 116] (by decide +kernel) (by decide +kernel)
set_option maxRecDepth 20000 in
theorem gX2_lookIntoDrawers_X9_passNight : GoodIn wsX2_lookIntoDrawers (wsV RX2 36 RX9 yX9_passNight wsX9_passNight) := goodIn_app (goodIn_of _ (by decide +kernel)) ggX2_lookIntoDrawers_X9_passNight
theorem dX2_lookIntoDrawers_0 : decode cX2_lookIntoDrawers 0 = .ok (.aload_n 0, 1) := by decide +kernel
theorem dX2_lookIntoDrawers_1 : decode cX2_lookIntoDrawers 1 = .ok (.getfield 12, 3) := by decide +kernel
theorem dX2_lookIntoDrawers_4 : decode cX2_lookIntoDrawers 4 = .ok (.aload_n 0, 1) := by decide +kernel
theorem dX2_lookIntoDrawers_5 : decode cX2_lookIntoDrawers 5 = .ok (.getfield 25, 3) := by decide +kernel
theorem dX2_lookIntoDrawers_8 : decode cX2_lookIntoDrawers 8 = .ok (.invokevirtual 32, 3) := by decide +kernel
theorem dX2_lookIntoDrawers_11 : decode cX2_lookIntoDrawers 11 = .ok (.iconst 0, 1) := by decide +kernel
theorem dX2_lookIntoDrawers_12 : decode cX2_lookIntoDrawers 12 = .ok (.istore_n 2, 1) := by decide +kernel
theorem dX2_lookIntoDrawers_13 : decode cX2_lookIntoDrawers 13 = .ok (.iload_n 2, 1) := by decide +kernel
theorem dX2_lookIntoDrawers_14 : decode cX2_lookIntoDrawers 14 = .ok (.iload_n 1, 1) := by decide +kernel
theorem dX2_lookIntoDrawers_15 : decode cX2_lookIntoDrawers 15 = .ok (.if_icmp .ge 55, 3) := by decide +kernel
theorem dX2_lookIntoDrawers_18 : decode cX2_lookIntoDrawers 18 = .ok (.iconst 0, 1) := by decide +kernel
theorem dX2_lookIntoDrawers_19 : decode cX2_lookIntoDrawers 19 = .ok (.istore_n 3, 1) := by decide +kernel
theorem dX2_lookIntoDrawers_20 : decode cX2_lookIntoDrawers 20 = .ok (.iload_n 3, 1) := by decide +kernel
theorem dX2_lookIntoDrawers_21 : decode cX2_lookIntoDrawers 21 = .ok (.aload_n 0, 1) := by decide +kernel
theorem dX2_lookIntoDrawers_22 : decode cX2_lookIntoDrawers 22 = .ok (.getfield 12, 3) := by decide +kernel
theorem dX2_lookIntoDrawers_25 : decode cX2_lookIntoDrawers 25 = .ok (.getfield 71, 3) := by decide +kernel
theorem dX2_lookIntoDrawers_28 : decode cX2_lookIntoDrawers 28 = .ok (.if_icmp .ge 28, 3) := by decide +kernel
theorem dX2_lookIntoDrawers_31 : decode cX2_lookIntoDrawers 31 = .ok (.aload_n 0, 1) := by decide +kernel
theorem dX2_lookIntoDrawers_32 : decode cX2_lookIntoDrawers 32 = .ok (.getfield 21, 3) := by decide +kernel
theorem dX2_lookIntoDrawers_35 : decode cX2_lookIntoDrawers 35 = .ok (.iload_n 2, 1) := by decide +kernel
theorem dX2_lookIntoDrawers_36 : decode cX2_lookIntoDrawers 36 = .ok (.bipush 6, 2) := by decide +kernel
theorem dX2_lookIntoDrawers_38 : decode cX2_lookIntoDrawers 38 = .ok (.imul, 1) := by decide +kernel
theorem dX2_lookIntoDrawers_39 : decode cX2_lookIntoDrawers 39 = .ok (.iload_n 3, 1) := by decide +kernel
theorem dX2_lookIntoDrawers_40 : decode cX2_lookIntoDrawers 40 = .ok (.iadd, 1) := by decide +kernel
theorem dX2_lookIntoDrawers_41 : decode cX2_lookIntoDrawers 41 = .ok (.aload_n 0, 1) := by decide +kernel
theorem dX2_lookIntoDrawers_42 : decode cX2_lookIntoDrawers 42 = .ok (.getfield 12, 3) := by decide +kernel
theorem dX2_lookIntoDrawers_45 : decode cX2_lookIntoDrawers 45 = .ok (.iload_n 3, 1) := by decide +kernel
theorem dX2_lookIntoDrawers_46 : decode cX2_lookIntoDrawers 46 = .ok (.invokevirtual 81, 3) := by decide +kernel
theorem dX2_lookIntoDrawers_49 : decode cX2_lookIntoDrawers 49 = .ok (.iastore, 1) := by decide +kernel
theorem dX2_lookIntoDrawers_50 : decode cX2_lookIntoDrawers 50 = .ok (.iinc 3 1, 3) := by decide +kernel
theorem dX2_lookIntoDrawers_53 : decode cX2_lookIntoDrawers 53 = .ok (.goto (-33), 3) := by decide +kernel
theorem dX2_lookIntoDrawers_56 : decode cX2_lookIntoDrawers 56 = .ok (.aload_n 0, 1) := by decide +kernel
theorem dX2_lookIntoDrawers_57 : decode cX2_lookIntoDrawers 57 = .ok (.getfield 12, 3) := by decide +kernel
theorem dX2_lookIntoDrawers_60 : decode cX2_lookIntoDrawers 60 = .ok (.iconst 0, 1) := by decide +kernel
theorem dX2_lookIntoDrawers_61 : decode cX2_lookIntoDrawers 61 = .ok (.invokevirtual 36, 3) := by decide +kernel
theorem dX2_lookIntoDrawers_64 : decode cX2_lookIntoDrawers 64 = .ok (.iinc 2 1, 3) := by decide +kernel
theorem dX2_lookIntoDrawers_67 : decode cX2_lookIntoDrawers 67 = .ok (.goto (-54), 3) := by decide +kernel
theorem dX2_lookIntoDrawers_70 : decode cX2_lookIntoDrawers 70 = .ok (.return_, 1) := by decide +kernel
theorem dX2_seenOn_0 : decode cX2_seenOn 0 = .ok (.iconst 1, 1) := by decide +kernel
theorem dX2_seenOn_1 : decode cX2_seenOn 1 = .ok (.aload_n 0, 1) := by decide +kernel
theorem dX2_seenOn_2 : decode cX2_seenOn 2 = .ok (.getfield 25, 3) := by decide +kernel
theorem dX2_seenOn_5 : decode cX2_seenOn 5 = .ok (.getfield 71, 3) := by decide +kernel
theorem dX2_seenOn_8 : decode cX2_seenOn 8 = .ok (.invokestatic 84, 3) := by decide +kernel
theorem dX2_seenOn_11 : decode cX2_seenOn 11 = .ok (.istore_n 3, 1) := by decide +kernel
theorem dX2_seenOn_12 : decode cX2_seenOn 12 = .ok (.iconst 0, 1) := by decide +kernel
theorem dX2_seenOn_13 : decode cX2_seenOn 13 = .ok (.istore 4, 2) := by decide +kernel
theorem dX2_seenOn_15 : decode cX2_seenOn 15 = .ok (.iload_n 1, 1) := by decide +kernel
theorem dX2_seenOn_16 : decode cX2_seenOn 16 = .ok (.istore 5, 2) := by decide +kernel
theorem dX2_seenOn_18 : decode cX2_seenOn 18 = .ok (.iload_n 2, 1) := by decide +kernel
theorem dX2_seenOn_19 : decode cX2_seenOn 19 = .ok (.iconst 1, 1) := by decide +kernel
theorem dX2_seenOn_20 : decode cX2_seenOn 20 = .ok (.isub, 1) := by decide +kernel
theorem dX2_seenOn_21 : decode cX2_seenOn 21 = .ok (.istore 6, 2) := by decide +kernel
theorem dX2_seenOn_23 : decode cX2_seenOn 23 = .ok (.iload 6, 2) := by decide +kernel
theorem dX2_seenOn_25 : decode cX2_seenOn 25 = .ok (.ifCond .lt 35, 3) := by decide +kernel
theorem dX2_seenOn_28 : decode cX2_seenOn 28 = .ok (.iload 4, 2) := by decide +kernel
theorem dX2_seenOn_30 : decode cX2_seenOn 30 = .ok (.aload_n 0, 1) := by decide +kernel
theorem dX2_seenOn_31 : decode cX2_seenOn 31 = .ok (.getfield 21, 3) := by decide +kernel
theorem dX2_seenOn_34 : decode cX2_seenOn 34 = .ok (.iload 6, 2) := by decide +kernel
theorem dX2_seenOn_36 : decode cX2_seenOn 36 = .ok (.bipush 6, 2) := by decide +kernel
theorem dX2_seenOn_38 : decode cX2_seenOn 38 = .ok (.imul, 1) := by decide +kernel
theorem dX2_seenOn_39 : decode cX2_seenOn 39 = .ok (.iload 5, 2) := by decide +kernel
theorem dX2_seenOn_41 : decode cX2_seenOn 41 = .ok (.iload_n 3, 1) := by decide +kernel
theorem dX2_seenOn_42 : decode cX2_seenOn 42 = .ok (.irem, 1) := by decide +kernel
theorem dX2_seenOn_43 : decode cX2_seenOn 43 = .ok (.iadd, 1) := by decide +kernel
theorem dX2_seenOn_44 : decode cX2_seenOn 44 = .ok (.iaload, 1) := by decide +kernel
theorem dX2_seenOn_45 : decode cX2_seenOn 45 = .ok (.ior, 1) := by decide +kernel
theorem dX2_seenOn_46 : decode cX2_seenOn 46 = .ok (.istore 4, 2) := by decide +kernel
theorem dX2_seenOn_48 : decode cX2_seenOn 48 = .ok (.iload 5, 2) := by decide +kernel
theorem dX2_seenOn_50 : decode cX2_seenOn 50 = .ok (.iload_n 3, 1) := by decide +kernel
theorem dX2_seenOn_51 : decode cX2_seenOn 51 = .ok (.idiv, 1) := by decide +kernel
theorem dX2_seenOn_52 : decode cX2_seenOn 52 = .ok (.istore 5, 2) := by decide +kernel
theorem dX2_seenOn_54 : decode cX2_seenOn 54 = .ok (.iinc 6 (-1), 3) := by decide +kernel
theorem dX2_seenOn_57 : decode cX2_seenOn 57 = .ok (.goto (-34), 3) := by decide +kernel
theorem dX2_seenOn_60 : decode cX2_seenOn 60 = .ok (.iload 4, 2) := by decide +kernel
theorem dX2_seenOn_62 : decode cX2_seenOn 62 = .ok (.ireturn, 1) := by decide +kernel
theorem dX2_tourFigures_0 : decode cX2_tourFigures 0 = .ok (.iconst 1, 1) := by decide +kernel
theorem dX2_tourFigures_1 : decode cX2_tourFigures 1 = .ok (.aload_n 0, 1) := by decide +kernel
theorem dX2_tourFigures_2 : decode cX2_tourFigures 2 = .ok (.getfield 25, 3) := by decide +kernel
theorem dX2_tourFigures_5 : decode cX2_tourFigures 5 = .ok (.getfield 71, 3) := by decide +kernel
theorem dX2_tourFigures_8 : decode cX2_tourFigures 8 = .ok (.invokestatic 84, 3) := by decide +kernel
theorem dX2_tourFigures_11 : decode cX2_tourFigures 11 = .ok (.istore_n 3, 1) := by decide +kernel
theorem dX2_tourFigures_12 : decode cX2_tourFigures 12 = .ok (.iconst 0, 1) := by decide +kernel
theorem dX2_tourFigures_13 : decode cX2_tourFigures 13 = .ok (.istore 4, 2) := by decide +kernel
theorem dX2_tourFigures_15 : decode cX2_tourFigures 15 = .ok (.iconst 1, 1) := by decide +kernel
theorem dX2_tourFigures_16 : decode cX2_tourFigures 16 = .ok (.istore 5, 2) := by decide +kernel
theorem dX2_tourFigures_18 : decode cX2_tourFigures 18 = .ok (.iload_n 1, 1) := by decide +kernel
theorem dX2_tourFigures_19 : decode cX2_tourFigures 19 = .ok (.istore 6, 2) := by decide +kernel
theorem dX2_tourFigures_21 : decode cX2_tourFigures 21 = .ok (.iconst 0, 1) := by decide +kernel
theorem dX2_tourFigures_22 : decode cX2_tourFigures 22 = .ok (.istore 7, 2) := by decide +kernel
theorem dX2_tourFigures_24 : decode cX2_tourFigures 24 = .ok (.iload 7, 2) := by decide +kernel
theorem dX2_tourFigures_26 : decode cX2_tourFigures 26 = .ok (.iload_n 2, 1) := by decide +kernel
theorem dX2_tourFigures_27 : decode cX2_tourFigures 27 = .ok (.if_icmp .ge 34, 3) := by decide +kernel
theorem dX2_tourFigures_30 : decode cX2_tourFigures 30 = .ok (.iload 4, 2) := by decide +kernel
theorem dX2_tourFigures_32 : decode cX2_tourFigures 32 = .ok (.iload 6, 2) := by decide +kernel
theorem dX2_tourFigures_34 : decode cX2_tourFigures 34 = .ok (.iload_n 3, 1) := by decide +kernel
theorem dX2_tourFigures_35 : decode cX2_tourFigures 35 = .ok (.irem, 1) := by decide +kernel
theorem dX2_tourFigures_36 : decode cX2_tourFigures 36 = .ok (.iload 5, 2) := by decide +kernel
theorem dX2_tourFigures_38 : decode cX2_tourFigures 38 = .ok (.imul, 1) := by decide +kernel
theorem dX2_tourFigures_39 : decode cX2_tourFigures 39 = .ok (.iadd, 1) := by decide +kernel
theorem dX2_tourFigures_40 : decode cX2_tourFigures 40 = .ok (.istore 4, 2) := by decide +kernel
theorem dX2_tourFigures_42 : decode cX2_tourFigures 42 = .ok (.iload 5, 2) := by decide +kernel
theorem dX2_tourFigures_44 : decode cX2_tourFigures 44 = .ok (.bipush 10, 2) := by decide +kernel
theorem dX2_tourFigures_46 : decode cX2_tourFigures 46 = .ok (.imul, 1) := by decide +kernel
theorem dX2_tourFigures_47 : decode cX2_tourFigures 47 = .ok (.istore 5, 2) := by decide +kernel
theorem dX2_tourFigures_49 : decode cX2_tourFigures 49 = .ok (.iload 6, 2) := by decide +kernel
theorem dX2_tourFigures_51 : decode cX2_tourFigures 51 = .ok (.iload_n 3, 1) := by decide +kernel
theorem dX2_tourFigures_52 : decode cX2_tourFigures 52 = .ok (.idiv, 1) := by decide +kernel
theorem dX2_tourFigures_53 : decode cX2_tourFigures 53 = .ok (.istore 6, 2) := by decide +kernel
theorem dX2_tourFigures_55 : decode cX2_tourFigures 55 = .ok (.iinc 7 1, 3) := by decide +kernel
theorem dX2_tourFigures_58 : decode cX2_tourFigures 58 = .ok (.goto (-34), 3) := by decide +kernel
theorem dX2_tourFigures_61 : decode cX2_tourFigures 61 = .ok (.iload 4, 2) := by decide +kernel
theorem dX2_tourFigures_63 : decode cX2_tourFigures 63 = .ok (.ireturn, 1) := by decide +kernel
set_option maxRecDepth 20000 in
theorem ggX2_fitting_X9_become : GoodIn wsX2_fitting wsX9_become := goodIn_r _ [7, 8, 9, 10, 11, 12, 13, 14, 15, 16, 17, 18, 6, 19, 134, 135, 136, 137, 138, 139, 140, 141] (by decide +kernel) (by decide +kernel)
set_option maxRecDepth 20000 in
theorem gX2_fitting_X9_become : GoodIn wsX2_fitting (wsV RX2 32 RX9 yX9_become wsX9_become) := goodIn_app (goodIn_of _ (by decide +kernel)) ggX2_fitting_X9_become
set_option maxRecDepth 20000 in
theorem ggX2_fitting_X2_suppose : GoodIn wsX2_fitting wsX2_suppose := goodIn_r _ [24, 1, 25, 26, 27, 28, 29, 30, 31, 32, 6, 33, 8, 34, 35, 36, 37, 10, 14, 15, 38, 39, 40, 41, 42, 43, 44, 45, 129, 130, 131, 132, 133, 134, 135, 136, 137, 138, 139, 140, 141] (by decide +kernel) (by decide +kernel)
set_option maxRecDepth 20000 in
theorem gX2_fitting_X2_suppose : GoodIn wsX2_fitting (wsV RX2 89 RX2 yX2_suppose wsX2_suppose) := goodIn_app (goodIn_of _ (by decide +kernel)) ggX2_fitting_X2_suppose
set_option maxRecDepth 20000 in
theorem ggX2_fitting_X2_goesAsTold : GoodIn wsX2_fitting wsX2_goesAsTold := goodIn_r _ [49, 1, 50, 51, 52, 6, 53, 10, 12, 11, 54, 55, 56, 57, 58, 59, 60, 61, 62, 63, 64, 65, 66, 67, 68, 69, 70, 71, 72, 73, 74, 75, 76, 77, 78, 14, 15, 79, 80, 81, 82, 83, 84, 85, 86, 87, 88, 89, 90, 91, 92, 13, 38, 39, 40, 41, 93, 94, 95, 96, 97, 98, 99, 100, 9, 42, 43, 44, 45, 101, 35, 36, 37, 102, 103, 104, 105, 106, 107, 108, 109, 110, 111, 112, 113, 114, 115, 116, 117, 118, 119, 120, 121, 122, 123, 124, 125, 126, 127, 128, 129, 130, 131, 132, 133, 134, 135, 136, 137, 138, 139, 140, 141, 142, 143, 144] (by decide +kernel) (by decide +kernel)
set_option maxRecDepth 20000 in
theorem gX2_fitting_X2_goesAsTold : GoodIn wsX2_fitting (wsV RX2 93 RX2 yX2_goesAsTold wsX2_goesAsTold) := goodIn_app (goodIn_of _ (by decide +kernel)) ggX2_fitting_X2_goesAsTold
theorem dX2_fitting_0 : decode cX2_fitting 0 = .ok (.iconst 0, 1) := by decide +kernel
theorem dX2_fitting_1 : decode cX2_fitting 1 = .ok (.istore 6, 2) := by decide +kernel
theorem dX2_fitting_3 : decode cX2_fitting 3 = .ok (.iconst 0, 1) := by decide +kernel
theorem dX2_fitting_4 : decode cX2_fitting 4 = .ok (.istore 7, 2) := by decide +kernel
theorem dX2_fitting_6 : decode cX2_fitting 6 = .ok (.iload 7, 2) := by decide +kernel
theorem dX2_fitting_8 : decode cX2_fitting 8 = .ok (.bipush 8, 2) := by decide +kernel
theorem dX2_fitting_10 : decode cX2_fitting 10 = .ok (.if_icmp .gt 53, 3) := by decide +kernel
theorem dX2_fitting_13 : decode cX2_fitting 13 = .ok (.aload_n 0, 1) := by decide +kernel
theorem dX2_fitting_14 : decode cX2_fitting 14 = .ok (.getfield 12, 3) := by decide +kernel
theorem dX2_fitting_17 : decode cX2_fitting 17 = .ok (.aload_n 0, 1) := by decide +kernel
theorem dX2_fitting_18 : decode cX2_fitting 18 = .ok (.getfield 25, 3) := by decide +kernel
theorem dX2_fitting_21 : decode cX2_fitting 21 = .ok (.invokevirtual 32, 3) := by decide +kernel
theorem dX2_fitting_24 : decode cX2_fitting 24 = .ok (.aload_n 0, 1) := by decide +kernel
theorem dX2_fitting_25 : decode cX2_fitting 25 = .ok (.iload_n 1, 1) := by decide +kernel
theorem dX2_fitting_26 : decode cX2_fitting 26 = .ok (.iload 5, 2) := by decide +kernel
theorem dX2_fitting_28 : decode cX2_fitting 28 = .ok (.iload 7, 2) := by decide +kernel
theorem dX2_fitting_30 : decode cX2_fitting 30 = .ok (.invokevirtual 89, 3) := by decide +kernel
theorem dX2_fitting_33 : decode cX2_fitting 33 = .ok (.ifCond .eq 24, 3) := by decide +kernel
theorem dX2_fitting_36 : decode cX2_fitting 36 = .ok (.aload_n 0, 1) := by decide +kernel
theorem dX2_fitting_37 : decode cX2_fitting 37 = .ok (.iload_n 1, 1) := by decide +kernel
theorem dX2_fitting_38 : decode cX2_fitting 38 = .ok (.aload_n 2, 1) := by decide +kernel
theorem dX2_fitting_39 : decode cX2_fitting 39 = .ok (.iload_n 3, 1) := by decide +kernel
theorem dX2_fitting_40 : decode cX2_fitting 40 = .ok (.iload 4, 2) := by decide +kernel
theorem dX2_fitting_42 : decode cX2_fitting 42 = .ok (.invokevirtual 93, 3) := by decide +kernel
theorem dX2_fitting_45 : decode cX2_fitting 45 = .ok (.ifCond .eq 12, 3) := by decide +kernel
theorem dX2_fitting_48 : decode cX2_fitting 48 = .ok (.iload 6, 2) := by decide +kernel
theorem dX2_fitting_50 : decode cX2_fitting 50 = .ok (.iconst 1, 1) := by decide +kernel
theorem dX2_fitting_51 : decode cX2_fitting 51 = .ok (.iload 7, 2) := by decide +kernel
theorem dX2_fitting_53 : decode cX2_fitting 53 = .ok (.ishl, 1) := by decide +kernel
theorem dX2_fitting_54 : decode cX2_fitting 54 = .ok (.ior, 1) := by decide +kernel
theorem dX2_fitting_55 : decode cX2_fitting 55 = .ok (.istore 6, 2) := by decide +kernel
theorem dX2_fitting_57 : decode cX2_fitting 57 = .ok (.iinc 7 1, 3) := by decide +kernel
theorem dX2_fitting_60 : decode cX2_fitting 60 = .ok (.goto (-54), 3) := by decide +kernel
theorem dX2_fitting_63 : decode cX2_fitting 63 = .ok (.iload 6, 2) := by decide +kernel
theorem dX2_fitting_65 : decode cX2_fitting 65 = .ok (.ireturn, 1) := by decide +kernel
set_option maxRecDepth 20000 in
theorem ggX2_suppose_X11_within : GoodIn wsX2_suppose wsX11_within := goodIn_r _ [6] (by decide +kernel) (by decide +kernel)
set_option maxRecDepth 20000 in
theorem gX2_suppose_X11_within_n97 : GoodIn wsX2_suppose (wsX11_within) := ggX2_suppose_X11_within
set_option maxRecDepth 20000 in
theorem ggX2_suppose_X9_hasDrawer : GoodIn wsX2_suppose wsX9_hasDrawer := goodIn_r _ [11, 12, 33, 34, 35, 36, 37, 38, 39, 40] (by decide +kernel) (by decide +kernel)
set_option maxRecDepth 20000 in
theorem gX2_suppose_X9_hasDrawer : GoodIn wsX2_suppose (wsV RX2 106 RX9 yX9_hasDrawer wsX9_hasDrawer) := goodIn_app (goodIn_of _ (by decide +kernel)) ggX2_suppose_X9_hasDrawer
set_option maxRecDepth 20000 in
theorem ggX2_suppose_X9_stand : GoodIn wsX2_suppose wsX9_stand := goodIn_r _ [16, 17, 18, 19, 20, 21, 22, 10, 23, 24, 25, 26, 27, 33, 34, 35, 36, 37, 38, 39, 40] (by decide +kernel) (by decide +kernel)
set_option maxRecDepth 20000 in
theorem gX2_suppose_X9_stand : GoodIn wsX2_suppose (wsV RX2 110 RX9 yX9_stand wsX9_stand) := goodIn_app (goodIn_of _ (by decide +kernel)) ggX2_suppose_X9_stand
theorem dX2_suppose_0 : decode cX2_suppose 0 = .ok (.iload_n 2, 1) := by decide +kernel
theorem dX2_suppose_1 : decode cX2_suppose 1 = .ok (.tableswitch 98 0 2 #[27, 55, 80], 27) := by decide +kernel
theorem dX2_suppose_28 : decode cX2_suppose 28 = .ok (.iload_n 3, 1) := by decide +kernel
theorem dX2_suppose_29 : decode cX2_suppose 29 = .ok (.iconst 1, 1) := by decide +kernel
theorem dX2_suppose_30 : decode cX2_suppose 30 = .ok (.iconst 5, 1) := by decide +kernel
theorem dX2_suppose_31 : decode cX2_suppose 31 = .ok (.invokestatic 97, 3) := by decide +kernel
theorem dX2_suppose_34 : decode cX2_suppose 34 = .ok (.ifCond .ne 5, 3) := by decide +kernel
theorem dX2_suppose_37 : decode cX2_suppose 37 = .ok (.iconst 0, 1) := by decide +kernel
theorem dX2_suppose_38 : decode cX2_suppose 38 = .ok (.ireturn, 1) := by decide +kernel
theorem dX2_suppose_39 : decode cX2_suppose 39 = .ok (.aload_n 0, 1) := by decide +kernel
theorem dX2_suppose_40 : decode cX2_suppose 40 = .ok (.getfield 12, 3) := by decide +kernel
theorem dX2_suppose_43 : decode cX2_suppose 43 = .ok (.getfield 65, 3) := by decide +kernel
theorem dX2_suppose_46 : decode cX2_suppose 46 = .ok (.iload_n 1, 1) := by decide +kernel
theorem dX2_suppose_47 : decode cX2_suppose 47 = .ok (.aload_n 0, 1) := by decide +kernel
theorem dX2_suppose_48 : decode cX2_suppose 48 = .ok (.getfield 28, 3) := by decide +kernel
theorem dX2_suppose_51 : decode cX2_suppose 51 = .ok (.iload_n 3, 1) := by decide +kernel
theorem dX2_suppose_52 : decode cX2_suppose 52 = .ok (.aaload, 1) := by decide +kernel
theorem dX2_suppose_53 : decode cX2_suppose 53 = .ok (.aastore, 1) := by decide +kernel
theorem dX2_suppose_54 : decode cX2_suppose 54 = .ok (.iconst 1, 1) := by decide +kernel
theorem dX2_suppose_55 : decode cX2_suppose 55 = .ok (.ireturn, 1) := by decide +kernel
theorem dX2_suppose_56 : decode cX2_suppose 56 = .ok (.iload_n 3, 1) := by decide +kernel
theorem dX2_suppose_57 : decode cX2_suppose 57 = .ok (.bipush 8, 2) := by decide +kernel
theorem dX2_suppose_59 : decode cX2_suppose 59 = .ok (.if_icmp .ge 8, 3) := by decide +kernel
theorem dX2_suppose_62 : decode cX2_suppose 62 = .ok (.iload_n 3, 1) := by decide +kernel
theorem dX2_suppose_63 : decode cX2_suppose 63 = .ok (.iload_n 1, 1) := by decide +kernel
theorem dX2_suppose_64 : decode cX2_suppose 64 = .ok (.if_icmp .ne 5, 3) := by decide +kernel
theorem dX2_suppose_67 : decode cX2_suppose 67 = .ok (.iconst 0, 1) := by decide +kernel
theorem dX2_suppose_68 : decode cX2_suppose 68 = .ok (.ireturn, 1) := by decide +kernel
theorem dX2_suppose_69 : decode cX2_suppose 69 = .ok (.aload_n 0, 1) := by decide +kernel
theorem dX2_suppose_70 : decode cX2_suppose 70 = .ok (.getfield 12, 3) := by decide +kernel
theorem dX2_suppose_73 : decode cX2_suppose 73 = .ok (.getfield 100, 3) := by decide +kernel
theorem dX2_suppose_76 : decode cX2_suppose 76 = .ok (.iload_n 1, 1) := by decide +kernel
theorem dX2_suppose_77 : decode cX2_suppose 77 = .ok (.iload_n 3, 1) := by decide +kernel
theorem dX2_suppose_78 : decode cX2_suppose 78 = .ok (.iastore, 1) := by decide +kernel
theorem dX2_suppose_79 : decode cX2_suppose 79 = .ok (.iconst 1, 1) := by decide +kernel
theorem dX2_suppose_80 : decode cX2_suppose 80 = .ok (.ireturn, 1) := by decide +kernel
theorem dX2_suppose_81 : decode cX2_suppose 81 = .ok (.aload_n 0, 1) := by decide +kernel
theorem dX2_suppose_82 : decode cX2_suppose 82 = .ok (.getfield 12, 3) := by decide +kernel
theorem dX2_suppose_85 : decode cX2_suppose 85 = .ok (.iload_n 3, 1) := by decide +kernel
theorem dX2_suppose_86 : decode cX2_suppose 86 = .ok (.putfield 103, 3) := by decide +kernel
theorem dX2_suppose_89 : decode cX2_suppose 89 = .ok (.iload_n 3, 1) := by decide +kernel
theorem dX2_suppose_90 : decode cX2_suppose 90 = .ok (.ifCond .le 7, 3) := by decide +kernel
theorem dX2_suppose_93 : decode cX2_suppose 93 = .ok (.iconst 1, 1) := by decide +kernel
theorem dX2_suppose_94 : decode cX2_suppose 94 = .ok (.goto 4, 3) := by decide +kernel
theorem dX2_suppose_97 : decode cX2_suppose 97 = .ok (.iconst 0, 1) := by decide +kernel
theorem dX2_suppose_98 : decode cX2_suppose 98 = .ok (.ireturn, 1) := by decide +kernel
theorem dX2_suppose_99 : decode cX2_suppose 99 = .ok (.aload_n 0, 1) := by decide +kernel
theorem dX2_suppose_100 : decode cX2_suppose 100 = .ok (.getfield 12, 3) := by decide +kernel
theorem dX2_suppose_103 : decode cX2_suppose 103 = .ok (.iload_n 3, 1) := by decide +kernel
theorem dX2_suppose_104 : decode cX2_suppose 104 = .ok (.invokevirtual 106, 3) := by decide +kernel
theorem dX2_suppose_107 : decode cX2_suppose 107 = .ok (.ifCond .ne 5, 3) := by decide +kernel
theorem dX2_suppose_110 : decode cX2_suppose 110 = .ok (.iconst 0, 1) := by decide +kernel
theorem dX2_suppose_111 : decode cX2_suppose 111 = .ok (.ireturn, 1) := by decide +kernel
theorem dX2_suppose_112 : decode cX2_suppose 112 = .ok (.aload_n 0, 1) := by decide +kernel
theorem dX2_suppose_113 : decode cX2_suppose 113 = .ok (.getfield 12, 3) := by decide +kernel
theorem dX2_suppose_116 : decode cX2_suppose 116 = .ok (.getfield 40, 3) := by decide +kernel
theorem dX2_suppose_119 : decode cX2_suppose 119 = .ok (.iload_n 1, 1) := by decide +kernel
theorem dX2_suppose_120 : decode cX2_suppose 120 = .ok (.iaload, 1) := by decide +kernel
theorem dX2_suppose_121 : decode cX2_suppose 121 = .ok (.iload_n 3, 1) := by decide +kernel
theorem dX2_suppose_122 : decode cX2_suppose 122 = .ok (.if_icmp .eq 14, 3) := by decide +kernel
theorem dX2_suppose_125 : decode cX2_suppose 125 = .ok (.aload_n 0, 1) := by decide +kernel
theorem dX2_suppose_126 : decode cX2_suppose 126 = .ok (.getfield 12, 3) := by decide +kernel
theorem dX2_suppose_129 : decode cX2_suppose 129 = .ok (.iload_n 1, 1) := by decide +kernel
theorem dX2_suppose_130 : decode cX2_suppose 130 = .ok (.iload_n 3, 1) := by decide +kernel
theorem dX2_suppose_131 : decode cX2_suppose 131 = .ok (.ldc 46, 2) := by decide +kernel
theorem dX2_suppose_133 : decode cX2_suppose 133 = .ok (.invokevirtual 110, 3) := by decide +kernel
theorem dX2_suppose_136 : decode cX2_suppose 136 = .ok (.iconst 1, 1) := by decide +kernel
theorem dX2_suppose_137 : decode cX2_suppose 137 = .ok (.ireturn, 1) := by decide +kernel
set_option maxRecDepth 20000 in
theorem ggX2_goesAsTold_X9_passNight : GoodIn wsX2_goesAsTold wsX9_passNight := goodIn_r _ [6, 7, 8, 9, 10, 11, 12, 13, 14, 15, 16, 17, 18, 19, 20, 21, 22, 23, 24, 25, 26, 27, 28, 29, 30, 31, 32, 33, 5, 34, 35, 36, 37, 38, 39, 40, 41, 42, 43, 44, 45, 46, 47, 48, 49, 50, 51, 52, 53, 54, 55, 56, 57, 58, 59, 60, 61, 62, 63, 64, 65, 66, 67, 68, 69, 70, 71, 72, 73, 74, 75, 76, 77, 78, 79, 80, 81, 82, 83, 84, 85, 86, 87, 88, 105, 106, 107, 108, 109, 110, 111, 112] (by decide +kernel) (by decide +kernel)
set_option maxRecDepth 20000 in
theorem gX2_goesAsTold_X9_passNight : GoodIn wsX2_goesAsTold (wsV RX2 36 RX9 yX9_passNight wsX9_passNight) := goodIn_app (goodIn_of _ (by decide +kernel)) ggX2_goesAsTold_X9_passNight
set_option maxRecDepth 20000 in
theorem ggX2_goesAsTold_X8_item : GoodIn wsX2_goesAsTold wsX8_item := goodIn_r _ [93, 94, 95, 96, 97, 92, 98, 99, 113, 114, 115] (by decide +kernel) (by decide +kernel)
set_option maxRecDepth 20000 in
theorem gX2_goesAsTold_X8_item : GoodIn wsX2_goesAsTold (wsV RX2 114 RX8 yX8_item wsX8_item) := goodIn_app (goodIn_of _ (by decide +kernel)) ggX2_goesAsTold_X8_item
theorem dX2_goesAsTold_0 : decode cX2_goesAsTold 0 = .ok (.iconst 0, 1) := by decide +kernel
theorem dX2_goesAsTold_1 : decode cX2_goesAsTold 1 = .ok (.istore 5, 2) := by decide +kernel
theorem dX2_goesAsTold_3 : decode cX2_goesAsTold 3 = .ok (.iload 5, 2) := by decide +kernel
theorem dX2_goesAsTold_5 : decode cX2_goesAsTold 5 = .ok (.iload 4, 2) := by decide +kernel
theorem dX2_goesAsTold_7 : decode cX2_goesAsTold 7 = .ok (.if_icmp .ge 39, 3) := by decide +kernel
theorem dX2_goesAsTold_10 : decode cX2_goesAsTold 10 = .ok (.aload_n 0, 1) := by decide +kernel
theorem dX2_goesAsTold_11 : decode cX2_goesAsTold 11 = .ok (.getfield 12, 3) := by decide +kernel
theorem dX2_goesAsTold_14 : decode cX2_goesAsTold 14 = .ok (.iconst 0, 1) := by decide +kernel
theorem dX2_goesAsTold_15 : decode cX2_goesAsTold 15 = .ok (.invokevirtual 36, 3) := by decide +kernel
theorem dX2_goesAsTold_18 : decode cX2_goesAsTold 18 = .ok (.aload_n 0, 1) := by decide +kernel
theorem dX2_goesAsTold_19 : decode cX2_goesAsTold 19 = .ok (.getfield 12, 3) := by decide +kernel
theorem dX2_goesAsTold_22 : decode cX2_goesAsTold 22 = .ok (.getfield 40, 3) := by decide +kernel
theorem dX2_goesAsTold_25 : decode cX2_goesAsTold 25 = .ok (.iload_n 1, 1) := by decide +kernel
theorem dX2_goesAsTold_26 : decode cX2_goesAsTold 26 = .ok (.iaload, 1) := by decide +kernel
theorem dX2_goesAsTold_27 : decode cX2_goesAsTold 27 = .ok (.aload_n 2, 1) := by decide +kernel
theorem dX2_goesAsTold_28 : decode cX2_goesAsTold 28 = .ok (.iload_n 3, 1) := by decide +kernel
theorem dX2_goesAsTold_29 : decode cX2_goesAsTold 29 = .ok (.iload 5, 2) := by decide +kernel
theorem dX2_goesAsTold_31 : decode cX2_goesAsTold 31 = .ok (.iadd, 1) := by decide +kernel
theorem dX2_goesAsTold_32 : decode cX2_goesAsTold 32 = .ok (.invokevirtual 114, 3) := by decide +kernel
theorem dX2_goesAsTold_35 : decode cX2_goesAsTold 35 = .ok (.if_icmp .eq 5, 3) := by decide +kernel
theorem dX2_goesAsTold_38 : decode cX2_goesAsTold 38 = .ok (.iconst 0, 1) := by decide +kernel
theorem dX2_goesAsTold_39 : decode cX2_goesAsTold 39 = .ok (.ireturn, 1) := by decide +kernel
theorem dX2_goesAsTold_40 : decode cX2_goesAsTold 40 = .ok (.iinc 5 1, 3) := by decide +kernel
theorem dX2_goesAsTold_43 : decode cX2_goesAsTold 43 = .ok (.goto (-40), 3) := by decide +kernel
theorem dX2_goesAsTold_46 : decode cX2_goesAsTold 46 = .ok (.iconst 1, 1) := by decide +kernel
theorem dX2_goesAsTold_47 : decode cX2_goesAsTold 47 = .ok (.ireturn, 1) := by decide +kernel
set_option maxRecDepth 20000 in
theorem ggX2_chance_X9_become : GoodIn wsX2_chance wsX9_become := goodIn_r _ [11, 12, 13, 14, 15, 16, 17, 18, 19, 20, 21, 22, 10, 23, 126, 127, 128, 129, 130, 131, 132, 133] (by decide +kernel) (by decide +kernel)
set_option maxRecDepth 20000 in
theorem gX2_chance_X9_become : GoodIn wsX2_chance (wsV RX2 32 RX9 yX9_become wsX9_become) := goodIn_app (goodIn_of _ (by decide +kernel)) ggX2_chance_X9_become
set_option maxRecDepth 20000 in
theorem ggX2_chance_X9_passNight : GoodIn wsX2_chance wsX9_passNight := goodIn_r _ [27, 14, 16, 15, 28, 29, 30, 31, 32, 33, 34, 35, 36, 37, 38, 39, 40, 41, 42, 43, 44, 45, 46, 47, 48, 49, 50, 51, 10, 52, 18, 19, 53, 54, 55, 56, 57, 58, 59, 60, 61, 62, 63, 64, 65, 66, 17, 67, 68, 69, 70, 71, 72, 73, 74, 75, 76, 77, 78, 13, 79, 80, 81, 82, 83, 84, 85, 86, 87, 88, 89, 90, 91, 92, 93, 94, 95, 96, 97, 98, 99, 100, 101, 102, 126, 127, 128, 129, 130, 131, 132, 133] (by decide +kernel) (by decide +kernel)
set_option maxRecDepth 20000 in
theorem gX2_chance_X9_passNight : GoodIn wsX2_chance (wsV RX2 36 RX9 yX9_passNight wsX9_passNight) := goodIn_app (goodIn_of _ (by decide +kernel)) ggX2_chance_X9_passNight
set_option maxRecDepth 20000 in
theorem ggX2_chance_J6_bitCount_0f7a4 : GoodIn wsX2_chance wsJ6_bitCount_0f7a4 := goodIn_r _ [106, 107, 108, 109] (by decide +kernel) (by decide +kernel)
set_option maxRecDepth 20000 in
theorem gX2_chance_J6_bitCount_0f7a4 : GoodIn wsX2_chance (va_wsS RX2 55 yJ6_bitCount_0f7a4 wsJ6_bitCount_0f7a4) := goodIn_app (goodIn_of _ (by decide +kernel)) ggX2_chance_J6_bitCount_0f7a4
set_option maxRecDepth 20000 in
theorem ggX2_chance_X2_weight : GoodIn wsX2_chance wsX2_weight := goodIn_r _ [114, 1, 115, 116, 113, 117, 121, 122, 123, 124, 125, 126, 127, 128, 129, 130, 131, 132, 133] (by decide +kernel) (by decide +kernel)
set_option maxRecDepth 20000 in
theorem gX2_chance_X2_weight : GoodIn wsX2_chance (wsV RX2 119 RX2 yX2_weight wsX2_weight) := goodIn_app (goodIn_of _ (by decide +kernel)) ggX2_chance_X2_weight
set_option maxRecDepth 20000 in
theorem ggX2_chance_X2_power : GoodIn wsX2_chance wsX2_power := goodIn_r _ [117] (by decide +kernel) (by decide +kernel)
set_option maxRecDepth 20000 in
theorem gX2_chance_X2_power : GoodIn wsX2_chance (va_wsS RX2 123 yX2_power wsX2_power) := goodIn_app (goodIn_of _ (by decide +kernel)) ggX2_chance_X2_power
set_option maxRecDepth 20000 in
theorem ggX2_chance_X2_greatestDivisor : GoodIn wsX2_chance wsX2_greatestDivisor := goodIn_r _ [120] (by decide +kernel) (by decide +kernel)
set_option maxRecDepth 20000 in
theorem gX2_chance_X2_greatestDivisor : GoodIn wsX2_chance (va_wsS RX2 126 yX2_greatestDivisor wsX2_greatestDivisor) := goodIn_app (goodIn_of _ (by decide +kernel)) ggX2_chance_X2_greatestDivisor
theorem dX2_chance_0 : decode cX2_chance 0 = .ok (.lconst 0, 1) := by decide +kernel
theorem dX2_chance_1 : decode cX2_chance 1 = .ok (.lstore 5, 2) := by decide +kernel
theorem dX2_chance_3 : decode cX2_chance 3 = .ok (.iconst 1, 1) := by decide +kernel
theorem dX2_chance_4 : decode cX2_chance 4 = .ok (.aload_n 0, 1) := by decide +kernel
theorem dX2_chance_5 : decode cX2_chance 5 = .ok (.getfield 25, 3) := by decide +kernel
theorem dX2_chance_8 : decode cX2_chance 8 = .ok (.getfield 51, 3) := by decide +kernel
theorem dX2_chance_11 : decode cX2_chance 11 = .ok (.ishl, 1) := by decide +kernel
theorem dX2_chance_12 : decode cX2_chance 12 = .ok (.istore 7, 2) := by decide +kernel
theorem dX2_chance_14 : decode cX2_chance 14 = .ok (.iconst 0, 1) := by decide +kernel
theorem dX2_chance_15 : decode cX2_chance 15 = .ok (.istore 8, 2) := by decide +kernel
theorem dX2_chance_17 : decode cX2_chance 17 = .ok (.iload 8, 2) := by decide +kernel
theorem dX2_chance_19 : decode cX2_chance 19 = .ok (.iload 7, 2) := by decide +kernel
theorem dX2_chance_21 : decode cX2_chance 21 = .ok (.if_icmp .ge 57, 3) := by decide +kernel
theorem dX2_chance_24 : decode cX2_chance 24 = .ok (.aload_n 0, 1) := by decide +kernel
theorem dX2_chance_25 : decode cX2_chance 25 = .ok (.getfield 12, 3) := by decide +kernel
theorem dX2_chance_28 : decode cX2_chance 28 = .ok (.aload_n 0, 1) := by decide +kernel
theorem dX2_chance_29 : decode cX2_chance 29 = .ok (.getfield 25, 3) := by decide +kernel
theorem dX2_chance_32 : decode cX2_chance 32 = .ok (.invokevirtual 32, 3) := by decide +kernel
theorem dX2_chance_35 : decode cX2_chance 35 = .ok (.aload_n 0, 1) := by decide +kernel
theorem dX2_chance_36 : decode cX2_chance 36 = .ok (.getfield 12, 3) := by decide +kernel
theorem dX2_chance_39 : decode cX2_chance 39 = .ok (.iload 8, 2) := by decide +kernel
theorem dX2_chance_41 : decode cX2_chance 41 = .ok (.invokevirtual 36, 3) := by decide +kernel
theorem dX2_chance_44 : decode cX2_chance 44 = .ok (.aload_n 0, 1) := by decide +kernel
theorem dX2_chance_45 : decode cX2_chance 45 = .ok (.getfield 12, 3) := by decide +kernel
theorem dX2_chance_48 : decode cX2_chance 48 = .ok (.getfield 40, 3) := by decide +kernel
theorem dX2_chance_51 : decode cX2_chance 51 = .ok (.iload_n 1, 1) := by decide +kernel
theorem dX2_chance_52 : decode cX2_chance 52 = .ok (.iaload, 1) := by decide +kernel
theorem dX2_chance_53 : decode cX2_chance 53 = .ok (.iload_n 2, 1) := by decide +kernel
theorem dX2_chance_54 : decode cX2_chance 54 = .ok (.if_icmp .ne 18, 3) := by decide +kernel
theorem dX2_chance_57 : decode cX2_chance 57 = .ok (.lload 5, 2) := by decide +kernel
theorem dX2_chance_59 : decode cX2_chance 59 = .ok (.aload_n 0, 1) := by decide +kernel
theorem dX2_chance_60 : decode cX2_chance 60 = .ok (.iload 8, 2) := by decide +kernel
theorem dX2_chance_62 : decode cX2_chance 62 = .ok (.invokestatic 55, 3) := by decide +kernel
theorem dX2_chance_65 : decode cX2_chance 65 = .ok (.iload_n 3, 1) := by decide +kernel
theorem dX2_chance_66 : decode cX2_chance 66 = .ok (.invokevirtual 119, 3) := by decide +kernel
theorem dX2_chance_69 : decode cX2_chance 69 = .ok (.ladd, 1) := by decide +kernel
theorem dX2_chance_70 : decode cX2_chance 70 = .ok (.lstore 5, 2) := by decide +kernel
theorem dX2_chance_72 : decode cX2_chance 72 = .ok (.iinc 8 1, 3) := by decide +kernel
theorem dX2_chance_75 : decode cX2_chance 75 = .ok (.goto (-58), 3) := by decide +kernel
theorem dX2_chance_78 : decode cX2_chance 78 = .ok (.bipush 10, 2) := by decide +kernel
theorem dX2_chance_80 : decode cX2_chance 80 = .ok (.aload_n 0, 1) := by decide +kernel
theorem dX2_chance_81 : decode cX2_chance 81 = .ok (.getfield 25, 3) := by decide +kernel
theorem dX2_chance_84 : decode cX2_chance 84 = .ok (.getfield 51, 3) := by decide +kernel
theorem dX2_chance_87 : decode cX2_chance 87 = .ok (.invokestatic 123, 3) := by decide +kernel
theorem dX2_chance_90 : decode cX2_chance 90 = .ok (.lstore 8, 2) := by decide +kernel
theorem dX2_chance_92 : decode cX2_chance 92 = .ok (.lconst 1, 1) := by decide +kernel
theorem dX2_chance_93 : decode cX2_chance 93 = .ok (.lload 5, 2) := by decide +kernel
theorem dX2_chance_95 : decode cX2_chance 95 = .ok (.lload 8, 2) := by decide +kernel
theorem dX2_chance_97 : decode cX2_chance 97 = .ok (.invokestatic 126, 3) := by decide +kernel
theorem dX2_chance_100 : decode cX2_chance 100 = .ok (.invokestatic 130, 3) := by decide +kernel
theorem dX2_chance_103 : decode cX2_chance 103 = .ok (.lstore 10, 2) := by decide +kernel
theorem dX2_chance_105 : decode cX2_chance 105 = .ok (.iload 4, 2) := by decide +kernel
theorem dX2_chance_107 : decode cX2_chance 107 = .ok (.ifCond .ne 8, 3) := by decide +kernel
theorem dX2_chance_110 : decode cX2_chance 110 = .ok (.lload 5, 2) := by decide +kernel
theorem dX2_chance_112 : decode cX2_chance 112 = .ok (.goto 5, 3) := by decide +kernel
theorem dX2_chance_115 : decode cX2_chance 115 = .ok (.lload 8, 2) := by decide +kernel
theorem dX2_chance_117 : decode cX2_chance 117 = .ok (.lload 10, 2) := by decide +kernel
theorem dX2_chance_119 : decode cX2_chance 119 = .ok (.ldiv, 1) := by decide +kernel
theorem dX2_chance_120 : decode cX2_chance 120 = .ok (.l2i, 1) := by decide +kernel
theorem dX2_chance_121 : decode cX2_chance 121 = .ok (.ireturn, 1) := by decide +kernel
set_option maxRecDepth 20000 in
theorem ggX2_weight_X2_power : GoodIn wsX2_weight wsX2_power := goodIn_r _ [5] (by decide +kernel) (by decide +kernel)
set_option maxRecDepth 20000 in
theorem gX2_weight_X2_power : GoodIn wsX2_weight (va_wsS RX2 123 yX2_power wsX2_power) := goodIn_app (goodIn_of _ (by decide +kernel)) ggX2_weight_X2_power
theorem dX2_weight_0 : decode cX2_weight 0 = .ok (.iload_n 2, 1) := by decide +kernel
theorem dX2_weight_1 : decode cX2_weight 1 = .ok (.iload_n 1, 1) := by decide +kernel
theorem dX2_weight_2 : decode cX2_weight 2 = .ok (.invokestatic 123, 3) := by decide +kernel
theorem dX2_weight_5 : decode cX2_weight 5 = .ok (.bipush 10, 2) := by decide +kernel
theorem dX2_weight_7 : decode cX2_weight 7 = .ok (.iload_n 2, 1) := by decide +kernel
theorem dX2_weight_8 : decode cX2_weight 8 = .ok (.isub, 1) := by decide +kernel
theorem dX2_weight_9 : decode cX2_weight 9 = .ok (.aload_n 0, 1) := by decide +kernel
theorem dX2_weight_10 : decode cX2_weight 10 = .ok (.getfield 25, 3) := by decide +kernel
theorem dX2_weight_13 : decode cX2_weight 13 = .ok (.getfield 51, 3) := by decide +kernel
theorem dX2_weight_16 : decode cX2_weight 16 = .ok (.iload_n 1, 1) := by decide +kernel
theorem dX2_weight_17 : decode cX2_weight 17 = .ok (.isub, 1) := by decide +kernel
theorem dX2_weight_18 : decode cX2_weight 18 = .ok (.invokestatic 123, 3) := by decide +kernel
theorem dX2_weight_21 : decode cX2_weight 21 = .ok (.lmul, 1) := by decide +kernel
theorem dX2_weight_22 : decode cX2_weight 22 = .ok (.lreturn, 1) := by decide +kernel
theorem dX2_power_0 : decode cX2_power 0 = .ok (.lconst 1, 1) := by decide +kernel
theorem dX2_power_1 : decode cX2_power 1 = .ok (.lstore_n 2, 1) := by decide +kernel
theorem dX2_power_2 : decode cX2_power 2 = .ok (.iconst 0, 1) := by decide +kernel
theorem dX2_power_3 : decode cX2_power 3 = .ok (.istore 4, 2) := by decide +kernel
theorem dX2_power_5 : decode cX2_power 5 = .ok (.iload 4, 2) := by decide +kernel
theorem dX2_power_7 : decode cX2_power 7 = .ok (.iload_n 1, 1) := by decide +kernel
theorem dX2_power_8 : decode cX2_power 8 = .ok (.if_icmp .ge 14, 3) := by decide +kernel
theorem dX2_power_11 : decode cX2_power 11 = .ok (.lload_n 2, 1) := by decide +kernel
theorem dX2_power_12 : decode cX2_power 12 = .ok (.iload_n 0, 1) := by decide +kernel
theorem dX2_power_13 : decode cX2_power 13 = .ok (.i2l, 1) := by decide +kernel
theorem dX2_power_14 : decode cX2_power 14 = .ok (.lmul, 1) := by decide +kernel
theorem dX2_power_15 : decode cX2_power 15 = .ok (.lstore_n 2, 1) := by decide +kernel
theorem dX2_power_16 : decode cX2_power 16 = .ok (.iinc 4 1, 3) := by decide +kernel
theorem dX2_power_19 : decode cX2_power 19 = .ok (.goto (-14), 3) := by decide +kernel
theorem dX2_power_22 : decode cX2_power 22 = .ok (.lload_n 2, 1) := by decide +kernel
theorem dX2_power_23 : decode cX2_power 23 = .ok (.lreturn, 1) := by decide +kernel
theorem dX2_greatestDivisor_0 : decode cX2_greatestDivisor 0 = .ok (.iconst 0, 1) := by decide +kernel
theorem dX2_greatestDivisor_1 : decode cX2_greatestDivisor 1 = .ok (.istore 4, 2) := by decide +kernel
theorem dX2_greatestDivisor_3 : decode cX2_greatestDivisor 3 = .ok (.iload 4, 2) := by decide +kernel
theorem dX2_greatestDivisor_5 : decode cX2_greatestDivisor 5 = .ok (.bipush 100, 2) := by decide +kernel
theorem dX2_greatestDivisor_7 : decode cX2_greatestDivisor 7 = .ok (.if_icmp .ge 25, 3) := by decide +kernel
theorem dX2_greatestDivisor_10 : decode cX2_greatestDivisor 10 = .ok (.lload_n 2, 1) := by decide +kernel
theorem dX2_greatestDivisor_11 : decode cX2_greatestDivisor 11 = .ok (.lconst 0, 1) := by decide +kernel
theorem dX2_greatestDivisor_12 : decode cX2_greatestDivisor 12 = .ok (.lcmp, 1) := by decide +kernel
theorem dX2_greatestDivisor_13 : decode cX2_greatestDivisor 13 = .ok (.ifCond .eq 19, 3) := by decide +kernel
theorem dX2_greatestDivisor_16 : decode cX2_greatestDivisor 16 = .ok (.lload_n 0, 1) := by decide +kernel
theorem dX2_greatestDivisor_17 : decode cX2_greatestDivisor 17 = .ok (.lload_n 2, 1) := by decide +kernel
theorem dX2_greatestDivisor_18 : decode cX2_greatestDivisor 18 = .ok (.lrem, 1) := by decide +kernel
theorem dX2_greatestDivisor_19 : decode cX2_greatestDivisor 19 = .ok (.lstore 5, 2) := by decide +kernel
theorem dX2_greatestDivisor_21 : decode cX2_greatestDivisor 21 = .ok (.lload_n 2, 1) := by decide +kernel
theorem dX2_greatestDivisor_22 : decode cX2_greatestDivisor 22 = .ok (.lstore_n 0, 1) := by decide +kernel
theorem dX2_greatestDivisor_23 : decode cX2_greatestDivisor 23 = .ok (.lload 5, 2) := by decide +kernel
theorem dX2_greatestDivisor_25 : decode cX2_greatestDivisor 25 = .ok (.lstore_n 2, 1) := by decide +kernel
theorem dX2_greatestDivisor_26 : decode cX2_greatestDivisor 26 = .ok (.iinc 4 1, 3) := by decide +kernel
theorem dX2_greatestDivisor_29 : decode cX2_greatestDivisor 29 = .ok (.goto (-26), 3) := by decide +kernel
theorem dX2_greatestDivisor_32 : decode cX2_greatestDivisor 32 = .ok (.lload_n 0, 1) := by decide +kernel
theorem dX2_greatestDivisor_33 : decode cX2_greatestDivisor 33 = .ok (.lreturn, 1) := by decide +kernel
set_option maxRecDepth 20000 in
theorem ggX2_years_X9_become : GoodIn wsX2_years wsX9_become := goodIn_r _ [9, 10, 11, 12, 13, 14, 15, 16, 17, 18, 19, 20, 8, 21, 130, 131, 132, 133, 134, 135, 136, 137] (by decide +kernel) (by decide +kernel)
set_option maxRecDepth 20000 in
theorem gX2_years_X9_become : GoodIn wsX2_years (wsV RX2 32 RX9 yX9_become wsX9_become) := goodIn_app (goodIn_of _ (by decide +kernel)) ggX2_years_X9_become
set_option maxRecDepth 20000 in
theorem ggX2_years_X2_putDrawn : GoodIn wsX2_years wsX2_putDrawn := goodIn_r _ [26, 1, 27, 28, 29, 30, 8, 31, 11, 32, 33, 34, 35, 12, 16, 36, 37, 38, 39, 17, 40, 41, 42, 43, 125, 126, 127, 128, 129, 130, 131, 132, 133, 134, 135, 136, 137] (by decide +kernel) (by decide +kernel)
set_option maxRecDepth 20000 in
theorem gX2_years_X2_putDrawn : GoodIn wsX2_years (wsV RX2 136 RX2 yX2_putDrawn wsX2_putDrawn) := goodIn_app (goodIn_of _ (by decide +kernel)) ggX2_years_X2_putDrawn
set_option maxRecDepth 20000 in
theorem ggX2_years_X9_passNight : GoodIn wsX2_years wsX9_passNight := goodIn_r _ [47, 12, 14, 13, 48, 49, 50, 51, 52, 53, 54, 55, 56, 57, 58, 59, 60, 61, 62, 63, 64, 65, 66, 67, 68, 69, 70, 71, 8, 72, 16, 17, 73, 74, 75, 76, 77, 78, 79, 80, 81, 82, 83, 84, 85, 86, 15, 40, 41, 42, 43, 87, 88, 89, 90, 91, 29, 30, 31, 11, 32, 33, 34, 35, 92, 37, 38, 39, 93, 94, 95, 96, 97, 98, 99, 100, 101, 102, 103, 104, 105, 106, 107, 108, 130, 131, 132, 133, 134, 135, 136, 137] (by decide +kernel) (by decide +kernel)
set_option maxRecDepth 20000 in
theorem gX2_years_X9_passNight : GoodIn wsX2_years (wsV RX2 36 RX9 yX9_passNight wsX9_passNight) := goodIn_app (goodIn_of _ (by decide +kernel)) ggX2_years_X9_passNight
set_option maxRecDepth 20000 in
theorem ggX2_years_X9_mateBits : GoodIn wsX2_years wsX9_mateBits := goodIn_r _ [112, 12, 73, 16, 17, 113, 84, 85, 8, 86, 15, 40, 41, 42, 43, 130, 131, 132, 133, 134, 135, 136, 137] (by decide +kernel) (by decide +kernel)
set_option maxRecDepth 20000 in
theorem gX2_years_X9_mateBits : GoodIn wsX2_years (wsV RX2 140 RX9 yX9_mateBits wsX9_mateBits) := goodIn_app (goodIn_of _ (by decide +kernel)) ggX2_years_X9_mateBits
set_option maxRecDepth 20000 in
theorem ggX2_years_J6_bitCount_0f7a4 : GoodIn wsX2_years wsJ6_bitCount_0f7a4 := goodIn_r _ [117, 118, 119, 120] (by decide +kernel) (by decide +kernel)
set_option maxRecDepth 20000 in
theorem gX2_years_J6_bitCount_0f7a4 : GoodIn wsX2_years (va_wsS RX2 55 yJ6_bitCount_0f7a4 wsJ6_bitCount_0f7a4) := goodIn_app (goodIn_of _ (by decide +kernel)) ggX2_years_J6_bitCount_0f7a4
set_option maxRecDepth 20000 in
theorem ggX2_years_X9_figures : GoodIn wsX2_years wsX9_figures := goodIn_r _ [124, 12, 16, 130, 131, 132, 133, 134, 135, 136, 137] (by decide +kernel) (by decide +kernel)
set_option maxRecDepth 20000 in
theorem gX2_years_X9_figures : GoodIn wsX2_years (wsV RX2 144 RX9 yX9_figures wsX9_figures) := goodIn_app (goodIn_of _ (by decide +kernel)) ggX2_years_X9_figures
theorem dX2_years_0 : decode cX2_years 0 = .ok (.aload_n 0, 1) := by decide +kernel
theorem dX2_years_1 : decode cX2_years 1 = .ok (.getfield 12, 3) := by decide +kernel
theorem dX2_years_4 : decode cX2_years 4 = .ok (.aload_n 0, 1) := by decide +kernel
theorem dX2_years_5 : decode cX2_years 5 = .ok (.getfield 25, 3) := by decide +kernel
theorem dX2_years_8 : decode cX2_years 8 = .ok (.invokevirtual 32, 3) := by decide +kernel
theorem dX2_years_11 : decode cX2_years 11 = .ok (.iload_n 2, 1) := by decide +kernel
theorem dX2_years_12 : decode cX2_years 12 = .ok (.i2l, 1) := by decide +kernel
theorem dX2_years_13 : decode cX2_years 13 = .ok (.lstore 4, 2) := by decide +kernel
theorem dX2_years_15 : decode cX2_years 15 = .ok (.iconst 0, 1) := by decide +kernel
theorem dX2_years_16 : decode cX2_years 16 = .ok (.istore 6, 2) := by decide +kernel
theorem dX2_years_18 : decode cX2_years 18 = .ok (.iconst 0, 1) := by decide +kernel
theorem dX2_years_19 : decode cX2_years 19 = .ok (.istore 7, 2) := by decide +kernel
theorem dX2_years_21 : decode cX2_years 21 = .ok (.iload 7, 2) := by decide +kernel
theorem dX2_years_23 : decode cX2_years 23 = .ok (.iload_n 1, 1) := by decide +kernel
theorem dX2_years_24 : decode cX2_years 24 = .ok (.if_icmp .ge 50, 3) := by decide +kernel
theorem dX2_years_27 : decode cX2_years 27 = .ok (.lload 4, 2) := by decide +kernel
theorem dX2_years_29 : decode cX2_years 29 = .ok (.ldc2_w 132, 3) := by decide +kernel
theorem dX2_years_32 : decode cX2_years 32 = .ok (.lmul, 1) := by decide +kernel
theorem dX2_years_33 : decode cX2_years 33 = .ok (.ldc2_w 134, 3) := by decide +kernel
theorem dX2_years_36 : decode cX2_years 36 = .ok (.lrem, 1) := by decide +kernel
theorem dX2_years_37 : decode cX2_years 37 = .ok (.lstore 4, 2) := by decide +kernel
theorem dX2_years_39 : decode cX2_years 39 = .ok (.aload_n 0, 1) := by decide +kernel
theorem dX2_years_40 : decode cX2_years 40 = .ok (.lload 4, 2) := by decide +kernel
theorem dX2_years_42 : decode cX2_years 42 = .ok (.invokevirtual 136, 3) := by decide +kernel
theorem dX2_years_45 : decode cX2_years 45 = .ok (.aload_n 0, 1) := by decide +kernel
theorem dX2_years_46 : decode cX2_years 46 = .ok (.getfield 12, 3) := by decide +kernel
theorem dX2_years_49 : decode cX2_years 49 = .ok (.iconst 0, 1) := by decide +kernel
theorem dX2_years_50 : decode cX2_years 50 = .ok (.invokevirtual 36, 3) := by decide +kernel
theorem dX2_years_53 : decode cX2_years 53 = .ok (.iload 6, 2) := by decide +kernel
theorem dX2_years_55 : decode cX2_years 55 = .ok (.aload_n 0, 1) := by decide +kernel
theorem dX2_years_56 : decode cX2_years 56 = .ok (.getfield 12, 3) := by decide +kernel
theorem dX2_years_59 : decode cX2_years 59 = .ok (.invokevirtual 140, 3) := by decide +kernel
theorem dX2_years_62 : decode cX2_years 62 = .ok (.invokestatic 55, 3) := by decide +kernel
theorem dX2_years_65 : decode cX2_years 65 = .ok (.iadd, 1) := by decide +kernel
theorem dX2_years_66 : decode cX2_years 66 = .ok (.istore 6, 2) := by decide +kernel
theorem dX2_years_68 : decode cX2_years 68 = .ok (.iinc 7 1, 3) := by decide +kernel
theorem dX2_years_71 : decode cX2_years 71 = .ok (.goto (-50), 3) := by decide +kernel
theorem dX2_years_74 : decode cX2_years 74 = .ok (.iload_n 3, 1) := by decide +kernel
theorem dX2_years_75 : decode cX2_years 75 = .ok (.ifCond .ne 13, 3) := by decide +kernel
theorem dX2_years_78 : decode cX2_years 78 = .ok (.aload_n 0, 1) := by decide +kernel
theorem dX2_years_79 : decode cX2_years 79 = .ok (.getfield 12, 3) := by decide +kernel
theorem dX2_years_82 : decode cX2_years 82 = .ok (.invokevirtual 144, 3) := by decide +kernel
theorem dX2_years_85 : decode cX2_years 85 = .ok (.goto 5, 3) := by decide +kernel
theorem dX2_years_88 : decode cX2_years 88 = .ok (.iload 6, 2) := by decide +kernel
theorem dX2_years_90 : decode cX2_years 90 = .ok (.ireturn, 1) := by decide +kernel
set_option maxRecDepth 20000 in
theorem ggX2_putDrawn_X9_holdsOneMore : GoodIn wsX2_putDrawn wsX9_holdsOneMore := goodIn_r _ [7, 8, 9, 10, 11, 6, 12, 13, 14, 29, 30, 31, 32, 33, 34, 35, 36] (by decide +kernel) (by decide +kernel)
set_option maxRecDepth 20000 in
theorem gX2_putDrawn_X9_holdsOneMore : GoodIn wsX2_putDrawn (wsV RX2 147 RX9 yX9_holdsOneMore wsX9_holdsOneMore) := goodIn_app (goodIn_of _ (by decide +kernel)) ggX2_putDrawn_X9_holdsOneMore
set_option maxRecDepth 20000 in
theorem ggX2_putDrawn_X9_stand : GoodIn wsX2_putDrawn wsX9_stand := goodIn_r _ [18, 13, 14, 19, 20, 21, 22, 6, 23, 9, 10, 11, 12, 29, 30, 31, 32, 33, 34, 35, 36] (by decide +kernel) (by decide +kernel)
set_option maxRecDepth 20000 in
theorem gX2_putDrawn_X9_stand : GoodIn wsX2_putDrawn (wsV RX2 110 RX9 yX9_stand wsX9_stand) := goodIn_app (goodIn_of _ (by decide +kernel)) ggX2_putDrawn_X9_stand
theorem dX2_putDrawn_0 : decode cX2_putDrawn 0 = .ok (.aload_n 0, 1) := by decide +kernel
theorem dX2_putDrawn_1 : decode cX2_putDrawn 1 = .ok (.getfield 12, 3) := by decide +kernel
theorem dX2_putDrawn_4 : decode cX2_putDrawn 4 = .ok (.getfield 51, 3) := by decide +kernel
theorem dX2_putDrawn_7 : decode cX2_putDrawn 7 = .ok (.iconst 1, 1) := by decide +kernel
theorem dX2_putDrawn_8 : decode cX2_putDrawn 8 = .ok (.if_icmp .lt 14, 3) := by decide +kernel
theorem dX2_putDrawn_11 : decode cX2_putDrawn 11 = .ok (.aload_n 0, 1) := by decide +kernel
theorem dX2_putDrawn_12 : decode cX2_putDrawn 12 = .ok (.getfield 12, 3) := by decide +kernel
theorem dX2_putDrawn_15 : decode cX2_putDrawn 15 = .ok (.getfield 71, 3) := by decide +kernel
theorem dX2_putDrawn_18 : decode cX2_putDrawn 18 = .ok (.iconst 1, 1) := by decide +kernel
theorem dX2_putDrawn_19 : decode cX2_putDrawn 19 = .ok (.if_icmp .ge 4, 3) := by decide +kernel
theorem dX2_putDrawn_22 : decode cX2_putDrawn 22 = .ok (.return_, 1) := by decide +kernel
theorem dX2_putDrawn_23 : decode cX2_putDrawn 23 = .ok (.lload_n 1, 1) := by decide +kernel
theorem dX2_putDrawn_24 : decode cX2_putDrawn 24 = .ok (.aload_n 0, 1) := by decide +kernel
theorem dX2_putDrawn_25 : decode cX2_putDrawn 25 = .ok (.getfield 12, 3) := by decide +kernel
theorem dX2_putDrawn_28 : decode cX2_putDrawn 28 = .ok (.getfield 51, 3) := by decide +kernel
theorem dX2_putDrawn_31 : decode cX2_putDrawn 31 = .ok (.i2l, 1) := by decide +kernel
theorem dX2_putDrawn_32 : decode cX2_putDrawn 32 = .ok (.lrem, 1) := by decide +kernel
theorem dX2_putDrawn_33 : decode cX2_putDrawn 33 = .ok (.l2i, 1) := by decide +kernel
theorem dX2_putDrawn_34 : decode cX2_putDrawn 34 = .ok (.istore_n 3, 1) := by decide +kernel
theorem dX2_putDrawn_35 : decode cX2_putDrawn 35 = .ok (.lload_n 1, 1) := by decide +kernel
theorem dX2_putDrawn_36 : decode cX2_putDrawn 36 = .ok (.aload_n 0, 1) := by decide +kernel
theorem dX2_putDrawn_37 : decode cX2_putDrawn 37 = .ok (.getfield 12, 3) := by decide +kernel
theorem dX2_putDrawn_40 : decode cX2_putDrawn 40 = .ok (.getfield 71, 3) := by decide +kernel
theorem dX2_putDrawn_43 : decode cX2_putDrawn 43 = .ok (.i2l, 1) := by decide +kernel
theorem dX2_putDrawn_44 : decode cX2_putDrawn 44 = .ok (.lrem, 1) := by decide +kernel
theorem dX2_putDrawn_45 : decode cX2_putDrawn 45 = .ok (.l2i, 1) := by decide +kernel
theorem dX2_putDrawn_46 : decode cX2_putDrawn 46 = .ok (.istore 4, 2) := by decide +kernel
theorem dX2_putDrawn_48 : decode cX2_putDrawn 48 = .ok (.aload_n 0, 1) := by decide +kernel
theorem dX2_putDrawn_49 : decode cX2_putDrawn 49 = .ok (.getfield 12, 3) := by decide +kernel
theorem dX2_putDrawn_52 : decode cX2_putDrawn 52 = .ok (.getfield 40, 3) := by decide +kernel
theorem dX2_putDrawn_55 : decode cX2_putDrawn 55 = .ok (.iload_n 3, 1) := by decide +kernel
theorem dX2_putDrawn_56 : decode cX2_putDrawn 56 = .ok (.iaload, 1) := by decide +kernel
theorem dX2_putDrawn_57 : decode cX2_putDrawn 57 = .ok (.iload 4, 2) := by decide +kernel
theorem dX2_putDrawn_59 : decode cX2_putDrawn 59 = .ok (.if_icmp .eq 15, 3) := by decide +kernel
theorem dX2_putDrawn_62 : decode cX2_putDrawn 62 = .ok (.aload_n 0, 1) := by decide +kernel
theorem dX2_putDrawn_63 : decode cX2_putDrawn 63 = .ok (.getfield 12, 3) := by decide +kernel
theorem dX2_putDrawn_66 : decode cX2_putDrawn 66 = .ok (.iload 4, 2) := by decide +kernel
theorem dX2_putDrawn_68 : decode cX2_putDrawn 68 = .ok (.invokevirtual 147, 3) := by decide +kernel
theorem dX2_putDrawn_71 : decode cX2_putDrawn 71 = .ok (.ifCond .eq 15, 3) := by decide +kernel
theorem dX2_putDrawn_74 : decode cX2_putDrawn 74 = .ok (.aload_n 0, 1) := by decide +kernel
theorem dX2_putDrawn_75 : decode cX2_putDrawn 75 = .ok (.getfield 12, 3) := by decide +kernel
theorem dX2_putDrawn_78 : decode cX2_putDrawn 78 = .ok (.iload_n 3, 1) := by decide +kernel
theorem dX2_putDrawn_79 : decode cX2_putDrawn 79 = .ok (.iload 4, 2) := by decide +kernel
theorem dX2_putDrawn_81 : decode cX2_putDrawn 81 = .ok (.ldc 46, 2) := by decide +kernel
theorem dX2_putDrawn_83 : decode cX2_putDrawn 83 = .ok (.invokevirtual 110, 3) := by decide +kernel
theorem dX2_putDrawn_86 : decode cX2_putDrawn 86 = .ok (.return_, 1) := by decide +kernel
set_option maxRecDepth 20000 in
theorem ggX3_init_X4_init : GoodIn wsX3_init wsX4_init := goodIn_r _ [3, 4, 5, 6] (by decide +kernel) (by decide +kernel)
set_option maxRecDepth 20000 in
theorem gX3_init_X4_init_n3 : GoodIn wsX3_init (wsX4_init) := ggX3_init_X4_init
theorem dX3_init_0 : decode cX3_init 0 = .ok (.aload_n 0, 1) := by decide +kernel
theorem dX3_init_1 : decode cX3_init 1 = .ok (.invokespecial 3, 3) := by decide +kernel
theorem dX3_init_4 : decode cX3_init 4 = .ok (.return_, 1) := by decide +kernel
theorem dX3_number_0 : decode cX3_number 0 = .ok (.iconst 1, 1) := by decide +kernel
theorem dX3_number_1 : decode cX3_number 1 = .ok (.ireturn, 1) := by decide +kernel
theorem dX3_letter_0 : decode cX3_letter 0 = .ok (.bipush 102, 2) := by decide +kernel
theorem dX3_letter_2 : decode cX3_letter 2 = .ok (.ireturn, 1) := by decide +kernel
set_option maxRecDepth 20000 in
theorem ggX3_wander_X9_dear : GoodIn wsX3_wander wsX9_dear := goodIn_r _ [6, 7, 8, 9, 10, 11, 5, 12, 13, 44, 45, 46, 47, 48, 49, 50, 51] (by decide +kernel) (by decide +kernel)
set_option maxRecDepth 20000 in
theorem gX3_wander_X9_dear : GoodIn wsX3_wander (wsV RX3 9 RX9 yX9_dear wsX9_dear) := goodIn_app (goodIn_of _ (by decide +kernel)) ggX3_wander_X9_dear
set_option maxRecDepth 20000 in
theorem ggX3_wander_X3_goOver : GoodIn wsX3_wander wsX3_goOver := goodIn_r _ [18, 1, 19, 20, 21, 5, 22, 23, 24, 25, 26, 27, 13, 28, 29, 30, 31, 32, 33, 9, 10, 11, 12, 44, 45, 46, 47, 48, 49, 50, 51] (by decide +kernel) (by decide +kernel)
set_option maxRecDepth 20000 in
theorem gX3_wander_X3_goOver : GoodIn wsX3_wander (wsV RX3 20 RX3 yX3_goOver wsX3_goOver) := goodIn_app (goodIn_of _ (by decide +kernel)) ggX3_wander_X3_goOver
set_option maxRecDepth 20000 in
theorem gX3_wander_X3_goOver_u20X5 : GoodIn wsX3_wander (va_wsU RX3 20 RX5 "DrawerCards$Free" ⟨"DrawerCards$Free", "goOver", "(LDrawerCards$Shelf;II)V"⟩ yX3_goOver wsX3_goOver) := goodIn_app (goodIn_of _ (by decide +kernel)) ggX3_wander_X3_goOver
set_option maxRecDepth 20000 in
theorem ggX3_wander_X10_goOver : GoodIn wsX3_wander wsX10_goOver := goodIn_r _ [41, 42, 20, 21, 5, 22, 23, 24, 25, 26, 27, 13, 28, 43, 30, 31, 32, 33, 9, 10, 11, 12, 44, 45, 46, 47, 48, 49, 50, 51] (by decide +kernel) (by decide +kernel)
set_option maxRecDepth 20000 in
theorem gX3_wander_X10_goOver_u20X10 : GoodIn wsX3_wander (va_wsO RX3 20 RX10 "DrawerCards$Free" ⟨"DrawerCards$Free", "goOver", "(LDrawerCards$Shelf;II)V"⟩ yX10_goOver wsX10_goOver) := goodIn_app (goodIn_of _ (by decide +kernel)) ggX3_wander_X10_goOver
set_option maxRecDepth 20000 in
theorem ggX3_wander_X9_stand : GoodIn wsX3_wander wsX9_stand := goodIn_r _ [32, 13, 28, 33, 9, 10, 11, 5, 12, 24, 25, 26, 27, 44, 45, 46, 47, 48, 49, 50, 51] (by decide +kernel) (by decide +kernel)
set_option maxRecDepth 20000 in
theorem gX3_wander_X9_stand : GoodIn wsX3_wander (wsV RX3 26 RX9 yX9_stand wsX9_stand) := goodIn_app (goodIn_of _ (by decide +kernel)) ggX3_wander_X9_stand
theorem dX3_wander_0 : decode cX3_wander 0 = .ok (.aload_n 1, 1) := by decide +kernel
theorem dX3_wander_1 : decode cX3_wander 1 = .ok (.iload_n 2, 1) := by decide +kernel
theorem dX3_wander_2 : decode cX3_wander 2 = .ok (.invokevirtual 9, 3) := by decide +kernel
theorem dX3_wander_5 : decode cX3_wander 5 = .ok (.istore_n 3, 1) := by decide +kernel
theorem dX3_wander_6 : decode cX3_wander 6 = .ok (.iload_n 3, 1) := by decide +kernel
theorem dX3_wander_7 : decode cX3_wander 7 = .ok (.ldc 15, 2) := by decide +kernel
theorem dX3_wander_9 : decode cX3_wander 9 = .ok (.if_icmp .ne 4, 3) := by decide +kernel
theorem dX3_wander_12 : decode cX3_wander 12 = .ok (.return_, 1) := by decide +kernel
theorem dX3_wander_13 : decode cX3_wander 13 = .ok (.aload_n 1, 1) := by decide +kernel
theorem dX3_wander_14 : decode cX3_wander 14 = .ok (.getfield 16, 3) := by decide +kernel
theorem dX3_wander_17 : decode cX3_wander 17 = .ok (.iload_n 3, 1) := by decide +kernel
theorem dX3_wander_18 : decode cX3_wander 18 = .ok (.iaload, 1) := by decide +kernel
theorem dX3_wander_19 : decode cX3_wander 19 = .ok (.istore 4, 2) := by decide +kernel
theorem dX3_wander_21 : decode cX3_wander 21 = .ok (.iload 4, 2) := by decide +kernel
theorem dX3_wander_23 : decode cX3_wander 23 = .ok (.aload_n 1, 1) := by decide +kernel
theorem dX3_wander_24 : decode cX3_wander 24 = .ok (.getfield 16, 3) := by decide +kernel
theorem dX3_wander_27 : decode cX3_wander 27 = .ok (.iload_n 2, 1) := by decide +kernel
theorem dX3_wander_28 : decode cX3_wander 28 = .ok (.iaload, 1) := by decide +kernel
theorem dX3_wander_29 : decode cX3_wander 29 = .ok (.if_icmp .eq 13, 3) := by decide +kernel
theorem dX3_wander_32 : decode cX3_wander 32 = .ok (.aload_n 0, 1) := by decide +kernel
theorem dX3_wander_33 : decode cX3_wander 33 = .ok (.aload_n 1, 1) := by decide +kernel
theorem dX3_wander_34 : decode cX3_wander 34 = .ok (.iload_n 2, 1) := by decide +kernel
theorem dX3_wander_35 : decode cX3_wander 35 = .ok (.iload_n 3, 1) := by decide +kernel
theorem dX3_wander_36 : decode cX3_wander 36 = .ok (.invokevirtual 20, 3) := by decide +kernel
theorem dX3_wander_39 : decode cX3_wander 39 = .ok (.goto 11, 3) := by decide +kernel
theorem dX3_wander_42 : decode cX3_wander 42 = .ok (.aload_n 1, 1) := by decide +kernel
theorem dX3_wander_43 : decode cX3_wander 43 = .ok (.iload_n 2, 1) := by decide +kernel
theorem dX3_wander_44 : decode cX3_wander 44 = .ok (.iload 4, 2) := by decide +kernel
theorem dX3_wander_46 : decode cX3_wander 46 = .ok (.iload_n 3, 1) := by decide +kernel
theorem dX3_wander_47 : decode cX3_wander 47 = .ok (.invokevirtual 26, 3) := by decide +kernel
theorem dX3_wander_50 : decode cX3_wander 50 = .ok (.return_, 1) := by decide +kernel
set_option maxRecDepth 20000 in
theorem ggX3_goOver_X9_holdsOneMore : GoodIn wsX3_goOver wsX9_holdsOneMore := goodIn_r _ [6, 7, 8, 9, 10, 5, 11, 12, 13, 23, 24, 25, 26, 27, 28, 29, 30] (by decide +kernel) (by decide +kernel)
set_option maxRecDepth 20000 in
theorem gX3_goOver_X9_holdsOneMore : GoodIn wsX3_goOver (wsV RX3 30 RX9 yX9_holdsOneMore wsX9_holdsOneMore) := goodIn_app (goodIn_of _ (by decide +kernel)) ggX3_goOver_X9_holdsOneMore
set_option maxRecDepth 20000 in
theorem ggX3_goOver_X9_stand : GoodIn wsX3_goOver wsX9_stand := goodIn_r _ [17, 12, 13, 18, 19, 20, 21, 5, 22, 8, 9, 10, 11, 23, 24, 25, 26, 27, 28, 29, 30] (by decide +kernel) (by decide +kernel)
set_option maxRecDepth 20000 in
theorem gX3_goOver_X9_stand : GoodIn wsX3_goOver (wsV RX3 26 RX9 yX9_stand wsX9_stand) := goodIn_app (goodIn_of _ (by decide +kernel)) ggX3_goOver_X9_stand
theorem dX3_goOver_0 : decode cX3_goOver 0 = .ok (.aload_n 1, 1) := by decide +kernel
theorem dX3_goOver_1 : decode cX3_goOver 1 = .ok (.getfield 16, 3) := by decide +kernel
theorem dX3_goOver_4 : decode cX3_goOver 4 = .ok (.iload_n 2, 1) := by decide +kernel
theorem dX3_goOver_5 : decode cX3_goOver 5 = .ok (.iaload, 1) := by decide +kernel
theorem dX3_goOver_6 : decode cX3_goOver 6 = .ok (.istore 4, 2) := by decide +kernel
theorem dX3_goOver_8 : decode cX3_goOver 8 = .ok (.aload_n 1, 1) := by decide +kernel
theorem dX3_goOver_9 : decode cX3_goOver 9 = .ok (.getfield 16, 3) := by decide +kernel
theorem dX3_goOver_12 : decode cX3_goOver 12 = .ok (.iload_n 3, 1) := by decide +kernel
theorem dX3_goOver_13 : decode cX3_goOver 13 = .ok (.iaload, 1) := by decide +kernel
theorem dX3_goOver_14 : decode cX3_goOver 14 = .ok (.iload 4, 2) := by decide +kernel
theorem dX3_goOver_16 : decode cX3_goOver 16 = .ok (.if_icmp .le 10, 3) := by decide +kernel
theorem dX3_goOver_19 : decode cX3_goOver 19 = .ok (.iload 4, 2) := by decide +kernel
theorem dX3_goOver_21 : decode cX3_goOver 21 = .ok (.iconst 1, 1) := by decide +kernel
theorem dX3_goOver_22 : decode cX3_goOver 22 = .ok (.iadd, 1) := by decide +kernel
theorem dX3_goOver_23 : decode cX3_goOver 23 = .ok (.goto 7, 3) := by decide +kernel
theorem dX3_goOver_26 : decode cX3_goOver 26 = .ok (.iload 4, 2) := by decide +kernel
theorem dX3_goOver_28 : decode cX3_goOver 28 = .ok (.iconst 1, 1) := by decide +kernel
theorem dX3_goOver_29 : decode cX3_goOver 29 = .ok (.isub, 1) := by decide +kernel
theorem dX3_goOver_30 : decode cX3_goOver 30 = .ok (.istore 5, 2) := by decide +kernel
theorem dX3_goOver_32 : decode cX3_goOver 32 = .ok (.aload_n 1, 1) := by decide +kernel
theorem dX3_goOver_33 : decode cX3_goOver 33 = .ok (.iload 5, 2) := by decide +kernel
theorem dX3_goOver_35 : decode cX3_goOver 35 = .ok (.invokevirtual 30, 3) := by decide +kernel
theorem dX3_goOver_38 : decode cX3_goOver 38 = .ok (.ifCond .eq 12, 3) := by decide +kernel
theorem dX3_goOver_41 : decode cX3_goOver 41 = .ok (.aload_n 1, 1) := by decide +kernel
theorem dX3_goOver_42 : decode cX3_goOver 42 = .ok (.iload_n 2, 1) := by decide +kernel
theorem dX3_goOver_43 : decode cX3_goOver 43 = .ok (.iload 5, 2) := by decide +kernel
theorem dX3_goOver_45 : decode cX3_goOver 45 = .ok (.ldc 15, 2) := by decide +kernel
theorem dX3_goOver_47 : decode cX3_goOver 47 = .ok (.invokevirtual 26, 3) := by decide +kernel
theorem dX3_goOver_50 : decode cX3_goOver 50 = .ok (.return_, 1) := by decide +kernel
set_option maxRecDepth 20000 in
theorem ggX3_size_X0_begin : GoodIn wsX3_size wsX0_begin := goodIn_r _ [5, 6, 7, 41, 42, 43, 44, 45] (by decide +kernel) (by decide +kernel)
set_option maxRecDepth 20000 in
theorem gX3_size_X0_begin : GoodIn wsX3_size (wsV RX3 34 RX0 yX0_begin wsX0_begin) := goodIn_app (goodIn_of _ (by decide +kernel)) ggX3_size_X0_begin
set_option maxRecDepth 20000 in
theorem ggX3_size_X4_size : GoodIn wsX3_size wsX4_size := goodIn_r _ [13, 14, 2, 3, 4, 5, 6, 7, 41, 42, 43, 44, 45] (by decide +kernel) (by decide +kernel)
set_option maxRecDepth 20000 in
theorem gX3_size_X4_size_s40 : GoodIn wsX3_size (va_wsSU RX3 40 yX4_size wsX4_size) := goodIn_app (goodIn_of _ (by decide +kernel)) ggX3_size_X4_size
set_option maxRecDepth 20000 in
theorem ggX3_size_X3_mark : GoodIn wsX3_size wsX3_mark := goodIn_r _ [19, 1, 2, 3, 4, 5, 6, 7, 20, 21, 10, 22, 12, 23, 14, 41, 42, 43, 44, 45] (by decide +kernel) (by decide +kernel)
set_option maxRecDepth 20000 in
theorem gX3_size_X3_mark : GoodIn wsX3_size (wsV RX3 44 RX3 yX3_mark wsX3_mark) := goodIn_app (goodIn_of _ (by decide +kernel)) ggX3_size_X3_mark
set_option maxRecDepth 20000 in
theorem ggX3_size_X5_mark : GoodIn wsX3_size wsX5_mark := goodIn_r _ [30, 31, 2, 3, 4, 5, 6, 7, 32, 25, 33, 16, 18, 19, 1, 20, 21, 10, 22, 12, 23, 14, 41, 42, 43, 44, 45] (by decide +kernel) (by decide +kernel)
set_option maxRecDepth 20000 in
theorem gX3_size_X5_mark_u44X5 : GoodIn wsX3_size (va_wsO RX3 44 RX5 "DrawerCards$Free" ⟨"DrawerCards$Free", "mark", "(LDrawerCards$Asking;)I"⟩ yX5_mark wsX5_mark) := goodIn_app (goodIn_of _ (by decide +kernel)) ggX3_size_X5_mark
set_option maxRecDepth 20000 in
theorem ggX3_size_X10_mark : GoodIn wsX3_size wsX10_mark := goodIn_r _ [37, 38, 2, 3, 4, 5, 6, 7, 39, 25, 40, 16, 18, 19, 1, 20, 21, 10, 22, 12, 23, 14, 41, 42, 43, 44, 45] (by decide +kernel) (by decide +kernel)
set_option maxRecDepth 20000 in
theorem gX3_size_X10_mark_u44X10 : GoodIn wsX3_size (va_wsO RX3 44 RX10 "DrawerCards$Free" ⟨"DrawerCards$Free", "mark", "(LDrawerCards$Asking;)I"⟩ yX10_mark wsX10_mark) := goodIn_app (goodIn_of _ (by decide +kernel)) ggX3_size_X10_mark
theorem dX3_size_0 : decode cX3_size 0 = .ok (.aload_n 1, 1) := by decide +kernel
theorem dX3_size_1 : decode cX3_size 1 = .ok (.bipush 11, 2) := by decide +kernel
theorem dX3_size_3 : decode cX3_size 3 = .ok (.invokevirtual 34, 3) := by decide +kernel
theorem dX3_size_6 : decode cX3_size 6 = .ok (.aload_n 0, 1) := by decide +kernel
theorem dX3_size_7 : decode cX3_size 7 = .ok (.aload_n 1, 1) := by decide +kernel
theorem dX3_size_8 : decode cX3_size 8 = .ok (.invokespecial 40, 3) := by decide +kernel
theorem dX3_size_11 : decode cX3_size 11 = .ok (.aload_n 0, 1) := by decide +kernel
theorem dX3_size_12 : decode cX3_size 12 = .ok (.aload_n 1, 1) := by decide +kernel
theorem dX3_size_13 : decode cX3_size 13 = .ok (.invokevirtual 44, 3) := by decide +kernel
theorem dX3_size_16 : decode cX3_size 16 = .ok (.iadd, 1) := by decide +kernel
theorem dX3_size_17 : decode cX3_size 17 = .ok (.ireturn, 1) := by decide +kernel
set_option maxRecDepth 20000 in
theorem ggX3_mark_X0_begin : GoodIn wsX3_mark wsX0_begin := goodIn_r _ [5, 6, 7, 15, 16, 17, 18, 19] (by decide +kernel) (by decide +kernel)
set_option maxRecDepth 20000 in
theorem gX3_mark_X0_begin : GoodIn wsX3_mark (wsV RX3 34 RX0 yX0_begin wsX0_begin) := goodIn_app (goodIn_of _ (by decide +kernel)) ggX3_mark_X0_begin
set_option maxRecDepth 20000 in
theorem ggX3_mark_X4_mark : GoodIn wsX3_mark wsX4_mark := goodIn_r _ [13, 14, 2, 3, 4, 5, 6, 7, 15, 16, 17, 18, 19] (by decide +kernel) (by decide +kernel)
set_option maxRecDepth 20000 in
theorem gX3_mark_X4_mark_s47 : GoodIn wsX3_mark (va_wsSU RX3 47 yX4_mark wsX4_mark) := goodIn_app (goodIn_of _ (by decide +kernel)) ggX3_mark_X4_mark
theorem dX3_mark_0 : decode cX3_mark 0 = .ok (.aload_n 1, 1) := by decide +kernel
theorem dX3_mark_1 : decode cX3_mark 1 = .ok (.bipush 21, 2) := by decide +kernel
theorem dX3_mark_3 : decode cX3_mark 3 = .ok (.invokevirtual 34, 3) := by decide +kernel
theorem dX3_mark_6 : decode cX3_mark 6 = .ok (.aload_n 0, 1) := by decide +kernel
theorem dX3_mark_7 : decode cX3_mark 7 = .ok (.aload_n 1, 1) := by decide +kernel
theorem dX3_mark_8 : decode cX3_mark 8 = .ok (.invokespecial 47, 3) := by decide +kernel
theorem dX3_mark_11 : decode cX3_mark 11 = .ok (.aload_n 1, 1) := by decide +kernel
theorem dX3_mark_12 : decode cX3_mark 12 = .ok (.getfield 48, 3) := by decide +kernel
theorem dX3_mark_15 : decode cX3_mark 15 = .ok (.iadd, 1) := by decide +kernel
theorem dX3_mark_16 : decode cX3_mark 16 = .ok (.ireturn, 1) := by decide +kernel
theorem dX4_init_0 : decode cX4_init 0 = .ok (.aload_n 0, 1) := by decide +kernel
theorem dX4_init_1 : decode cX4_init 1 = .ok (.invokespecial 3, 3) := by decide +kernel
theorem dX4_init_4 : decode cX4_init 4 = .ok (.return_, 1) := by decide +kernel
theorem dX4_stirs_0 : decode cX4_stirs 0 = .ok (.iconst 1, 1) := by decide +kernel
theorem dX4_stirs_1 : decode cX4_stirs 1 = .ok (.ireturn, 1) := by decide +kernel
theorem dX4_isOne_0 : decode cX4_isOne 0 = .ok (.iload_n 1, 1) := by decide +kernel
theorem dX4_isOne_1 : decode cX4_isOne 1 = .ok (.tableswitch 66 0 5 #[39, 41, 46, 51, 56, 61], 39) := by decide +kernel
theorem dX4_isOne_40 : decode cX4_isOne 40 = .ok (.iconst 1, 1) := by decide +kernel
theorem dX4_isOne_41 : decode cX4_isOne 41 = .ok (.ireturn, 1) := by decide +kernel
theorem dX4_isOne_42 : decode cX4_isOne 42 = .ok (.aload_n 0, 1) := by decide +kernel
theorem dX4_isOne_43 : decode cX4_isOne 43 = .ok (.instanceof 9, 3) := by decide +kernel
theorem dX4_isOne_46 : decode cX4_isOne 46 = .ok (.ireturn, 1) := by decide +kernel
theorem dX4_isOne_47 : decode cX4_isOne 47 = .ok (.aload_n 0, 1) := by decide +kernel
theorem dX4_isOne_48 : decode cX4_isOne 48 = .ok (.instanceof 11, 3) := by decide +kernel
theorem dX4_isOne_51 : decode cX4_isOne 51 = .ok (.ireturn, 1) := by decide +kernel
theorem dX4_isOne_52 : decode cX4_isOne 52 = .ok (.aload_n 0, 1) := by decide +kernel
theorem dX4_isOne_53 : decode cX4_isOne 53 = .ok (.instanceof 13, 3) := by decide +kernel
theorem dX4_isOne_56 : decode cX4_isOne 56 = .ok (.ireturn, 1) := by decide +kernel
theorem dX4_isOne_57 : decode cX4_isOne 57 = .ok (.aload_n 0, 1) := by decide +kernel
theorem dX4_isOne_58 : decode cX4_isOne 58 = .ok (.instanceof 15, 3) := by decide +kernel
theorem dX4_isOne_61 : decode cX4_isOne 61 = .ok (.ireturn, 1) := by decide +kernel
theorem dX4_isOne_62 : decode cX4_isOne 62 = .ok (.aload_n 0, 1) := by decide +kernel
theorem dX4_isOne_63 : decode cX4_isOne 63 = .ok (.instanceof 17, 3) := by decide +kernel
theorem dX4_isOne_66 : decode cX4_isOne 66 = .ok (.ireturn, 1) := by decide +kernel
theorem dX4_isOne_67 : decode cX4_isOne 67 = .ok (.iconst 0, 1) := by decide +kernel
theorem dX4_isOne_68 : decode cX4_isOne 68 = .ok (.ireturn, 1) := by decide +kernel
set_option maxRecDepth 20000 in
theorem ggX4_size_X0_begin : GoodIn wsX4_size wsX0_begin := goodIn_r _ [5, 6, 7, 8, 9, 10, 11, 12] (by decide +kernel) (by decide +kernel)
set_option maxRecDepth 20000 in
theorem gX4_size_X0_begin : GoodIn wsX4_size (wsV RX4 19 RX0 yX0_begin wsX0_begin) := goodIn_app (goodIn_of _ (by decide +kernel)) ggX4_size_X0_begin
theorem dX4_size_0 : decode cX4_size 0 = .ok (.aload_n 1, 1) := by decide +kernel
theorem dX4_size_1 : decode cX4_size 1 = .ok (.bipush 10, 2) := by decide +kernel
theorem dX4_size_3 : decode cX4_size 3 = .ok (.invokevirtual 19, 3) := by decide +kernel
theorem dX4_size_6 : decode cX4_size 6 = .ok (.aload_n 1, 1) := by decide +kernel
theorem dX4_size_7 : decode cX4_size 7 = .ok (.getfield 25, 3) := by decide +kernel
theorem dX4_size_10 : decode cX4_size 10 = .ok (.ireturn, 1) := by decide +kernel
set_option maxRecDepth 20000 in
theorem ggX4_mark_X0_begin : GoodIn wsX4_mark wsX0_begin := goodIn_r _ [5, 6, 7, 8, 9, 10, 11, 12] (by decide +kernel) (by decide +kernel)
set_option maxRecDepth 20000 in
theorem gX4_mark_X0_begin : GoodIn wsX4_mark (wsV RX4 19 RX0 yX0_begin wsX0_begin) := goodIn_app (goodIn_of _ (by decide +kernel)) ggX4_mark_X0_begin
theorem dX4_mark_0 : decode cX4_mark 0 = .ok (.aload_n 1, 1) := by decide +kernel
theorem dX4_mark_1 : decode cX4_mark 1 = .ok (.bipush 20, 2) := by decide +kernel
theorem dX4_mark_3 : decode cX4_mark 3 = .ok (.invokevirtual 19, 3) := by decide +kernel
theorem dX4_mark_6 : decode cX4_mark 6 = .ok (.aload_n 1, 1) := by decide +kernel
theorem dX4_mark_7 : decode cX4_mark 7 = .ok (.getfield 29, 3) := by decide +kernel
theorem dX4_mark_10 : decode cX4_mark 10 = .ok (.ireturn, 1) := by decide +kernel
set_option maxRecDepth 20000 in
theorem ggX5_init_X3_init : GoodIn wsX5_init wsX3_init := goodIn_r _ [3, 4, 5, 6, 7, 8, 9] (by decide +kernel) (by decide +kernel)
set_option maxRecDepth 20000 in
theorem gX5_init_X3_init_n1 : GoodIn wsX5_init (wsX3_init) := ggX5_init_X3_init
theorem dX5_init_0 : decode cX5_init 0 = .ok (.aload_n 0, 1) := by decide +kernel
theorem dX5_init_1 : decode cX5_init 1 = .ok (.invokespecial 1, 3) := by decide +kernel
theorem dX5_init_4 : decode cX5_init 4 = .ok (.return_, 1) := by decide +kernel
theorem dX5_number_0 : decode cX5_number 0 = .ok (.iconst 2, 1) := by decide +kernel
theorem dX5_number_1 : decode cX5_number 1 = .ok (.ireturn, 1) := by decide +kernel
theorem dX5_letter_0 : decode cX5_letter 0 = .ok (.bipush 111, 2) := by decide +kernel
theorem dX5_letter_2 : decode cX5_letter 2 = .ok (.ireturn, 1) := by decide +kernel
theorem dX5_stirs_0 : decode cX5_stirs 0 = .ok (.iload_n 1, 1) := by decide +kernel
theorem dX5_stirs_1 : decode cX5_stirs 1 = .ok (.iconst 2, 1) := by decide +kernel
theorem dX5_stirs_2 : decode cX5_stirs 2 = .ok (.irem, 1) := by decide +kernel
theorem dX5_stirs_3 : decode cX5_stirs 3 = .ok (.ifCond .ne 7, 3) := by decide +kernel
theorem dX5_stirs_6 : decode cX5_stirs 6 = .ok (.iconst 1, 1) := by decide +kernel
theorem dX5_stirs_7 : decode cX5_stirs 7 = .ok (.goto 4, 3) := by decide +kernel
theorem dX5_stirs_10 : decode cX5_stirs 10 = .ok (.iconst 0, 1) := by decide +kernel
theorem dX5_stirs_11 : decode cX5_stirs 11 = .ok (.ireturn, 1) := by decide +kernel
set_option maxRecDepth 20000 in
theorem ggX5_size_X0_begin : GoodIn wsX5_size wsX0_begin := goodIn_r _ [5, 6, 7, 45, 46, 47, 48, 49] (by decide +kernel) (by decide +kernel)
set_option maxRecDepth 20000 in
theorem gX5_size_X0_begin : GoodIn wsX5_size (wsV RX5 7 RX0 yX0_begin wsX0_begin) := goodIn_app (goodIn_of _ (by decide +kernel)) ggX5_size_X0_begin
set_option maxRecDepth 20000 in
theorem ggX5_size_X3_size : GoodIn wsX5_size wsX3_size := goodIn_r _ [13, 14, 2, 3, 4, 5, 6, 7, 15, 16, 17, 18, 19, 20, 21, 22, 23, 24, 12, 25, 26, 27, 28, 29, 30, 31, 32, 33, 34, 35, 36, 1, 37, 10, 38, 39, 40, 41, 42, 43, 44, 45, 46, 47, 48, 49] (by decide +kernel) (by decide +kernel)
set_option maxRecDepth 20000 in
theorem gX5_size_X3_size_s13 : GoodIn wsX5_size (va_wsSU RX5 13 yX3_size wsX3_size) := goodIn_app (goodIn_of _ (by decide +kernel)) ggX5_size_X3_size
theorem dX5_size_0 : decode cX5_size 0 = .ok (.aload_n 1, 1) := by decide +kernel
theorem dX5_size_1 : decode cX5_size 1 = .ok (.bipush 12, 2) := by decide +kernel
theorem dX5_size_3 : decode cX5_size 3 = .ok (.invokevirtual 7, 3) := by decide +kernel
theorem dX5_size_6 : decode cX5_size 6 = .ok (.aload_n 0, 1) := by decide +kernel
theorem dX5_size_7 : decode cX5_size 7 = .ok (.aload_n 1, 1) := by decide +kernel
theorem dX5_size_8 : decode cX5_size 8 = .ok (.invokespecial 13, 3) := by decide +kernel
theorem dX5_size_11 : decode cX5_size 11 = .ok (.ineg, 1) := by decide +kernel
theorem dX5_size_12 : decode cX5_size 12 = .ok (.ireturn, 1) := by decide +kernel
set_option maxRecDepth 20000 in
theorem ggX5_mark_X0_begin : GoodIn wsX5_mark wsX0_begin := goodIn_r _ [5, 6, 7, 22, 23, 24, 25, 26] (by decide +kernel) (by decide +kernel)
set_option maxRecDepth 20000 in
theorem gX5_mark_X0_begin : GoodIn wsX5_mark (wsV RX5 7 RX0 yX0_begin wsX0_begin) := goodIn_app (goodIn_of _ (by decide +kernel)) ggX5_mark_X0_begin
set_option maxRecDepth 20000 in
theorem ggX5_mark_X3_mark : GoodIn wsX5_mark wsX3_mark := goodIn_r _ [13, 14, 2, 3, 4, 5, 6, 7, 15, 16, 17, 18, 19, 20, 21, 22, 23, 24, 25, 26] (by decide +kernel) (by decide +kernel)
set_option maxRecDepth 20000 in
theorem gX5_mark_X3_mark_s17 : GoodIn wsX5_mark (va_wsSU RX5 17 yX3_mark wsX3_mark) := goodIn_app (goodIn_of _ (by decide +kernel)) ggX5_mark_X3_mark
theorem dX5_mark_0 : decode cX5_mark 0 = .ok (.aload_n 1, 1) := by decide +kernel
theorem dX5_mark_1 : decode cX5_mark 1 = .ok (.bipush 24, 2) := by decide +kernel
theorem dX5_mark_3 : decode cX5_mark 3 = .ok (.invokevirtual 7, 3) := by decide +kernel
theorem dX5_mark_6 : decode cX5_mark 6 = .ok (.iconst 2, 1) := by decide +kernel
theorem dX5_mark_7 : decode cX5_mark 7 = .ok (.aload_n 0, 1) := by decide +kernel
theorem dX5_mark_8 : decode cX5_mark 8 = .ok (.aload_n 1, 1) := by decide +kernel
theorem dX5_mark_9 : decode cX5_mark 9 = .ok (.invokespecial 17, 3) := by decide +kernel
theorem dX5_mark_12 : decode cX5_mark 12 = .ok (.imul, 1) := by decide +kernel
theorem dX5_mark_13 : decode cX5_mark 13 = .ok (.ireturn, 1) := by decide +kernel
set_option maxRecDepth 20000 in
theorem ggX6_init_X9_init : GoodIn wsX6_init wsX9_init := goodIn_r _ [12, 13, 2, 3, 14, 15, 4, 16, 17, 18, 29, 30, 31, 32, 33, 34, 35, 36] (by decide +kernel) (by decide +kernel)
set_option maxRecDepth 20000 in
theorem gX6_init_X9_init_n17 : GoodIn wsX6_init (wsX9_init) := ggX6_init_X9_init
theorem dX6_init_0 : decode cX6_init 0 = .ok (.aload_n 0, 1) := by decide +kernel
theorem dX6_init_1 : decode cX6_init 1 = .ok (.invokespecial 3, 3) := by decide +kernel
theorem dX6_init_4 : decode cX6_init 4 = .ok (.aload_n 0, 1) := by decide +kernel
theorem dX6_init_5 : decode cX6_init 5 = .ok (.bipush 60, 2) := by decide +kernel
theorem dX6_init_7 : decode cX6_init 7 = .ok (.newarray .int, 2) := by decide +kernel
theorem dX6_init_9 : decode cX6_init 9 = .ok (.putfield 11, 3) := by decide +kernel
theorem dX6_init_12 : decode cX6_init 12 = .ok (.aload_n 0, 1) := by decide +kernel
theorem dX6_init_13 : decode cX6_init 13 = .ok (.new 15, 3) := by decide +kernel
theorem dX6_init_16 : decode cX6_init 16 = .ok (.dup, 1) := by decide +kernel
theorem dX6_init_17 : decode cX6_init 17 = .ok (.invokespecial 17, 3) := by decide +kernel
theorem dX6_init_20 : decode cX6_init 20 = .ok (.putfield 18, 3) := by decide +kernel
theorem dX6_init_23 : decode cX6_init 23 = .ok (.aload_n 0, 1) := by decide +kernel
theorem dX6_init_24 : decode cX6_init 24 = .ok (.aload_n 1, 1) := by decide +kernel
theorem dX6_init_25 : decode cX6_init 25 = .ok (.putfield 22, 3) := by decide +kernel
theorem dX6_init_28 : decode cX6_init 28 = .ok (.return_, 1) := by decide +kernel
theorem dX6_isFull_0 : decode cX6_isFull 0 = .ok (.aload_n 0, 1) := by decide +kernel
theorem dX6_isFull_1 : decode cX6_isFull 1 = .ok (.getfield 26, 3) := by decide +kernel
theorem dX6_isFull_4 : decode cX6_isFull 4 = .ok (.bipush 60, 2) := by decide +kernel
theorem dX6_isFull_6 : decode cX6_isFull 6 = .ok (.if_icmp .lt 7, 3) := by decide +kernel
theorem dX6_isFull_9 : decode cX6_isFull 9 = .ok (.iconst 1, 1) := by decide +kernel
theorem dX6_isFull_10 : decode cX6_isFull 10 = .ok (.goto 4, 3) := by decide +kernel
theorem dX6_isFull_13 : decode cX6_isFull 13 = .ok (.iconst 0, 1) := by decide +kernel
theorem dX6_isFull_14 : decode cX6_isFull 14 = .ok (.ireturn, 1) := by decide +kernel
set_option maxRecDepth 20000 in
theorem ggX6_append_X6_isFull : GoodIn wsX6_append wsX6_isFull := goodIn_r _ [7, 2, 8, 9, 10, 11, 12, 13, 14, 15, 16, 17] (by decide +kernel) (by decide +kernel)
set_option maxRecDepth 20000 in
theorem gX6_append_X6_isFull : GoodIn wsX6_append (wsV RX6 30 RX6 yX6_isFull wsX6_isFull) := goodIn_app (goodIn_of _ (by decide +kernel)) ggX6_append_X6_isFull
theorem dX6_append_0 : decode cX6_append 0 = .ok (.aload_n 0, 1) := by decide +kernel
theorem dX6_append_1 : decode cX6_append 1 = .ok (.invokevirtual 30, 3) := by decide +kernel
theorem dX6_append_4 : decode cX6_append 4 = .ok (.ifCond .ne 23, 3) := by decide +kernel
theorem dX6_append_7 : decode cX6_append 7 = .ok (.aload_n 0, 1) := by decide +kernel
theorem dX6_append_8 : decode cX6_append 8 = .ok (.getfield 11, 3) := by decide +kernel
theorem dX6_append_11 : decode cX6_append 11 = .ok (.aload_n 0, 1) := by decide +kernel
theorem dX6_append_12 : decode cX6_append 12 = .ok (.getfield 26, 3) := by decide +kernel
theorem dX6_append_15 : decode cX6_append 15 = .ok (.iload_n 1, 1) := by decide +kernel
theorem dX6_append_16 : decode cX6_append 16 = .ok (.iastore, 1) := by decide +kernel
theorem dX6_append_17 : decode cX6_append 17 = .ok (.aload_n 0, 1) := by decide +kernel
theorem dX6_append_18 : decode cX6_append 18 = .ok (.dup, 1) := by decide +kernel
theorem dX6_append_19 : decode cX6_append 19 = .ok (.getfield 26, 3) := by decide +kernel
theorem dX6_append_22 : decode cX6_append 22 = .ok (.iconst 1, 1) := by decide +kernel
