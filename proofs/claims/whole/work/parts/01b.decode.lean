theorem dX6_append_23 : decode cX6_append 23 = .ok (.iadd, 1) := by decide +kernel
theorem dX6_append_24 : decode cX6_append 24 = .ok (.putfield 26, 3) := by decide +kernel
theorem dX6_append_27 : decode cX6_append 27 = .ok (.aload_n 0, 1) := by decide +kernel
theorem dX6_append_28 : decode cX6_append 28 = .ok (.getfield 26, 3) := by decide +kernel
theorem dX6_append_31 : decode cX6_append 31 = .ok (.ireturn, 1) := by decide +kernel
set_option maxRecDepth 20000 in
theorem ggX6_readTape_X6_readLaw : GoodIn wsX6_readTape wsX6_readLaw := goodIn_r _ [8, 9, 10, 11, 12, 13, 7, 14, 15, 16, 17, 18, 19, 1, 20, 3, 21, 22, 23, 24, 25, 26, 27, 28, 29, 30, 31, 32, 33, 34, 35, 2, 36, 37, 38, 39, 40, 41, 42, 43, 44, 45, 46, 47, 48, 49, 97, 98, 99, 100, 101, 102, 103, 104, 105, 106, 107, 108, 109, 110, 111, 112, 113, 114] (by decide +kernel) (by decide +kernel)
set_option maxRecDepth 20000 in
theorem gX6_readTape_X6_readLaw : GoodIn wsX6_readTape (wsV RX6 40 RX6 yX6_readLaw wsX6_readLaw) := goodIn_app (goodIn_of _ (by decide +kernel)) ggX6_readTape_X6_readLaw
set_option maxRecDepth 20000 in
theorem ggX6_readTape_X6_readCard : GoodIn wsX6_readTape wsX6_readCard := goodIn_r _ [53, 10, 9, 16, 17, 18, 7, 19, 1, 20, 3, 15, 21, 22, 23, 24, 25, 26, 27, 28, 29, 30, 31, 54, 55, 56, 57, 58, 59, 60, 61, 62, 63, 64, 65, 66, 67, 68, 69, 70, 71, 72, 73, 74, 75, 76, 77, 78, 79, 80, 32, 33, 34, 35, 2, 36, 37, 38, 39, 40, 81, 82, 83, 44, 84, 47, 85, 86, 87, 88, 48, 89, 11, 12, 13, 14, 90, 91, 92, 93, 94, 95, 96, 97, 98, 99, 100, 101, 102, 103, 104, 105, 106, 107, 108, 109, 110, 111, 112, 113, 114] (by decide +kernel) (by decide +kernel)
set_option maxRecDepth 20000 in
theorem gX6_readTape_X6_readCard : GoodIn wsX6_readTape (wsV RX6 43 RX6 yX6_readCard wsX6_readCard) := goodIn_app (goodIn_of _ (by decide +kernel)) ggX6_readTape_X6_readCard
theorem dX6_readTape_0 : decode cX6_readTape 0 = .ok (.aload_n 0, 1) := by decide +kernel
theorem dX6_readTape_1 : decode cX6_readTape 1 = .ok (.iconst 0, 1) := by decide +kernel
theorem dX6_readTape_2 : decode cX6_readTape 2 = .ok (.putfield 34, 3) := by decide +kernel
theorem dX6_readTape_5 : decode cX6_readTape 5 = .ok (.aload_n 0, 1) := by decide +kernel
theorem dX6_readTape_6 : decode cX6_readTape 6 = .ok (.iconst 0, 1) := by decide +kernel
theorem dX6_readTape_7 : decode cX6_readTape 7 = .ok (.putfield 37, 3) := by decide +kernel
theorem dX6_readTape_10 : decode cX6_readTape 10 = .ok (.aload_n 0, 1) := by decide +kernel
theorem dX6_readTape_11 : decode cX6_readTape 11 = .ok (.invokevirtual 40, 3) := by decide +kernel
theorem dX6_readTape_14 : decode cX6_readTape 14 = .ok (.istore_n 1, 1) := by decide +kernel
theorem dX6_readTape_15 : decode cX6_readTape 15 = .ok (.iconst 0, 1) := by decide +kernel
theorem dX6_readTape_16 : decode cX6_readTape 16 = .ok (.istore_n 2, 1) := by decide +kernel
theorem dX6_readTape_17 : decode cX6_readTape 17 = .ok (.iload_n 1, 1) := by decide +kernel
theorem dX6_readTape_18 : decode cX6_readTape 18 = .ok (.ifCond .eq 39, 3) := by decide +kernel
theorem dX6_readTape_21 : decode cX6_readTape 21 = .ok (.iload_n 2, 1) := by decide +kernel
theorem dX6_readTape_22 : decode cX6_readTape 22 = .ok (.bipush 8, 2) := by decide +kernel
theorem dX6_readTape_24 : decode cX6_readTape 24 = .ok (.if_icmp .gt 33, 3) := by decide +kernel
theorem dX6_readTape_27 : decode cX6_readTape 27 = .ok (.aload_n 0, 1) := by decide +kernel
theorem dX6_readTape_28 : decode cX6_readTape 28 = .ok (.invokevirtual 43, 3) := by decide +kernel
theorem dX6_readTape_31 : decode cX6_readTape 31 = .ok (.ifCond .eq 18, 3) := by decide +kernel
theorem dX6_readTape_34 : decode cX6_readTape 34 = .ok (.aload_n 0, 1) := by decide +kernel
theorem dX6_readTape_35 : decode cX6_readTape 35 = .ok (.getfield 34, 3) := by decide +kernel
theorem dX6_readTape_38 : decode cX6_readTape 38 = .ok (.aload_n 0, 1) := by decide +kernel
theorem dX6_readTape_39 : decode cX6_readTape 39 = .ok (.getfield 26, 3) := by decide +kernel
theorem dX6_readTape_42 : decode cX6_readTape 42 = .ok (.if_icmp .ge 7, 3) := by decide +kernel
theorem dX6_readTape_45 : decode cX6_readTape 45 = .ok (.iconst 1, 1) := by decide +kernel
theorem dX6_readTape_46 : decode cX6_readTape 46 = .ok (.goto 4, 3) := by decide +kernel
theorem dX6_readTape_49 : decode cX6_readTape 49 = .ok (.iconst 0, 1) := by decide +kernel
theorem dX6_readTape_50 : decode cX6_readTape 50 = .ok (.istore_n 1, 1) := by decide +kernel
theorem dX6_readTape_51 : decode cX6_readTape 51 = .ok (.iinc 2 1, 3) := by decide +kernel
theorem dX6_readTape_54 : decode cX6_readTape 54 = .ok (.goto (-37), 3) := by decide +kernel
theorem dX6_readTape_57 : decode cX6_readTape 57 = .ok (.aload_n 0, 1) := by decide +kernel
theorem dX6_readTape_58 : decode cX6_readTape 58 = .ok (.iconst 0, 1) := by decide +kernel
theorem dX6_readTape_59 : decode cX6_readTape 59 = .ok (.putfield 26, 3) := by decide +kernel
theorem dX6_readTape_62 : decode cX6_readTape 62 = .ok (.return_, 1) := by decide +kernel
set_option maxRecDepth 20000 in
theorem ggX6_readLaw_X6_readSign : GoodIn wsX6_readLaw wsX6_readSign := goodIn_r _ [7, 8, 9, 10, 11, 6, 12, 13, 14, 15, 16, 17, 18, 19, 20, 21, 22, 23, 1, 24, 25, 26, 27, 28, 29, 30, 31, 32, 46, 47, 48, 49, 50, 51, 52, 53, 54, 55] (by decide +kernel) (by decide +kernel)
set_option maxRecDepth 20000 in
theorem gX6_readLaw_X6_readSign : GoodIn wsX6_readLaw (wsV RX6 46 RX6 yX6_readSign wsX6_readSign) := goodIn_app (goodIn_of _ (by decide +kernel)) ggX6_readLaw_X6_readSign
set_option maxRecDepth 20000 in
theorem ggX6_readLaw_X6_readNumber : GoodIn wsX6_readLaw wsX6_readNumber := goodIn_r _ [36, 8, 1, 9, 10, 11, 6, 12, 13, 14, 15, 16, 17, 18, 19, 20, 21, 22, 23, 24, 25, 26, 27, 28, 29, 30, 31, 32, 46, 47, 48, 49, 50, 51, 52, 53, 54, 55] (by decide +kernel) (by decide +kernel)
set_option maxRecDepth 20000 in
theorem gX6_readLaw_X6_readNumber : GoodIn wsX6_readLaw (wsV RX6 50 RX6 yX6_readNumber wsX6_readNumber) := goodIn_app (goodIn_of _ (by decide +kernel)) ggX6_readLaw_X6_readNumber
set_option maxRecDepth 20000 in
theorem ggX6_readLaw_X9_begin : GoodIn wsX6_readLaw wsX9_begin := goodIn_r _ [41, 42, 43, 44, 45, 56, 57, 58, 59, 60, 61, 62, 63] (by decide +kernel) (by decide +kernel)
set_option maxRecDepth 20000 in
theorem gX6_readLaw_X9_begin : GoodIn wsX6_readLaw (wsV RX6 57 RX9 yX9_begin wsX9_begin) := goodIn_app (goodIn_of _ (by decide +kernel)) ggX6_readLaw_X9_begin
theorem dX6_readLaw_0 : decode cX6_readLaw 0 = .ok (.aload_n 0, 1) := by decide +kernel
theorem dX6_readLaw_1 : decode cX6_readLaw 1 = .ok (.bipush 99, 2) := by decide +kernel
theorem dX6_readLaw_3 : decode cX6_readLaw 3 = .ok (.invokevirtual 46, 3) := by decide +kernel
theorem dX6_readLaw_6 : decode cX6_readLaw 6 = .ok (.ifCond .eq 13, 3) := by decide +kernel
theorem dX6_readLaw_9 : decode cX6_readLaw 9 = .ok (.aload_n 0, 1) := by decide +kernel
theorem dX6_readLaw_10 : decode cX6_readLaw 10 = .ok (.iconst 2, 1) := by decide +kernel
theorem dX6_readLaw_11 : decode cX6_readLaw 11 = .ok (.bipush 6, 2) := by decide +kernel
theorem dX6_readLaw_13 : decode cX6_readLaw 13 = .ok (.invokevirtual 50, 3) := by decide +kernel
theorem dX6_readLaw_16 : decode cX6_readLaw 16 = .ok (.ifCond .ne 5, 3) := by decide +kernel
theorem dX6_readLaw_19 : decode cX6_readLaw 19 = .ok (.iconst 0, 1) := by decide +kernel
theorem dX6_readLaw_20 : decode cX6_readLaw 20 = .ok (.ireturn, 1) := by decide +kernel
theorem dX6_readLaw_21 : decode cX6_readLaw 21 = .ok (.aload_n 0, 1) := by decide +kernel
theorem dX6_readLaw_22 : decode cX6_readLaw 22 = .ok (.getfield 54, 3) := by decide +kernel
theorem dX6_readLaw_25 : decode cX6_readLaw 25 = .ok (.istore_n 1, 1) := by decide +kernel
theorem dX6_readLaw_26 : decode cX6_readLaw 26 = .ok (.aload_n 0, 1) := by decide +kernel
theorem dX6_readLaw_27 : decode cX6_readLaw 27 = .ok (.bipush 44, 2) := by decide +kernel
theorem dX6_readLaw_29 : decode cX6_readLaw 29 = .ok (.invokevirtual 46, 3) := by decide +kernel
theorem dX6_readLaw_32 : decode cX6_readLaw 32 = .ok (.ifCond .eq 13, 3) := by decide +kernel
theorem dX6_readLaw_35 : decode cX6_readLaw 35 = .ok (.aload_n 0, 1) := by decide +kernel
theorem dX6_readLaw_36 : decode cX6_readLaw 36 = .ok (.iconst 1, 1) := by decide +kernel
theorem dX6_readLaw_37 : decode cX6_readLaw 37 = .ok (.bipush 8, 2) := by decide +kernel
theorem dX6_readLaw_39 : decode cX6_readLaw 39 = .ok (.invokevirtual 50, 3) := by decide +kernel
theorem dX6_readLaw_42 : decode cX6_readLaw 42 = .ok (.ifCond .ne 5, 3) := by decide +kernel
theorem dX6_readLaw_45 : decode cX6_readLaw 45 = .ok (.iconst 0, 1) := by decide +kernel
theorem dX6_readLaw_46 : decode cX6_readLaw 46 = .ok (.ireturn, 1) := by decide +kernel
theorem dX6_readLaw_47 : decode cX6_readLaw 47 = .ok (.aload_n 0, 1) := by decide +kernel
theorem dX6_readLaw_48 : decode cX6_readLaw 48 = .ok (.getfield 18, 3) := by decide +kernel
theorem dX6_readLaw_51 : decode cX6_readLaw 51 = .ok (.iload_n 1, 1) := by decide +kernel
theorem dX6_readLaw_52 : decode cX6_readLaw 52 = .ok (.aload_n 0, 1) := by decide +kernel
theorem dX6_readLaw_53 : decode cX6_readLaw 53 = .ok (.getfield 54, 3) := by decide +kernel
theorem dX6_readLaw_56 : decode cX6_readLaw 56 = .ok (.invokevirtual 57, 3) := by decide +kernel
theorem dX6_readLaw_59 : decode cX6_readLaw 59 = .ok (.aload_n 0, 1) := by decide +kernel
theorem dX6_readLaw_60 : decode cX6_readLaw 60 = .ok (.bipush 59, 2) := by decide +kernel
theorem dX6_readLaw_62 : decode cX6_readLaw 62 = .ok (.invokevirtual 46, 3) := by decide +kernel
theorem dX6_readLaw_65 : decode cX6_readLaw 65 = .ok (.ireturn, 1) := by decide +kernel
set_option maxRecDepth 20000 in
theorem ggX6_readCard_X6_nextToken : GoodIn wsX6_readCard wsX6_nextToken := goodIn_r _ [7, 8, 9, 10, 11, 12, 13, 14, 6, 15, 16, 17, 18, 19, 2, 20, 21, 22, 83, 84, 85, 86, 87, 88, 89, 90, 91, 92] (by decide +kernel) (by decide +kernel)
set_option maxRecDepth 20000 in
theorem gX6_readCard_X6_nextToken : GoodIn wsX6_readCard (wsV RX6 61 RX6 yX6_nextToken wsX6_nextToken) := goodIn_app (goodIn_of _ (by decide +kernel)) ggX6_readCard_X6_nextToken
set_option maxRecDepth 20000 in
theorem ggX6_readCard_X6_sortOfLetter : GoodIn wsX6_readCard wsX6_sortOfLetter := goodIn_r _ [26, 27, 11, 28, 29, 30, 31, 32, 33, 34, 35, 36, 37, 38, 39, 40, 41, 42, 43, 44, 45, 46, 47, 48, 49, 83, 84, 85, 86, 87, 88, 89, 90, 91, 92] (by decide +kernel) (by decide +kernel)
set_option maxRecDepth 20000 in
theorem gX6_readCard_X6_sortOfLetter : GoodIn wsX6_readCard (wsV RX6 64 RX6 yX6_sortOfLetter wsX6_sortOfLetter) := goodIn_app (goodIn_of _ (by decide +kernel)) ggX6_readCard_X6_sortOfLetter
set_option maxRecDepth 20000 in
theorem ggX6_readCard_X6_failWith : GoodIn wsX6_readCard wsX6_failWith := goodIn_r _ [53, 54, 9, 55, 83, 84, 85, 86, 87, 88, 89, 90, 91, 92] (by decide +kernel) (by decide +kernel)
set_option maxRecDepth 20000 in
theorem gX6_readCard_X6_failWith : GoodIn wsX6_readCard (wsV RX6 68 RX6 yX6_failWith wsX6_failWith) := goodIn_app (goodIn_of _ (by decide +kernel)) ggX6_readCard_X6_failWith
set_option maxRecDepth 20000 in
theorem ggX6_readCard_X6_readNumber : GoodIn wsX6_readCard wsX6_readNumber := goodIn_r _ [59, 11, 2, 3, 4, 5, 6, 7, 8, 9, 10, 12, 13, 14, 15, 16, 17, 18, 19, 20, 21, 22, 50, 51, 52, 53, 54, 55, 83, 84, 85, 86, 87, 88, 89, 90, 91, 92] (by decide +kernel) (by decide +kernel)
set_option maxRecDepth 20000 in
theorem gX6_readCard_X6_readNumber : GoodIn wsX6_readCard (wsV RX6 50 RX6 yX6_readNumber wsX6_readNumber) := goodIn_app (goodIn_of _ (by decide +kernel)) ggX6_readCard_X6_readNumber
set_option maxRecDepth 20000 in
theorem ggX6_readCard_X9_holdsOneMore : GoodIn wsX6_readCard wsX9_holdsOneMore := goodIn_r _ [64, 65, 66, 67, 68, 63, 69, 70, 71, 93, 94, 95, 96, 97, 98, 99, 100] (by decide +kernel) (by decide +kernel)
set_option maxRecDepth 20000 in
theorem gX6_readCard_X9_holdsOneMore : GoodIn wsX6_readCard (wsV RX6 78 RX9 yX9_holdsOneMore wsX9_holdsOneMore) := goodIn_app (goodIn_of _ (by decide +kernel)) ggX6_readCard_X9_holdsOneMore
set_option maxRecDepth 20000 in
theorem ggX6_readCard_X6_readSign : GoodIn wsX6_readCard wsX6_readSign := goodIn_r _ [75, 11, 3, 4, 5, 6, 7, 8, 9, 10, 12, 13, 14, 15, 16, 17, 18, 19, 2, 20, 21, 22, 50, 51, 52, 53, 54, 55, 83, 84, 85, 86, 87, 88, 89, 90, 91, 92] (by decide +kernel) (by decide +kernel)
set_option maxRecDepth 20000 in
theorem gX6_readCard_X6_readSign : GoodIn wsX6_readCard (wsV RX6 46 RX6 yX6_readSign wsX6_readSign) := goodIn_app (goodIn_of _ (by decide +kernel)) ggX6_readCard_X6_readSign
set_option maxRecDepth 20000 in
theorem ggX6_readCard_X9_join : GoodIn wsX6_readCard wsX9_join := goodIn_r _ [79, 70, 80, 81, 82, 71, 66, 67, 68, 63, 69, 93, 94, 95, 96, 97, 98, 99, 100] (by decide +kernel) (by decide +kernel)
set_option maxRecDepth 20000 in
theorem gX6_readCard_X9_join : GoodIn wsX6_readCard (wsV RX6 81 RX9 yX9_join wsX9_join) := goodIn_app (goodIn_of _ (by decide +kernel)) ggX6_readCard_X9_join
theorem dX6_readCard_0 : decode cX6_readCard 0 = .ok (.aload_n 0, 1) := by decide +kernel
theorem dX6_readCard_1 : decode cX6_readCard 1 = .ok (.invokevirtual 61, 3) := by decide +kernel
theorem dX6_readCard_4 : decode cX6_readCard 4 = .ok (.aload_n 0, 1) := by decide +kernel
theorem dX6_readCard_5 : decode cX6_readCard 5 = .ok (.invokevirtual 64, 3) := by decide +kernel
theorem dX6_readCard_8 : decode cX6_readCard 8 = .ok (.astore_n 1, 1) := by decide +kernel
theorem dX6_readCard_9 : decode cX6_readCard 9 = .ok (.aload_n 1, 1) := by decide +kernel
theorem dX6_readCard_10 : decode cX6_readCard 10 = .ok (.ifnonnull 9, 3) := by decide +kernel
theorem dX6_readCard_13 : decode cX6_readCard 13 = .ok (.aload_n 0, 1) := by decide +kernel
theorem dX6_readCard_14 : decode cX6_readCard 14 = .ok (.iconst 1, 1) := by decide +kernel
theorem dX6_readCard_15 : decode cX6_readCard 15 = .ok (.invokevirtual 68, 3) := by decide +kernel
theorem dX6_readCard_18 : decode cX6_readCard 18 = .ok (.ireturn, 1) := by decide +kernel
theorem dX6_readCard_19 : decode cX6_readCard 19 = .ok (.aload_n 0, 1) := by decide +kernel
theorem dX6_readCard_20 : decode cX6_readCard 20 = .ok (.getfield 18, 3) := by decide +kernel
theorem dX6_readCard_23 : decode cX6_readCard 23 = .ok (.getfield 72, 3) := by decide +kernel
theorem dX6_readCard_26 : decode cX6_readCard 26 = .ok (.istore_n 2, 1) := by decide +kernel
theorem dX6_readCard_27 : decode cX6_readCard 27 = .ok (.iload_n 2, 1) := by decide +kernel
theorem dX6_readCard_28 : decode cX6_readCard 28 = .ok (.bipush 8, 2) := by decide +kernel
theorem dX6_readCard_30 : decode cX6_readCard 30 = .ok (.if_icmp .lt 9, 3) := by decide +kernel
theorem dX6_readCard_33 : decode cX6_readCard 33 = .ok (.aload_n 0, 1) := by decide +kernel
theorem dX6_readCard_34 : decode cX6_readCard 34 = .ok (.iconst 3, 1) := by decide +kernel
theorem dX6_readCard_35 : decode cX6_readCard 35 = .ok (.invokevirtual 68, 3) := by decide +kernel
theorem dX6_readCard_38 : decode cX6_readCard 38 = .ok (.ireturn, 1) := by decide +kernel
theorem dX6_readCard_39 : decode cX6_readCard 39 = .ok (.aload_n 0, 1) := by decide +kernel
theorem dX6_readCard_40 : decode cX6_readCard 40 = .ok (.iconst 0, 1) := by decide +kernel
theorem dX6_readCard_41 : decode cX6_readCard 41 = .ok (.aload_n 0, 1) := by decide +kernel
theorem dX6_readCard_42 : decode cX6_readCard 42 = .ok (.getfield 18, 3) := by decide +kernel
theorem dX6_readCard_45 : decode cX6_readCard 45 = .ok (.getfield 75, 3) := by decide +kernel
theorem dX6_readCard_48 : decode cX6_readCard 48 = .ok (.iconst 1, 1) := by decide +kernel
theorem dX6_readCard_49 : decode cX6_readCard 49 = .ok (.isub, 1) := by decide +kernel
theorem dX6_readCard_50 : decode cX6_readCard 50 = .ok (.invokevirtual 50, 3) := by decide +kernel
theorem dX6_readCard_53 : decode cX6_readCard 53 = .ok (.ifCond .ne 5, 3) := by decide +kernel
theorem dX6_readCard_56 : decode cX6_readCard 56 = .ok (.iconst 0, 1) := by decide +kernel
theorem dX6_readCard_57 : decode cX6_readCard 57 = .ok (.ireturn, 1) := by decide +kernel
theorem dX6_readCard_58 : decode cX6_readCard 58 = .ok (.aload_n 0, 1) := by decide +kernel
theorem dX6_readCard_59 : decode cX6_readCard 59 = .ok (.getfield 54, 3) := by decide +kernel
theorem dX6_readCard_62 : decode cX6_readCard 62 = .ok (.istore_n 3, 1) := by decide +kernel
theorem dX6_readCard_63 : decode cX6_readCard 63 = .ok (.aload_n 0, 1) := by decide +kernel
theorem dX6_readCard_64 : decode cX6_readCard 64 = .ok (.getfield 18, 3) := by decide +kernel
theorem dX6_readCard_67 : decode cX6_readCard 67 = .ok (.iload_n 3, 1) := by decide +kernel
theorem dX6_readCard_68 : decode cX6_readCard 68 = .ok (.invokevirtual 78, 3) := by decide +kernel
theorem dX6_readCard_71 : decode cX6_readCard 71 = .ok (.ifCond .ne 9, 3) := by decide +kernel
theorem dX6_readCard_74 : decode cX6_readCard 74 = .ok (.aload_n 0, 1) := by decide +kernel
theorem dX6_readCard_75 : decode cX6_readCard 75 = .ok (.iconst 2, 1) := by decide +kernel
theorem dX6_readCard_76 : decode cX6_readCard 76 = .ok (.invokevirtual 68, 3) := by decide +kernel
theorem dX6_readCard_79 : decode cX6_readCard 79 = .ok (.ireturn, 1) := by decide +kernel
theorem dX6_readCard_80 : decode cX6_readCard 80 = .ok (.aload_n 0, 1) := by decide +kernel
theorem dX6_readCard_81 : decode cX6_readCard 81 = .ok (.bipush 44, 2) := by decide +kernel
theorem dX6_readCard_83 : decode cX6_readCard 83 = .ok (.invokevirtual 46, 3) := by decide +kernel
theorem dX6_readCard_86 : decode cX6_readCard 86 = .ok (.ifCond .eq 13, 3) := by decide +kernel
theorem dX6_readCard_89 : decode cX6_readCard 89 = .ok (.aload_n 0, 1) := by decide +kernel
theorem dX6_readCard_90 : decode cX6_readCard 90 = .ok (.iconst 0, 1) := by decide +kernel
theorem dX6_readCard_91 : decode cX6_readCard 91 = .ok (.bipush 7, 2) := by decide +kernel
theorem dX6_readCard_93 : decode cX6_readCard 93 = .ok (.invokevirtual 50, 3) := by decide +kernel
theorem dX6_readCard_96 : decode cX6_readCard 96 = .ok (.ifCond .ne 5, 3) := by decide +kernel
theorem dX6_readCard_99 : decode cX6_readCard 99 = .ok (.iconst 0, 1) := by decide +kernel
theorem dX6_readCard_100 : decode cX6_readCard 100 = .ok (.ireturn, 1) := by decide +kernel
theorem dX6_readCard_101 : decode cX6_readCard 101 = .ok (.aload_n 0, 1) := by decide +kernel
theorem dX6_readCard_102 : decode cX6_readCard 102 = .ok (.getfield 54, 3) := by decide +kernel
theorem dX6_readCard_105 : decode cX6_readCard 105 = .ok (.iload_n 2, 1) := by decide +kernel
theorem dX6_readCard_106 : decode cX6_readCard 106 = .ok (.if_icmp .ne 9, 3) := by decide +kernel
theorem dX6_readCard_109 : decode cX6_readCard 109 = .ok (.aload_n 0, 1) := by decide +kernel
theorem dX6_readCard_110 : decode cX6_readCard 110 = .ok (.iconst 2, 1) := by decide +kernel
theorem dX6_readCard_111 : decode cX6_readCard 111 = .ok (.invokevirtual 68, 3) := by decide +kernel
theorem dX6_readCard_114 : decode cX6_readCard 114 = .ok (.ireturn, 1) := by decide +kernel
theorem dX6_readCard_115 : decode cX6_readCard 115 = .ok (.aload_n 0, 1) := by decide +kernel
theorem dX6_readCard_116 : decode cX6_readCard 116 = .ok (.getfield 18, 3) := by decide +kernel
theorem dX6_readCard_119 : decode cX6_readCard 119 = .ok (.aload_n 1, 1) := by decide +kernel
theorem dX6_readCard_120 : decode cX6_readCard 120 = .ok (.iload_n 3, 1) := by decide +kernel
theorem dX6_readCard_121 : decode cX6_readCard 121 = .ok (.aload_n 0, 1) := by decide +kernel
theorem dX6_readCard_122 : decode cX6_readCard 122 = .ok (.getfield 54, 3) := by decide +kernel
theorem dX6_readCard_125 : decode cX6_readCard 125 = .ok (.invokevirtual 81, 3) := by decide +kernel
theorem dX6_readCard_128 : decode cX6_readCard 128 = .ok (.aload_n 0, 1) := by decide +kernel
theorem dX6_readCard_129 : decode cX6_readCard 129 = .ok (.bipush 59, 2) := by decide +kernel
theorem dX6_readCard_131 : decode cX6_readCard 131 = .ok (.invokevirtual 46, 3) := by decide +kernel
theorem dX6_readCard_134 : decode cX6_readCard 134 = .ok (.ireturn, 1) := by decide +kernel
set_option maxRecDepth 20000 in
theorem ggX6_sortOfLetter_X1_letter : GoodIn wsX6_sortOfLetter wsX1_letter := goodIn_r _ [8] (by decide +kernel) (by decide +kernel)
set_option maxRecDepth 20000 in
theorem gX6_sortOfLetter_X1_letter_u85X1 : GoodIn wsX6_sortOfLetter (va_wsU RX6 85 RX1 "DrawerCards$Kind" ⟨"DrawerCards$Kind", "letter", "()C"⟩ yX1_letter wsX1_letter) := goodIn_app (goodIn_of _ (by decide +kernel)) ggX6_sortOfLetter_X1_letter
set_option maxRecDepth 20000 in
theorem ggX6_sortOfLetter_X3_letter : GoodIn wsX6_sortOfLetter wsX3_letter := goodIn_r _ [12] (by decide +kernel) (by decide +kernel)
set_option maxRecDepth 20000 in
theorem gX6_sortOfLetter_X3_letter_u85X3 : GoodIn wsX6_sortOfLetter (va_wsU RX6 85 RX3 "DrawerCards$Kind" ⟨"DrawerCards$Kind", "letter", "()C"⟩ yX3_letter wsX3_letter) := goodIn_app (goodIn_of _ (by decide +kernel)) ggX6_sortOfLetter_X3_letter
set_option maxRecDepth 20000 in
theorem ggX6_sortOfLetter_X5_letter : GoodIn wsX6_sortOfLetter wsX5_letter := goodIn_r _ [16] (by decide +kernel) (by decide +kernel)
set_option maxRecDepth 20000 in
theorem gX6_sortOfLetter_X5_letter_u85X5 : GoodIn wsX6_sortOfLetter (va_wsU RX6 85 RX5 "DrawerCards$Kind" ⟨"DrawerCards$Kind", "letter", "()C"⟩ yX5_letter wsX5_letter) := goodIn_app (goodIn_of _ (by decide +kernel)) ggX6_sortOfLetter_X5_letter
set_option maxRecDepth 20000 in
theorem ggX6_sortOfLetter_X7_letter : GoodIn wsX6_sortOfLetter wsX7_letter := goodIn_r _ [20] (by decide +kernel) (by decide +kernel)
set_option maxRecDepth 20000 in
theorem gX6_sortOfLetter_X7_letter_u85X7 : GoodIn wsX6_sortOfLetter (va_wsU RX6 85 RX7 "DrawerCards$Kind" ⟨"DrawerCards$Kind", "letter", "()C"⟩ yX7_letter wsX7_letter) := goodIn_app (goodIn_of _ (by decide +kernel)) ggX6_sortOfLetter_X7_letter
set_option maxRecDepth 20000 in
theorem ggX6_sortOfLetter_X10_letter : GoodIn wsX6_sortOfLetter wsX10_letter := goodIn_r _ [24] (by decide +kernel) (by decide +kernel)
set_option maxRecDepth 20000 in
theorem gX6_sortOfLetter_X10_letter_u85X10 : GoodIn wsX6_sortOfLetter (va_wsU RX6 85 RX10 "DrawerCards$Kind" ⟨"DrawerCards$Kind", "letter", "()C"⟩ yX10_letter wsX10_letter) := goodIn_app (goodIn_of _ (by decide +kernel)) ggX6_sortOfLetter_X10_letter
theorem dX6_sortOfLetter_0 : decode cX6_sortOfLetter 0 = .ok (.iconst 1, 1) := by decide +kernel
theorem dX6_sortOfLetter_1 : decode cX6_sortOfLetter 1 = .ok (.istore_n 1, 1) := by decide +kernel
theorem dX6_sortOfLetter_2 : decode cX6_sortOfLetter 2 = .ok (.iload_n 1, 1) := by decide +kernel
theorem dX6_sortOfLetter_3 : decode cX6_sortOfLetter 3 = .ok (.bipush 6, 2) := by decide +kernel
theorem dX6_sortOfLetter_5 : decode cX6_sortOfLetter 5 = .ok (.if_icmp .ge 32, 3) := by decide +kernel
theorem dX6_sortOfLetter_8 : decode cX6_sortOfLetter 8 = .ok (.aload_n 0, 1) := by decide +kernel
theorem dX6_sortOfLetter_9 : decode cX6_sortOfLetter 9 = .ok (.getfield 22, 3) := by decide +kernel
theorem dX6_sortOfLetter_12 : decode cX6_sortOfLetter 12 = .ok (.iload_n 1, 1) := by decide +kernel
theorem dX6_sortOfLetter_13 : decode cX6_sortOfLetter 13 = .ok (.aaload, 1) := by decide +kernel
theorem dX6_sortOfLetter_14 : decode cX6_sortOfLetter 14 = .ok (.invokevirtual 85, 3) := by decide +kernel
theorem dX6_sortOfLetter_17 : decode cX6_sortOfLetter 17 = .ok (.aload_n 0, 1) := by decide +kernel
theorem dX6_sortOfLetter_18 : decode cX6_sortOfLetter 18 = .ok (.getfield 91, 3) := by decide +kernel
theorem dX6_sortOfLetter_21 : decode cX6_sortOfLetter 21 = .ok (.if_icmp .ne 10, 3) := by decide +kernel
theorem dX6_sortOfLetter_24 : decode cX6_sortOfLetter 24 = .ok (.aload_n 0, 1) := by decide +kernel
theorem dX6_sortOfLetter_25 : decode cX6_sortOfLetter 25 = .ok (.getfield 22, 3) := by decide +kernel
theorem dX6_sortOfLetter_28 : decode cX6_sortOfLetter 28 = .ok (.iload_n 1, 1) := by decide +kernel
theorem dX6_sortOfLetter_29 : decode cX6_sortOfLetter 29 = .ok (.aaload, 1) := by decide +kernel
theorem dX6_sortOfLetter_30 : decode cX6_sortOfLetter 30 = .ok (.areturn, 1) := by decide +kernel
theorem dX6_sortOfLetter_31 : decode cX6_sortOfLetter 31 = .ok (.iinc 1 1, 3) := by decide +kernel
theorem dX6_sortOfLetter_34 : decode cX6_sortOfLetter 34 = .ok (.goto (-32), 3) := by decide +kernel
theorem dX6_sortOfLetter_37 : decode cX6_sortOfLetter 37 = .ok (.aconst_null, 1) := by decide +kernel
theorem dX6_sortOfLetter_38 : decode cX6_sortOfLetter 38 = .ok (.areturn, 1) := by decide +kernel
set_option maxRecDepth 20000 in
theorem ggX6_readSign_X6_nextToken : GoodIn wsX6_readSign wsX6_nextToken := goodIn_r _ [6, 7, 8, 9, 1, 10, 11, 12, 5, 13, 14, 15, 16, 17, 18, 19, 20, 21, 28, 29, 30, 31, 32, 33, 34, 35, 36, 37] (by decide +kernel) (by decide +kernel)
set_option maxRecDepth 20000 in
theorem gX6_readSign_X6_nextToken : GoodIn wsX6_readSign (wsV RX6 61 RX6 yX6_nextToken wsX6_nextToken) := goodIn_app (goodIn_of _ (by decide +kernel)) ggX6_readSign_X6_nextToken
set_option maxRecDepth 20000 in
theorem ggX6_readSign_X6_failWith : GoodIn wsX6_readSign wsX6_failWith := goodIn_r _ [25, 26, 8, 27, 28, 29, 30, 31, 32, 33, 34, 35, 36, 37] (by decide +kernel) (by decide +kernel)
set_option maxRecDepth 20000 in
theorem gX6_readSign_X6_failWith : GoodIn wsX6_readSign (wsV RX6 68 RX6 yX6_failWith wsX6_failWith) := goodIn_app (goodIn_of _ (by decide +kernel)) ggX6_readSign_X6_failWith
theorem dX6_readSign_0 : decode cX6_readSign 0 = .ok (.aload_n 0, 1) := by decide +kernel
theorem dX6_readSign_1 : decode cX6_readSign 1 = .ok (.invokevirtual 61, 3) := by decide +kernel
theorem dX6_readSign_4 : decode cX6_readSign 4 = .ok (.aload_n 0, 1) := by decide +kernel
theorem dX6_readSign_5 : decode cX6_readSign 5 = .ok (.getfield 91, 3) := by decide +kernel
theorem dX6_readSign_8 : decode cX6_readSign 8 = .ok (.iload_n 1, 1) := by decide +kernel
theorem dX6_readSign_9 : decode cX6_readSign 9 = .ok (.if_icmp .eq 11, 3) := by decide +kernel
theorem dX6_readSign_12 : decode cX6_readSign 12 = .ok (.aload_n 0, 1) := by decide +kernel
theorem dX6_readSign_13 : decode cX6_readSign 13 = .ok (.iconst 1, 1) := by decide +kernel
theorem dX6_readSign_14 : decode cX6_readSign 14 = .ok (.invokevirtual 68, 3) := by decide +kernel
theorem dX6_readSign_17 : decode cX6_readSign 17 = .ok (.ifCond .eq 7, 3) := by decide +kernel
theorem dX6_readSign_20 : decode cX6_readSign 20 = .ok (.iconst 1, 1) := by decide +kernel
theorem dX6_readSign_21 : decode cX6_readSign 21 = .ok (.goto 4, 3) := by decide +kernel
theorem dX6_readSign_24 : decode cX6_readSign 24 = .ok (.iconst 0, 1) := by decide +kernel
theorem dX6_readSign_25 : decode cX6_readSign 25 = .ok (.ireturn, 1) := by decide +kernel
set_option maxRecDepth 20000 in
theorem ggX6_readNumber_X6_nextToken : GoodIn wsX6_readNumber wsX6_nextToken := goodIn_r _ [7, 8, 9, 10, 1, 11, 12, 13, 6, 14, 15, 16, 17, 18, 2, 19, 20, 21, 28, 29, 30, 31, 32, 33, 34, 35, 36, 37] (by decide +kernel) (by decide +kernel)
set_option maxRecDepth 20000 in
theorem gX6_readNumber_X6_nextToken : GoodIn wsX6_readNumber (wsV RX6 61 RX6 yX6_nextToken wsX6_nextToken) := goodIn_app (goodIn_of _ (by decide +kernel)) ggX6_readNumber_X6_nextToken
set_option maxRecDepth 20000 in
theorem ggX6_readNumber_X6_failWith : GoodIn wsX6_readNumber wsX6_failWith := goodIn_r _ [25, 26, 9, 27, 28, 29, 30, 31, 32, 33, 34, 35, 36, 37] (by decide +kernel) (by decide +kernel)
set_option maxRecDepth 20000 in
theorem gX6_readNumber_X6_failWith : GoodIn wsX6_readNumber (wsV RX6 68 RX6 yX6_failWith wsX6_failWith) := goodIn_app (goodIn_of _ (by decide +kernel)) ggX6_readNumber_X6_failWith
set_option maxRecDepth 20000 in
theorem ggX6_readNumber_X11_within : GoodIn wsX6_readNumber wsX11_within := goodIn_r _ [21] (by decide +kernel) (by decide +kernel)
set_option maxRecDepth 20000 in
theorem gX6_readNumber_X11_within_n94 : GoodIn wsX6_readNumber (wsX11_within) := ggX6_readNumber_X11_within
theorem dX6_readNumber_0 : decode cX6_readNumber 0 = .ok (.aload_n 0, 1) := by decide +kernel
theorem dX6_readNumber_1 : decode cX6_readNumber 1 = .ok (.invokevirtual 61, 3) := by decide +kernel
theorem dX6_readNumber_4 : decode cX6_readNumber 4 = .ok (.aload_n 0, 1) := by decide +kernel
theorem dX6_readNumber_5 : decode cX6_readNumber 5 = .ok (.getfield 91, 3) := by decide +kernel
theorem dX6_readNumber_8 : decode cX6_readNumber 8 = .ok (.bipush (-2), 2) := by decide +kernel
theorem dX6_readNumber_10 : decode cX6_readNumber 10 = .ok (.if_icmp .eq 9, 3) := by decide +kernel
theorem dX6_readNumber_13 : decode cX6_readNumber 13 = .ok (.aload_n 0, 1) := by decide +kernel
theorem dX6_readNumber_14 : decode cX6_readNumber 14 = .ok (.iconst 1, 1) := by decide +kernel
theorem dX6_readNumber_15 : decode cX6_readNumber 15 = .ok (.invokevirtual 68, 3) := by decide +kernel
theorem dX6_readNumber_18 : decode cX6_readNumber 18 = .ok (.ireturn, 1) := by decide +kernel
theorem dX6_readNumber_19 : decode cX6_readNumber 19 = .ok (.aload_n 0, 1) := by decide +kernel
theorem dX6_readNumber_20 : decode cX6_readNumber 20 = .ok (.getfield 54, 3) := by decide +kernel
theorem dX6_readNumber_23 : decode cX6_readNumber 23 = .ok (.iload_n 1, 1) := by decide +kernel
theorem dX6_readNumber_24 : decode cX6_readNumber 24 = .ok (.iload_n 2, 1) := by decide +kernel
theorem dX6_readNumber_25 : decode cX6_readNumber 25 = .ok (.invokestatic 94, 3) := by decide +kernel
theorem dX6_readNumber_28 : decode cX6_readNumber 28 = .ok (.ifCond .ne 11, 3) := by decide +kernel
theorem dX6_readNumber_31 : decode cX6_readNumber 31 = .ok (.aload_n 0, 1) := by decide +kernel
theorem dX6_readNumber_32 : decode cX6_readNumber 32 = .ok (.iconst 2, 1) := by decide +kernel
theorem dX6_readNumber_33 : decode cX6_readNumber 33 = .ok (.invokevirtual 68, 3) := by decide +kernel
theorem dX6_readNumber_36 : decode cX6_readNumber 36 = .ok (.ifCond .eq 7, 3) := by decide +kernel
theorem dX6_readNumber_39 : decode cX6_readNumber 39 = .ok (.iconst 1, 1) := by decide +kernel
theorem dX6_readNumber_40 : decode cX6_readNumber 40 = .ok (.goto 4, 3) := by decide +kernel
theorem dX6_readNumber_43 : decode cX6_readNumber 43 = .ok (.iconst 0, 1) := by decide +kernel
theorem dX6_readNumber_44 : decode cX6_readNumber 44 = .ok (.ireturn, 1) := by decide +kernel
theorem dX6_failWith_0 : decode cX6_failWith 0 = .ok (.aload_n 0, 1) := by decide +kernel
theorem dX6_failWith_1 : decode cX6_failWith 1 = .ok (.iload_n 1, 1) := by decide +kernel
theorem dX6_failWith_2 : decode cX6_failWith 2 = .ok (.putfield 37, 3) := by decide +kernel
theorem dX6_failWith_5 : decode cX6_failWith 5 = .ok (.aload_n 0, 1) := by decide +kernel
theorem dX6_failWith_6 : decode cX6_failWith 6 = .ok (.aload_n 0, 1) := by decide +kernel
theorem dX6_failWith_7 : decode cX6_failWith 7 = .ok (.getfield 98, 3) := by decide +kernel
theorem dX6_failWith_10 : decode cX6_failWith 10 = .ok (.putfield 101, 3) := by decide +kernel
theorem dX6_failWith_13 : decode cX6_failWith 13 = .ok (.iconst 0, 1) := by decide +kernel
theorem dX6_failWith_14 : decode cX6_failWith 14 = .ok (.ireturn, 1) := by decide +kernel
set_option maxRecDepth 20000 in
theorem ggX6_nextToken_X6_isFigure : GoodIn wsX6_nextToken wsX6_isFigure := goodIn_r _ [9] (by decide +kernel) (by decide +kernel)
set_option maxRecDepth 20000 in
theorem gX6_nextToken_X6_isFigure : GoodIn wsX6_nextToken (va_wsS RX6 104 yX6_isFigure wsX6_isFigure) := goodIn_app (goodIn_of _ (by decide +kernel)) ggX6_nextToken_X6_isFigure
set_option maxRecDepth 20000 in
theorem ggX6_nextToken_X6_takeNumber : GoodIn wsX6_nextToken wsX6_takeNumber := goodIn_r _ [13, 14, 1, 3, 5, 2, 4, 6, 7, 8, 9, 18, 19, 20, 21, 22, 23, 24, 25, 26, 27] (by decide +kernel) (by decide +kernel)
set_option maxRecDepth 20000 in
theorem gX6_nextToken_X6_takeNumber : GoodIn wsX6_nextToken (wsV RX6 107 RX6 yX6_takeNumber wsX6_takeNumber) := goodIn_app (goodIn_of _ (by decide +kernel)) ggX6_nextToken_X6_takeNumber
set_option maxRecDepth 20000 in
theorem ggX6_nextToken_X11_within : GoodIn wsX6_nextToken wsX11_within := goodIn_r _ [17] (by decide +kernel) (by decide +kernel)
set_option maxRecDepth 20000 in
theorem gX6_nextToken_X11_within_n94 : GoodIn wsX6_nextToken (wsX11_within) := ggX6_nextToken_X11_within
theorem dX6_nextToken_0 : decode cX6_nextToken 0 = .ok (.aload_n 0, 1) := by decide +kernel
theorem dX6_nextToken_1 : decode cX6_nextToken 1 = .ok (.aload_n 0, 1) := by decide +kernel
theorem dX6_nextToken_2 : decode cX6_nextToken 2 = .ok (.getfield 34, 3) := by decide +kernel
theorem dX6_nextToken_5 : decode cX6_nextToken 5 = .ok (.putfield 98, 3) := by decide +kernel
theorem dX6_nextToken_8 : decode cX6_nextToken 8 = .ok (.aload_n 0, 1) := by decide +kernel
theorem dX6_nextToken_9 : decode cX6_nextToken 9 = .ok (.getfield 98, 3) := by decide +kernel
theorem dX6_nextToken_12 : decode cX6_nextToken 12 = .ok (.aload_n 0, 1) := by decide +kernel
theorem dX6_nextToken_13 : decode cX6_nextToken 13 = .ok (.getfield 26, 3) := by decide +kernel
theorem dX6_nextToken_16 : decode cX6_nextToken 16 = .ok (.if_icmp .lt 9, 3) := by decide +kernel
theorem dX6_nextToken_19 : decode cX6_nextToken 19 = .ok (.aload_n 0, 1) := by decide +kernel
theorem dX6_nextToken_20 : decode cX6_nextToken 20 = .ok (.iconst (-1), 1) := by decide +kernel
theorem dX6_nextToken_21 : decode cX6_nextToken 21 = .ok (.putfield 91, 3) := by decide +kernel
theorem dX6_nextToken_24 : decode cX6_nextToken 24 = .ok (.return_, 1) := by decide +kernel
theorem dX6_nextToken_25 : decode cX6_nextToken 25 = .ok (.aload_n 0, 1) := by decide +kernel
theorem dX6_nextToken_26 : decode cX6_nextToken 26 = .ok (.getfield 11, 3) := by decide +kernel
theorem dX6_nextToken_29 : decode cX6_nextToken 29 = .ok (.aload_n 0, 1) := by decide +kernel
theorem dX6_nextToken_30 : decode cX6_nextToken 30 = .ok (.getfield 98, 3) := by decide +kernel
theorem dX6_nextToken_33 : decode cX6_nextToken 33 = .ok (.iaload, 1) := by decide +kernel
theorem dX6_nextToken_34 : decode cX6_nextToken 34 = .ok (.istore_n 1, 1) := by decide +kernel
theorem dX6_nextToken_35 : decode cX6_nextToken 35 = .ok (.iload_n 1, 1) := by decide +kernel
theorem dX6_nextToken_36 : decode cX6_nextToken 36 = .ok (.invokestatic 104, 3) := by decide +kernel
theorem dX6_nextToken_39 : decode cX6_nextToken 39 = .ok (.ifCond .eq 8, 3) := by decide +kernel
theorem dX6_nextToken_42 : decode cX6_nextToken 42 = .ok (.aload_n 0, 1) := by decide +kernel
theorem dX6_nextToken_43 : decode cX6_nextToken 43 = .ok (.invokevirtual 107, 3) := by decide +kernel
theorem dX6_nextToken_46 : decode cX6_nextToken 46 = .ok (.return_, 1) := by decide +kernel
theorem dX6_nextToken_47 : decode cX6_nextToken 47 = .ok (.aload_n 0, 1) := by decide +kernel
theorem dX6_nextToken_48 : decode cX6_nextToken 48 = .ok (.dup, 1) := by decide +kernel
theorem dX6_nextToken_49 : decode cX6_nextToken 49 = .ok (.getfield 34, 3) := by decide +kernel
theorem dX6_nextToken_52 : decode cX6_nextToken 52 = .ok (.iconst 1, 1) := by decide +kernel
theorem dX6_nextToken_53 : decode cX6_nextToken 53 = .ok (.iadd, 1) := by decide +kernel
theorem dX6_nextToken_54 : decode cX6_nextToken 54 = .ok (.putfield 34, 3) := by decide +kernel
theorem dX6_nextToken_57 : decode cX6_nextToken 57 = .ok (.iload_n 1, 1) := by decide +kernel
theorem dX6_nextToken_58 : decode cX6_nextToken 58 = .ok (.bipush 97, 2) := by decide +kernel
theorem dX6_nextToken_60 : decode cX6_nextToken 60 = .ok (.bipush 122, 2) := by decide +kernel
theorem dX6_nextToken_62 : decode cX6_nextToken 62 = .ok (.invokestatic 94, 3) := by decide +kernel
theorem dX6_nextToken_65 : decode cX6_nextToken 65 = .ok (.ifCond .ne 15, 3) := by decide +kernel
theorem dX6_nextToken_68 : decode cX6_nextToken 68 = .ok (.iload_n 1, 1) := by decide +kernel
theorem dX6_nextToken_69 : decode cX6_nextToken 69 = .ok (.bipush 44, 2) := by decide +kernel
theorem dX6_nextToken_71 : decode cX6_nextToken 71 = .ok (.if_icmp .eq 9, 3) := by decide +kernel
theorem dX6_nextToken_74 : decode cX6_nextToken 74 = .ok (.iload_n 1, 1) := by decide +kernel
theorem dX6_nextToken_75 : decode cX6_nextToken 75 = .ok (.bipush 59, 2) := by decide +kernel
theorem dX6_nextToken_77 : decode cX6_nextToken 77 = .ok (.if_icmp .ne 7, 3) := by decide +kernel
theorem dX6_nextToken_80 : decode cX6_nextToken 80 = .ok (.iconst 1, 1) := by decide +kernel
theorem dX6_nextToken_81 : decode cX6_nextToken 81 = .ok (.goto 4, 3) := by decide +kernel
theorem dX6_nextToken_84 : decode cX6_nextToken 84 = .ok (.iconst 0, 1) := by decide +kernel
theorem dX6_nextToken_85 : decode cX6_nextToken 85 = .ok (.istore_n 2, 1) := by decide +kernel
theorem dX6_nextToken_86 : decode cX6_nextToken 86 = .ok (.aload_n 0, 1) := by decide +kernel
theorem dX6_nextToken_87 : decode cX6_nextToken 87 = .ok (.iload_n 2, 1) := by decide +kernel
theorem dX6_nextToken_88 : decode cX6_nextToken 88 = .ok (.ifCond .eq 7, 3) := by decide +kernel
theorem dX6_nextToken_91 : decode cX6_nextToken 91 = .ok (.iload_n 1, 1) := by decide +kernel
theorem dX6_nextToken_92 : decode cX6_nextToken 92 = .ok (.goto 5, 3) := by decide +kernel
theorem dX6_nextToken_95 : decode cX6_nextToken 95 = .ok (.bipush (-3), 2) := by decide +kernel
theorem dX6_nextToken_97 : decode cX6_nextToken 97 = .ok (.putfield 91, 3) := by decide +kernel
theorem dX6_nextToken_100 : decode cX6_nextToken 100 = .ok (.return_, 1) := by decide +kernel
set_option maxRecDepth 20000 in
theorem ggX6_takeNumber_X6_isFigure : GoodIn wsX6_takeNumber wsX6_isFigure := goodIn_r _ [10] (by decide +kernel) (by decide +kernel)
set_option maxRecDepth 20000 in
theorem gX6_takeNumber_X6_isFigure : GoodIn wsX6_takeNumber (va_wsS RX6 104 yX6_isFigure wsX6_isFigure) := goodIn_app (goodIn_of _ (by decide +kernel)) ggX6_takeNumber_X6_isFigure
theorem dX6_takeNumber_0 : decode cX6_takeNumber 0 = .ok (.aload_n 0, 1) := by decide +kernel
theorem dX6_takeNumber_1 : decode cX6_takeNumber 1 = .ok (.iconst 0, 1) := by decide +kernel
theorem dX6_takeNumber_2 : decode cX6_takeNumber 2 = .ok (.putfield 54, 3) := by decide +kernel
theorem dX6_takeNumber_5 : decode cX6_takeNumber 5 = .ok (.aload_n 0, 1) := by decide +kernel
theorem dX6_takeNumber_6 : decode cX6_takeNumber 6 = .ok (.getfield 34, 3) := by decide +kernel
theorem dX6_takeNumber_9 : decode cX6_takeNumber 9 = .ok (.aload_n 0, 1) := by decide +kernel
theorem dX6_takeNumber_10 : decode cX6_takeNumber 10 = .ok (.getfield 26, 3) := by decide +kernel
theorem dX6_takeNumber_13 : decode cX6_takeNumber 13 = .ok (.if_icmp .ge 68, 3) := by decide +kernel
theorem dX6_takeNumber_16 : decode cX6_takeNumber 16 = .ok (.aload_n 0, 1) := by decide +kernel
theorem dX6_takeNumber_17 : decode cX6_takeNumber 17 = .ok (.getfield 11, 3) := by decide +kernel
theorem dX6_takeNumber_20 : decode cX6_takeNumber 20 = .ok (.aload_n 0, 1) := by decide +kernel
theorem dX6_takeNumber_21 : decode cX6_takeNumber 21 = .ok (.getfield 34, 3) := by decide +kernel
theorem dX6_takeNumber_24 : decode cX6_takeNumber 24 = .ok (.iaload, 1) := by decide +kernel
theorem dX6_takeNumber_25 : decode cX6_takeNumber 25 = .ok (.invokestatic 104, 3) := by decide +kernel
theorem dX6_takeNumber_28 : decode cX6_takeNumber 28 = .ok (.ifCond .eq 53, 3) := by decide +kernel
theorem dX6_takeNumber_31 : decode cX6_takeNumber 31 = .ok (.aload_n 0, 1) := by decide +kernel
theorem dX6_takeNumber_32 : decode cX6_takeNumber 32 = .ok (.getfield 34, 3) := by decide +kernel
theorem dX6_takeNumber_35 : decode cX6_takeNumber 35 = .ok (.aload_n 0, 1) := by decide +kernel
theorem dX6_takeNumber_36 : decode cX6_takeNumber 36 = .ok (.getfield 98, 3) := by decide +kernel
theorem dX6_takeNumber_39 : decode cX6_takeNumber 39 = .ok (.isub, 1) := by decide +kernel
theorem dX6_takeNumber_40 : decode cX6_takeNumber 40 = .ok (.iconst 2, 1) := by decide +kernel
theorem dX6_takeNumber_41 : decode cX6_takeNumber 41 = .ok (.if_icmp .ge 27, 3) := by decide +kernel
theorem dX6_takeNumber_44 : decode cX6_takeNumber 44 = .ok (.aload_n 0, 1) := by decide +kernel
theorem dX6_takeNumber_45 : decode cX6_takeNumber 45 = .ok (.aload_n 0, 1) := by decide +kernel
theorem dX6_takeNumber_46 : decode cX6_takeNumber 46 = .ok (.getfield 54, 3) := by decide +kernel
theorem dX6_takeNumber_49 : decode cX6_takeNumber 49 = .ok (.bipush 10, 2) := by decide +kernel
theorem dX6_takeNumber_51 : decode cX6_takeNumber 51 = .ok (.imul, 1) := by decide +kernel
theorem dX6_takeNumber_52 : decode cX6_takeNumber 52 = .ok (.aload_n 0, 1) := by decide +kernel
theorem dX6_takeNumber_53 : decode cX6_takeNumber 53 = .ok (.getfield 11, 3) := by decide +kernel
theorem dX6_takeNumber_56 : decode cX6_takeNumber 56 = .ok (.aload_n 0, 1) := by decide +kernel
theorem dX6_takeNumber_57 : decode cX6_takeNumber 57 = .ok (.getfield 34, 3) := by decide +kernel
theorem dX6_takeNumber_60 : decode cX6_takeNumber 60 = .ok (.iaload, 1) := by decide +kernel
theorem dX6_takeNumber_61 : decode cX6_takeNumber 61 = .ok (.iadd, 1) := by decide +kernel
theorem dX6_takeNumber_62 : decode cX6_takeNumber 62 = .ok (.bipush 48, 2) := by decide +kernel
theorem dX6_takeNumber_64 : decode cX6_takeNumber 64 = .ok (.isub, 1) := by decide +kernel
theorem dX6_takeNumber_65 : decode cX6_takeNumber 65 = .ok (.putfield 54, 3) := by decide +kernel
theorem dX6_takeNumber_68 : decode cX6_takeNumber 68 = .ok (.aload_n 0, 1) := by decide +kernel
theorem dX6_takeNumber_69 : decode cX6_takeNumber 69 = .ok (.dup, 1) := by decide +kernel
theorem dX6_takeNumber_70 : decode cX6_takeNumber 70 = .ok (.getfield 34, 3) := by decide +kernel
theorem dX6_takeNumber_73 : decode cX6_takeNumber 73 = .ok (.iconst 1, 1) := by decide +kernel
theorem dX6_takeNumber_74 : decode cX6_takeNumber 74 = .ok (.iadd, 1) := by decide +kernel
theorem dX6_takeNumber_75 : decode cX6_takeNumber 75 = .ok (.putfield 34, 3) := by decide +kernel
theorem dX6_takeNumber_78 : decode cX6_takeNumber 78 = .ok (.goto (-73), 3) := by decide +kernel
theorem dX6_takeNumber_81 : decode cX6_takeNumber 81 = .ok (.aload_n 0, 1) := by decide +kernel
theorem dX6_takeNumber_82 : decode cX6_takeNumber 82 = .ok (.aload_n 0, 1) := by decide +kernel
theorem dX6_takeNumber_83 : decode cX6_takeNumber 83 = .ok (.getfield 34, 3) := by decide +kernel
theorem dX6_takeNumber_86 : decode cX6_takeNumber 86 = .ok (.aload_n 0, 1) := by decide +kernel
theorem dX6_takeNumber_87 : decode cX6_takeNumber 87 = .ok (.getfield 98, 3) := by decide +kernel
theorem dX6_takeNumber_90 : decode cX6_takeNumber 90 = .ok (.isub, 1) := by decide +kernel
theorem dX6_takeNumber_91 : decode cX6_takeNumber 91 = .ok (.iconst 2, 1) := by decide +kernel
theorem dX6_takeNumber_92 : decode cX6_takeNumber 92 = .ok (.if_icmp .gt 8, 3) := by decide +kernel
theorem dX6_takeNumber_95 : decode cX6_takeNumber 95 = .ok (.bipush (-2), 2) := by decide +kernel
theorem dX6_takeNumber_97 : decode cX6_takeNumber 97 = .ok (.goto 5, 3) := by decide +kernel
theorem dX6_takeNumber_100 : decode cX6_takeNumber 100 = .ok (.bipush (-3), 2) := by decide +kernel
theorem dX6_takeNumber_102 : decode cX6_takeNumber 102 = .ok (.putfield 91, 3) := by decide +kernel
theorem dX6_takeNumber_105 : decode cX6_takeNumber 105 = .ok (.return_, 1) := by decide +kernel
theorem dX6_isFigure_0 : decode cX6_isFigure 0 = .ok (.iload_n 0, 1) := by decide +kernel
theorem dX6_isFigure_1 : decode cX6_isFigure 1 = .ok (.bipush 48, 2) := by decide +kernel
theorem dX6_isFigure_3 : decode cX6_isFigure 3 = .ok (.if_icmp .lt 13, 3) := by decide +kernel
theorem dX6_isFigure_6 : decode cX6_isFigure 6 = .ok (.iload_n 0, 1) := by decide +kernel
theorem dX6_isFigure_7 : decode cX6_isFigure 7 = .ok (.bipush 57, 2) := by decide +kernel
theorem dX6_isFigure_9 : decode cX6_isFigure 9 = .ok (.if_icmp .gt 7, 3) := by decide +kernel
theorem dX6_isFigure_12 : decode cX6_isFigure 12 = .ok (.iconst 1, 1) := by decide +kernel
theorem dX6_isFigure_13 : decode cX6_isFigure 13 = .ok (.goto 4, 3) := by decide +kernel
theorem dX6_isFigure_16 : decode cX6_isFigure 16 = .ok (.iconst 0, 1) := by decide +kernel
theorem dX6_isFigure_17 : decode cX6_isFigure 17 = .ok (.ireturn, 1) := by decide +kernel
set_option maxRecDepth 20000 in
theorem ggX7_init_X4_init : GoodIn wsX7_init wsX4_init := goodIn_r _ [3, 4, 5, 6] (by decide +kernel) (by decide +kernel)
set_option maxRecDepth 20000 in
theorem gX7_init_X4_init_n3 : GoodIn wsX7_init (wsX4_init) := ggX7_init_X4_init
theorem dX7_init_0 : decode cX7_init 0 = .ok (.aload_n 0, 1) := by decide +kernel
theorem dX7_init_1 : decode cX7_init 1 = .ok (.invokespecial 3, 3) := by decide +kernel
theorem dX7_init_4 : decode cX7_init 4 = .ok (.return_, 1) := by decide +kernel
theorem dX7_number_0 : decode cX7_number 0 = .ok (.iconst 4, 1) := by decide +kernel
theorem dX7_number_1 : decode cX7_number 1 = .ok (.ireturn, 1) := by decide +kernel
theorem dX7_letter_0 : decode cX7_letter 0 = .ok (.bipush 114, 2) := by decide +kernel
theorem dX7_letter_2 : decode cX7_letter 2 = .ok (.ireturn, 1) := by decide +kernel
theorem dX7_wander_0 : decode cX7_wander 0 = .ok (.return_, 1) := by decide +kernel
set_option maxRecDepth 20000 in
theorem ggX7_size_X0_begin : GoodIn wsX7_size wsX0_begin := goodIn_r _ [5, 6, 7, 15, 16, 17, 18, 19] (by decide +kernel) (by decide +kernel)
set_option maxRecDepth 20000 in
theorem gX7_size_X0_begin : GoodIn wsX7_size (wsV RX7 9 RX0 yX0_begin wsX0_begin) := goodIn_app (goodIn_of _ (by decide +kernel)) ggX7_size_X0_begin
set_option maxRecDepth 20000 in
theorem ggX7_size_X4_size : GoodIn wsX7_size wsX4_size := goodIn_r _ [13, 14, 2, 3, 4, 5, 6, 7, 15, 16, 17, 18, 19] (by decide +kernel) (by decide +kernel)
set_option maxRecDepth 20000 in
theorem gX7_size_X4_size_s15 : GoodIn wsX7_size (va_wsSU RX7 15 yX4_size wsX4_size) := goodIn_app (goodIn_of _ (by decide +kernel)) ggX7_size_X4_size
theorem dX7_size_0 : decode cX7_size 0 = .ok (.aload_n 1, 1) := by decide +kernel
theorem dX7_size_1 : decode cX7_size 1 = .ok (.bipush 13, 2) := by decide +kernel
theorem dX7_size_3 : decode cX7_size 3 = .ok (.invokevirtual 9, 3) := by decide +kernel
theorem dX7_size_6 : decode cX7_size 6 = .ok (.aload_n 0, 1) := by decide +kernel
theorem dX7_size_7 : decode cX7_size 7 = .ok (.aload_n 1, 1) := by decide +kernel
theorem dX7_size_8 : decode cX7_size 8 = .ok (.invokespecial 15, 3) := by decide +kernel
theorem dX7_size_11 : decode cX7_size 11 = .ok (.bipush 100, 2) := by decide +kernel
theorem dX7_size_13 : decode cX7_size 13 = .ok (.isub, 1) := by decide +kernel
theorem dX7_size_14 : decode cX7_size 14 = .ok (.ireturn, 1) := by decide +kernel
set_option maxRecDepth 20000 in
theorem ggX7_mark_X0_begin : GoodIn wsX7_mark wsX0_begin := goodIn_r _ [5, 6, 7, 34, 35, 36, 37, 38] (by decide +kernel) (by decide +kernel)
set_option maxRecDepth 20000 in
theorem gX7_mark_X0_begin : GoodIn wsX7_mark (wsV RX7 9 RX0 yX0_begin wsX0_begin) := goodIn_app (goodIn_of _ (by decide +kernel)) ggX7_mark_X0_begin
set_option maxRecDepth 20000 in
theorem ggX7_mark_X4_mark : GoodIn wsX7_mark wsX4_mark := goodIn_r _ [13, 14, 2, 3, 4, 5, 6, 7, 34, 35, 36, 37, 38] (by decide +kernel) (by decide +kernel)
set_option maxRecDepth 20000 in
theorem gX7_mark_X4_mark_s19 : GoodIn wsX7_mark (va_wsSU RX7 19 yX4_mark wsX4_mark) := goodIn_app (goodIn_of _ (by decide +kernel)) ggX7_mark_X4_mark
set_option maxRecDepth 20000 in
theorem ggX7_mark_X1_size : GoodIn wsX7_mark wsX1_size := goodIn_r _ [21, 22, 2, 3, 4, 5, 6, 7, 23, 16, 24, 25, 26, 27, 1, 28, 29, 10, 30, 12, 31, 14, 34, 35, 36, 37, 38] (by decide +kernel) (by decide +kernel)
set_option maxRecDepth 20000 in
theorem gX7_mark_X1_size_u22X1 : GoodIn wsX7_mark (va_wsO RX7 22 RX1 "DrawerCards$Rod" ⟨"DrawerCards$Rod", "size", "(LDrawerCards$Asking;)I"⟩ yX1_size wsX1_size) := goodIn_app (goodIn_of _ (by decide +kernel)) ggX7_mark_X1_size
set_option maxRecDepth 20000 in
theorem ggX7_mark_X7_size : GoodIn wsX7_mark wsX7_size := goodIn_r _ [27, 1, 2, 3, 4, 5, 6, 7, 28, 29, 10, 30, 12, 31, 14, 34, 35, 36, 37, 38] (by decide +kernel) (by decide +kernel)
set_option maxRecDepth 20000 in
theorem gX7_mark_X7_size : GoodIn wsX7_mark (wsV RX7 22 RX7 yX7_size wsX7_size) := goodIn_app (goodIn_of _ (by decide +kernel)) ggX7_mark_X7_size
theorem dX7_mark_0 : decode cX7_mark 0 = .ok (.aload_n 1, 1) := by decide +kernel
theorem dX7_mark_1 : decode cX7_mark 1 = .ok (.bipush 23, 2) := by decide +kernel
theorem dX7_mark_3 : decode cX7_mark 3 = .ok (.invokevirtual 9, 3) := by decide +kernel
theorem dX7_mark_6 : decode cX7_mark 6 = .ok (.aload_n 0, 1) := by decide +kernel
theorem dX7_mark_7 : decode cX7_mark 7 = .ok (.aload_n 1, 1) := by decide +kernel
theorem dX7_mark_8 : decode cX7_mark 8 = .ok (.invokespecial 19, 3) := by decide +kernel
theorem dX7_mark_11 : decode cX7_mark 11 = .ok (.aload_n 0, 1) := by decide +kernel
theorem dX7_mark_12 : decode cX7_mark 12 = .ok (.aload_n 1, 1) := by decide +kernel
theorem dX7_mark_13 : decode cX7_mark 13 = .ok (.invokevirtual 22, 3) := by decide +kernel
theorem dX7_mark_16 : decode cX7_mark 16 = .ok (.isub, 1) := by decide +kernel
theorem dX7_mark_17 : decode cX7_mark 17 = .ok (.ireturn, 1) := by decide +kernel
theorem dX8_init_0 : decode cX8_init 0 = .ok (.aload_n 0, 1) := by decide +kernel
theorem dX8_init_1 : decode cX8_init 1 = .ok (.invokespecial 3, 3) := by decide +kernel
theorem dX8_init_4 : decode cX8_init 4 = .ok (.aload_n 0, 1) := by decide +kernel
theorem dX8_init_5 : decode cX8_init 5 = .ok (.bipush 40, 2) := by decide +kernel
theorem dX8_init_7 : decode cX8_init 7 = .ok (.newarray .int, 2) := by decide +kernel
theorem dX8_init_9 : decode cX8_init 9 = .ok (.putfield 9, 3) := by decide +kernel
theorem dX8_init_12 : decode cX8_init 12 = .ok (.aload_n 0, 1) := by decide +kernel
theorem dX8_init_13 : decode cX8_init 13 = .ok (.iconst (-1), 1) := by decide +kernel
theorem dX8_init_14 : decode cX8_init 14 = .ok (.putfield 15, 3) := by decide +kernel
theorem dX8_init_17 : decode cX8_init 17 = .ok (.return_, 1) := by decide +kernel
theorem dX8_isMissing_0 : decode cX8_isMissing 0 = .ok (.aload_n 0, 1) := by decide +kernel
theorem dX8_isMissing_1 : decode cX8_isMissing 1 = .ok (.getfield 15, 3) := by decide +kernel
theorem dX8_isMissing_4 : decode cX8_isMissing 4 = .ok (.iconst (-1), 1) := by decide +kernel
theorem dX8_isMissing_5 : decode cX8_isMissing 5 = .ok (.if_icmp .ne 7, 3) := by decide +kernel
theorem dX8_isMissing_8 : decode cX8_isMissing 8 = .ok (.iconst 1, 1) := by decide +kernel
theorem dX8_isMissing_9 : decode cX8_isMissing 9 = .ok (.goto 4, 3) := by decide +kernel
theorem dX8_isMissing_12 : decode cX8_isMissing 12 = .ok (.iconst 0, 1) := by decide +kernel
theorem dX8_isMissing_13 : decode cX8_isMissing 13 = .ok (.ireturn, 1) := by decide +kernel
theorem dX8_begin_0 : decode cX8_begin 0 = .ok (.aload_n 0, 1) := by decide +kernel
theorem dX8_begin_1 : decode cX8_begin 1 = .ok (.iload_n 1, 1) := by decide +kernel
theorem dX8_begin_2 : decode cX8_begin 2 = .ok (.putfield 15, 3) := by decide +kernel
theorem dX8_begin_5 : decode cX8_begin 5 = .ok (.aload_n 0, 1) := by decide +kernel
theorem dX8_begin_6 : decode cX8_begin 6 = .ok (.iconst 0, 1) := by decide +kernel
theorem dX8_begin_7 : decode cX8_begin 7 = .ok (.iload_n 2, 1) := by decide +kernel
theorem dX8_begin_8 : decode cX8_begin 8 = .ok (.bipush 40, 2) := by decide +kernel
theorem dX8_begin_10 : decode cX8_begin 10 = .ok (.invokestatic 19, 3) := by decide +kernel
theorem dX8_begin_13 : decode cX8_begin 13 = .ok (.invokestatic 25, 3) := by decide +kernel
theorem dX8_begin_16 : decode cX8_begin 16 = .ok (.putfield 28, 3) := by decide +kernel
theorem dX8_begin_19 : decode cX8_begin 19 = .ok (.iconst 0, 1) := by decide +kernel
theorem dX8_begin_20 : decode cX8_begin 20 = .ok (.istore_n 3, 1) := by decide +kernel
theorem dX8_begin_21 : decode cX8_begin 21 = .ok (.iload_n 3, 1) := by decide +kernel
theorem dX8_begin_22 : decode cX8_begin 22 = .ok (.bipush 40, 2) := by decide +kernel
theorem dX8_begin_24 : decode cX8_begin 24 = .ok (.if_icmp .ge 16, 3) := by decide +kernel
theorem dX8_begin_27 : decode cX8_begin 27 = .ok (.aload_n 0, 1) := by decide +kernel
theorem dX8_begin_28 : decode cX8_begin 28 = .ok (.getfield 9, 3) := by decide +kernel
theorem dX8_begin_31 : decode cX8_begin 31 = .ok (.iload_n 3, 1) := by decide +kernel
theorem dX8_begin_32 : decode cX8_begin 32 = .ok (.iconst 0, 1) := by decide +kernel
theorem dX8_begin_33 : decode cX8_begin 33 = .ok (.iastore, 1) := by decide +kernel
theorem dX8_begin_34 : decode cX8_begin 34 = .ok (.iinc 3 1, 3) := by decide +kernel
theorem dX8_begin_37 : decode cX8_begin 37 = .ok (.goto (-16), 3) := by decide +kernel
theorem dX8_begin_40 : decode cX8_begin 40 = .ok (.return_, 1) := by decide +kernel
theorem dX8_end_0 : decode cX8_end 0 = .ok (.aload_n 0, 1) := by decide +kernel
theorem dX8_end_1 : decode cX8_end 1 = .ok (.iconst (-1), 1) := by decide +kernel
theorem dX8_end_2 : decode cX8_end 2 = .ok (.putfield 15, 3) := by decide +kernel
theorem dX8_end_5 : decode cX8_end 5 = .ok (.aload_n 0, 1) := by decide +kernel
theorem dX8_end_6 : decode cX8_end 6 = .ok (.iconst 0, 1) := by decide +kernel
theorem dX8_end_7 : decode cX8_end 7 = .ok (.putfield 28, 3) := by decide +kernel
theorem dX8_end_10 : decode cX8_end 10 = .ok (.return_, 1) := by decide +kernel
theorem dX8_reaches_0 : decode cX8_reaches 0 = .ok (.iload_n 1, 1) := by decide +kernel
theorem dX8_reaches_1 : decode cX8_reaches 1 = .ok (.ifCond .lt 25, 3) := by decide +kernel
theorem dX8_reaches_4 : decode cX8_reaches 4 = .ok (.iload_n 2, 1) := by decide +kernel
theorem dX8_reaches_5 : decode cX8_reaches 5 = .ok (.ifCond .lt 21, 3) := by decide +kernel
theorem dX8_reaches_8 : decode cX8_reaches 8 = .ok (.iload_n 1, 1) := by decide +kernel
theorem dX8_reaches_9 : decode cX8_reaches 9 = .ok (.i2l, 1) := by decide +kernel
theorem dX8_reaches_10 : decode cX8_reaches 10 = .ok (.iload_n 2, 1) := by decide +kernel
theorem dX8_reaches_11 : decode cX8_reaches 11 = .ok (.i2l, 1) := by decide +kernel
theorem dX8_reaches_12 : decode cX8_reaches 12 = .ok (.ladd, 1) := by decide +kernel
theorem dX8_reaches_13 : decode cX8_reaches 13 = .ok (.aload_n 0, 1) := by decide +kernel
theorem dX8_reaches_14 : decode cX8_reaches 14 = .ok (.getfield 28, 3) := by decide +kernel
theorem dX8_reaches_17 : decode cX8_reaches 17 = .ok (.i2l, 1) := by decide +kernel
theorem dX8_reaches_18 : decode cX8_reaches 18 = .ok (.lcmp, 1) := by decide +kernel
theorem dX8_reaches_19 : decode cX8_reaches 19 = .ok (.ifCond .gt 7, 3) := by decide +kernel
theorem dX8_reaches_22 : decode cX8_reaches 22 = .ok (.iconst 1, 1) := by decide +kernel
theorem dX8_reaches_23 : decode cX8_reaches 23 = .ok (.goto 4, 3) := by decide +kernel
theorem dX8_reaches_26 : decode cX8_reaches 26 = .ok (.iconst 0, 1) := by decide +kernel
theorem dX8_reaches_27 : decode cX8_reaches 27 = .ok (.ireturn, 1) := by decide +kernel
set_option maxRecDepth 20000 in
theorem ggX8_item_X8_reaches : GoodIn wsX8_item wsX8_reaches := goodIn_r _ [6, 7, 8, 9, 10] (by decide +kernel) (by decide +kernel)
set_option maxRecDepth 20000 in
theorem gX8_item_X8_reaches : GoodIn wsX8_item (wsV RX8 31 RX8 yX8_reaches wsX8_reaches) := goodIn_app (goodIn_of _ (by decide +kernel)) ggX8_item_X8_reaches
theorem dX8_item_0 : decode cX8_item 0 = .ok (.aload_n 0, 1) := by decide +kernel
theorem dX8_item_1 : decode cX8_item 1 = .ok (.iload_n 1, 1) := by decide +kernel
theorem dX8_item_2 : decode cX8_item 2 = .ok (.iconst 1, 1) := by decide +kernel
theorem dX8_item_3 : decode cX8_item 3 = .ok (.invokevirtual 31, 3) := by decide +kernel
theorem dX8_item_6 : decode cX8_item 6 = .ok (.ifCond .eq 12, 3) := by decide +kernel
theorem dX8_item_9 : decode cX8_item 9 = .ok (.aload_n 0, 1) := by decide +kernel
theorem dX8_item_10 : decode cX8_item 10 = .ok (.getfield 9, 3) := by decide +kernel
theorem dX8_item_13 : decode cX8_item 13 = .ok (.iload_n 1, 1) := by decide +kernel
theorem dX8_item_14 : decode cX8_item 14 = .ok (.iaload, 1) := by decide +kernel
theorem dX8_item_15 : decode cX8_item 15 = .ok (.goto 4, 3) := by decide +kernel
theorem dX8_item_18 : decode cX8_item 18 = .ok (.iconst 0, 1) := by decide +kernel
theorem dX8_item_19 : decode cX8_item 19 = .ok (.ireturn, 1) := by decide +kernel
set_option maxRecDepth 20000 in
theorem ggX8_store_X8_reaches : GoodIn wsX8_store wsX8_reaches := goodIn_r _ [7, 8, 9, 10, 11] (by decide +kernel) (by decide +kernel)
set_option maxRecDepth 20000 in
theorem gX8_store_X8_reaches : GoodIn wsX8_store (wsV RX8 31 RX8 yX8_reaches wsX8_reaches) := goodIn_app (goodIn_of _ (by decide +kernel)) ggX8_store_X8_reaches
theorem dX8_store_0 : decode cX8_store 0 = .ok (.aload_n 0, 1) := by decide +kernel
theorem dX8_store_1 : decode cX8_store 1 = .ok (.iload_n 1, 1) := by decide +kernel
theorem dX8_store_2 : decode cX8_store 2 = .ok (.iconst 1, 1) := by decide +kernel
theorem dX8_store_3 : decode cX8_store 3 = .ok (.invokevirtual 31, 3) := by decide +kernel
theorem dX8_store_6 : decode cX8_store 6 = .ok (.ifCond .ne 4, 3) := by decide +kernel
theorem dX8_store_9 : decode cX8_store 9 = .ok (.return_, 1) := by decide +kernel
theorem dX8_store_10 : decode cX8_store 10 = .ok (.aload_n 0, 1) := by decide +kernel
theorem dX8_store_11 : decode cX8_store 11 = .ok (.getfield 9, 3) := by decide +kernel
theorem dX8_store_14 : decode cX8_store 14 = .ok (.iload_n 1, 1) := by decide +kernel
theorem dX8_store_15 : decode cX8_store 15 = .ok (.aload_n 0, 1) := by decide +kernel
theorem dX8_store_16 : decode cX8_store 16 = .ok (.getfield 15, 3) := by decide +kernel
theorem dX8_store_19 : decode cX8_store 19 = .ok (.ifCond .ne 8, 3) := by decide +kernel
theorem dX8_store_22 : decode cX8_store 22 = .ok (.iload_n 2, 1) := by decide +kernel
theorem dX8_store_23 : decode cX8_store 23 = .ok (.i2b, 1) := by decide +kernel
theorem dX8_store_24 : decode cX8_store 24 = .ok (.goto 17, 3) := by decide +kernel
theorem dX8_store_27 : decode cX8_store 27 = .ok (.aload_n 0, 1) := by decide +kernel
theorem dX8_store_28 : decode cX8_store 28 = .ok (.getfield 15, 3) := by decide +kernel
theorem dX8_store_31 : decode cX8_store 31 = .ok (.iconst 1, 1) := by decide +kernel
theorem dX8_store_32 : decode cX8_store 32 = .ok (.if_icmp .ne 8, 3) := by decide +kernel
theorem dX8_store_35 : decode cX8_store 35 = .ok (.iload_n 2, 1) := by decide +kernel
theorem dX8_store_36 : decode cX8_store 36 = .ok (.i2s, 1) := by decide +kernel
theorem dX8_store_37 : decode cX8_store 37 = .ok (.goto 4, 3) := by decide +kernel
theorem dX8_store_40 : decode cX8_store 40 = .ok (.iload_n 2, 1) := by decide +kernel
theorem dX8_store_41 : decode cX8_store 41 = .ok (.iastore, 1) := by decide +kernel
theorem dX8_store_42 : decode cX8_store 42 = .ok (.return_, 1) := by decide +kernel
set_option maxRecDepth 20000 in
theorem ggX8_take_X8_reaches : GoodIn wsX8_take wsX8_reaches := goodIn_r _ [10, 11, 12, 13, 14] (by decide +kernel) (by decide +kernel)
set_option maxRecDepth 20000 in
theorem gX8_take_X8_reaches : GoodIn wsX8_take (wsV RX8 31 RX8 yX8_reaches wsX8_reaches) := goodIn_app (goodIn_of _ (by decide +kernel)) ggX8_take_X8_reaches
theorem dX8_take_0 : decode cX8_take 0 = .ok (.aload_n 1, 1) := by decide +kernel
theorem dX8_take_1 : decode cX8_take 1 = .ok (.iload_n 2, 1) := by decide +kernel
theorem dX8_take_2 : decode cX8_take 2 = .ok (.iload 4, 2) := by decide +kernel
theorem dX8_take_4 : decode cX8_take 4 = .ok (.invokevirtual 31, 3) := by decide +kernel
theorem dX8_take_7 : decode cX8_take 7 = .ok (.ifCond .eq 13, 3) := by decide +kernel
theorem dX8_take_10 : decode cX8_take 10 = .ok (.aload_n 0, 1) := by decide +kernel
theorem dX8_take_11 : decode cX8_take 11 = .ok (.iload_n 3, 1) := by decide +kernel
theorem dX8_take_12 : decode cX8_take 12 = .ok (.iload 4, 2) := by decide +kernel
theorem dX8_take_14 : decode cX8_take 14 = .ok (.invokevirtual 31, 3) := by decide +kernel
theorem dX8_take_17 : decode cX8_take 17 = .ok (.ifCond .ne 4, 3) := by decide +kernel
theorem dX8_take_20 : decode cX8_take 20 = .ok (.return_, 1) := by decide +kernel
theorem dX8_take_21 : decode cX8_take 21 = .ok (.aload_n 1, 1) := by decide +kernel
theorem dX8_take_22 : decode cX8_take 22 = .ok (.getfield 9, 3) := by decide +kernel
theorem dX8_take_25 : decode cX8_take 25 = .ok (.iload_n 2, 1) := by decide +kernel
theorem dX8_take_26 : decode cX8_take 26 = .ok (.aload_n 0, 1) := by decide +kernel
theorem dX8_take_27 : decode cX8_take 27 = .ok (.getfield 9, 3) := by decide +kernel
theorem dX8_take_30 : decode cX8_take 30 = .ok (.iload_n 3, 1) := by decide +kernel
theorem dX8_take_31 : decode cX8_take 31 = .ok (.iload 4, 2) := by decide +kernel
theorem dX8_take_33 : decode cX8_take 33 = .ok (.invokestatic 35, 3) := by decide +kernel
theorem dX8_take_36 : decode cX8_take 36 = .ok (.return_, 1) := by decide +kernel
theorem dX9_init_0 : decode cX9_init 0 = .ok (.aload_n 0, 1) := by decide +kernel
theorem dX9_init_1 : decode cX9_init 1 = .ok (.invokespecial 3, 3) := by decide +kernel
theorem dX9_init_4 : decode cX9_init 4 = .ok (.aload_n 0, 1) := by decide +kernel
theorem dX9_init_5 : decode cX9_init 5 = .ok (.bipush 8, 2) := by decide +kernel
theorem dX9_init_7 : decode cX9_init 7 = .ok (.anewarray 9, 3) := by decide +kernel
theorem dX9_init_10 : decode cX9_init 10 = .ok (.putfield 11, 3) := by decide +kernel
theorem dX9_init_13 : decode cX9_init 13 = .ok (.aload_n 0, 1) := by decide +kernel
theorem dX9_init_14 : decode cX9_init 14 = .ok (.bipush 8, 2) := by decide +kernel
theorem dX9_init_16 : decode cX9_init 16 = .ok (.newarray .int, 2) := by decide +kernel
theorem dX9_init_18 : decode cX9_init 18 = .ok (.putfield 17, 3) := by decide +kernel
theorem dX9_init_21 : decode cX9_init 21 = .ok (.aload_n 0, 1) := by decide +kernel
theorem dX9_init_22 : decode cX9_init 22 = .ok (.bipush 8, 2) := by decide +kernel
theorem dX9_init_24 : decode cX9_init 24 = .ok (.newarray .int, 2) := by decide +kernel
theorem dX9_init_26 : decode cX9_init 26 = .ok (.putfield 21, 3) := by decide +kernel
theorem dX9_init_29 : decode cX9_init 29 = .ok (.aload_n 0, 1) := by decide +kernel
theorem dX9_init_30 : decode cX9_init 30 = .ok (.bipush 8, 2) := by decide +kernel
theorem dX9_init_32 : decode cX9_init 32 = .ok (.newarray .int, 2) := by decide +kernel
theorem dX9_init_34 : decode cX9_init 34 = .ok (.putfield 24, 3) := by decide +kernel
theorem dX9_init_37 : decode cX9_init 37 = .ok (.return_, 1) := by decide +kernel
theorem dX9_begin_0 : decode cX9_begin 0 = .ok (.aload_n 0, 1) := by decide +kernel
theorem dX9_begin_1 : decode cX9_begin 1 = .ok (.iload_n 1, 1) := by decide +kernel
theorem dX9_begin_2 : decode cX9_begin 2 = .ok (.putfield 27, 3) := by decide +kernel
theorem dX9_begin_5 : decode cX9_begin 5 = .ok (.aload_n 0, 1) := by decide +kernel
theorem dX9_begin_6 : decode cX9_begin 6 = .ok (.iload_n 2, 1) := by decide +kernel
theorem dX9_begin_7 : decode cX9_begin 7 = .ok (.putfield 31, 3) := by decide +kernel
theorem dX9_begin_10 : decode cX9_begin 10 = .ok (.aload_n 0, 1) := by decide +kernel
theorem dX9_begin_11 : decode cX9_begin 11 = .ok (.iconst 0, 1) := by decide +kernel
theorem dX9_begin_12 : decode cX9_begin 12 = .ok (.putfield 34, 3) := by decide +kernel
theorem dX9_begin_15 : decode cX9_begin 15 = .ok (.aload_n 0, 1) := by decide +kernel
theorem dX9_begin_16 : decode cX9_begin 16 = .ok (.iconst 0, 1) := by decide +kernel
theorem dX9_begin_17 : decode cX9_begin 17 = .ok (.putfield 37, 3) := by decide +kernel
theorem dX9_begin_20 : decode cX9_begin 20 = .ok (.return_, 1) := by decide +kernel
set_option maxRecDepth 20000 in
theorem ggX9_join_X9_fill : GoodIn wsX9_join wsX9_fill := goodIn_r _ [10, 1, 5, 11, 12, 13, 14, 15, 16, 17, 18] (by decide +kernel) (by decide +kernel)
set_option maxRecDepth 20000 in
theorem gX9_join_X9_fill : GoodIn wsX9_join (wsV RX9 40 RX9 yX9_fill wsX9_fill) := goodIn_app (goodIn_of _ (by decide +kernel)) ggX9_join_X9_fill
theorem dX9_join_0 : decode cX9_join 0 = .ok (.aload_n 0, 1) := by decide +kernel
theorem dX9_join_1 : decode cX9_join 1 = .ok (.getfield 34, 3) := by decide +kernel
theorem dX9_join_4 : decode cX9_join 4 = .ok (.bipush 8, 2) := by decide +kernel
theorem dX9_join_6 : decode cX9_join 6 = .ok (.if_icmp .lt 4, 3) := by decide +kernel
theorem dX9_join_9 : decode cX9_join 9 = .ok (.return_, 1) := by decide +kernel
theorem dX9_join_10 : decode cX9_join 10 = .ok (.aload_n 0, 1) := by decide +kernel
theorem dX9_join_11 : decode cX9_join 11 = .ok (.getfield 11, 3) := by decide +kernel
theorem dX9_join_14 : decode cX9_join 14 = .ok (.aload_n 0, 1) := by decide +kernel
theorem dX9_join_15 : decode cX9_join 15 = .ok (.getfield 34, 3) := by decide +kernel
theorem dX9_join_18 : decode cX9_join 18 = .ok (.aload_n 1, 1) := by decide +kernel
theorem dX9_join_19 : decode cX9_join 19 = .ok (.aastore, 1) := by decide +kernel
theorem dX9_join_20 : decode cX9_join 20 = .ok (.aload_n 0, 1) := by decide +kernel
theorem dX9_join_21 : decode cX9_join 21 = .ok (.getfield 17, 3) := by decide +kernel
theorem dX9_join_24 : decode cX9_join 24 = .ok (.aload_n 0, 1) := by decide +kernel
theorem dX9_join_25 : decode cX9_join 25 = .ok (.getfield 34, 3) := by decide +kernel
theorem dX9_join_28 : decode cX9_join 28 = .ok (.iload_n 3, 1) := by decide +kernel
theorem dX9_join_29 : decode cX9_join 29 = .ok (.iastore, 1) := by decide +kernel
theorem dX9_join_30 : decode cX9_join 30 = .ok (.aload_n 0, 1) := by decide +kernel
theorem dX9_join_31 : decode cX9_join 31 = .ok (.getfield 24, 3) := by decide +kernel
theorem dX9_join_34 : decode cX9_join 34 = .ok (.aload_n 0, 1) := by decide +kernel
theorem dX9_join_35 : decode cX9_join 35 = .ok (.getfield 34, 3) := by decide +kernel
theorem dX9_join_38 : decode cX9_join 38 = .ok (.aload_n 0, 1) := by decide +kernel
theorem dX9_join_39 : decode cX9_join 39 = .ok (.iload_n 2, 1) := by decide +kernel
theorem dX9_join_40 : decode cX9_join 40 = .ok (.invokevirtual 40, 3) := by decide +kernel
theorem dX9_join_43 : decode cX9_join 43 = .ok (.iastore, 1) := by decide +kernel
theorem dX9_join_44 : decode cX9_join 44 = .ok (.aload_n 0, 1) := by decide +kernel
theorem dX9_join_45 : decode cX9_join 45 = .ok (.getfield 21, 3) := by decide +kernel
theorem dX9_join_48 : decode cX9_join 48 = .ok (.aload_n 0, 1) := by decide +kernel
theorem dX9_join_49 : decode cX9_join 49 = .ok (.getfield 34, 3) := by decide +kernel
theorem dX9_join_52 : decode cX9_join 52 = .ok (.iload_n 2, 1) := by decide +kernel
theorem dX9_join_53 : decode cX9_join 53 = .ok (.iastore, 1) := by decide +kernel
theorem dX9_join_54 : decode cX9_join 54 = .ok (.aload_n 0, 1) := by decide +kernel
theorem dX9_join_55 : decode cX9_join 55 = .ok (.dup, 1) := by decide +kernel
theorem dX9_join_56 : decode cX9_join 56 = .ok (.getfield 34, 3) := by decide +kernel
theorem dX9_join_59 : decode cX9_join 59 = .ok (.iconst 1, 1) := by decide +kernel
theorem dX9_join_60 : decode cX9_join 60 = .ok (.iadd, 1) := by decide +kernel
theorem dX9_join_61 : decode cX9_join 61 = .ok (.putfield 34, 3) := by decide +kernel
theorem dX9_join_64 : decode cX9_join 64 = .ok (.return_, 1) := by decide +kernel
set_option maxRecDepth 20000 in
theorem ggX9_become_X9_begin : GoodIn wsX9_become wsX9_begin := goodIn_r _ [13, 1, 2, 3, 4, 14, 15, 16, 17, 18, 19, 20, 21] (by decide +kernel) (by decide +kernel)
set_option maxRecDepth 20000 in
theorem gX9_become_X9_begin : GoodIn wsX9_become (wsV RX9 44 RX9 yX9_begin wsX9_begin) := goodIn_app (goodIn_of _ (by decide +kernel)) ggX9_become_X9_begin
theorem dX9_become_0 : decode cX9_become 0 = .ok (.aload_n 0, 1) := by decide +kernel
theorem dX9_become_1 : decode cX9_become 1 = .ok (.aload_n 1, 1) := by decide +kernel
theorem dX9_become_2 : decode cX9_become 2 = .ok (.getfield 27, 3) := by decide +kernel
theorem dX9_become_5 : decode cX9_become 5 = .ok (.aload_n 1, 1) := by decide +kernel
theorem dX9_become_6 : decode cX9_become 6 = .ok (.getfield 31, 3) := by decide +kernel
theorem dX9_become_9 : decode cX9_become 9 = .ok (.invokevirtual 44, 3) := by decide +kernel
theorem dX9_become_12 : decode cX9_become 12 = .ok (.aload_n 0, 1) := by decide +kernel
theorem dX9_become_13 : decode cX9_become 13 = .ok (.aload_n 1, 1) := by decide +kernel
theorem dX9_become_14 : decode cX9_become 14 = .ok (.getfield 34, 3) := by decide +kernel
theorem dX9_become_17 : decode cX9_become 17 = .ok (.putfield 34, 3) := by decide +kernel
theorem dX9_become_20 : decode cX9_become 20 = .ok (.aload_n 0, 1) := by decide +kernel
theorem dX9_become_21 : decode cX9_become 21 = .ok (.aload_n 1, 1) := by decide +kernel
theorem dX9_become_22 : decode cX9_become 22 = .ok (.getfield 37, 3) := by decide +kernel
theorem dX9_become_25 : decode cX9_become 25 = .ok (.putfield 37, 3) := by decide +kernel
theorem dX9_become_28 : decode cX9_become 28 = .ok (.iconst 0, 1) := by decide +kernel
theorem dX9_become_29 : decode cX9_become 29 = .ok (.istore_n 2, 1) := by decide +kernel
theorem dX9_become_30 : decode cX9_become 30 = .ok (.iload_n 2, 1) := by decide +kernel
theorem dX9_become_31 : decode cX9_become 31 = .ok (.bipush 8, 2) := by decide +kernel
theorem dX9_become_33 : decode cX9_become 33 = .ok (.if_icmp .ge 57, 3) := by decide +kernel
theorem dX9_become_36 : decode cX9_become 36 = .ok (.aload_n 0, 1) := by decide +kernel
theorem dX9_become_37 : decode cX9_become 37 = .ok (.getfield 11, 3) := by decide +kernel
theorem dX9_become_40 : decode cX9_become 40 = .ok (.iload_n 2, 1) := by decide +kernel
theorem dX9_become_41 : decode cX9_become 41 = .ok (.aload_n 1, 1) := by decide +kernel
theorem dX9_become_42 : decode cX9_become 42 = .ok (.getfield 11, 3) := by decide +kernel
theorem dX9_become_45 : decode cX9_become 45 = .ok (.iload_n 2, 1) := by decide +kernel
theorem dX9_become_46 : decode cX9_become 46 = .ok (.aaload, 1) := by decide +kernel
theorem dX9_become_47 : decode cX9_become 47 = .ok (.aastore, 1) := by decide +kernel
theorem dX9_become_48 : decode cX9_become 48 = .ok (.aload_n 0, 1) := by decide +kernel
theorem dX9_become_49 : decode cX9_become 49 = .ok (.getfield 17, 3) := by decide +kernel
theorem dX9_become_52 : decode cX9_become 52 = .ok (.iload_n 2, 1) := by decide +kernel
theorem dX9_become_53 : decode cX9_become 53 = .ok (.aload_n 1, 1) := by decide +kernel
theorem dX9_become_54 : decode cX9_become 54 = .ok (.getfield 17, 3) := by decide +kernel
theorem dX9_become_57 : decode cX9_become 57 = .ok (.iload_n 2, 1) := by decide +kernel
theorem dX9_become_58 : decode cX9_become 58 = .ok (.iaload, 1) := by decide +kernel
theorem dX9_become_59 : decode cX9_become 59 = .ok (.iastore, 1) := by decide +kernel
theorem dX9_become_60 : decode cX9_become 60 = .ok (.aload_n 0, 1) := by decide +kernel
theorem dX9_become_61 : decode cX9_become 61 = .ok (.getfield 21, 3) := by decide +kernel
theorem dX9_become_64 : decode cX9_become 64 = .ok (.iload_n 2, 1) := by decide +kernel
theorem dX9_become_65 : decode cX9_become 65 = .ok (.aload_n 1, 1) := by decide +kernel
theorem dX9_become_66 : decode cX9_become 66 = .ok (.getfield 21, 3) := by decide +kernel
theorem dX9_become_69 : decode cX9_become 69 = .ok (.iload_n 2, 1) := by decide +kernel
theorem dX9_become_70 : decode cX9_become 70 = .ok (.iaload, 1) := by decide +kernel
theorem dX9_become_71 : decode cX9_become 71 = .ok (.iastore, 1) := by decide +kernel
theorem dX9_become_72 : decode cX9_become 72 = .ok (.aload_n 0, 1) := by decide +kernel
theorem dX9_become_73 : decode cX9_become 73 = .ok (.getfield 24, 3) := by decide +kernel
theorem dX9_become_76 : decode cX9_become 76 = .ok (.iload_n 2, 1) := by decide +kernel
theorem dX9_become_77 : decode cX9_become 77 = .ok (.aload_n 1, 1) := by decide +kernel
theorem dX9_become_78 : decode cX9_become 78 = .ok (.getfield 24, 3) := by decide +kernel
theorem dX9_become_81 : decode cX9_become 81 = .ok (.iload_n 2, 1) := by decide +kernel
theorem dX9_become_82 : decode cX9_become 82 = .ok (.iaload, 1) := by decide +kernel
theorem dX9_become_83 : decode cX9_become 83 = .ok (.iastore, 1) := by decide +kernel
theorem dX9_become_84 : decode cX9_become 84 = .ok (.iinc 2 1, 3) := by decide +kernel
theorem dX9_become_87 : decode cX9_become 87 = .ok (.goto (-57), 3) := by decide +kernel
theorem dX9_become_90 : decode cX9_become 90 = .ok (.return_, 1) := by decide +kernel
theorem dX9_isEmpty_0 : decode cX9_isEmpty 0 = .ok (.aload_n 0, 1) := by decide +kernel
theorem dX9_isEmpty_1 : decode cX9_isEmpty 1 = .ok (.getfield 34, 3) := by decide +kernel
theorem dX9_isEmpty_4 : decode cX9_isEmpty 4 = .ok (.ifCond .ne 7, 3) := by decide +kernel
theorem dX9_isEmpty_7 : decode cX9_isEmpty 7 = .ok (.iconst 1, 1) := by decide +kernel
theorem dX9_isEmpty_8 : decode cX9_isEmpty 8 = .ok (.goto 4, 3) := by decide +kernel
theorem dX9_isEmpty_11 : decode cX9_isEmpty 11 = .ok (.iconst 0, 1) := by decide +kernel
theorem dX9_isEmpty_12 : decode cX9_isEmpty 12 = .ok (.ireturn, 1) := by decide +kernel
theorem dX9_hasCard_0 : decode cX9_hasCard 0 = .ok (.iload_n 1, 1) := by decide +kernel
theorem dX9_hasCard_1 : decode cX9_hasCard 1 = .ok (.ifCond .lt 15, 3) := by decide +kernel
theorem dX9_hasCard_4 : decode cX9_hasCard 4 = .ok (.iload_n 1, 1) := by decide +kernel
theorem dX9_hasCard_5 : decode cX9_hasCard 5 = .ok (.aload_n 0, 1) := by decide +kernel
theorem dX9_hasCard_6 : decode cX9_hasCard 6 = .ok (.getfield 34, 3) := by decide +kernel
theorem dX9_hasCard_9 : decode cX9_hasCard 9 = .ok (.if_icmp .ge 7, 3) := by decide +kernel
theorem dX9_hasCard_12 : decode cX9_hasCard 12 = .ok (.iconst 1, 1) := by decide +kernel
theorem dX9_hasCard_13 : decode cX9_hasCard 13 = .ok (.goto 4, 3) := by decide +kernel
theorem dX9_hasCard_16 : decode cX9_hasCard 16 = .ok (.iconst 0, 1) := by decide +kernel
theorem dX9_hasCard_17 : decode cX9_hasCard 17 = .ok (.ireturn, 1) := by decide +kernel
theorem dX9_hasDrawer_0 : decode cX9_hasDrawer 0 = .ok (.iload_n 1, 1) := by decide +kernel
theorem dX9_hasDrawer_1 : decode cX9_hasDrawer 1 = .ok (.ifCond .lt 15, 3) := by decide +kernel
theorem dX9_hasDrawer_4 : decode cX9_hasDrawer 4 = .ok (.iload_n 1, 1) := by decide +kernel
theorem dX9_hasDrawer_5 : decode cX9_hasDrawer 5 = .ok (.aload_n 0, 1) := by decide +kernel
theorem dX9_hasDrawer_6 : decode cX9_hasDrawer 6 = .ok (.getfield 27, 3) := by decide +kernel
theorem dX9_hasDrawer_9 : decode cX9_hasDrawer 9 = .ok (.if_icmp .ge 7, 3) := by decide +kernel
theorem dX9_hasDrawer_12 : decode cX9_hasDrawer 12 = .ok (.iconst 1, 1) := by decide +kernel
theorem dX9_hasDrawer_13 : decode cX9_hasDrawer 13 = .ok (.goto 4, 3) := by decide +kernel
theorem dX9_hasDrawer_16 : decode cX9_hasDrawer 16 = .ok (.iconst 0, 1) := by decide +kernel
theorem dX9_hasDrawer_17 : decode cX9_hasDrawer 17 = .ok (.ireturn, 1) := by decide +kernel
theorem dX9_fill_0 : decode cX9_fill 0 = .ok (.iconst 0, 1) := by decide +kernel
theorem dX9_fill_1 : decode cX9_fill 1 = .ok (.istore_n 2, 1) := by decide +kernel
theorem dX9_fill_2 : decode cX9_fill 2 = .ok (.iconst 0, 1) := by decide +kernel
theorem dX9_fill_3 : decode cX9_fill 3 = .ok (.istore_n 3, 1) := by decide +kernel
theorem dX9_fill_4 : decode cX9_fill 4 = .ok (.iload_n 3, 1) := by decide +kernel
theorem dX9_fill_5 : decode cX9_fill 5 = .ok (.aload_n 0, 1) := by decide +kernel
theorem dX9_fill_6 : decode cX9_fill 6 = .ok (.getfield 34, 3) := by decide +kernel
theorem dX9_fill_9 : decode cX9_fill 9 = .ok (.if_icmp .ge 22, 3) := by decide +kernel
theorem dX9_fill_12 : decode cX9_fill 12 = .ok (.aload_n 0, 1) := by decide +kernel
theorem dX9_fill_13 : decode cX9_fill 13 = .ok (.getfield 21, 3) := by decide +kernel
theorem dX9_fill_16 : decode cX9_fill 16 = .ok (.iload_n 3, 1) := by decide +kernel
theorem dX9_fill_17 : decode cX9_fill 17 = .ok (.iaload, 1) := by decide +kernel
theorem dX9_fill_18 : decode cX9_fill 18 = .ok (.iload_n 1, 1) := by decide +kernel
theorem dX9_fill_19 : decode cX9_fill 19 = .ok (.if_icmp .ne 6, 3) := by decide +kernel
theorem dX9_fill_22 : decode cX9_fill 22 = .ok (.iinc 2 1, 3) := by decide +kernel
theorem dX9_fill_25 : decode cX9_fill 25 = .ok (.iinc 3 1, 3) := by decide +kernel
theorem dX9_fill_28 : decode cX9_fill 28 = .ok (.goto (-24), 3) := by decide +kernel
theorem dX9_fill_31 : decode cX9_fill 31 = .ok (.iload_n 2, 1) := by decide +kernel
theorem dX9_fill_32 : decode cX9_fill 32 = .ok (.ireturn, 1) := by decide +kernel
set_option maxRecDepth 20000 in
theorem ggX9_holdsOneMore_X9_fill : GoodIn wsX9_holdsOneMore wsX9_fill := goodIn_r _ [6, 7, 8, 9, 10, 11, 12, 13, 14, 15, 16] (by decide +kernel) (by decide +kernel)
set_option maxRecDepth 20000 in
theorem gX9_holdsOneMore_X9_fill : GoodIn wsX9_holdsOneMore (wsV RX9 40 RX9 yX9_fill wsX9_fill) := goodIn_app (goodIn_of _ (by decide +kernel)) ggX9_holdsOneMore_X9_fill
theorem dX9_holdsOneMore_0 : decode cX9_holdsOneMore 0 = .ok (.aload_n 0, 1) := by decide +kernel
theorem dX9_holdsOneMore_1 : decode cX9_holdsOneMore 1 = .ok (.iload_n 1, 1) := by decide +kernel
theorem dX9_holdsOneMore_2 : decode cX9_holdsOneMore 2 = .ok (.invokevirtual 40, 3) := by decide +kernel
theorem dX9_holdsOneMore_5 : decode cX9_holdsOneMore 5 = .ok (.aload_n 0, 1) := by decide +kernel
theorem dX9_holdsOneMore_6 : decode cX9_holdsOneMore 6 = .ok (.getfield 31, 3) := by decide +kernel
theorem dX9_holdsOneMore_9 : decode cX9_holdsOneMore 9 = .ok (.if_icmp .ge 7, 3) := by decide +kernel
theorem dX9_holdsOneMore_12 : decode cX9_holdsOneMore 12 = .ok (.iconst 1, 1) := by decide +kernel
theorem dX9_holdsOneMore_13 : decode cX9_holdsOneMore 13 = .ok (.goto 4, 3) := by decide +kernel
theorem dX9_holdsOneMore_16 : decode cX9_holdsOneMore 16 = .ok (.iconst 0, 1) := by decide +kernel
theorem dX9_holdsOneMore_17 : decode cX9_holdsOneMore 17 = .ok (.ireturn, 1) := by decide +kernel
theorem dX9_cardBits_0 : decode cX9_cardBits 0 = .ok (.iconst 0, 1) := by decide +kernel
theorem dX9_cardBits_1 : decode cX9_cardBits 1 = .ok (.istore_n 2, 1) := by decide +kernel
theorem dX9_cardBits_2 : decode cX9_cardBits 2 = .ok (.iconst 0, 1) := by decide +kernel
theorem dX9_cardBits_3 : decode cX9_cardBits 3 = .ok (.istore_n 3, 1) := by decide +kernel
theorem dX9_cardBits_4 : decode cX9_cardBits 4 = .ok (.iload_n 3, 1) := by decide +kernel
theorem dX9_cardBits_5 : decode cX9_cardBits 5 = .ok (.aload_n 0, 1) := by decide +kernel
theorem dX9_cardBits_6 : decode cX9_cardBits 6 = .ok (.getfield 34, 3) := by decide +kernel
theorem dX9_cardBits_9 : decode cX9_cardBits 9 = .ok (.if_icmp .ge 25, 3) := by decide +kernel
theorem dX9_cardBits_12 : decode cX9_cardBits 12 = .ok (.aload_n 0, 1) := by decide +kernel
theorem dX9_cardBits_13 : decode cX9_cardBits 13 = .ok (.getfield 21, 3) := by decide +kernel
theorem dX9_cardBits_16 : decode cX9_cardBits 16 = .ok (.iload_n 3, 1) := by decide +kernel
theorem dX9_cardBits_17 : decode cX9_cardBits 17 = .ok (.iaload, 1) := by decide +kernel
theorem dX9_cardBits_18 : decode cX9_cardBits 18 = .ok (.iload_n 1, 1) := by decide +kernel
theorem dX9_cardBits_19 : decode cX9_cardBits 19 = .ok (.if_icmp .ne 9, 3) := by decide +kernel
theorem dX9_cardBits_22 : decode cX9_cardBits 22 = .ok (.iload_n 2, 1) := by decide +kernel
theorem dX9_cardBits_23 : decode cX9_cardBits 23 = .ok (.iconst 1, 1) := by decide +kernel
theorem dX9_cardBits_24 : decode cX9_cardBits 24 = .ok (.iload_n 3, 1) := by decide +kernel
theorem dX9_cardBits_25 : decode cX9_cardBits 25 = .ok (.ishl, 1) := by decide +kernel
theorem dX9_cardBits_26 : decode cX9_cardBits 26 = .ok (.ior, 1) := by decide +kernel
theorem dX9_cardBits_27 : decode cX9_cardBits 27 = .ok (.istore_n 2, 1) := by decide +kernel
theorem dX9_cardBits_28 : decode cX9_cardBits 28 = .ok (.iinc 3 1, 3) := by decide +kernel
theorem dX9_cardBits_31 : decode cX9_cardBits 31 = .ok (.goto (-27), 3) := by decide +kernel
theorem dX9_cardBits_34 : decode cX9_cardBits 34 = .ok (.iload_n 2, 1) := by decide +kernel
theorem dX9_cardBits_35 : decode cX9_cardBits 35 = .ok (.ireturn, 1) := by decide +kernel
theorem dX9_cardAt_0 : decode cX9_cardAt 0 = .ok (.iconst 0, 1) := by decide +kernel
theorem dX9_cardAt_1 : decode cX9_cardAt 1 = .ok (.istore_n 3, 1) := by decide +kernel
theorem dX9_cardAt_2 : decode cX9_cardAt 2 = .ok (.iload_n 3, 1) := by decide +kernel
theorem dX9_cardAt_3 : decode cX9_cardAt 3 = .ok (.aload_n 0, 1) := by decide +kernel
theorem dX9_cardAt_4 : decode cX9_cardAt 4 = .ok (.getfield 34, 3) := by decide +kernel
theorem dX9_cardAt_7 : decode cX9_cardAt 7 = .ok (.if_icmp .ge 31, 3) := by decide +kernel
theorem dX9_cardAt_10 : decode cX9_cardAt 10 = .ok (.aload_n 0, 1) := by decide +kernel
theorem dX9_cardAt_11 : decode cX9_cardAt 11 = .ok (.getfield 21, 3) := by decide +kernel
theorem dX9_cardAt_14 : decode cX9_cardAt 14 = .ok (.iload_n 3, 1) := by decide +kernel
theorem dX9_cardAt_15 : decode cX9_cardAt 15 = .ok (.iaload, 1) := by decide +kernel
theorem dX9_cardAt_16 : decode cX9_cardAt 16 = .ok (.iload_n 1, 1) := by decide +kernel
theorem dX9_cardAt_17 : decode cX9_cardAt 17 = .ok (.if_icmp .ne 15, 3) := by decide +kernel
theorem dX9_cardAt_20 : decode cX9_cardAt 20 = .ok (.aload_n 0, 1) := by decide +kernel
theorem dX9_cardAt_21 : decode cX9_cardAt 21 = .ok (.getfield 24, 3) := by decide +kernel
theorem dX9_cardAt_24 : decode cX9_cardAt 24 = .ok (.iload_n 3, 1) := by decide +kernel
theorem dX9_cardAt_25 : decode cX9_cardAt 25 = .ok (.iaload, 1) := by decide +kernel
theorem dX9_cardAt_26 : decode cX9_cardAt 26 = .ok (.iload_n 2, 1) := by decide +kernel
theorem dX9_cardAt_27 : decode cX9_cardAt 27 = .ok (.if_icmp .ne 5, 3) := by decide +kernel
theorem dX9_cardAt_30 : decode cX9_cardAt 30 = .ok (.iload_n 3, 1) := by decide +kernel
theorem dX9_cardAt_31 : decode cX9_cardAt 31 = .ok (.ireturn, 1) := by decide +kernel
theorem dX9_cardAt_32 : decode cX9_cardAt 32 = .ok (.iinc 3 1, 3) := by decide +kernel
theorem dX9_cardAt_35 : decode cX9_cardAt 35 = .ok (.goto (-33), 3) := by decide +kernel
theorem dX9_cardAt_38 : decode cX9_cardAt 38 = .ok (.ldc 48, 2) := by decide +kernel
theorem dX9_cardAt_40 : decode cX9_cardAt 40 = .ok (.ireturn, 1) := by decide +kernel
set_option maxRecDepth 20000 in
theorem ggX9_dear_X9_hasCard : GoodIn wsX9_dear wsX9_hasCard := goodIn_r _ [7, 8, 9, 10, 11, 12, 13, 14, 15, 16] (by decide +kernel) (by decide +kernel)
set_option maxRecDepth 20000 in
theorem gX9_dear_X9_hasCard : GoodIn wsX9_dear (wsV RX9 49 RX9 yX9_hasCard wsX9_hasCard) := goodIn_app (goodIn_of _ (by decide +kernel)) ggX9_dear_X9_hasCard
theorem dX9_dear_0 : decode cX9_dear 0 = .ok (.aload_n 0, 1) := by decide +kernel
theorem dX9_dear_1 : decode cX9_dear 1 = .ok (.aload_n 0, 1) := by decide +kernel
theorem dX9_dear_2 : decode cX9_dear 2 = .ok (.getfield 17, 3) := by decide +kernel
theorem dX9_dear_5 : decode cX9_dear 5 = .ok (.iload_n 1, 1) := by decide +kernel
theorem dX9_dear_6 : decode cX9_dear 6 = .ok (.iaload, 1) := by decide +kernel
theorem dX9_dear_7 : decode cX9_dear 7 = .ok (.invokevirtual 49, 3) := by decide +kernel
theorem dX9_dear_10 : decode cX9_dear 10 = .ok (.ifCond .eq 12, 3) := by decide +kernel
theorem dX9_dear_13 : decode cX9_dear 13 = .ok (.aload_n 0, 1) := by decide +kernel
theorem dX9_dear_14 : decode cX9_dear 14 = .ok (.getfield 17, 3) := by decide +kernel
theorem dX9_dear_17 : decode cX9_dear 17 = .ok (.iload_n 1, 1) := by decide +kernel
theorem dX9_dear_18 : decode cX9_dear 18 = .ok (.iaload, 1) := by decide +kernel
theorem dX9_dear_19 : decode cX9_dear 19 = .ok (.goto 5, 3) := by decide +kernel
theorem dX9_dear_22 : decode cX9_dear 22 = .ok (.ldc 48, 2) := by decide +kernel
theorem dX9_dear_24 : decode cX9_dear 24 = .ok (.ireturn, 1) := by decide +kernel
set_option maxRecDepth 20000 in
theorem ggX9_mateBits_X9_dear : GoodIn wsX9_mateBits wsX9_dear := goodIn_r _ [9, 10, 2, 11, 12, 13, 8, 14, 1, 15, 16, 17, 18, 19, 20, 21, 22] (by decide +kernel) (by decide +kernel)
set_option maxRecDepth 20000 in
theorem gX9_mateBits_X9_dear : GoodIn wsX9_mateBits (wsV RX9 53 RX9 yX9_dear wsX9_dear) := goodIn_app (goodIn_of _ (by decide +kernel)) ggX9_mateBits_X9_dear
theorem dX9_mateBits_0 : decode cX9_mateBits 0 = .ok (.iconst 0, 1) := by decide +kernel
theorem dX9_mateBits_1 : decode cX9_mateBits 1 = .ok (.istore_n 1, 1) := by decide +kernel
theorem dX9_mateBits_2 : decode cX9_mateBits 2 = .ok (.iconst 0, 1) := by decide +kernel
theorem dX9_mateBits_3 : decode cX9_mateBits 3 = .ok (.istore_n 2, 1) := by decide +kernel
theorem dX9_mateBits_4 : decode cX9_mateBits 4 = .ok (.iload_n 2, 1) := by decide +kernel
theorem dX9_mateBits_5 : decode cX9_mateBits 5 = .ok (.aload_n 0, 1) := by decide +kernel
theorem dX9_mateBits_6 : decode cX9_mateBits 6 = .ok (.getfield 34, 3) := by decide +kernel
theorem dX9_mateBits_9 : decode cX9_mateBits 9 = .ok (.if_icmp .ge 59, 3) := by decide +kernel
theorem dX9_mateBits_12 : decode cX9_mateBits 12 = .ok (.aload_n 0, 1) := by decide +kernel
theorem dX9_mateBits_13 : decode cX9_mateBits 13 = .ok (.iload_n 2, 1) := by decide +kernel
theorem dX9_mateBits_14 : decode cX9_mateBits 14 = .ok (.invokevirtual 53, 3) := by decide +kernel
theorem dX9_mateBits_17 : decode cX9_mateBits 17 = .ok (.istore_n 3, 1) := by decide +kernel
theorem dX9_mateBits_18 : decode cX9_mateBits 18 = .ok (.iload_n 3, 1) := by decide +kernel
theorem dX9_mateBits_19 : decode cX9_mateBits 19 = .ok (.ldc 48, 2) := by decide +kernel
theorem dX9_mateBits_21 : decode cX9_mateBits 21 = .ok (.if_icmp .eq 41, 3) := by decide +kernel
theorem dX9_mateBits_24 : decode cX9_mateBits 24 = .ok (.aload_n 0, 1) := by decide +kernel
theorem dX9_mateBits_25 : decode cX9_mateBits 25 = .ok (.getfield 21, 3) := by decide +kernel
theorem dX9_mateBits_28 : decode cX9_mateBits 28 = .ok (.iload_n 3, 1) := by decide +kernel
theorem dX9_mateBits_29 : decode cX9_mateBits 29 = .ok (.iaload, 1) := by decide +kernel
theorem dX9_mateBits_30 : decode cX9_mateBits 30 = .ok (.aload_n 0, 1) := by decide +kernel
theorem dX9_mateBits_31 : decode cX9_mateBits 31 = .ok (.getfield 21, 3) := by decide +kernel
theorem dX9_mateBits_34 : decode cX9_mateBits 34 = .ok (.iload_n 2, 1) := by decide +kernel
theorem dX9_mateBits_35 : decode cX9_mateBits 35 = .ok (.iaload, 1) := by decide +kernel
theorem dX9_mateBits_36 : decode cX9_mateBits 36 = .ok (.if_icmp .ne 26, 3) := by decide +kernel
theorem dX9_mateBits_39 : decode cX9_mateBits 39 = .ok (.aload_n 0, 1) := by decide +kernel
theorem dX9_mateBits_40 : decode cX9_mateBits 40 = .ok (.getfield 24, 3) := by decide +kernel
theorem dX9_mateBits_43 : decode cX9_mateBits 43 = .ok (.iload_n 3, 1) := by decide +kernel
theorem dX9_mateBits_44 : decode cX9_mateBits 44 = .ok (.iaload, 1) := by decide +kernel
theorem dX9_mateBits_45 : decode cX9_mateBits 45 = .ok (.aload_n 0, 1) := by decide +kernel
theorem dX9_mateBits_46 : decode cX9_mateBits 46 = .ok (.getfield 24, 3) := by decide +kernel
theorem dX9_mateBits_49 : decode cX9_mateBits 49 = .ok (.iload_n 2, 1) := by decide +kernel
theorem dX9_mateBits_50 : decode cX9_mateBits 50 = .ok (.iaload, 1) := by decide +kernel
theorem dX9_mateBits_51 : decode cX9_mateBits 51 = .ok (.iconst 1, 1) := by decide +kernel
theorem dX9_mateBits_52 : decode cX9_mateBits 52 = .ok (.isub, 1) := by decide +kernel
theorem dX9_mateBits_53 : decode cX9_mateBits 53 = .ok (.if_icmp .ne 9, 3) := by decide +kernel
theorem dX9_mateBits_56 : decode cX9_mateBits 56 = .ok (.iload_n 1, 1) := by decide +kernel
theorem dX9_mateBits_57 : decode cX9_mateBits 57 = .ok (.iconst 1, 1) := by decide +kernel
theorem dX9_mateBits_58 : decode cX9_mateBits 58 = .ok (.iload_n 2, 1) := by decide +kernel
theorem dX9_mateBits_59 : decode cX9_mateBits 59 = .ok (.ishl, 1) := by decide +kernel
theorem dX9_mateBits_60 : decode cX9_mateBits 60 = .ok (.ior, 1) := by decide +kernel
theorem dX9_mateBits_61 : decode cX9_mateBits 61 = .ok (.istore_n 1, 1) := by decide +kernel
theorem dX9_mateBits_62 : decode cX9_mateBits 62 = .ok (.iinc 2 1, 3) := by decide +kernel
theorem dX9_mateBits_65 : decode cX9_mateBits 65 = .ok (.goto (-61), 3) := by decide +kernel
theorem dX9_mateBits_68 : decode cX9_mateBits 68 = .ok (.iload_n 1, 1) := by decide +kernel
theorem dX9_mateBits_69 : decode cX9_mateBits 69 = .ok (.ireturn, 1) := by decide +kernel
theorem dX9_figures_0 : decode cX9_figures 0 = .ok (.iconst 0, 1) := by decide +kernel
theorem dX9_figures_1 : decode cX9_figures 1 = .ok (.istore_n 1, 1) := by decide +kernel
theorem dX9_figures_2 : decode cX9_figures 2 = .ok (.iconst 0, 1) := by decide +kernel
theorem dX9_figures_3 : decode cX9_figures 3 = .ok (.istore_n 2, 1) := by decide +kernel
theorem dX9_figures_4 : decode cX9_figures 4 = .ok (.iload_n 2, 1) := by decide +kernel
theorem dX9_figures_5 : decode cX9_figures 5 = .ok (.aload_n 0, 1) := by decide +kernel
theorem dX9_figures_6 : decode cX9_figures 6 = .ok (.getfield 34, 3) := by decide +kernel
theorem dX9_figures_9 : decode cX9_figures 9 = .ok (.if_icmp .ge 21, 3) := by decide +kernel
theorem dX9_figures_12 : decode cX9_figures 12 = .ok (.iload_n 1, 1) := by decide +kernel
theorem dX9_figures_13 : decode cX9_figures 13 = .ok (.bipush 10, 2) := by decide +kernel
theorem dX9_figures_15 : decode cX9_figures 15 = .ok (.imul, 1) := by decide +kernel
theorem dX9_figures_16 : decode cX9_figures 16 = .ok (.aload_n 0, 1) := by decide +kernel
theorem dX9_figures_17 : decode cX9_figures 17 = .ok (.getfield 21, 3) := by decide +kernel
theorem dX9_figures_20 : decode cX9_figures 20 = .ok (.iload_n 2, 1) := by decide +kernel
theorem dX9_figures_21 : decode cX9_figures 21 = .ok (.iaload, 1) := by decide +kernel
theorem dX9_figures_22 : decode cX9_figures 22 = .ok (.iadd, 1) := by decide +kernel
theorem dX9_figures_23 : decode cX9_figures 23 = .ok (.istore_n 1, 1) := by decide +kernel
theorem dX9_figures_24 : decode cX9_figures 24 = .ok (.iinc 2 1, 3) := by decide +kernel
theorem dX9_figures_27 : decode cX9_figures 27 = .ok (.goto (-23), 3) := by decide +kernel
theorem dX9_figures_30 : decode cX9_figures 30 = .ok (.iload_n 1, 1) := by decide +kernel
theorem dX9_figures_31 : decode cX9_figures 31 = .ok (.ireturn, 1) := by decide +kernel
theorem dX9_standsAs_0 : decode cX9_standsAs 0 = .ok (.iconst 0, 1) := by decide +kernel
theorem dX9_standsAs_1 : decode cX9_standsAs 1 = .ok (.istore_n 2, 1) := by decide +kernel
theorem dX9_standsAs_2 : decode cX9_standsAs 2 = .ok (.iload_n 2, 1) := by decide +kernel
theorem dX9_standsAs_3 : decode cX9_standsAs 3 = .ok (.aload_n 0, 1) := by decide +kernel
theorem dX9_standsAs_4 : decode cX9_standsAs 4 = .ok (.getfield 34, 3) := by decide +kernel
theorem dX9_standsAs_7 : decode cX9_standsAs 7 = .ok (.if_icmp .ge 41, 3) := by decide +kernel
theorem dX9_standsAs_10 : decode cX9_standsAs 10 = .ok (.aload_n 0, 1) := by decide +kernel
theorem dX9_standsAs_11 : decode cX9_standsAs 11 = .ok (.getfield 21, 3) := by decide +kernel
theorem dX9_standsAs_14 : decode cX9_standsAs 14 = .ok (.iload_n 2, 1) := by decide +kernel
theorem dX9_standsAs_15 : decode cX9_standsAs 15 = .ok (.iaload, 1) := by decide +kernel
theorem dX9_standsAs_16 : decode cX9_standsAs 16 = .ok (.aload_n 1, 1) := by decide +kernel
theorem dX9_standsAs_17 : decode cX9_standsAs 17 = .ok (.getfield 21, 3) := by decide +kernel
theorem dX9_standsAs_20 : decode cX9_standsAs 20 = .ok (.iload_n 2, 1) := by decide +kernel
theorem dX9_standsAs_21 : decode cX9_standsAs 21 = .ok (.iaload, 1) := by decide +kernel
theorem dX9_standsAs_22 : decode cX9_standsAs 22 = .ok (.if_icmp .ne 18, 3) := by decide +kernel
theorem dX9_standsAs_25 : decode cX9_standsAs 25 = .ok (.aload_n 0, 1) := by decide +kernel
theorem dX9_standsAs_26 : decode cX9_standsAs 26 = .ok (.getfield 24, 3) := by decide +kernel
theorem dX9_standsAs_29 : decode cX9_standsAs 29 = .ok (.iload_n 2, 1) := by decide +kernel
theorem dX9_standsAs_30 : decode cX9_standsAs 30 = .ok (.iaload, 1) := by decide +kernel
theorem dX9_standsAs_31 : decode cX9_standsAs 31 = .ok (.aload_n 1, 1) := by decide +kernel
theorem dX9_standsAs_32 : decode cX9_standsAs 32 = .ok (.getfield 24, 3) := by decide +kernel
theorem dX9_standsAs_35 : decode cX9_standsAs 35 = .ok (.iload_n 2, 1) := by decide +kernel
theorem dX9_standsAs_36 : decode cX9_standsAs 36 = .ok (.iaload, 1) := by decide +kernel
theorem dX9_standsAs_37 : decode cX9_standsAs 37 = .ok (.if_icmp .eq 5, 3) := by decide +kernel
theorem dX9_standsAs_40 : decode cX9_standsAs 40 = .ok (.iconst 0, 1) := by decide +kernel
theorem dX9_standsAs_41 : decode cX9_standsAs 41 = .ok (.ireturn, 1) := by decide +kernel
theorem dX9_standsAs_42 : decode cX9_standsAs 42 = .ok (.iinc 2 1, 3) := by decide +kernel
theorem dX9_standsAs_45 : decode cX9_standsAs 45 = .ok (.goto (-43), 3) := by decide +kernel
theorem dX9_standsAs_48 : decode cX9_standsAs 48 = .ok (.iconst 1, 1) := by decide +kernel
theorem dX9_standsAs_49 : decode cX9_standsAs 49 = .ok (.ireturn, 1) := by decide +kernel
set_option maxRecDepth 20000 in
theorem ggX9_stand_X9_hasCard : GoodIn wsX9_stand wsX9_hasCard := goodIn_r _ [8, 1, 13, 14, 15, 16, 17, 18, 19, 20] (by decide +kernel) (by decide +kernel)
set_option maxRecDepth 20000 in
theorem gX9_stand_X9_hasCard : GoodIn wsX9_stand (wsV RX9 49 RX9 yX9_hasCard wsX9_hasCard) := goodIn_app (goodIn_of _ (by decide +kernel)) ggX9_stand_X9_hasCard
set_option maxRecDepth 20000 in
theorem ggX9_stand_X9_fill : GoodIn wsX9_stand wsX9_fill := goodIn_r _ [12, 1, 2, 13, 14, 15, 16, 17, 18, 19, 20] (by decide +kernel) (by decide +kernel)
set_option maxRecDepth 20000 in
theorem gX9_stand_X9_fill : GoodIn wsX9_stand (wsV RX9 40 RX9 yX9_fill wsX9_fill) := goodIn_app (goodIn_of _ (by decide +kernel)) ggX9_stand_X9_fill
theorem dX9_stand_0 : decode cX9_stand 0 = .ok (.iconst 0, 1) := by decide +kernel
theorem dX9_stand_1 : decode cX9_stand 1 = .ok (.istore 4, 2) := by decide +kernel
theorem dX9_stand_3 : decode cX9_stand 3 = .ok (.iload 4, 2) := by decide +kernel
theorem dX9_stand_5 : decode cX9_stand 5 = .ok (.aload_n 0, 1) := by decide +kernel
theorem dX9_stand_6 : decode cX9_stand 6 = .ok (.getfield 34, 3) := by decide +kernel
theorem dX9_stand_9 : decode cX9_stand 9 = .ok (.if_icmp .ge 52, 3) := by decide +kernel
theorem dX9_stand_12 : decode cX9_stand 12 = .ok (.aload_n 0, 1) := by decide +kernel
theorem dX9_stand_13 : decode cX9_stand 13 = .ok (.getfield 21, 3) := by decide +kernel
theorem dX9_stand_16 : decode cX9_stand 16 = .ok (.iload 4, 2) := by decide +kernel
theorem dX9_stand_18 : decode cX9_stand 18 = .ok (.iaload, 1) := by decide +kernel
theorem dX9_stand_19 : decode cX9_stand 19 = .ok (.aload_n 0, 1) := by decide +kernel
theorem dX9_stand_20 : decode cX9_stand 20 = .ok (.getfield 21, 3) := by decide +kernel
theorem dX9_stand_23 : decode cX9_stand 23 = .ok (.iload_n 1, 1) := by decide +kernel
theorem dX9_stand_24 : decode cX9_stand 24 = .ok (.iaload, 1) := by decide +kernel
theorem dX9_stand_25 : decode cX9_stand 25 = .ok (.if_icmp .ne 30, 3) := by decide +kernel
theorem dX9_stand_28 : decode cX9_stand 28 = .ok (.aload_n 0, 1) := by decide +kernel
theorem dX9_stand_29 : decode cX9_stand 29 = .ok (.getfield 24, 3) := by decide +kernel
theorem dX9_stand_32 : decode cX9_stand 32 = .ok (.iload 4, 2) := by decide +kernel
theorem dX9_stand_34 : decode cX9_stand 34 = .ok (.iaload, 1) := by decide +kernel
theorem dX9_stand_35 : decode cX9_stand 35 = .ok (.aload_n 0, 1) := by decide +kernel
theorem dX9_stand_36 : decode cX9_stand 36 = .ok (.getfield 24, 3) := by decide +kernel
theorem dX9_stand_39 : decode cX9_stand 39 = .ok (.iload_n 1, 1) := by decide +kernel
theorem dX9_stand_40 : decode cX9_stand 40 = .ok (.iaload, 1) := by decide +kernel
theorem dX9_stand_41 : decode cX9_stand 41 = .ok (.if_icmp .le 14, 3) := by decide +kernel
theorem dX9_stand_44 : decode cX9_stand 44 = .ok (.aload_n 0, 1) := by decide +kernel
theorem dX9_stand_45 : decode cX9_stand 45 = .ok (.getfield 24, 3) := by decide +kernel
theorem dX9_stand_48 : decode cX9_stand 48 = .ok (.iload 4, 2) := by decide +kernel
theorem dX9_stand_50 : decode cX9_stand 50 = .ok (.dup2, 1) := by decide +kernel
theorem dX9_stand_51 : decode cX9_stand 51 = .ok (.iaload, 1) := by decide +kernel
theorem dX9_stand_52 : decode cX9_stand 52 = .ok (.iconst 1, 1) := by decide +kernel
theorem dX9_stand_53 : decode cX9_stand 53 = .ok (.isub, 1) := by decide +kernel
theorem dX9_stand_54 : decode cX9_stand 54 = .ok (.iastore, 1) := by decide +kernel
theorem dX9_stand_55 : decode cX9_stand 55 = .ok (.iinc 4 1, 3) := by decide +kernel
theorem dX9_stand_58 : decode cX9_stand 58 = .ok (.goto (-55), 3) := by decide +kernel
theorem dX9_stand_61 : decode cX9_stand 61 = .ok (.aload_n 0, 1) := by decide +kernel
theorem dX9_stand_62 : decode cX9_stand 62 = .ok (.getfield 21, 3) := by decide +kernel
theorem dX9_stand_65 : decode cX9_stand 65 = .ok (.iload_n 1, 1) := by decide +kernel
theorem dX9_stand_66 : decode cX9_stand 66 = .ok (.iconst (-1), 1) := by decide +kernel
theorem dX9_stand_67 : decode cX9_stand 67 = .ok (.iastore, 1) := by decide +kernel
theorem dX9_stand_68 : decode cX9_stand 68 = .ok (.aload_n 0, 1) := by decide +kernel
theorem dX9_stand_69 : decode cX9_stand 69 = .ok (.iload_n 3, 1) := by decide +kernel
theorem dX9_stand_70 : decode cX9_stand 70 = .ok (.invokevirtual 49, 3) := by decide +kernel
theorem dX9_stand_73 : decode cX9_stand 73 = .ok (.ifCond .eq 14, 3) := by decide +kernel
theorem dX9_stand_76 : decode cX9_stand 76 = .ok (.aload_n 0, 1) := by decide +kernel
theorem dX9_stand_77 : decode cX9_stand 77 = .ok (.getfield 24, 3) := by decide +kernel
theorem dX9_stand_80 : decode cX9_stand 80 = .ok (.iload_n 3, 1) := by decide +kernel
theorem dX9_stand_81 : decode cX9_stand 81 = .ok (.iaload, 1) := by decide +kernel
theorem dX9_stand_82 : decode cX9_stand 82 = .ok (.iconst 1, 1) := by decide +kernel
theorem dX9_stand_83 : decode cX9_stand 83 = .ok (.iadd, 1) := by decide +kernel
theorem dX9_stand_84 : decode cX9_stand 84 = .ok (.goto 8, 3) := by decide +kernel
theorem dX9_stand_87 : decode cX9_stand 87 = .ok (.aload_n 0, 1) := by decide +kernel
theorem dX9_stand_88 : decode cX9_stand 88 = .ok (.iload_n 2, 1) := by decide +kernel
theorem dX9_stand_89 : decode cX9_stand 89 = .ok (.invokevirtual 40, 3) := by decide +kernel
theorem dX9_stand_92 : decode cX9_stand 92 = .ok (.istore 4, 2) := by decide +kernel
theorem dX9_stand_94 : decode cX9_stand 94 = .ok (.iconst 0, 1) := by decide +kernel
theorem dX9_stand_95 : decode cX9_stand 95 = .ok (.istore 5, 2) := by decide +kernel
theorem dX9_stand_97 : decode cX9_stand 97 = .ok (.iload 5, 2) := by decide +kernel
theorem dX9_stand_99 : decode cX9_stand 99 = .ok (.aload_n 0, 1) := by decide +kernel
theorem dX9_stand_100 : decode cX9_stand 100 = .ok (.getfield 34, 3) := by decide +kernel
theorem dX9_stand_103 : decode cX9_stand 103 = .ok (.if_icmp .ge 43, 3) := by decide +kernel
theorem dX9_stand_106 : decode cX9_stand 106 = .ok (.aload_n 0, 1) := by decide +kernel
theorem dX9_stand_107 : decode cX9_stand 107 = .ok (.getfield 21, 3) := by decide +kernel
theorem dX9_stand_110 : decode cX9_stand 110 = .ok (.iload 5, 2) := by decide +kernel
theorem dX9_stand_112 : decode cX9_stand 112 = .ok (.iaload, 1) := by decide +kernel
theorem dX9_stand_113 : decode cX9_stand 113 = .ok (.iload_n 2, 1) := by decide +kernel
theorem dX9_stand_114 : decode cX9_stand 114 = .ok (.if_icmp .ne 26, 3) := by decide +kernel
theorem dX9_stand_117 : decode cX9_stand 117 = .ok (.aload_n 0, 1) := by decide +kernel
theorem dX9_stand_118 : decode cX9_stand 118 = .ok (.getfield 24, 3) := by decide +kernel
theorem dX9_stand_121 : decode cX9_stand 121 = .ok (.iload 5, 2) := by decide +kernel
theorem dX9_stand_123 : decode cX9_stand 123 = .ok (.iaload, 1) := by decide +kernel
theorem dX9_stand_124 : decode cX9_stand 124 = .ok (.iload 4, 2) := by decide +kernel
theorem dX9_stand_126 : decode cX9_stand 126 = .ok (.if_icmp .lt 14, 3) := by decide +kernel
theorem dX9_stand_129 : decode cX9_stand 129 = .ok (.aload_n 0, 1) := by decide +kernel
theorem dX9_stand_130 : decode cX9_stand 130 = .ok (.getfield 24, 3) := by decide +kernel
theorem dX9_stand_133 : decode cX9_stand 133 = .ok (.iload 5, 2) := by decide +kernel
theorem dX9_stand_135 : decode cX9_stand 135 = .ok (.dup2, 1) := by decide +kernel
theorem dX9_stand_136 : decode cX9_stand 136 = .ok (.iaload, 1) := by decide +kernel
theorem dX9_stand_137 : decode cX9_stand 137 = .ok (.iconst 1, 1) := by decide +kernel
theorem dX9_stand_138 : decode cX9_stand 138 = .ok (.iadd, 1) := by decide +kernel
theorem dX9_stand_139 : decode cX9_stand 139 = .ok (.iastore, 1) := by decide +kernel
theorem dX9_stand_140 : decode cX9_stand 140 = .ok (.iinc 5 1, 3) := by decide +kernel
theorem dX9_stand_143 : decode cX9_stand 143 = .ok (.goto (-46), 3) := by decide +kernel
theorem dX9_stand_146 : decode cX9_stand 146 = .ok (.aload_n 0, 1) := by decide +kernel
theorem dX9_stand_147 : decode cX9_stand 147 = .ok (.getfield 21, 3) := by decide +kernel
theorem dX9_stand_150 : decode cX9_stand 150 = .ok (.iload_n 1, 1) := by decide +kernel
theorem dX9_stand_151 : decode cX9_stand 151 = .ok (.iload_n 2, 1) := by decide +kernel
theorem dX9_stand_152 : decode cX9_stand 152 = .ok (.iastore, 1) := by decide +kernel
theorem dX9_stand_153 : decode cX9_stand 153 = .ok (.aload_n 0, 1) := by decide +kernel
theorem dX9_stand_154 : decode cX9_stand 154 = .ok (.getfield 24, 3) := by decide +kernel
theorem dX9_stand_157 : decode cX9_stand 157 = .ok (.iload_n 1, 1) := by decide +kernel
theorem dX9_stand_158 : decode cX9_stand 158 = .ok (.iload 4, 2) := by decide +kernel
theorem dX9_stand_160 : decode cX9_stand 160 = .ok (.iastore, 1) := by decide +kernel
theorem dX9_stand_161 : decode cX9_stand 161 = .ok (.return_, 1) := by decide +kernel
theorem dX9_changePlaces_0 : decode cX9_changePlaces 0 = .ok (.aload_n 0, 1) := by decide +kernel
theorem dX9_changePlaces_1 : decode cX9_changePlaces 1 = .ok (.getfield 24, 3) := by decide +kernel
theorem dX9_changePlaces_4 : decode cX9_changePlaces 4 = .ok (.iload_n 1, 1) := by decide +kernel
theorem dX9_changePlaces_5 : decode cX9_changePlaces 5 = .ok (.iaload, 1) := by decide +kernel
theorem dX9_changePlaces_6 : decode cX9_changePlaces 6 = .ok (.istore_n 3, 1) := by decide +kernel
theorem dX9_changePlaces_7 : decode cX9_changePlaces 7 = .ok (.aload_n 0, 1) := by decide +kernel
theorem dX9_changePlaces_8 : decode cX9_changePlaces 8 = .ok (.getfield 24, 3) := by decide +kernel
theorem dX9_changePlaces_11 : decode cX9_changePlaces 11 = .ok (.iload_n 1, 1) := by decide +kernel
theorem dX9_changePlaces_12 : decode cX9_changePlaces 12 = .ok (.aload_n 0, 1) := by decide +kernel
theorem dX9_changePlaces_13 : decode cX9_changePlaces 13 = .ok (.getfield 24, 3) := by decide +kernel
theorem dX9_changePlaces_16 : decode cX9_changePlaces 16 = .ok (.iload_n 2, 1) := by decide +kernel
theorem dX9_changePlaces_17 : decode cX9_changePlaces 17 = .ok (.iaload, 1) := by decide +kernel
theorem dX9_changePlaces_18 : decode cX9_changePlaces 18 = .ok (.iastore, 1) := by decide +kernel
theorem dX9_changePlaces_19 : decode cX9_changePlaces 19 = .ok (.aload_n 0, 1) := by decide +kernel
theorem dX9_changePlaces_20 : decode cX9_changePlaces 20 = .ok (.getfield 24, 3) := by decide +kernel
theorem dX9_changePlaces_23 : decode cX9_changePlaces 23 = .ok (.iload_n 2, 1) := by decide +kernel
theorem dX9_changePlaces_24 : decode cX9_changePlaces 24 = .ok (.iload_n 3, 1) := by decide +kernel
theorem dX9_changePlaces_25 : decode cX9_changePlaces 25 = .ok (.iastore, 1) := by decide +kernel
theorem dX9_changePlaces_26 : decode cX9_changePlaces 26 = .ok (.return_, 1) := by decide +kernel
set_option maxRecDepth 20000 in
theorem ggX9_reverse_X9_fill : GoodIn wsX9_reverse wsX9_fill := goodIn_r _ [8, 1, 2, 9, 10, 11, 12, 13, 14, 15, 16] (by decide +kernel) (by decide +kernel)
set_option maxRecDepth 20000 in
theorem gX9_reverse_X9_fill : GoodIn wsX9_reverse (wsV RX9 40 RX9 yX9_fill wsX9_fill) := goodIn_app (goodIn_of _ (by decide +kernel)) ggX9_reverse_X9_fill
theorem dX9_reverse_0 : decode cX9_reverse 0 = .ok (.aload_n 0, 1) := by decide +kernel
theorem dX9_reverse_1 : decode cX9_reverse 1 = .ok (.iload_n 1, 1) := by decide +kernel
theorem dX9_reverse_2 : decode cX9_reverse 2 = .ok (.invokevirtual 40, 3) := by decide +kernel
theorem dX9_reverse_5 : decode cX9_reverse 5 = .ok (.iconst 1, 1) := by decide +kernel
theorem dX9_reverse_6 : decode cX9_reverse 6 = .ok (.isub, 1) := by decide +kernel
theorem dX9_reverse_7 : decode cX9_reverse 7 = .ok (.istore_n 2, 1) := by decide +kernel
theorem dX9_reverse_8 : decode cX9_reverse 8 = .ok (.iconst 0, 1) := by decide +kernel
theorem dX9_reverse_9 : decode cX9_reverse 9 = .ok (.istore_n 3, 1) := by decide +kernel
theorem dX9_reverse_10 : decode cX9_reverse 10 = .ok (.iload_n 3, 1) := by decide +kernel
theorem dX9_reverse_11 : decode cX9_reverse 11 = .ok (.aload_n 0, 1) := by decide +kernel
theorem dX9_reverse_12 : decode cX9_reverse 12 = .ok (.getfield 34, 3) := by decide +kernel
theorem dX9_reverse_15 : decode cX9_reverse 15 = .ok (.if_icmp .ge 33, 3) := by decide +kernel
theorem dX9_reverse_18 : decode cX9_reverse 18 = .ok (.aload_n 0, 1) := by decide +kernel
theorem dX9_reverse_19 : decode cX9_reverse 19 = .ok (.getfield 21, 3) := by decide +kernel
theorem dX9_reverse_22 : decode cX9_reverse 22 = .ok (.iload_n 3, 1) := by decide +kernel
theorem dX9_reverse_23 : decode cX9_reverse 23 = .ok (.iaload, 1) := by decide +kernel
theorem dX9_reverse_24 : decode cX9_reverse 24 = .ok (.iload_n 1, 1) := by decide +kernel
theorem dX9_reverse_25 : decode cX9_reverse 25 = .ok (.if_icmp .ne 17, 3) := by decide +kernel
theorem dX9_reverse_28 : decode cX9_reverse 28 = .ok (.aload_n 0, 1) := by decide +kernel
theorem dX9_reverse_29 : decode cX9_reverse 29 = .ok (.getfield 24, 3) := by decide +kernel
theorem dX9_reverse_32 : decode cX9_reverse 32 = .ok (.iload_n 3, 1) := by decide +kernel
theorem dX9_reverse_33 : decode cX9_reverse 33 = .ok (.iload_n 2, 1) := by decide +kernel
theorem dX9_reverse_34 : decode cX9_reverse 34 = .ok (.aload_n 0, 1) := by decide +kernel
theorem dX9_reverse_35 : decode cX9_reverse 35 = .ok (.getfield 24, 3) := by decide +kernel
theorem dX9_reverse_38 : decode cX9_reverse 38 = .ok (.iload_n 3, 1) := by decide +kernel
theorem dX9_reverse_39 : decode cX9_reverse 39 = .ok (.iaload, 1) := by decide +kernel
theorem dX9_reverse_40 : decode cX9_reverse 40 = .ok (.isub, 1) := by decide +kernel
theorem dX9_reverse_41 : decode cX9_reverse 41 = .ok (.iastore, 1) := by decide +kernel
theorem dX9_reverse_42 : decode cX9_reverse 42 = .ok (.iinc 3 1, 3) := by decide +kernel
theorem dX9_reverse_45 : decode cX9_reverse 45 = .ok (.goto (-35), 3) := by decide +kernel
theorem dX9_reverse_48 : decode cX9_reverse 48 = .ok (.return_, 1) := by decide +kernel
set_option maxRecDepth 20000 in
theorem ggX9_passNight_X4_stirs : GoodIn wsX9_passNight wsX4_stirs := goodIn_r _ [9] (by decide +kernel) (by decide +kernel)
set_option maxRecDepth 20000 in
theorem gX9_passNight_X4_stirs_u56X1 : GoodIn wsX9_passNight (va_wsU RX9 56 RX1 "DrawerCards$Kind" ⟨"DrawerCards$Kind", "stirs", "(I)Z"⟩ yX4_stirs wsX4_stirs) := goodIn_app (goodIn_of _ (by decide +kernel)) ggX9_passNight_X4_stirs
set_option maxRecDepth 20000 in
theorem gX9_passNight_X4_stirs_u56X3 : GoodIn wsX9_passNight (va_wsU RX9 56 RX3 "DrawerCards$Kind" ⟨"DrawerCards$Kind", "stirs", "(I)Z"⟩ yX4_stirs wsX4_stirs) := goodIn_app (goodIn_of _ (by decide +kernel)) ggX9_passNight_X4_stirs
set_option maxRecDepth 20000 in
theorem ggX9_passNight_X5_stirs : GoodIn wsX9_passNight wsX5_stirs := goodIn_r _ [15] (by decide +kernel) (by decide +kernel)
set_option maxRecDepth 20000 in
theorem gX9_passNight_X5_stirs_u56X5 : GoodIn wsX9_passNight (va_wsO RX9 56 RX5 "DrawerCards$Kind" ⟨"DrawerCards$Kind", "stirs", "(I)Z"⟩ yX5_stirs wsX5_stirs) := goodIn_app (goodIn_of _ (by decide +kernel)) ggX9_passNight_X5_stirs
set_option maxRecDepth 20000 in
theorem gX9_passNight_X4_stirs_u56X7 : GoodIn wsX9_passNight (va_wsU RX9 56 RX7 "DrawerCards$Kind" ⟨"DrawerCards$Kind", "stirs", "(I)Z"⟩ yX4_stirs wsX4_stirs) := goodIn_app (goodIn_of _ (by decide +kernel)) ggX9_passNight_X4_stirs
set_option maxRecDepth 20000 in
theorem gX9_passNight_X4_stirs_u56X10 : GoodIn wsX9_passNight (va_wsU RX9 56 RX10 "DrawerCards$Kind" ⟨"DrawerCards$Kind", "stirs", "(I)Z"⟩ yX4_stirs wsX4_stirs) := goodIn_app (goodIn_of _ (by decide +kernel)) ggX9_passNight_X4_stirs
set_option maxRecDepth 20000 in
theorem ggX9_passNight_X1_wander : GoodIn wsX9_passNight wsX1_wander := goodIn_r _ [23, 24, 25, 26, 27, 28, 29, 1, 30, 31, 32, 33, 34, 35, 36, 84, 85, 86, 87, 88, 89, 90, 91] (by decide +kernel) (by decide +kernel)
set_option maxRecDepth 20000 in
theorem gX9_passNight_X1_wander_u59X1 : GoodIn wsX9_passNight (va_wsU RX9 59 RX1 "DrawerCards$Kind" ⟨"DrawerCards$Kind", "wander", "(LDrawerCards$Shelf;I)V"⟩ yX1_wander wsX1_wander) := goodIn_app (goodIn_of _ (by decide +kernel)) ggX9_passNight_X1_wander
set_option maxRecDepth 20000 in
theorem ggX9_passNight_X3_wander : GoodIn wsX9_passNight wsX3_wander := goodIn_r _ [40, 41, 42, 43, 44, 28, 45, 46, 32, 47, 48, 49, 50, 1, 51, 52, 53, 39, 54, 55, 56, 57, 58, 59, 60, 61, 62, 63, 30, 64, 65, 66, 67, 31, 68, 69, 70, 71, 72, 73, 74, 75, 76, 77, 84, 85, 86, 87, 88, 89, 90, 91] (by decide +kernel) (by decide +kernel)
set_option maxRecDepth 20000 in
theorem gX9_passNight_X3_wander_u59X3 : GoodIn wsX9_passNight (va_wsU RX9 59 RX3 "DrawerCards$Kind" ⟨"DrawerCards$Kind", "wander", "(LDrawerCards$Shelf;I)V"⟩ yX3_wander wsX3_wander) := goodIn_app (goodIn_of _ (by decide +kernel)) ggX9_passNight_X3_wander
set_option maxRecDepth 20000 in
theorem gX9_passNight_X3_wander_u59X5 : GoodIn wsX9_passNight (va_wsU RX9 59 RX5 "DrawerCards$Kind" ⟨"DrawerCards$Kind", "wander", "(LDrawerCards$Shelf;I)V"⟩ yX3_wander wsX3_wander) := goodIn_app (goodIn_of _ (by decide +kernel)) ggX9_passNight_X3_wander
set_option maxRecDepth 20000 in
theorem ggX9_passNight_X7_wander : GoodIn wsX9_passNight wsX7_wander := goodIn_r _ [82] (by decide +kernel) (by decide +kernel)
set_option maxRecDepth 20000 in
theorem gX9_passNight_X7_wander_u59X7 : GoodIn wsX9_passNight (va_wsU RX9 59 RX7 "DrawerCards$Kind" ⟨"DrawerCards$Kind", "wander", "(LDrawerCards$Shelf;I)V"⟩ yX7_wander wsX7_wander) := goodIn_app (goodIn_of _ (by decide +kernel)) ggX9_passNight_X7_wander
set_option maxRecDepth 20000 in
theorem gX9_passNight_X3_wander_u59X10 : GoodIn wsX9_passNight (va_wsU RX9 59 RX10 "DrawerCards$Kind" ⟨"DrawerCards$Kind", "wander", "(LDrawerCards$Shelf;I)V"⟩ yX3_wander wsX3_wander) := goodIn_app (goodIn_of _ (by decide +kernel)) ggX9_passNight_X3_wander
theorem dX9_passNight_0 : decode cX9_passNight 0 = .ok (.iconst 0, 1) := by decide +kernel
theorem dX9_passNight_1 : decode cX9_passNight 1 = .ok (.istore_n 2, 1) := by decide +kernel
theorem dX9_passNight_2 : decode cX9_passNight 2 = .ok (.iload_n 2, 1) := by decide +kernel
theorem dX9_passNight_3 : decode cX9_passNight 3 = .ok (.aload_n 0, 1) := by decide +kernel
theorem dX9_passNight_4 : decode cX9_passNight 4 = .ok (.getfield 34, 3) := by decide +kernel
theorem dX9_passNight_7 : decode cX9_passNight 7 = .ok (.if_icmp .ge 45, 3) := by decide +kernel
theorem dX9_passNight_10 : decode cX9_passNight 10 = .ok (.aload_n 0, 1) := by decide +kernel
theorem dX9_passNight_11 : decode cX9_passNight 11 = .ok (.getfield 11, 3) := by decide +kernel
theorem dX9_passNight_14 : decode cX9_passNight 14 = .ok (.iload_n 2, 1) := by decide +kernel
theorem dX9_passNight_15 : decode cX9_passNight 15 = .ok (.aaload, 1) := by decide +kernel
theorem dX9_passNight_16 : decode cX9_passNight 16 = .ok (.astore_n 3, 1) := by decide +kernel
theorem dX9_passNight_17 : decode cX9_passNight 17 = .ok (.aload_n 3, 1) := by decide +kernel
theorem dX9_passNight_18 : decode cX9_passNight 18 = .ok (.ifnull 28, 3) := by decide +kernel
theorem dX9_passNight_21 : decode cX9_passNight 21 = .ok (.iload_n 1, 1) := by decide +kernel
theorem dX9_passNight_22 : decode cX9_passNight 22 = .ok (.iload_n 2, 1) := by decide +kernel
theorem dX9_passNight_23 : decode cX9_passNight 23 = .ok (.ishr, 1) := by decide +kernel
theorem dX9_passNight_24 : decode cX9_passNight 24 = .ok (.iconst 1, 1) := by decide +kernel
theorem dX9_passNight_25 : decode cX9_passNight 25 = .ok (.iand, 1) := by decide +kernel
theorem dX9_passNight_26 : decode cX9_passNight 26 = .ok (.ifCond .ne 20, 3) := by decide +kernel
theorem dX9_passNight_29 : decode cX9_passNight 29 = .ok (.aload_n 3, 1) := by decide +kernel
theorem dX9_passNight_30 : decode cX9_passNight 30 = .ok (.aload_n 0, 1) := by decide +kernel
theorem dX9_passNight_31 : decode cX9_passNight 31 = .ok (.getfield 37, 3) := by decide +kernel
theorem dX9_passNight_34 : decode cX9_passNight 34 = .ok (.invokevirtual 56, 3) := by decide +kernel
theorem dX9_passNight_37 : decode cX9_passNight 37 = .ok (.ifCond .eq 9, 3) := by decide +kernel
theorem dX9_passNight_40 : decode cX9_passNight 40 = .ok (.aload_n 3, 1) := by decide +kernel
theorem dX9_passNight_41 : decode cX9_passNight 41 = .ok (.aload_n 0, 1) := by decide +kernel
theorem dX9_passNight_42 : decode cX9_passNight 42 = .ok (.iload_n 2, 1) := by decide +kernel
theorem dX9_passNight_43 : decode cX9_passNight 43 = .ok (.invokevirtual 59, 3) := by decide +kernel
theorem dX9_passNight_46 : decode cX9_passNight 46 = .ok (.iinc 2 1, 3) := by decide +kernel
theorem dX9_passNight_49 : decode cX9_passNight 49 = .ok (.goto (-47), 3) := by decide +kernel
theorem dX9_passNight_52 : decode cX9_passNight 52 = .ok (.aload_n 0, 1) := by decide +kernel
theorem dX9_passNight_53 : decode cX9_passNight 53 = .ok (.dup, 1) := by decide +kernel
theorem dX9_passNight_54 : decode cX9_passNight 54 = .ok (.getfield 37, 3) := by decide +kernel
theorem dX9_passNight_57 : decode cX9_passNight 57 = .ok (.iconst 1, 1) := by decide +kernel
theorem dX9_passNight_58 : decode cX9_passNight 58 = .ok (.iadd, 1) := by decide +kernel
theorem dX9_passNight_59 : decode cX9_passNight 59 = .ok (.putfield 37, 3) := by decide +kernel
theorem dX9_passNight_62 : decode cX9_passNight 62 = .ok (.return_, 1) := by decide +kernel
set_option maxRecDepth 20000 in
theorem ggX10_init_X3_init : GoodIn wsX10_init wsX3_init := goodIn_r _ [3, 4, 5, 6, 7, 8, 9] (by decide +kernel) (by decide +kernel)
set_option maxRecDepth 20000 in
theorem gX10_init_X3_init_n1 : GoodIn wsX10_init (wsX3_init) := ggX10_init_X3_init
theorem dX10_init_0 : decode cX10_init 0 = .ok (.aload_n 0, 1) := by decide +kernel
theorem dX10_init_1 : decode cX10_init 1 = .ok (.invokespecial 1, 3) := by decide +kernel
theorem dX10_init_4 : decode cX10_init 4 = .ok (.return_, 1) := by decide +kernel
theorem dX10_number_0 : decode cX10_number 0 = .ok (.iconst 3, 1) := by decide +kernel
theorem dX10_number_1 : decode cX10_number 1 = .ok (.ireturn, 1) := by decide +kernel
theorem dX10_letter_0 : decode cX10_letter 0 = .ok (.bipush 119, 2) := by decide +kernel
theorem dX10_letter_2 : decode cX10_letter 2 = .ok (.ireturn, 1) := by decide +kernel
set_option maxRecDepth 20000 in
theorem ggX10_goOver_X9_holdsOneMore : GoodIn wsX10_goOver wsX9_holdsOneMore := goodIn_r _ [5, 6, 7, 8, 9, 4, 10, 11, 12, 22, 23, 24, 25, 26, 27, 28, 29] (by decide +kernel) (by decide +kernel)
set_option maxRecDepth 20000 in
theorem gX10_goOver_X9_holdsOneMore : GoodIn wsX10_goOver (wsV RX10 13 RX9 yX9_holdsOneMore wsX9_holdsOneMore) := goodIn_app (goodIn_of _ (by decide +kernel)) ggX10_goOver_X9_holdsOneMore
set_option maxRecDepth 20000 in
theorem ggX10_goOver_X9_stand : GoodIn wsX10_goOver wsX9_stand := goodIn_r _ [16, 11, 12, 17, 18, 19, 20, 4, 21, 7, 8, 9, 10, 22, 23, 24, 25, 26, 27, 28, 29] (by decide +kernel) (by decide +kernel)
set_option maxRecDepth 20000 in
theorem gX10_goOver_X9_stand : GoodIn wsX10_goOver (wsV RX10 17 RX9 yX9_stand wsX9_stand) := goodIn_app (goodIn_of _ (by decide +kernel)) ggX10_goOver_X9_stand
theorem dX10_goOver_0 : decode cX10_goOver 0 = .ok (.aload_n 1, 1) := by decide +kernel
theorem dX10_goOver_1 : decode cX10_goOver 1 = .ok (.getfield 7, 3) := by decide +kernel
theorem dX10_goOver_4 : decode cX10_goOver 4 = .ok (.iload_n 3, 1) := by decide +kernel
theorem dX10_goOver_5 : decode cX10_goOver 5 = .ok (.iaload, 1) := by decide +kernel
theorem dX10_goOver_6 : decode cX10_goOver 6 = .ok (.istore 4, 2) := by decide +kernel
theorem dX10_goOver_8 : decode cX10_goOver 8 = .ok (.aload_n 1, 1) := by decide +kernel
theorem dX10_goOver_9 : decode cX10_goOver 9 = .ok (.iload 4, 2) := by decide +kernel
theorem dX10_goOver_11 : decode cX10_goOver 11 = .ok (.invokevirtual 13, 3) := by decide +kernel
theorem dX10_goOver_14 : decode cX10_goOver 14 = .ok (.ifCond .eq 11, 3) := by decide +kernel
theorem dX10_goOver_17 : decode cX10_goOver 17 = .ok (.aload_n 1, 1) := by decide +kernel
theorem dX10_goOver_18 : decode cX10_goOver 18 = .ok (.iload_n 2, 1) := by decide +kernel
theorem dX10_goOver_19 : decode cX10_goOver 19 = .ok (.iload 4, 2) := by decide +kernel
theorem dX10_goOver_21 : decode cX10_goOver 21 = .ok (.iload_n 3, 1) := by decide +kernel
theorem dX10_goOver_22 : decode cX10_goOver 22 = .ok (.invokevirtual 17, 3) := by decide +kernel
theorem dX10_goOver_25 : decode cX10_goOver 25 = .ok (.return_, 1) := by decide +kernel
set_option maxRecDepth 20000 in
theorem ggX10_mark_X0_begin : GoodIn wsX10_mark wsX0_begin := goodIn_r _ [5, 6, 7, 22, 23, 24, 25, 26] (by decide +kernel) (by decide +kernel)
set_option maxRecDepth 20000 in
theorem gX10_mark_X0_begin : GoodIn wsX10_mark (wsV RX10 21 RX0 yX0_begin wsX0_begin) := goodIn_app (goodIn_of _ (by decide +kernel)) ggX10_mark_X0_begin
set_option maxRecDepth 20000 in
theorem ggX10_mark_X3_mark : GoodIn wsX10_mark wsX3_mark := goodIn_r _ [13, 14, 2, 3, 4, 5, 6, 7, 15, 16, 17, 18, 19, 20, 21, 22, 23, 24, 25, 26] (by decide +kernel) (by decide +kernel)
set_option maxRecDepth 20000 in
theorem gX10_mark_X3_mark_s27 : GoodIn wsX10_mark (va_wsSU RX10 27 yX3_mark wsX3_mark) := goodIn_app (goodIn_of _ (by decide +kernel)) ggX10_mark_X3_mark
theorem dX10_mark_0 : decode cX10_mark 0 = .ok (.aload_n 1, 1) := by decide +kernel
theorem dX10_mark_1 : decode cX10_mark 1 = .ok (.bipush 22, 2) := by decide +kernel
theorem dX10_mark_3 : decode cX10_mark 3 = .ok (.invokevirtual 21, 3) := by decide +kernel
theorem dX10_mark_6 : decode cX10_mark 6 = .ok (.aload_n 0, 1) := by decide +kernel
theorem dX10_mark_7 : decode cX10_mark 7 = .ok (.aload_n 1, 1) := by decide +kernel
theorem dX10_mark_8 : decode cX10_mark 8 = .ok (.invokespecial 27, 3) := by decide +kernel
theorem dX10_mark_11 : decode cX10_mark 11 = .ok (.sipush 1000, 3) := by decide +kernel
theorem dX10_mark_14 : decode cX10_mark 14 = .ok (.isub, 1) := by decide +kernel
theorem dX10_mark_15 : decode cX10_mark 15 = .ok (.ireturn, 1) := by decide +kernel
set_option maxRecDepth 20000 in
theorem ggX11_init_X9_init : GoodIn wsX11_init wsX9_init := goodIn_r _ [44, 45, 2, 3, 46, 47, 48, 49, 50, 51, 104, 105, 106, 107, 108, 109, 110, 111] (by decide +kernel) (by decide +kernel)
set_option maxRecDepth 20000 in
theorem gX11_init_X9_init_n23 : GoodIn wsX11_init (wsX9_init) := ggX11_init_X9_init
set_option maxRecDepth 20000 in
theorem ggX11_init_X0_init : GoodIn wsX11_init wsX0_init := goodIn_r _ [53, 54, 2, 3, 48, 55, 112, 113, 114, 115, 116] (by decide +kernel) (by decide +kernel)
set_option maxRecDepth 20000 in
theorem gX11_init_X0_init_n37 : GoodIn wsX11_init (wsX0_init) := ggX11_init_X0_init
set_option maxRecDepth 20000 in
theorem ggX11_init_X8_init : GoodIn wsX11_init wsX8_init := goodIn_r _ [57, 58, 2, 3, 48, 59, 60, 117, 118, 119] (by decide +kernel) (by decide +kernel)
set_option maxRecDepth 20000 in
theorem gX11_init_X8_init_n42 : GoodIn wsX11_init (wsX8_init) := ggX11_init_X8_init
set_option maxRecDepth 20000 in
theorem ggX11_init_X3_init : GoodIn wsX11_init wsX3_init := goodIn_r _ [62, 63, 64, 65, 66, 2, 3] (by decide +kernel) (by decide +kernel)
set_option maxRecDepth 20000 in
theorem gX11_init_X3_init_n45 : GoodIn wsX11_init (wsX3_init) := ggX11_init_X3_init
set_option maxRecDepth 20000 in
theorem ggX11_init_X5_init : GoodIn wsX11_init wsX5_init := goodIn_r _ [68, 61, 22, 62, 63, 64, 65, 66, 2, 3] (by decide +kernel) (by decide +kernel)
set_option maxRecDepth 20000 in
theorem gX11_init_X5_init_n48 : GoodIn wsX11_init (wsX5_init) := ggX11_init_X5_init
set_option maxRecDepth 20000 in
theorem ggX11_init_X10_init : GoodIn wsX11_init wsX10_init := goodIn_r _ [70, 61, 22, 62, 63, 64, 65, 66, 2, 3] (by decide +kernel) (by decide +kernel)
set_option maxRecDepth 20000 in
theorem gX11_init_X10_init_n51 : GoodIn wsX11_init (wsX10_init) := ggX11_init_X10_init
set_option maxRecDepth 20000 in
theorem ggX11_init_X7_init : GoodIn wsX11_init wsX7_init := goodIn_r _ [72, 63, 64, 65, 66, 2, 3] (by decide +kernel) (by decide +kernel)
set_option maxRecDepth 20000 in
theorem gX11_init_X7_init_n54 : GoodIn wsX11_init (wsX7_init) := ggX11_init_X7_init
set_option maxRecDepth 20000 in
theorem ggX11_init_X1_init : GoodIn wsX11_init wsX1_init := goodIn_r _ [74, 71, 31, 72, 63, 64, 65, 66, 2, 3] (by decide +kernel) (by decide +kernel)
set_option maxRecDepth 20000 in
theorem gX11_init_X1_init_n57 : GoodIn wsX11_init (wsX1_init) := ggX11_init_X1_init
set_option maxRecDepth 20000 in
theorem ggX11_init_X6_init : GoodIn wsX11_init wsX6_init := goodIn_r _ [77, 78, 2, 3, 48, 79, 80, 9, 10, 81, 82, 43, 44, 45, 46, 47, 49, 50, 51, 120, 121, 122, 123, 124, 125, 126, 127, 128, 129, 104, 105, 106, 107, 108, 109, 110, 111] (by decide +kernel) (by decide +kernel)
set_option maxRecDepth 20000 in
theorem gX11_init_X6_init : GoodIn wsX11_init (wsX6_init) := ggX11_init_X6_init
