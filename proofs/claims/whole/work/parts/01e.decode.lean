theorem dX12_catalogue_1 : decode cX12_catalogue 1 = .ok (.invokevirtual 123, 3) := by decide +kernel
theorem dX12_catalogue_4 : decode cX12_catalogue 4 = .ok (.istore_n 1, 1) := by decide +kernel
theorem dX12_catalogue_5 : decode cX12_catalogue 5 = .ok (.aload_n 0, 1) := by decide +kernel
theorem dX12_catalogue_6 : decode cX12_catalogue 6 = .ok (.iconst 0, 1) := by decide +kernel
theorem dX12_catalogue_7 : decode cX12_catalogue 7 = .ok (.putfield 77, 3) := by decide +kernel
theorem dX12_catalogue_10 : decode cX12_catalogue 10 = .ok (.iload_n 1, 1) := by decide +kernel
theorem dX12_catalogue_11 : decode cX12_catalogue 11 = .ok (.ifCond .ne 19, 3) := by decide +kernel
theorem dX12_catalogue_14 : decode cX12_catalogue 14 = .ok (.aload_n 0, 1) := by decide +kernel
theorem dX12_catalogue_15 : decode cX12_catalogue 15 = .ok (.aload_n 0, 1) := by decide +kernel
theorem dX12_catalogue_16 : decode cX12_catalogue 16 = .ok (.getfield 93, 3) := by decide +kernel
theorem dX12_catalogue_19 : decode cX12_catalogue 19 = .ok (.putfield 126, 3) := by decide +kernel
theorem dX12_catalogue_22 : decode cX12_catalogue 22 = .ok (.ldc 129, 2) := by decide +kernel
theorem dX12_catalogue_24 : decode cX12_catalogue 24 = .ok (.aload_n 0, 1) := by decide +kernel
theorem dX12_catalogue_25 : decode cX12_catalogue 25 = .ok (.getfield 84, 3) := by decide +kernel
theorem dX12_catalogue_28 : decode cX12_catalogue 28 = .ok (.isub, 1) := by decide +kernel
theorem dX12_catalogue_29 : decode cX12_catalogue 29 = .ok (.ireturn, 1) := by decide +kernel
theorem dX12_catalogue_30 : decode cX12_catalogue 30 = .ok (.aload_n 0, 1) := by decide +kernel
theorem dX12_catalogue_31 : decode cX12_catalogue 31 = .ok (.getfield 25, 3) := by decide +kernel
theorem dX12_catalogue_34 : decode cX12_catalogue 34 = .ok (.iconst 0, 1) := by decide +kernel
theorem dX12_catalogue_35 : decode cX12_catalogue 35 = .ok (.aload_n 0, 1) := by decide +kernel
theorem dX12_catalogue_36 : decode cX12_catalogue 36 = .ok (.getfield 22, 3) := by decide +kernel
theorem dX12_catalogue_39 : decode cX12_catalogue 39 = .ok (.iconst 0, 1) := by decide +kernel
theorem dX12_catalogue_40 : decode cX12_catalogue 40 = .ok (.invokestatic 130, 3) := by decide +kernel
theorem dX12_catalogue_43 : decode cX12_catalogue 43 = .ok (.aload_n 0, 1) := by decide +kernel
theorem dX12_catalogue_44 : decode cX12_catalogue 44 = .ok (.iconst 0, 1) := by decide +kernel
theorem dX12_catalogue_45 : decode cX12_catalogue 45 = .ok (.putfield 134, 3) := by decide +kernel
theorem dX12_catalogue_48 : decode cX12_catalogue 48 = .ok (.aload_n 0, 1) := by decide +kernel
theorem dX12_catalogue_49 : decode cX12_catalogue 49 = .ok (.getfield 22, 3) := by decide +kernel
theorem dX12_catalogue_52 : decode cX12_catalogue 52 = .ok (.iconst 3, 1) := by decide +kernel
theorem dX12_catalogue_53 : decode cX12_catalogue 53 = .ok (.iaload, 1) := by decide +kernel
theorem dX12_catalogue_54 : decode cX12_catalogue 54 = .ok (.ireturn, 1) := by decide +kernel
theorem dX12_fault_0 : decode cX12_fault 0 = .ok (.aload_n 0, 1) := by decide +kernel
theorem dX12_fault_1 : decode cX12_fault 1 = .ok (.getfield 126, 3) := by decide +kernel
theorem dX12_fault_4 : decode cX12_fault 4 = .ok (.ireturn, 1) := by decide +kernel
set_option maxRecDepth 20000 in
theorem ggX12_note_X12_lay : GoodIn wsX12_note wsX12_lay := goodIn_r _ [7] (by decide +kernel) (by decide +kernel)
set_option maxRecDepth 20000 in
theorem gX12_note_X12_lay : GoodIn wsX12_note (va_wsS RX12 130 yX12_lay wsX12_lay) := goodIn_app (goodIn_of _ (by decide +kernel)) ggX12_note_X12_lay
theorem dX12_note_0 : decode cX12_note 0 = .ok (.aload_n 0, 1) := by decide +kernel
theorem dX12_note_1 : decode cX12_note 1 = .ok (.getfield 134, 3) := by decide +kernel
theorem dX12_note_4 : decode cX12_note 4 = .ok (.bipush 24, 2) := by decide +kernel
theorem dX12_note_6 : decode cX12_note 6 = .ok (.if_icmp .ne 43, 3) := by decide +kernel
theorem dX12_note_9 : decode cX12_note 9 = .ok (.iconst 0, 1) := by decide +kernel
theorem dX12_note_10 : decode cX12_note 10 = .ok (.istore_n 1, 1) := by decide +kernel
theorem dX12_note_11 : decode cX12_note 11 = .ok (.iload_n 1, 1) := by decide +kernel
theorem dX12_note_12 : decode cX12_note 12 = .ok (.sipush 851, 3) := by decide +kernel
theorem dX12_note_15 : decode cX12_note 15 = .ok (.if_icmp .ge 24, 3) := by decide +kernel
theorem dX12_note_18 : decode cX12_note 18 = .ok (.aload_n 0, 1) := by decide +kernel
theorem dX12_note_19 : decode cX12_note 19 = .ok (.getfield 41, 3) := by decide +kernel
theorem dX12_note_22 : decode cX12_note 22 = .ok (.iload_n 1, 1) := by decide +kernel
theorem dX12_note_23 : decode cX12_note 23 = .ok (.aload_n 0, 1) := by decide +kernel
theorem dX12_note_24 : decode cX12_note 24 = .ok (.getfield 41, 3) := by decide +kernel
theorem dX12_note_27 : decode cX12_note 27 = .ok (.iload_n 1, 1) := by decide +kernel
theorem dX12_note_28 : decode cX12_note 28 = .ok (.bipush 37, 2) := by decide +kernel
theorem dX12_note_30 : decode cX12_note 30 = .ok (.iadd, 1) := by decide +kernel
theorem dX12_note_31 : decode cX12_note 31 = .ok (.iaload, 1) := by decide +kernel
theorem dX12_note_32 : decode cX12_note 32 = .ok (.iastore, 1) := by decide +kernel
theorem dX12_note_33 : decode cX12_note 33 = .ok (.iinc 1 1, 3) := by decide +kernel
theorem dX12_note_36 : decode cX12_note 36 = .ok (.goto (-25), 3) := by decide +kernel
theorem dX12_note_39 : decode cX12_note 39 = .ok (.aload_n 0, 1) := by decide +kernel
theorem dX12_note_40 : decode cX12_note 40 = .ok (.dup, 1) := by decide +kernel
theorem dX12_note_41 : decode cX12_note 41 = .ok (.getfield 134, 3) := by decide +kernel
theorem dX12_note_44 : decode cX12_note 44 = .ok (.iconst 1, 1) := by decide +kernel
theorem dX12_note_45 : decode cX12_note 45 = .ok (.isub, 1) := by decide +kernel
theorem dX12_note_46 : decode cX12_note 46 = .ok (.putfield 134, 3) := by decide +kernel
theorem dX12_note_49 : decode cX12_note 49 = .ok (.aload_n 0, 1) := by decide +kernel
theorem dX12_note_50 : decode cX12_note 50 = .ok (.getfield 22, 3) := by decide +kernel
theorem dX12_note_53 : decode cX12_note 53 = .ok (.iconst 0, 1) := by decide +kernel
theorem dX12_note_54 : decode cX12_note 54 = .ok (.aload_n 0, 1) := by decide +kernel
theorem dX12_note_55 : decode cX12_note 55 = .ok (.getfield 41, 3) := by decide +kernel
theorem dX12_note_58 : decode cX12_note 58 = .ok (.bipush 37, 2) := by decide +kernel
theorem dX12_note_60 : decode cX12_note 60 = .ok (.aload_n 0, 1) := by decide +kernel
theorem dX12_note_61 : decode cX12_note 61 = .ok (.getfield 134, 3) := by decide +kernel
theorem dX12_note_64 : decode cX12_note 64 = .ok (.imul, 1) := by decide +kernel
theorem dX12_note_65 : decode cX12_note 65 = .ok (.invokestatic 130, 3) := by decide +kernel
theorem dX12_note_68 : decode cX12_note 68 = .ok (.aload_n 0, 1) := by decide +kernel
theorem dX12_note_69 : decode cX12_note 69 = .ok (.dup, 1) := by decide +kernel
theorem dX12_note_70 : decode cX12_note 70 = .ok (.getfield 134, 3) := by decide +kernel
theorem dX12_note_73 : decode cX12_note 73 = .ok (.iconst 1, 1) := by decide +kernel
theorem dX12_note_74 : decode cX12_note 74 = .ok (.iadd, 1) := by decide +kernel
theorem dX12_note_75 : decode cX12_note 75 = .ok (.putfield 134, 3) := by decide +kernel
theorem dX12_note_78 : decode cX12_note 78 = .ok (.return_, 1) := by decide +kernel
theorem dX12_cardAt_0 : decode cX12_cardAt 0 = .ok (.ldc 137, 2) := by decide +kernel
theorem dX12_cardAt_2 : decode cX12_cardAt 2 = .ok (.istore_n 3, 1) := by decide +kernel
theorem dX12_cardAt_3 : decode cX12_cardAt 3 = .ok (.iconst 0, 1) := by decide +kernel
theorem dX12_cardAt_4 : decode cX12_cardAt 4 = .ok (.istore 4, 2) := by decide +kernel
theorem dX12_cardAt_6 : decode cX12_cardAt 6 = .ok (.iload 4, 2) := by decide +kernel
theorem dX12_cardAt_8 : decode cX12_cardAt 8 = .ok (.aload_n 0, 1) := by decide +kernel
theorem dX12_cardAt_9 : decode cX12_cardAt 9 = .ok (.iconst 3, 1) := by decide +kernel
theorem dX12_cardAt_10 : decode cX12_cardAt 10 = .ok (.iaload, 1) := by decide +kernel
theorem dX12_cardAt_11 : decode cX12_cardAt 11 = .ok (.if_icmp .ge 38, 3) := by decide +kernel
theorem dX12_cardAt_14 : decode cX12_cardAt 14 = .ok (.aload_n 0, 1) := by decide +kernel
theorem dX12_cardAt_15 : decode cX12_cardAt 15 = .ok (.bipush 21, 2) := by decide +kernel
theorem dX12_cardAt_17 : decode cX12_cardAt 17 = .ok (.iload 4, 2) := by decide +kernel
theorem dX12_cardAt_19 : decode cX12_cardAt 19 = .ok (.iadd, 1) := by decide +kernel
theorem dX12_cardAt_20 : decode cX12_cardAt 20 = .ok (.iaload, 1) := by decide +kernel
theorem dX12_cardAt_21 : decode cX12_cardAt 21 = .ok (.iload_n 1, 1) := by decide +kernel
theorem dX12_cardAt_22 : decode cX12_cardAt 22 = .ok (.if_icmp .ne 19, 3) := by decide +kernel
theorem dX12_cardAt_25 : decode cX12_cardAt 25 = .ok (.aload_n 0, 1) := by decide +kernel
theorem dX12_cardAt_26 : decode cX12_cardAt 26 = .ok (.bipush 29, 2) := by decide +kernel
theorem dX12_cardAt_28 : decode cX12_cardAt 28 = .ok (.iload 4, 2) := by decide +kernel
theorem dX12_cardAt_30 : decode cX12_cardAt 30 = .ok (.iadd, 1) := by decide +kernel
theorem dX12_cardAt_31 : decode cX12_cardAt 31 = .ok (.iaload, 1) := by decide +kernel
theorem dX12_cardAt_32 : decode cX12_cardAt 32 = .ok (.iload_n 2, 1) := by decide +kernel
theorem dX12_cardAt_33 : decode cX12_cardAt 33 = .ok (.if_icmp .ne 8, 3) := by decide +kernel
theorem dX12_cardAt_36 : decode cX12_cardAt 36 = .ok (.iload 4, 2) := by decide +kernel
theorem dX12_cardAt_38 : decode cX12_cardAt 38 = .ok (.goto 4, 3) := by decide +kernel
theorem dX12_cardAt_41 : decode cX12_cardAt 41 = .ok (.iload_n 3, 1) := by decide +kernel
theorem dX12_cardAt_42 : decode cX12_cardAt 42 = .ok (.istore_n 3, 1) := by decide +kernel
theorem dX12_cardAt_43 : decode cX12_cardAt 43 = .ok (.iinc 4 1, 3) := by decide +kernel
theorem dX12_cardAt_46 : decode cX12_cardAt 46 = .ok (.goto (-40), 3) := by decide +kernel
theorem dX12_cardAt_49 : decode cX12_cardAt 49 = .ok (.iload_n 3, 1) := by decide +kernel
theorem dX12_cardAt_50 : decode cX12_cardAt 50 = .ok (.ireturn, 1) := by decide +kernel
theorem dX12_goesOut_0 : decode cX12_goesOut 0 = .ok (.iconst 0, 1) := by decide +kernel
theorem dX12_goesOut_1 : decode cX12_goesOut 1 = .ok (.istore_n 2, 1) := by decide +kernel
theorem dX12_goesOut_2 : decode cX12_goesOut 2 = .ok (.iload_n 2, 1) := by decide +kernel
theorem dX12_goesOut_3 : decode cX12_goesOut 3 = .ok (.aload_n 0, 1) := by decide +kernel
theorem dX12_goesOut_4 : decode cX12_goesOut 4 = .ok (.iconst 3, 1) := by decide +kernel
theorem dX12_goesOut_5 : decode cX12_goesOut 5 = .ok (.iaload, 1) := by decide +kernel
theorem dX12_goesOut_6 : decode cX12_goesOut 6 = .ok (.if_icmp .ge 53, 3) := by decide +kernel
theorem dX12_goesOut_9 : decode cX12_goesOut 9 = .ok (.aload_n 0, 1) := by decide +kernel
theorem dX12_goesOut_10 : decode cX12_goesOut 10 = .ok (.bipush 29, 2) := by decide +kernel
theorem dX12_goesOut_12 : decode cX12_goesOut 12 = .ok (.iload_n 2, 1) := by decide +kernel
theorem dX12_goesOut_13 : decode cX12_goesOut 13 = .ok (.iadd, 1) := by decide +kernel
theorem dX12_goesOut_14 : decode cX12_goesOut 14 = .ok (.dup2, 1) := by decide +kernel
theorem dX12_goesOut_15 : decode cX12_goesOut 15 = .ok (.iaload, 1) := by decide +kernel
theorem dX12_goesOut_16 : decode cX12_goesOut 16 = .ok (.aload_n 0, 1) := by decide +kernel
theorem dX12_goesOut_17 : decode cX12_goesOut 17 = .ok (.bipush 21, 2) := by decide +kernel
theorem dX12_goesOut_19 : decode cX12_goesOut 19 = .ok (.iload_n 2, 1) := by decide +kernel
theorem dX12_goesOut_20 : decode cX12_goesOut 20 = .ok (.iadd, 1) := by decide +kernel
theorem dX12_goesOut_21 : decode cX12_goesOut 21 = .ok (.iaload, 1) := by decide +kernel
theorem dX12_goesOut_22 : decode cX12_goesOut 22 = .ok (.aload_n 0, 1) := by decide +kernel
theorem dX12_goesOut_23 : decode cX12_goesOut 23 = .ok (.bipush 21, 2) := by decide +kernel
theorem dX12_goesOut_25 : decode cX12_goesOut 25 = .ok (.iload_n 1, 1) := by decide +kernel
theorem dX12_goesOut_26 : decode cX12_goesOut 26 = .ok (.iadd, 1) := by decide +kernel
theorem dX12_goesOut_27 : decode cX12_goesOut 27 = .ok (.iaload, 1) := by decide +kernel
theorem dX12_goesOut_28 : decode cX12_goesOut 28 = .ok (.if_icmp .ne 22, 3) := by decide +kernel
theorem dX12_goesOut_31 : decode cX12_goesOut 31 = .ok (.aload_n 0, 1) := by decide +kernel
theorem dX12_goesOut_32 : decode cX12_goesOut 32 = .ok (.bipush 29, 2) := by decide +kernel
theorem dX12_goesOut_34 : decode cX12_goesOut 34 = .ok (.iload_n 2, 1) := by decide +kernel
theorem dX12_goesOut_35 : decode cX12_goesOut 35 = .ok (.iadd, 1) := by decide +kernel
theorem dX12_goesOut_36 : decode cX12_goesOut 36 = .ok (.iaload, 1) := by decide +kernel
theorem dX12_goesOut_37 : decode cX12_goesOut 37 = .ok (.aload_n 0, 1) := by decide +kernel
theorem dX12_goesOut_38 : decode cX12_goesOut 38 = .ok (.bipush 29, 2) := by decide +kernel
theorem dX12_goesOut_40 : decode cX12_goesOut 40 = .ok (.iload_n 1, 1) := by decide +kernel
theorem dX12_goesOut_41 : decode cX12_goesOut 41 = .ok (.iadd, 1) := by decide +kernel
theorem dX12_goesOut_42 : decode cX12_goesOut 42 = .ok (.iaload, 1) := by decide +kernel
theorem dX12_goesOut_43 : decode cX12_goesOut 43 = .ok (.if_icmp .le 7, 3) := by decide +kernel
theorem dX12_goesOut_46 : decode cX12_goesOut 46 = .ok (.iconst 1, 1) := by decide +kernel
theorem dX12_goesOut_47 : decode cX12_goesOut 47 = .ok (.goto 4, 3) := by decide +kernel
theorem dX12_goesOut_50 : decode cX12_goesOut 50 = .ok (.iconst 0, 1) := by decide +kernel
theorem dX12_goesOut_51 : decode cX12_goesOut 51 = .ok (.isub, 1) := by decide +kernel
theorem dX12_goesOut_52 : decode cX12_goesOut 52 = .ok (.iastore, 1) := by decide +kernel
theorem dX12_goesOut_53 : decode cX12_goesOut 53 = .ok (.iinc 2 1, 3) := by decide +kernel
theorem dX12_goesOut_56 : decode cX12_goesOut 56 = .ok (.goto (-54), 3) := by decide +kernel
theorem dX12_goesOut_59 : decode cX12_goesOut 59 = .ok (.aload_n 0, 1) := by decide +kernel
theorem dX12_goesOut_60 : decode cX12_goesOut 60 = .ok (.bipush 21, 2) := by decide +kernel
theorem dX12_goesOut_62 : decode cX12_goesOut 62 = .ok (.iload_n 1, 1) := by decide +kernel
theorem dX12_goesOut_63 : decode cX12_goesOut 63 = .ok (.iadd, 1) := by decide +kernel
theorem dX12_goesOut_64 : decode cX12_goesOut 64 = .ok (.iconst (-1), 1) := by decide +kernel
theorem dX12_goesOut_65 : decode cX12_goesOut 65 = .ok (.iastore, 1) := by decide +kernel
theorem dX12_goesOut_66 : decode cX12_goesOut 66 = .ok (.return_, 1) := by decide +kernel
theorem dX12_comesIn_0 : decode cX12_comesIn 0 = .ok (.iconst 0, 1) := by decide +kernel
theorem dX12_comesIn_1 : decode cX12_comesIn 1 = .ok (.istore 4, 2) := by decide +kernel
theorem dX12_comesIn_3 : decode cX12_comesIn 3 = .ok (.iload 4, 2) := by decide +kernel
theorem dX12_comesIn_5 : decode cX12_comesIn 5 = .ok (.aload_n 0, 1) := by decide +kernel
theorem dX12_comesIn_6 : decode cX12_comesIn 6 = .ok (.iconst 3, 1) := by decide +kernel
theorem dX12_comesIn_7 : decode cX12_comesIn 7 = .ok (.iaload, 1) := by decide +kernel
theorem dX12_comesIn_8 : decode cX12_comesIn 8 = .ok (.if_icmp .ge 46, 3) := by decide +kernel
theorem dX12_comesIn_11 : decode cX12_comesIn 11 = .ok (.aload_n 0, 1) := by decide +kernel
theorem dX12_comesIn_12 : decode cX12_comesIn 12 = .ok (.bipush 29, 2) := by decide +kernel
theorem dX12_comesIn_14 : decode cX12_comesIn 14 = .ok (.iload 4, 2) := by decide +kernel
theorem dX12_comesIn_16 : decode cX12_comesIn 16 = .ok (.iadd, 1) := by decide +kernel
theorem dX12_comesIn_17 : decode cX12_comesIn 17 = .ok (.dup2, 1) := by decide +kernel
theorem dX12_comesIn_18 : decode cX12_comesIn 18 = .ok (.iaload, 1) := by decide +kernel
theorem dX12_comesIn_19 : decode cX12_comesIn 19 = .ok (.aload_n 0, 1) := by decide +kernel
theorem dX12_comesIn_20 : decode cX12_comesIn 20 = .ok (.bipush 21, 2) := by decide +kernel
theorem dX12_comesIn_22 : decode cX12_comesIn 22 = .ok (.iload 4, 2) := by decide +kernel
theorem dX12_comesIn_24 : decode cX12_comesIn 24 = .ok (.iadd, 1) := by decide +kernel
theorem dX12_comesIn_25 : decode cX12_comesIn 25 = .ok (.iaload, 1) := by decide +kernel
theorem dX12_comesIn_26 : decode cX12_comesIn 26 = .ok (.iload_n 2, 1) := by decide +kernel
theorem dX12_comesIn_27 : decode cX12_comesIn 27 = .ok (.if_icmp .ne 18, 3) := by decide +kernel
theorem dX12_comesIn_30 : decode cX12_comesIn 30 = .ok (.aload_n 0, 1) := by decide +kernel
theorem dX12_comesIn_31 : decode cX12_comesIn 31 = .ok (.bipush 29, 2) := by decide +kernel
theorem dX12_comesIn_33 : decode cX12_comesIn 33 = .ok (.iload 4, 2) := by decide +kernel
theorem dX12_comesIn_35 : decode cX12_comesIn 35 = .ok (.iadd, 1) := by decide +kernel
theorem dX12_comesIn_36 : decode cX12_comesIn 36 = .ok (.iaload, 1) := by decide +kernel
theorem dX12_comesIn_37 : decode cX12_comesIn 37 = .ok (.iload_n 3, 1) := by decide +kernel
theorem dX12_comesIn_38 : decode cX12_comesIn 38 = .ok (.if_icmp .lt 7, 3) := by decide +kernel
theorem dX12_comesIn_41 : decode cX12_comesIn 41 = .ok (.iconst 1, 1) := by decide +kernel
theorem dX12_comesIn_42 : decode cX12_comesIn 42 = .ok (.goto 4, 3) := by decide +kernel
theorem dX12_comesIn_45 : decode cX12_comesIn 45 = .ok (.iconst 0, 1) := by decide +kernel
theorem dX12_comesIn_46 : decode cX12_comesIn 46 = .ok (.iadd, 1) := by decide +kernel
theorem dX12_comesIn_47 : decode cX12_comesIn 47 = .ok (.iastore, 1) := by decide +kernel
theorem dX12_comesIn_48 : decode cX12_comesIn 48 = .ok (.iinc 4 1, 3) := by decide +kernel
theorem dX12_comesIn_51 : decode cX12_comesIn 51 = .ok (.goto (-48), 3) := by decide +kernel
theorem dX12_comesIn_54 : decode cX12_comesIn 54 = .ok (.aload_n 0, 1) := by decide +kernel
theorem dX12_comesIn_55 : decode cX12_comesIn 55 = .ok (.bipush 21, 2) := by decide +kernel
theorem dX12_comesIn_57 : decode cX12_comesIn 57 = .ok (.iload_n 1, 1) := by decide +kernel
theorem dX12_comesIn_58 : decode cX12_comesIn 58 = .ok (.iadd, 1) := by decide +kernel
theorem dX12_comesIn_59 : decode cX12_comesIn 59 = .ok (.iload_n 2, 1) := by decide +kernel
theorem dX12_comesIn_60 : decode cX12_comesIn 60 = .ok (.iastore, 1) := by decide +kernel
theorem dX12_comesIn_61 : decode cX12_comesIn 61 = .ok (.aload_n 0, 1) := by decide +kernel
theorem dX12_comesIn_62 : decode cX12_comesIn 62 = .ok (.bipush 29, 2) := by decide +kernel
theorem dX12_comesIn_64 : decode cX12_comesIn 64 = .ok (.iload_n 1, 1) := by decide +kernel
theorem dX12_comesIn_65 : decode cX12_comesIn 65 = .ok (.iadd, 1) := by decide +kernel
theorem dX12_comesIn_66 : decode cX12_comesIn 66 = .ok (.iload_n 3, 1) := by decide +kernel
theorem dX12_comesIn_67 : decode cX12_comesIn 67 = .ok (.iastore, 1) := by decide +kernel
theorem dX12_comesIn_68 : decode cX12_comesIn 68 = .ok (.return_, 1) := by decide +kernel
set_option maxRecDepth 20000 in
theorem ggX12_goesBehind_X12_goesOut : GoodIn wsX12_goesBehind wsX12_goesOut := goodIn_r _ [4] (by decide +kernel) (by decide +kernel)
set_option maxRecDepth 20000 in
theorem gX12_goesBehind_X12_goesOut : GoodIn wsX12_goesBehind (va_wsS RX12 138 yX12_goesOut wsX12_goesOut) := goodIn_app (goodIn_of _ (by decide +kernel)) ggX12_goesBehind_X12_goesOut
set_option maxRecDepth 20000 in
theorem ggX12_goesBehind_X12_inDrawer : GoodIn wsX12_goesBehind wsX12_inDrawer := goodIn_r _ [7] (by decide +kernel) (by decide +kernel)
set_option maxRecDepth 20000 in
theorem gX12_goesBehind_X12_inDrawer : GoodIn wsX12_goesBehind (va_wsS RX12 112 yX12_inDrawer wsX12_inDrawer) := goodIn_app (goodIn_of _ (by decide +kernel)) ggX12_goesBehind_X12_inDrawer
set_option maxRecDepth 20000 in
theorem ggX12_goesBehind_X12_comesIn : GoodIn wsX12_goesBehind wsX12_comesIn := goodIn_r _ [10] (by decide +kernel) (by decide +kernel)
set_option maxRecDepth 20000 in
theorem gX12_goesBehind_X12_comesIn : GoodIn wsX12_goesBehind (va_wsS RX12 142 yX12_comesIn wsX12_comesIn) := goodIn_app (goodIn_of _ (by decide +kernel)) ggX12_goesBehind_X12_comesIn
theorem dX12_goesBehind_0 : decode cX12_goesBehind 0 = .ok (.aload_n 0, 1) := by decide +kernel
theorem dX12_goesBehind_1 : decode cX12_goesBehind 1 = .ok (.iload_n 1, 1) := by decide +kernel
theorem dX12_goesBehind_2 : decode cX12_goesBehind 2 = .ok (.invokestatic 138, 3) := by decide +kernel
theorem dX12_goesBehind_5 : decode cX12_goesBehind 5 = .ok (.aload_n 0, 1) := by decide +kernel
theorem dX12_goesBehind_6 : decode cX12_goesBehind 6 = .ok (.iload_n 1, 1) := by decide +kernel
theorem dX12_goesBehind_7 : decode cX12_goesBehind 7 = .ok (.iload_n 2, 1) := by decide +kernel
theorem dX12_goesBehind_8 : decode cX12_goesBehind 8 = .ok (.aload_n 0, 1) := by decide +kernel
theorem dX12_goesBehind_9 : decode cX12_goesBehind 9 = .ok (.iload_n 2, 1) := by decide +kernel
theorem dX12_goesBehind_10 : decode cX12_goesBehind 10 = .ok (.invokestatic 112, 3) := by decide +kernel
theorem dX12_goesBehind_13 : decode cX12_goesBehind 13 = .ok (.invokestatic 142, 3) := by decide +kernel
theorem dX12_goesBehind_16 : decode cX12_goesBehind 16 = .ok (.return_, 1) := by decide +kernel
set_option maxRecDepth 20000 in
theorem ggX12_goesBy_X12_goesOut : GoodIn wsX12_goesBy wsX12_goesOut := goodIn_r _ [4] (by decide +kernel) (by decide +kernel)
set_option maxRecDepth 20000 in
theorem gX12_goesBy_X12_goesOut : GoodIn wsX12_goesBy (va_wsS RX12 138 yX12_goesOut wsX12_goesOut) := goodIn_app (goodIn_of _ (by decide +kernel)) ggX12_goesBy_X12_goesOut
set_option maxRecDepth 20000 in
theorem ggX12_goesBy_X12_comesIn : GoodIn wsX12_goesBy wsX12_comesIn := goodIn_r _ [7] (by decide +kernel) (by decide +kernel)
set_option maxRecDepth 20000 in
theorem gX12_goesBy_X12_comesIn : GoodIn wsX12_goesBy (va_wsS RX12 142 yX12_comesIn wsX12_comesIn) := goodIn_app (goodIn_of _ (by decide +kernel)) ggX12_goesBy_X12_comesIn
theorem dX12_goesBy_0 : decode cX12_goesBy 0 = .ok (.aload_n 0, 1) := by decide +kernel
theorem dX12_goesBy_1 : decode cX12_goesBy 1 = .ok (.iload_n 1, 1) := by decide +kernel
theorem dX12_goesBy_2 : decode cX12_goesBy 2 = .ok (.invokestatic 138, 3) := by decide +kernel
theorem dX12_goesBy_5 : decode cX12_goesBy 5 = .ok (.aload_n 0, 1) := by decide +kernel
theorem dX12_goesBy_6 : decode cX12_goesBy 6 = .ok (.iload_n 1, 1) := by decide +kernel
theorem dX12_goesBy_7 : decode cX12_goesBy 7 = .ok (.aload_n 0, 1) := by decide +kernel
theorem dX12_goesBy_8 : decode cX12_goesBy 8 = .ok (.bipush 21, 2) := by decide +kernel
theorem dX12_goesBy_10 : decode cX12_goesBy 10 = .ok (.iload_n 2, 1) := by decide +kernel
theorem dX12_goesBy_11 : decode cX12_goesBy 11 = .ok (.iadd, 1) := by decide +kernel
theorem dX12_goesBy_12 : decode cX12_goesBy 12 = .ok (.iaload, 1) := by decide +kernel
theorem dX12_goesBy_13 : decode cX12_goesBy 13 = .ok (.aload_n 0, 1) := by decide +kernel
theorem dX12_goesBy_14 : decode cX12_goesBy 14 = .ok (.bipush 29, 2) := by decide +kernel
theorem dX12_goesBy_16 : decode cX12_goesBy 16 = .ok (.iload_n 2, 1) := by decide +kernel
theorem dX12_goesBy_17 : decode cX12_goesBy 17 = .ok (.iadd, 1) := by decide +kernel
theorem dX12_goesBy_18 : decode cX12_goesBy 18 = .ok (.iaload, 1) := by decide +kernel
theorem dX12_goesBy_19 : decode cX12_goesBy 19 = .ok (.iconst 1, 1) := by decide +kernel
theorem dX12_goesBy_20 : decode cX12_goesBy 20 = .ok (.iadd, 1) := by decide +kernel
theorem dX12_goesBy_21 : decode cX12_goesBy 21 = .ok (.invokestatic 142, 3) := by decide +kernel
theorem dX12_goesBy_24 : decode cX12_goesBy 24 = .ok (.return_, 1) := by decide +kernel
set_option maxRecDepth 20000 in
theorem ggX12_turnFree_X12_goesBy : GoodIn wsX12_turnFree wsX12_goesBy := goodIn_r _ [4, 5, 6, 3, 7, 8, 9, 10] (by decide +kernel) (by decide +kernel)
set_option maxRecDepth 20000 in
theorem gX12_turnFree_X12_goesBy : GoodIn wsX12_turnFree (va_wsS RX12 146 yX12_goesBy wsX12_goesBy) := goodIn_app (goodIn_of _ (by decide +kernel)) ggX12_turnFree_X12_goesBy
set_option maxRecDepth 20000 in
theorem ggX12_turnFree_X12_inDrawer : GoodIn wsX12_turnFree wsX12_inDrawer := goodIn_r _ [13] (by decide +kernel) (by decide +kernel)
set_option maxRecDepth 20000 in
theorem gX12_turnFree_X12_inDrawer : GoodIn wsX12_turnFree (va_wsS RX12 112 yX12_inDrawer wsX12_inDrawer) := goodIn_app (goodIn_of _ (by decide +kernel)) ggX12_turnFree_X12_inDrawer
set_option maxRecDepth 20000 in
theorem ggX12_turnFree_X12_goesBehind : GoodIn wsX12_turnFree wsX12_goesBehind := goodIn_r _ [16, 5, 6, 3, 7, 11, 12, 13, 8, 9, 10] (by decide +kernel) (by decide +kernel)
set_option maxRecDepth 20000 in
theorem gX12_turnFree_X12_goesBehind : GoodIn wsX12_turnFree (va_wsS RX12 150 yX12_goesBehind wsX12_goesBehind) := goodIn_app (goodIn_of _ (by decide +kernel)) ggX12_turnFree_X12_goesBehind
theorem dX12_turnFree_0 : decode cX12_turnFree 0 = .ok (.aload_n 0, 1) := by decide +kernel
theorem dX12_turnFree_1 : decode cX12_turnFree 1 = .ok (.bipush 21, 2) := by decide +kernel
theorem dX12_turnFree_3 : decode cX12_turnFree 3 = .ok (.iload_n 1, 1) := by decide +kernel
theorem dX12_turnFree_4 : decode cX12_turnFree 4 = .ok (.iadd, 1) := by decide +kernel
theorem dX12_turnFree_5 : decode cX12_turnFree 5 = .ok (.iaload, 1) := by decide +kernel
theorem dX12_turnFree_6 : decode cX12_turnFree 6 = .ok (.istore_n 3, 1) := by decide +kernel
theorem dX12_turnFree_7 : decode cX12_turnFree 7 = .ok (.aload_n 0, 1) := by decide +kernel
theorem dX12_turnFree_8 : decode cX12_turnFree 8 = .ok (.bipush 21, 2) := by decide +kernel
theorem dX12_turnFree_10 : decode cX12_turnFree 10 = .ok (.iload_n 2, 1) := by decide +kernel
theorem dX12_turnFree_11 : decode cX12_turnFree 11 = .ok (.iadd, 1) := by decide +kernel
theorem dX12_turnFree_12 : decode cX12_turnFree 12 = .ok (.iaload, 1) := by decide +kernel
theorem dX12_turnFree_13 : decode cX12_turnFree 13 = .ok (.istore 4, 2) := by decide +kernel
theorem dX12_turnFree_15 : decode cX12_turnFree 15 = .ok (.iload_n 3, 1) := by decide +kernel
theorem dX12_turnFree_16 : decode cX12_turnFree 16 = .ok (.iload 4, 2) := by decide +kernel
theorem dX12_turnFree_18 : decode cX12_turnFree 18 = .ok (.if_icmp .ne 10, 3) := by decide +kernel
theorem dX12_turnFree_21 : decode cX12_turnFree 21 = .ok (.aload_n 0, 1) := by decide +kernel
theorem dX12_turnFree_22 : decode cX12_turnFree 22 = .ok (.iload_n 1, 1) := by decide +kernel
theorem dX12_turnFree_23 : decode cX12_turnFree 23 = .ok (.iload_n 2, 1) := by decide +kernel
theorem dX12_turnFree_24 : decode cX12_turnFree 24 = .ok (.invokestatic 146, 3) := by decide +kernel
theorem dX12_turnFree_27 : decode cX12_turnFree 27 = .ok (.return_, 1) := by decide +kernel
theorem dX12_turnFree_28 : decode cX12_turnFree 28 = .ok (.iload 4, 2) := by decide +kernel
theorem dX12_turnFree_30 : decode cX12_turnFree 30 = .ok (.iload_n 3, 1) := by decide +kernel
theorem dX12_turnFree_31 : decode cX12_turnFree 31 = .ok (.if_icmp .le 9, 3) := by decide +kernel
theorem dX12_turnFree_34 : decode cX12_turnFree 34 = .ok (.iload_n 3, 1) := by decide +kernel
theorem dX12_turnFree_35 : decode cX12_turnFree 35 = .ok (.iconst 1, 1) := by decide +kernel
theorem dX12_turnFree_36 : decode cX12_turnFree 36 = .ok (.iadd, 1) := by decide +kernel
theorem dX12_turnFree_37 : decode cX12_turnFree 37 = .ok (.goto 6, 3) := by decide +kernel
theorem dX12_turnFree_40 : decode cX12_turnFree 40 = .ok (.iload_n 3, 1) := by decide +kernel
theorem dX12_turnFree_41 : decode cX12_turnFree 41 = .ok (.iconst 1, 1) := by decide +kernel
theorem dX12_turnFree_42 : decode cX12_turnFree 42 = .ok (.isub, 1) := by decide +kernel
theorem dX12_turnFree_43 : decode cX12_turnFree 43 = .ok (.istore 5, 2) := by decide +kernel
theorem dX12_turnFree_45 : decode cX12_turnFree 45 = .ok (.aload_n 0, 1) := by decide +kernel
theorem dX12_turnFree_46 : decode cX12_turnFree 46 = .ok (.iload 5, 2) := by decide +kernel
theorem dX12_turnFree_48 : decode cX12_turnFree 48 = .ok (.invokestatic 112, 3) := by decide +kernel
theorem dX12_turnFree_51 : decode cX12_turnFree 51 = .ok (.aload_n 0, 1) := by decide +kernel
theorem dX12_turnFree_52 : decode cX12_turnFree 52 = .ok (.iconst 2, 1) := by decide +kernel
theorem dX12_turnFree_53 : decode cX12_turnFree 53 = .ok (.iaload, 1) := by decide +kernel
theorem dX12_turnFree_54 : decode cX12_turnFree 54 = .ok (.if_icmp .ge 10, 3) := by decide +kernel
theorem dX12_turnFree_57 : decode cX12_turnFree 57 = .ok (.aload_n 0, 1) := by decide +kernel
theorem dX12_turnFree_58 : decode cX12_turnFree 58 = .ok (.iload_n 1, 1) := by decide +kernel
theorem dX12_turnFree_59 : decode cX12_turnFree 59 = .ok (.iload 5, 2) := by decide +kernel
theorem dX12_turnFree_61 : decode cX12_turnFree 61 = .ok (.invokestatic 150, 3) := by decide +kernel
theorem dX12_turnFree_64 : decode cX12_turnFree 64 = .ok (.return_, 1) := by decide +kernel
set_option maxRecDepth 20000 in
theorem ggX12_turnBlank_X12_cardAt : GoodIn wsX12_turnBlank wsX12_cardAt := goodIn_r _ [4, 5] (by decide +kernel) (by decide +kernel)
set_option maxRecDepth 20000 in
theorem gX12_turnBlank_X12_cardAt : GoodIn wsX12_turnBlank (va_wsS RX12 153 yX12_cardAt wsX12_cardAt) := goodIn_app (goodIn_of _ (by decide +kernel)) ggX12_turnBlank_X12_cardAt
theorem dX12_turnBlank_0 : decode cX12_turnBlank 0 = .ok (.aload_n 0, 1) := by decide +kernel
theorem dX12_turnBlank_1 : decode cX12_turnBlank 1 = .ok (.bipush 29, 2) := by decide +kernel
theorem dX12_turnBlank_3 : decode cX12_turnBlank 3 = .ok (.iload_n 1, 1) := by decide +kernel
theorem dX12_turnBlank_4 : decode cX12_turnBlank 4 = .ok (.iadd, 1) := by decide +kernel
theorem dX12_turnBlank_5 : decode cX12_turnBlank 5 = .ok (.iaload, 1) := by decide +kernel
theorem dX12_turnBlank_6 : decode cX12_turnBlank 6 = .ok (.ifCond .le 42, 3) := by decide +kernel
theorem dX12_turnBlank_9 : decode cX12_turnBlank 9 = .ok (.aload_n 0, 1) := by decide +kernel
theorem dX12_turnBlank_10 : decode cX12_turnBlank 10 = .ok (.aload_n 0, 1) := by decide +kernel
theorem dX12_turnBlank_11 : decode cX12_turnBlank 11 = .ok (.bipush 21, 2) := by decide +kernel
theorem dX12_turnBlank_13 : decode cX12_turnBlank 13 = .ok (.iload_n 1, 1) := by decide +kernel
theorem dX12_turnBlank_14 : decode cX12_turnBlank 14 = .ok (.iadd, 1) := by decide +kernel
theorem dX12_turnBlank_15 : decode cX12_turnBlank 15 = .ok (.iaload, 1) := by decide +kernel
theorem dX12_turnBlank_16 : decode cX12_turnBlank 16 = .ok (.aload_n 0, 1) := by decide +kernel
theorem dX12_turnBlank_17 : decode cX12_turnBlank 17 = .ok (.bipush 29, 2) := by decide +kernel
theorem dX12_turnBlank_19 : decode cX12_turnBlank 19 = .ok (.iload_n 1, 1) := by decide +kernel
theorem dX12_turnBlank_20 : decode cX12_turnBlank 20 = .ok (.iadd, 1) := by decide +kernel
theorem dX12_turnBlank_21 : decode cX12_turnBlank 21 = .ok (.iaload, 1) := by decide +kernel
theorem dX12_turnBlank_22 : decode cX12_turnBlank 22 = .ok (.iconst 1, 1) := by decide +kernel
theorem dX12_turnBlank_23 : decode cX12_turnBlank 23 = .ok (.isub, 1) := by decide +kernel
theorem dX12_turnBlank_24 : decode cX12_turnBlank 24 = .ok (.invokestatic 153, 3) := by decide +kernel
theorem dX12_turnBlank_27 : decode cX12_turnBlank 27 = .ok (.istore_n 2, 1) := by decide +kernel
theorem dX12_turnBlank_28 : decode cX12_turnBlank 28 = .ok (.aload_n 0, 1) := by decide +kernel
theorem dX12_turnBlank_29 : decode cX12_turnBlank 29 = .ok (.bipush 29, 2) := by decide +kernel
theorem dX12_turnBlank_31 : decode cX12_turnBlank 31 = .ok (.iload_n 2, 1) := by decide +kernel
theorem dX12_turnBlank_32 : decode cX12_turnBlank 32 = .ok (.iadd, 1) := by decide +kernel
theorem dX12_turnBlank_33 : decode cX12_turnBlank 33 = .ok (.dup2, 1) := by decide +kernel
theorem dX12_turnBlank_34 : decode cX12_turnBlank 34 = .ok (.iaload, 1) := by decide +kernel
theorem dX12_turnBlank_35 : decode cX12_turnBlank 35 = .ok (.iconst 1, 1) := by decide +kernel
theorem dX12_turnBlank_36 : decode cX12_turnBlank 36 = .ok (.iadd, 1) := by decide +kernel
theorem dX12_turnBlank_37 : decode cX12_turnBlank 37 = .ok (.iastore, 1) := by decide +kernel
theorem dX12_turnBlank_38 : decode cX12_turnBlank 38 = .ok (.aload_n 0, 1) := by decide +kernel
theorem dX12_turnBlank_39 : decode cX12_turnBlank 39 = .ok (.bipush 29, 2) := by decide +kernel
theorem dX12_turnBlank_41 : decode cX12_turnBlank 41 = .ok (.iload_n 1, 1) := by decide +kernel
theorem dX12_turnBlank_42 : decode cX12_turnBlank 42 = .ok (.iadd, 1) := by decide +kernel
theorem dX12_turnBlank_43 : decode cX12_turnBlank 43 = .ok (.dup2, 1) := by decide +kernel
theorem dX12_turnBlank_44 : decode cX12_turnBlank 44 = .ok (.iaload, 1) := by decide +kernel
theorem dX12_turnBlank_45 : decode cX12_turnBlank 45 = .ok (.iconst 1, 1) := by decide +kernel
theorem dX12_turnBlank_46 : decode cX12_turnBlank 46 = .ok (.isub, 1) := by decide +kernel
theorem dX12_turnBlank_47 : decode cX12_turnBlank 47 = .ok (.iastore, 1) := by decide +kernel
theorem dX12_turnBlank_48 : decode cX12_turnBlank 48 = .ok (.return_, 1) := by decide +kernel
set_option maxRecDepth 20000 in
theorem ggX12_turnOf_X12_turnBlank : GoodIn wsX12_turnOf wsX12_turnBlank := goodIn_r _ [4, 5, 6, 3, 7, 8] (by decide +kernel) (by decide +kernel)
set_option maxRecDepth 20000 in
theorem gX12_turnOf_X12_turnBlank : GoodIn wsX12_turnOf (va_wsS RX12 157 yX12_turnBlank wsX12_turnBlank) := goodIn_app (goodIn_of _ (by decide +kernel)) ggX12_turnOf_X12_turnBlank
set_option maxRecDepth 20000 in
theorem ggX12_turnOf_X12_turnFree : GoodIn wsX12_turnOf wsX12_turnFree := goodIn_r _ [11, 12, 13, 3, 14, 15, 16, 17, 18, 19, 20, 21, 22, 23, 24, 25, 26] (by decide +kernel) (by decide +kernel)
set_option maxRecDepth 20000 in
theorem gX12_turnOf_X12_turnFree : GoodIn wsX12_turnOf (va_wsS RX12 160 yX12_turnFree wsX12_turnFree) := goodIn_app (goodIn_of _ (by decide +kernel)) ggX12_turnOf_X12_turnFree
set_option maxRecDepth 20000 in
theorem ggX12_turnOf_X12_inDrawer : GoodIn wsX12_turnOf wsX12_inDrawer := goodIn_r _ [23] (by decide +kernel) (by decide +kernel)
set_option maxRecDepth 20000 in
theorem gX12_turnOf_X12_inDrawer : GoodIn wsX12_turnOf (va_wsS RX12 112 yX12_inDrawer wsX12_inDrawer) := goodIn_app (goodIn_of _ (by decide +kernel)) ggX12_turnOf_X12_inDrawer
set_option maxRecDepth 20000 in
theorem ggX12_turnOf_X12_goesBy : GoodIn wsX12_turnOf wsX12_goesBy := goodIn_r _ [14, 15, 16, 3, 17, 18, 19, 20] (by decide +kernel) (by decide +kernel)
set_option maxRecDepth 20000 in
theorem gX12_turnOf_X12_goesBy : GoodIn wsX12_turnOf (va_wsS RX12 146 yX12_goesBy wsX12_goesBy) := goodIn_app (goodIn_of _ (by decide +kernel)) ggX12_turnOf_X12_goesBy
theorem dX12_turnOf_0 : decode cX12_turnOf 0 = .ok (.aload_n 0, 1) := by decide +kernel
theorem dX12_turnOf_1 : decode cX12_turnOf 1 = .ok (.iconst 5, 1) := by decide +kernel
theorem dX12_turnOf_2 : decode cX12_turnOf 2 = .ok (.iload_n 1, 1) := by decide +kernel
theorem dX12_turnOf_3 : decode cX12_turnOf 3 = .ok (.iadd, 1) := by decide +kernel
theorem dX12_turnOf_4 : decode cX12_turnOf 4 = .ok (.iaload, 1) := by decide +kernel
theorem dX12_turnOf_5 : decode cX12_turnOf 5 = .ok (.istore_n 2, 1) := by decide +kernel
theorem dX12_turnOf_6 : decode cX12_turnOf 6 = .ok (.aload_n 0, 1) := by decide +kernel
theorem dX12_turnOf_7 : decode cX12_turnOf 7 = .ok (.bipush 13, 2) := by decide +kernel
theorem dX12_turnOf_9 : decode cX12_turnOf 9 = .ok (.iload_n 1, 1) := by decide +kernel
theorem dX12_turnOf_10 : decode cX12_turnOf 10 = .ok (.iadd, 1) := by decide +kernel
theorem dX12_turnOf_11 : decode cX12_turnOf 11 = .ok (.iaload, 1) := by decide +kernel
theorem dX12_turnOf_12 : decode cX12_turnOf 12 = .ok (.istore_n 3, 1) := by decide +kernel
theorem dX12_turnOf_13 : decode cX12_turnOf 13 = .ok (.iload_n 2, 1) := by decide +kernel
theorem dX12_turnOf_14 : decode cX12_turnOf 14 = .ok (.iconst 5, 1) := by decide +kernel
theorem dX12_turnOf_15 : decode cX12_turnOf 15 = .ok (.if_icmp .ne 9, 3) := by decide +kernel
theorem dX12_turnOf_18 : decode cX12_turnOf 18 = .ok (.aload_n 0, 1) := by decide +kernel
theorem dX12_turnOf_19 : decode cX12_turnOf 19 = .ok (.iload_n 1, 1) := by decide +kernel
theorem dX12_turnOf_20 : decode cX12_turnOf 20 = .ok (.invokestatic 157, 3) := by decide +kernel
theorem dX12_turnOf_23 : decode cX12_turnOf 23 = .ok (.return_, 1) := by decide +kernel
theorem dX12_turnOf_24 : decode cX12_turnOf 24 = .ok (.iload_n 2, 1) := by decide +kernel
theorem dX12_turnOf_25 : decode cX12_turnOf 25 = .ok (.iconst 4, 1) := by decide +kernel
theorem dX12_turnOf_26 : decode cX12_turnOf 26 = .ok (.if_icmp .eq 24, 3) := by decide +kernel
theorem dX12_turnOf_29 : decode cX12_turnOf 29 = .ok (.iload_n 3, 1) := by decide +kernel
theorem dX12_turnOf_30 : decode cX12_turnOf 30 = .ok (.aload_n 0, 1) := by decide +kernel
theorem dX12_turnOf_31 : decode cX12_turnOf 31 = .ok (.iconst 3, 1) := by decide +kernel
theorem dX12_turnOf_32 : decode cX12_turnOf 32 = .ok (.iaload, 1) := by decide +kernel
theorem dX12_turnOf_33 : decode cX12_turnOf 33 = .ok (.if_icmp .ge 17, 3) := by decide +kernel
theorem dX12_turnOf_36 : decode cX12_turnOf 36 = .ok (.iload_n 2, 1) := by decide +kernel
theorem dX12_turnOf_37 : decode cX12_turnOf 37 = .ok (.iconst 2, 1) := by decide +kernel
theorem dX12_turnOf_38 : decode cX12_turnOf 38 = .ok (.if_icmp .ne 16, 3) := by decide +kernel
theorem dX12_turnOf_41 : decode cX12_turnOf 41 = .ok (.aload_n 0, 1) := by decide +kernel
theorem dX12_turnOf_42 : decode cX12_turnOf 42 = .ok (.iconst 0, 1) := by decide +kernel
theorem dX12_turnOf_43 : decode cX12_turnOf 43 = .ok (.iaload, 1) := by decide +kernel
theorem dX12_turnOf_44 : decode cX12_turnOf 44 = .ok (.iconst 2, 1) := by decide +kernel
theorem dX12_turnOf_45 : decode cX12_turnOf 45 = .ok (.irem, 1) := by decide +kernel
theorem dX12_turnOf_46 : decode cX12_turnOf 46 = .ok (.iconst 1, 1) := by decide +kernel
theorem dX12_turnOf_47 : decode cX12_turnOf 47 = .ok (.if_icmp .ne 7, 3) := by decide +kernel
theorem dX12_turnOf_50 : decode cX12_turnOf 50 = .ok (.iconst 1, 1) := by decide +kernel
theorem dX12_turnOf_51 : decode cX12_turnOf 51 = .ok (.goto 4, 3) := by decide +kernel
theorem dX12_turnOf_54 : decode cX12_turnOf 54 = .ok (.iconst 0, 1) := by decide +kernel
theorem dX12_turnOf_55 : decode cX12_turnOf 55 = .ok (.istore 4, 2) := by decide +kernel
theorem dX12_turnOf_57 : decode cX12_turnOf 57 = .ok (.iload 4, 2) := by decide +kernel
theorem dX12_turnOf_59 : decode cX12_turnOf 59 = .ok (.ifCond .eq 4, 3) := by decide +kernel
theorem dX12_turnOf_62 : decode cX12_turnOf 62 = .ok (.return_, 1) := by decide +kernel
theorem dX12_turnOf_63 : decode cX12_turnOf 63 = .ok (.iload_n 2, 1) := by decide +kernel
theorem dX12_turnOf_64 : decode cX12_turnOf 64 = .ok (.iconst 3, 1) := by decide +kernel
theorem dX12_turnOf_65 : decode cX12_turnOf 65 = .ok (.if_icmp .ne 18, 3) := by decide +kernel
theorem dX12_turnOf_68 : decode cX12_turnOf 68 = .ok (.aload_n 0, 1) := by decide +kernel
theorem dX12_turnOf_69 : decode cX12_turnOf 69 = .ok (.bipush 21, 2) := by decide +kernel
theorem dX12_turnOf_71 : decode cX12_turnOf 71 = .ok (.iload_n 1, 1) := by decide +kernel
theorem dX12_turnOf_72 : decode cX12_turnOf 72 = .ok (.iadd, 1) := by decide +kernel
theorem dX12_turnOf_73 : decode cX12_turnOf 73 = .ok (.iaload, 1) := by decide +kernel
theorem dX12_turnOf_74 : decode cX12_turnOf 74 = .ok (.aload_n 0, 1) := by decide +kernel
theorem dX12_turnOf_75 : decode cX12_turnOf 75 = .ok (.bipush 21, 2) := by decide +kernel
theorem dX12_turnOf_77 : decode cX12_turnOf 77 = .ok (.iload_n 3, 1) := by decide +kernel
theorem dX12_turnOf_78 : decode cX12_turnOf 78 = .ok (.iadd, 1) := by decide +kernel
theorem dX12_turnOf_79 : decode cX12_turnOf 79 = .ok (.iaload, 1) := by decide +kernel
theorem dX12_turnOf_80 : decode cX12_turnOf 80 = .ok (.if_icmp .ne 10, 3) := by decide +kernel
theorem dX12_turnOf_83 : decode cX12_turnOf 83 = .ok (.aload_n 0, 1) := by decide +kernel
theorem dX12_turnOf_84 : decode cX12_turnOf 84 = .ok (.iload_n 1, 1) := by decide +kernel
theorem dX12_turnOf_85 : decode cX12_turnOf 85 = .ok (.iload_n 3, 1) := by decide +kernel
theorem dX12_turnOf_86 : decode cX12_turnOf 86 = .ok (.invokestatic 160, 3) := by decide +kernel
theorem dX12_turnOf_89 : decode cX12_turnOf 89 = .ok (.return_, 1) := by decide +kernel
theorem dX12_turnOf_90 : decode cX12_turnOf 90 = .ok (.aload_n 0, 1) := by decide +kernel
theorem dX12_turnOf_91 : decode cX12_turnOf 91 = .ok (.aload_n 0, 1) := by decide +kernel
theorem dX12_turnOf_92 : decode cX12_turnOf 92 = .ok (.bipush 21, 2) := by decide +kernel
theorem dX12_turnOf_94 : decode cX12_turnOf 94 = .ok (.iload_n 3, 1) := by decide +kernel
theorem dX12_turnOf_95 : decode cX12_turnOf 95 = .ok (.iadd, 1) := by decide +kernel
theorem dX12_turnOf_96 : decode cX12_turnOf 96 = .ok (.iaload, 1) := by decide +kernel
theorem dX12_turnOf_97 : decode cX12_turnOf 97 = .ok (.invokestatic 112, 3) := by decide +kernel
theorem dX12_turnOf_100 : decode cX12_turnOf 100 = .ok (.aload_n 0, 1) := by decide +kernel
theorem dX12_turnOf_101 : decode cX12_turnOf 101 = .ok (.iconst 2, 1) := by decide +kernel
theorem dX12_turnOf_102 : decode cX12_turnOf 102 = .ok (.iaload, 1) := by decide +kernel
theorem dX12_turnOf_103 : decode cX12_turnOf 103 = .ok (.if_icmp .ge 9, 3) := by decide +kernel
theorem dX12_turnOf_106 : decode cX12_turnOf 106 = .ok (.aload_n 0, 1) := by decide +kernel
theorem dX12_turnOf_107 : decode cX12_turnOf 107 = .ok (.iload_n 1, 1) := by decide +kernel
theorem dX12_turnOf_108 : decode cX12_turnOf 108 = .ok (.iload_n 3, 1) := by decide +kernel
theorem dX12_turnOf_109 : decode cX12_turnOf 109 = .ok (.invokestatic 146, 3) := by decide +kernel
theorem dX12_turnOf_112 : decode cX12_turnOf 112 = .ok (.return_, 1) := by decide +kernel
set_option maxRecDepth 20000 in
theorem ggX12_nightIn_X12_isIn : GoodIn wsX12_nightIn wsX12_isIn := goodIn_r _ [4] (by decide +kernel) (by decide +kernel)
set_option maxRecDepth 20000 in
theorem gX12_nightIn_X12_isIn : GoodIn wsX12_nightIn (va_wsS RX12 163 yX12_isIn wsX12_isIn) := goodIn_app (goodIn_of _ (by decide +kernel)) ggX12_nightIn_X12_isIn
set_option maxRecDepth 20000 in
theorem ggX12_nightIn_X12_turnOf : GoodIn wsX12_nightIn wsX12_turnOf := goodIn_r _ [7, 8, 9, 3, 10, 11, 12, 13, 14, 15, 16, 17, 18, 19, 20, 21, 22, 23, 24, 25, 26, 27, 28, 29, 30, 31, 32] (by decide +kernel) (by decide +kernel)
set_option maxRecDepth 20000 in
theorem gX12_nightIn_X12_turnOf : GoodIn wsX12_nightIn (va_wsS RX12 166 yX12_turnOf wsX12_turnOf) := goodIn_app (goodIn_of _ (by decide +kernel)) ggX12_nightIn_X12_turnOf
theorem dX12_nightIn_0 : decode cX12_nightIn 0 = .ok (.iconst 0, 1) := by decide +kernel
theorem dX12_nightIn_1 : decode cX12_nightIn 1 = .ok (.istore_n 2, 1) := by decide +kernel
theorem dX12_nightIn_2 : decode cX12_nightIn 2 = .ok (.iload_n 2, 1) := by decide +kernel
theorem dX12_nightIn_3 : decode cX12_nightIn 3 = .ok (.aload_n 0, 1) := by decide +kernel
theorem dX12_nightIn_4 : decode cX12_nightIn 4 = .ok (.iconst 3, 1) := by decide +kernel
theorem dX12_nightIn_5 : decode cX12_nightIn 5 = .ok (.iaload, 1) := by decide +kernel
theorem dX12_nightIn_6 : decode cX12_nightIn 6 = .ok (.if_icmp .ge 22, 3) := by decide +kernel
theorem dX12_nightIn_9 : decode cX12_nightIn 9 = .ok (.iload_n 1, 1) := by decide +kernel
theorem dX12_nightIn_10 : decode cX12_nightIn 10 = .ok (.iload_n 2, 1) := by decide +kernel
theorem dX12_nightIn_11 : decode cX12_nightIn 11 = .ok (.invokestatic 163, 3) := by decide +kernel
theorem dX12_nightIn_14 : decode cX12_nightIn 14 = .ok (.ifCond .ne 8, 3) := by decide +kernel
theorem dX12_nightIn_17 : decode cX12_nightIn 17 = .ok (.aload_n 0, 1) := by decide +kernel
theorem dX12_nightIn_18 : decode cX12_nightIn 18 = .ok (.iload_n 2, 1) := by decide +kernel
theorem dX12_nightIn_19 : decode cX12_nightIn 19 = .ok (.invokestatic 166, 3) := by decide +kernel
theorem dX12_nightIn_22 : decode cX12_nightIn 22 = .ok (.iinc 2 1, 3) := by decide +kernel
theorem dX12_nightIn_25 : decode cX12_nightIn 25 = .ok (.goto (-23), 3) := by decide +kernel
theorem dX12_nightIn_28 : decode cX12_nightIn 28 = .ok (.aload_n 0, 1) := by decide +kernel
theorem dX12_nightIn_29 : decode cX12_nightIn 29 = .ok (.iconst 0, 1) := by decide +kernel
theorem dX12_nightIn_30 : decode cX12_nightIn 30 = .ok (.dup2, 1) := by decide +kernel
theorem dX12_nightIn_31 : decode cX12_nightIn 31 = .ok (.iaload, 1) := by decide +kernel
theorem dX12_nightIn_32 : decode cX12_nightIn 32 = .ok (.iconst 1, 1) := by decide +kernel
theorem dX12_nightIn_33 : decode cX12_nightIn 33 = .ok (.iadd, 1) := by decide +kernel
theorem dX12_nightIn_34 : decode cX12_nightIn 34 = .ok (.iastore, 1) := by decide +kernel
theorem dX12_nightIn_35 : decode cX12_nightIn 35 = .ok (.return_, 1) := by decide +kernel
set_option maxRecDepth 20000 in
theorem ggX12_matesIn_X12_cardAt : GoodIn wsX12_matesIn wsX12_cardAt := goodIn_r _ [4, 5] (by decide +kernel) (by decide +kernel)
set_option maxRecDepth 20000 in
theorem gX12_matesIn_X12_cardAt : GoodIn wsX12_matesIn (va_wsS RX12 153 yX12_cardAt wsX12_cardAt) := goodIn_app (goodIn_of _ (by decide +kernel)) ggX12_matesIn_X12_cardAt
theorem dX12_matesIn_0 : decode cX12_matesIn 0 = .ok (.iconst 0, 1) := by decide +kernel
theorem dX12_matesIn_1 : decode cX12_matesIn 1 = .ok (.istore_n 1, 1) := by decide +kernel
theorem dX12_matesIn_2 : decode cX12_matesIn 2 = .ok (.iconst 0, 1) := by decide +kernel
theorem dX12_matesIn_3 : decode cX12_matesIn 3 = .ok (.istore_n 2, 1) := by decide +kernel
theorem dX12_matesIn_4 : decode cX12_matesIn 4 = .ok (.iload_n 2, 1) := by decide +kernel
theorem dX12_matesIn_5 : decode cX12_matesIn 5 = .ok (.aload_n 0, 1) := by decide +kernel
theorem dX12_matesIn_6 : decode cX12_matesIn 6 = .ok (.iconst 3, 1) := by decide +kernel
theorem dX12_matesIn_7 : decode cX12_matesIn 7 = .ok (.iaload, 1) := by decide +kernel
theorem dX12_matesIn_8 : decode cX12_matesIn 8 = .ok (.if_icmp .ge 65, 3) := by decide +kernel
theorem dX12_matesIn_11 : decode cX12_matesIn 11 = .ok (.aload_n 0, 1) := by decide +kernel
theorem dX12_matesIn_12 : decode cX12_matesIn 12 = .ok (.bipush 29, 2) := by decide +kernel
theorem dX12_matesIn_14 : decode cX12_matesIn 14 = .ok (.iload_n 2, 1) := by decide +kernel
theorem dX12_matesIn_15 : decode cX12_matesIn 15 = .ok (.iadd, 1) := by decide +kernel
theorem dX12_matesIn_16 : decode cX12_matesIn 16 = .ok (.iaload, 1) := by decide +kernel
theorem dX12_matesIn_17 : decode cX12_matesIn 17 = .ok (.ifCond .le 34, 3) := by decide +kernel
theorem dX12_matesIn_20 : decode cX12_matesIn 20 = .ok (.aload_n 0, 1) := by decide +kernel
theorem dX12_matesIn_21 : decode cX12_matesIn 21 = .ok (.aload_n 0, 1) := by decide +kernel
theorem dX12_matesIn_22 : decode cX12_matesIn 22 = .ok (.bipush 21, 2) := by decide +kernel
theorem dX12_matesIn_24 : decode cX12_matesIn 24 = .ok (.iload_n 2, 1) := by decide +kernel
theorem dX12_matesIn_25 : decode cX12_matesIn 25 = .ok (.iadd, 1) := by decide +kernel
theorem dX12_matesIn_26 : decode cX12_matesIn 26 = .ok (.iaload, 1) := by decide +kernel
theorem dX12_matesIn_27 : decode cX12_matesIn 27 = .ok (.aload_n 0, 1) := by decide +kernel
theorem dX12_matesIn_28 : decode cX12_matesIn 28 = .ok (.bipush 29, 2) := by decide +kernel
theorem dX12_matesIn_30 : decode cX12_matesIn 30 = .ok (.iload_n 2, 1) := by decide +kernel
theorem dX12_matesIn_31 : decode cX12_matesIn 31 = .ok (.iadd, 1) := by decide +kernel
theorem dX12_matesIn_32 : decode cX12_matesIn 32 = .ok (.iaload, 1) := by decide +kernel
theorem dX12_matesIn_33 : decode cX12_matesIn 33 = .ok (.iconst 1, 1) := by decide +kernel
theorem dX12_matesIn_34 : decode cX12_matesIn 34 = .ok (.isub, 1) := by decide +kernel
theorem dX12_matesIn_35 : decode cX12_matesIn 35 = .ok (.invokestatic 153, 3) := by decide +kernel
theorem dX12_matesIn_38 : decode cX12_matesIn 38 = .ok (.aload_n 0, 1) := by decide +kernel
theorem dX12_matesIn_39 : decode cX12_matesIn 39 = .ok (.bipush 13, 2) := by decide +kernel
theorem dX12_matesIn_41 : decode cX12_matesIn 41 = .ok (.iload_n 2, 1) := by decide +kernel
theorem dX12_matesIn_42 : decode cX12_matesIn 42 = .ok (.iadd, 1) := by decide +kernel
theorem dX12_matesIn_43 : decode cX12_matesIn 43 = .ok (.iaload, 1) := by decide +kernel
theorem dX12_matesIn_44 : decode cX12_matesIn 44 = .ok (.if_icmp .ne 7, 3) := by decide +kernel
theorem dX12_matesIn_47 : decode cX12_matesIn 47 = .ok (.iconst 1, 1) := by decide +kernel
theorem dX12_matesIn_48 : decode cX12_matesIn 48 = .ok (.goto 4, 3) := by decide +kernel
theorem dX12_matesIn_51 : decode cX12_matesIn 51 = .ok (.iconst 0, 1) := by decide +kernel
theorem dX12_matesIn_52 : decode cX12_matesIn 52 = .ok (.istore_n 3, 1) := by decide +kernel
theorem dX12_matesIn_53 : decode cX12_matesIn 53 = .ok (.iload_n 1, 1) := by decide +kernel
theorem dX12_matesIn_54 : decode cX12_matesIn 54 = .ok (.iload_n 3, 1) := by decide +kernel
theorem dX12_matesIn_55 : decode cX12_matesIn 55 = .ok (.ifCond .eq 9, 3) := by decide +kernel
theorem dX12_matesIn_58 : decode cX12_matesIn 58 = .ok (.iconst 1, 1) := by decide +kernel
theorem dX12_matesIn_59 : decode cX12_matesIn 59 = .ok (.iload_n 2, 1) := by decide +kernel
theorem dX12_matesIn_60 : decode cX12_matesIn 60 = .ok (.ishl, 1) := by decide +kernel
theorem dX12_matesIn_61 : decode cX12_matesIn 61 = .ok (.goto 4, 3) := by decide +kernel
theorem dX12_matesIn_64 : decode cX12_matesIn 64 = .ok (.iconst 0, 1) := by decide +kernel
theorem dX12_matesIn_65 : decode cX12_matesIn 65 = .ok (.ior, 1) := by decide +kernel
theorem dX12_matesIn_66 : decode cX12_matesIn 66 = .ok (.istore_n 1, 1) := by decide +kernel
theorem dX12_matesIn_67 : decode cX12_matesIn 67 = .ok (.iinc 2 1, 3) := by decide +kernel
theorem dX12_matesIn_70 : decode cX12_matesIn 70 = .ok (.goto (-66), 3) := by decide +kernel
theorem dX12_matesIn_73 : decode cX12_matesIn 73 = .ok (.iload_n 1, 1) := by decide +kernel
theorem dX12_matesIn_74 : decode cX12_matesIn 74 = .ok (.ireturn, 1) := by decide +kernel
set_option maxRecDepth 20000 in
theorem ggX12_nights_X12_isThere : GoodIn wsX12_nights wsX12_isThere := goodIn_r _ [9, 3, 59, 60, 61, 62, 63, 64, 65, 66, 67, 68, 69, 70, 71, 72, 73, 74, 75, 76, 77, 78, 79, 80, 81, 82] (by decide +kernel) (by decide +kernel)
set_option maxRecDepth 20000 in
theorem gX12_nights_X12_isThere : GoodIn wsX12_nights (wsV RX12 169 RX12 yX12_isThere wsX12_isThere) := goodIn_app (goodIn_of _ (by decide +kernel)) ggX12_nights_X12_isThere
set_option maxRecDepth 20000 in
theorem ggX12_nights_X12_in : GoodIn wsX12_nights wsX12_in := goodIn_r _ [12] (by decide +kernel) (by decide +kernel)
set_option maxRecDepth 20000 in
theorem gX12_nights_X12_in : GoodIn wsX12_nights (va_wsS RX12 53 yX12_in wsX12_in) := goodIn_app (goodIn_of _ (by decide +kernel)) ggX12_nights_X12_in
set_option maxRecDepth 20000 in
theorem ggX12_nights_X12_note : GoodIn wsX12_nights wsX12_note := goodIn_r _ [16, 17, 18, 3, 19, 20, 8, 21, 59, 60, 61, 62, 63, 64, 65, 66, 67, 68, 69, 70, 71, 72, 73, 74, 75, 76, 77, 78, 79, 80, 81, 82] (by decide +kernel) (by decide +kernel)
set_option maxRecDepth 20000 in
theorem gX12_nights_X12_note : GoodIn wsX12_nights (wsV RX12 173 RX12 yX12_note wsX12_note) := goodIn_app (goodIn_of _ (by decide +kernel)) ggX12_nights_X12_note
set_option maxRecDepth 20000 in
theorem ggX12_nights_X12_nightIn : GoodIn wsX12_nights wsX12_nightIn := goodIn_r _ [24, 25, 26, 8, 27, 28, 29, 30, 31, 32, 33, 34, 35, 36, 37, 38, 39, 40, 41, 42, 43, 44, 45, 46, 47, 48, 49, 50, 51, 52, 53, 54, 55] (by decide +kernel) (by decide +kernel)
set_option maxRecDepth 20000 in
theorem gX12_nights_X12_nightIn : GoodIn wsX12_nights (va_wsS RX12 176 yX12_nightIn wsX12_nightIn) := goodIn_app (goodIn_of _ (by decide +kernel)) ggX12_nights_X12_nightIn
set_option maxRecDepth 20000 in
theorem ggX12_nights_X12_matesIn : GoodIn wsX12_nights wsX12_matesIn := goodIn_r _ [58, 34, 35, 8, 36, 37] (by decide +kernel) (by decide +kernel)
set_option maxRecDepth 20000 in
theorem gX12_nights_X12_matesIn : GoodIn wsX12_nights (va_wsS RX12 179 yX12_matesIn wsX12_matesIn) := goodIn_app (goodIn_of _ (by decide +kernel)) ggX12_nights_X12_matesIn
theorem dX12_nights_0 : decode cX12_nights 0 = .ok (.aload_n 0, 1) := by decide +kernel
theorem dX12_nights_1 : decode cX12_nights 1 = .ok (.invokevirtual 169, 3) := by decide +kernel
theorem dX12_nights_4 : decode cX12_nights 4 = .ok (.ifCond .ne 6, 3) := by decide +kernel
theorem dX12_nights_7 : decode cX12_nights 7 = .ok (.ldc 172, 2) := by decide +kernel
theorem dX12_nights_9 : decode cX12_nights 9 = .ok (.ireturn, 1) := by decide +kernel
theorem dX12_nights_10 : decode cX12_nights 10 = .ok (.iload_n 1, 1) := by decide +kernel
theorem dX12_nights_11 : decode cX12_nights 11 = .ok (.iconst 1, 1) := by decide +kernel
theorem dX12_nights_12 : decode cX12_nights 12 = .ok (.bipush 24, 2) := by decide +kernel
theorem dX12_nights_14 : decode cX12_nights 14 = .ok (.invokestatic 53, 3) := by decide +kernel
theorem dX12_nights_17 : decode cX12_nights 17 = .ok (.ifCond .ne 6, 3) := by decide +kernel
theorem dX12_nights_20 : decode cX12_nights 20 = .ok (.ldc 66, 2) := by decide +kernel
theorem dX12_nights_22 : decode cX12_nights 22 = .ok (.ireturn, 1) := by decide +kernel
theorem dX12_nights_23 : decode cX12_nights 23 = .ok (.aload_n 0, 1) := by decide +kernel
theorem dX12_nights_24 : decode cX12_nights 24 = .ok (.getfield 22, 3) := by decide +kernel
theorem dX12_nights_27 : decode cX12_nights 27 = .ok (.iconst 0, 1) := by decide +kernel
theorem dX12_nights_28 : decode cX12_nights 28 = .ok (.iaload, 1) := by decide +kernel
theorem dX12_nights_29 : decode cX12_nights 29 = .ok (.iload_n 1, 1) := by decide +kernel
theorem dX12_nights_30 : decode cX12_nights 30 = .ok (.iadd, 1) := by decide +kernel
theorem dX12_nights_31 : decode cX12_nights 31 = .ok (.sipush 9999, 3) := by decide +kernel
theorem dX12_nights_34 : decode cX12_nights 34 = .ok (.if_icmp .le 6, 3) := by decide +kernel
theorem dX12_nights_37 : decode cX12_nights 37 = .ok (.ldc 80, 2) := by decide +kernel
theorem dX12_nights_39 : decode cX12_nights 39 = .ok (.ireturn, 1) := by decide +kernel
theorem dX12_nights_40 : decode cX12_nights 40 = .ok (.iconst 0, 1) := by decide +kernel
theorem dX12_nights_41 : decode cX12_nights 41 = .ok (.istore_n 2, 1) := by decide +kernel
theorem dX12_nights_42 : decode cX12_nights 42 = .ok (.iload_n 2, 1) := by decide +kernel
theorem dX12_nights_43 : decode cX12_nights 43 = .ok (.iload_n 1, 1) := by decide +kernel
theorem dX12_nights_44 : decode cX12_nights 44 = .ok (.if_icmp .ge 21, 3) := by decide +kernel
theorem dX12_nights_47 : decode cX12_nights 47 = .ok (.aload_n 0, 1) := by decide +kernel
theorem dX12_nights_48 : decode cX12_nights 48 = .ok (.invokevirtual 173, 3) := by decide +kernel
theorem dX12_nights_51 : decode cX12_nights 51 = .ok (.aload_n 0, 1) := by decide +kernel
theorem dX12_nights_52 : decode cX12_nights 52 = .ok (.getfield 22, 3) := by decide +kernel
theorem dX12_nights_55 : decode cX12_nights 55 = .ok (.iconst 0, 1) := by decide +kernel
theorem dX12_nights_56 : decode cX12_nights 56 = .ok (.invokestatic 176, 3) := by decide +kernel
theorem dX12_nights_59 : decode cX12_nights 59 = .ok (.iinc 2 1, 3) := by decide +kernel
theorem dX12_nights_62 : decode cX12_nights 62 = .ok (.goto (-20), 3) := by decide +kernel
theorem dX12_nights_65 : decode cX12_nights 65 = .ok (.aload_n 0, 1) := by decide +kernel
theorem dX12_nights_66 : decode cX12_nights 66 = .ok (.getfield 22, 3) := by decide +kernel
theorem dX12_nights_69 : decode cX12_nights 69 = .ok (.invokestatic 179, 3) := by decide +kernel
theorem dX12_nights_72 : decode cX12_nights 72 = .ok (.ireturn, 1) := by decide +kernel
set_option maxRecDepth 20000 in
theorem ggX12_put_X12_isOne : GoodIn wsX12_put wsX12_isOne := goodIn_r _ [8, 2, 9, 10, 7, 11, 37, 38, 39, 40, 41, 42, 43, 44, 45, 46, 47, 48, 49, 50, 51, 52, 53, 54, 55, 56, 57, 58, 59, 60] (by decide +kernel) (by decide +kernel)
set_option maxRecDepth 20000 in
theorem gX12_put_X12_isOne : GoodIn wsX12_put (wsV RX12 183 RX12 yX12_isOne wsX12_isOne) := goodIn_app (goodIn_of _ (by decide +kernel)) ggX12_put_X12_isOne
set_option maxRecDepth 20000 in
theorem ggX12_put_X12_isDrawer : GoodIn wsX12_put wsX12_isDrawer := goodIn_r _ [15, 2, 9, 10, 7, 11, 37, 38, 39, 40, 41, 42, 43, 44, 45, 46, 47, 48, 49, 50, 51, 52, 53, 54, 55, 56, 57, 58, 59, 60] (by decide +kernel) (by decide +kernel)
set_option maxRecDepth 20000 in
theorem gX12_put_X12_isDrawer : GoodIn wsX12_put (wsV RX12 186 RX12 yX12_isDrawer wsX12_isDrawer) := goodIn_app (goodIn_of _ (by decide +kernel)) ggX12_put_X12_isDrawer
set_option maxRecDepth 20000 in
theorem ggX12_put_X12_inDrawer : GoodIn wsX12_put wsX12_inDrawer := goodIn_r _ [18] (by decide +kernel) (by decide +kernel)
set_option maxRecDepth 20000 in
theorem gX12_put_X12_inDrawer : GoodIn wsX12_put (va_wsS RX12 112 yX12_inDrawer wsX12_inDrawer) := goodIn_app (goodIn_of _ (by decide +kernel)) ggX12_put_X12_inDrawer
set_option maxRecDepth 20000 in
theorem ggX12_put_X12_note : GoodIn wsX12_put wsX12_note := goodIn_r _ [22, 23, 24, 2, 25, 26, 7, 27, 37, 38, 39, 40, 41, 42, 43, 44, 45, 46, 47, 48, 49, 50, 51, 52, 53, 54, 55, 56, 57, 58, 59, 60] (by decide +kernel) (by decide +kernel)
set_option maxRecDepth 20000 in
theorem gX12_put_X12_note : GoodIn wsX12_put (wsV RX12 173 RX12 yX12_note wsX12_note) := goodIn_app (goodIn_of _ (by decide +kernel)) ggX12_put_X12_note
set_option maxRecDepth 20000 in
theorem ggX12_put_X12_goesBehind : GoodIn wsX12_put wsX12_goesBehind := goodIn_r _ [30, 31, 32, 7, 33, 16, 17, 18, 34, 35, 36] (by decide +kernel) (by decide +kernel)
set_option maxRecDepth 20000 in
theorem gX12_put_X12_goesBehind : GoodIn wsX12_put (va_wsS RX12 150 yX12_goesBehind wsX12_goesBehind) := goodIn_app (goodIn_of _ (by decide +kernel)) ggX12_put_X12_goesBehind
theorem dX12_put_0 : decode cX12_put 0 = .ok (.aload_n 0, 1) := by decide +kernel
theorem dX12_put_1 : decode cX12_put 1 = .ok (.iload_n 1, 1) := by decide +kernel
theorem dX12_put_2 : decode cX12_put 2 = .ok (.invokevirtual 183, 3) := by decide +kernel
theorem dX12_put_5 : decode cX12_put 5 = .ok (.ifCond .eq 11, 3) := by decide +kernel
theorem dX12_put_8 : decode cX12_put 8 = .ok (.aload_n 0, 1) := by decide +kernel
theorem dX12_put_9 : decode cX12_put 9 = .ok (.iload_n 2, 1) := by decide +kernel
theorem dX12_put_10 : decode cX12_put 10 = .ok (.invokevirtual 186, 3) := by decide +kernel
theorem dX12_put_13 : decode cX12_put 13 = .ok (.ifCond .ne 6, 3) := by decide +kernel
theorem dX12_put_16 : decode cX12_put 16 = .ok (.ldc 66, 2) := by decide +kernel
theorem dX12_put_18 : decode cX12_put 18 = .ok (.ireturn, 1) := by decide +kernel
theorem dX12_put_19 : decode cX12_put 19 = .ok (.aload_n 0, 1) := by decide +kernel
theorem dX12_put_20 : decode cX12_put 20 = .ok (.getfield 22, 3) := by decide +kernel
theorem dX12_put_23 : decode cX12_put 23 = .ok (.bipush 21, 2) := by decide +kernel
theorem dX12_put_25 : decode cX12_put 25 = .ok (.iload_n 1, 1) := by decide +kernel
theorem dX12_put_26 : decode cX12_put 26 = .ok (.iadd, 1) := by decide +kernel
theorem dX12_put_27 : decode cX12_put 27 = .ok (.iaload, 1) := by decide +kernel
theorem dX12_put_28 : decode cX12_put 28 = .ok (.istore_n 3, 1) := by decide +kernel
theorem dX12_put_29 : decode cX12_put 29 = .ok (.iload_n 3, 1) := by decide +kernel
theorem dX12_put_30 : decode cX12_put 30 = .ok (.iload_n 2, 1) := by decide +kernel
theorem dX12_put_31 : decode cX12_put 31 = .ok (.if_icmp .eq 23, 3) := by decide +kernel
theorem dX12_put_34 : decode cX12_put 34 = .ok (.aload_n 0, 1) := by decide +kernel
theorem dX12_put_35 : decode cX12_put 35 = .ok (.getfield 22, 3) := by decide +kernel
theorem dX12_put_38 : decode cX12_put 38 = .ok (.iload_n 2, 1) := by decide +kernel
theorem dX12_put_39 : decode cX12_put 39 = .ok (.invokestatic 112, 3) := by decide +kernel
theorem dX12_put_42 : decode cX12_put 42 = .ok (.aload_n 0, 1) := by decide +kernel
theorem dX12_put_43 : decode cX12_put 43 = .ok (.getfield 22, 3) := by decide +kernel
theorem dX12_put_46 : decode cX12_put 46 = .ok (.iconst 2, 1) := by decide +kernel
theorem dX12_put_47 : decode cX12_put 47 = .ok (.iaload, 1) := by decide +kernel
theorem dX12_put_48 : decode cX12_put 48 = .ok (.if_icmp .lt 6, 3) := by decide +kernel
theorem dX12_put_51 : decode cX12_put 51 = .ok (.ldc 172, 2) := by decide +kernel
theorem dX12_put_53 : decode cX12_put 53 = .ok (.ireturn, 1) := by decide +kernel
theorem dX12_put_54 : decode cX12_put 54 = .ok (.aload_n 0, 1) := by decide +kernel
theorem dX12_put_55 : decode cX12_put 55 = .ok (.invokevirtual 173, 3) := by decide +kernel
theorem dX12_put_58 : decode cX12_put 58 = .ok (.aload_n 0, 1) := by decide +kernel
theorem dX12_put_59 : decode cX12_put 59 = .ok (.getfield 22, 3) := by decide +kernel
theorem dX12_put_62 : decode cX12_put 62 = .ok (.iload_n 1, 1) := by decide +kernel
theorem dX12_put_63 : decode cX12_put 63 = .ok (.iload_n 2, 1) := by decide +kernel
theorem dX12_put_64 : decode cX12_put 64 = .ok (.invokestatic 150, 3) := by decide +kernel
theorem dX12_put_67 : decode cX12_put 67 = .ok (.iload_n 3, 1) := by decide +kernel
theorem dX12_put_68 : decode cX12_put 68 = .ok (.ireturn, 1) := by decide +kernel
set_option maxRecDepth 20000 in
theorem ggX12_turn_X12_isDrawer : GoodIn wsX12_turn wsX12_isDrawer := goodIn_r _ [7, 2, 8, 9, 6, 10, 23, 24, 25, 26, 27, 28, 29, 30, 31, 32, 33, 34, 35, 36, 37, 38, 39, 40, 41, 42, 43, 44, 45, 46] (by decide +kernel) (by decide +kernel)
set_option maxRecDepth 20000 in
theorem gX12_turn_X12_isDrawer : GoodIn wsX12_turn (wsV RX12 186 RX12 yX12_isDrawer wsX12_isDrawer) := goodIn_app (goodIn_of _ (by decide +kernel)) ggX12_turn_X12_isDrawer
set_option maxRecDepth 20000 in
theorem ggX12_turn_X12_note : GoodIn wsX12_turn wsX12_note := goodIn_r _ [14, 15, 16, 2, 17, 18, 6, 19, 23, 24, 25, 26, 27, 28, 29, 30, 31, 32, 33, 34, 35, 36, 37, 38, 39, 40, 41, 42, 43, 44, 45, 46] (by decide +kernel) (by decide +kernel)
set_option maxRecDepth 20000 in
theorem gX12_turn_X12_note : GoodIn wsX12_turn (wsV RX12 173 RX12 yX12_note wsX12_note) := goodIn_app (goodIn_of _ (by decide +kernel)) ggX12_turn_X12_note
set_option maxRecDepth 20000 in
theorem ggX12_turn_X12_inDrawer : GoodIn wsX12_turn wsX12_inDrawer := goodIn_r _ [22] (by decide +kernel) (by decide +kernel)
set_option maxRecDepth 20000 in
theorem gX12_turn_X12_inDrawer : GoodIn wsX12_turn (va_wsS RX12 112 yX12_inDrawer wsX12_inDrawer) := goodIn_app (goodIn_of _ (by decide +kernel)) ggX12_turn_X12_inDrawer
theorem dX12_turn_0 : decode cX12_turn 0 = .ok (.aload_n 0, 1) := by decide +kernel
theorem dX12_turn_1 : decode cX12_turn 1 = .ok (.iload_n 1, 1) := by decide +kernel
theorem dX12_turn_2 : decode cX12_turn 2 = .ok (.invokevirtual 186, 3) := by decide +kernel
theorem dX12_turn_5 : decode cX12_turn 5 = .ok (.ifCond .ne 6, 3) := by decide +kernel
theorem dX12_turn_8 : decode cX12_turn 8 = .ok (.ldc 66, 2) := by decide +kernel
theorem dX12_turn_10 : decode cX12_turn 10 = .ok (.ireturn, 1) := by decide +kernel
theorem dX12_turn_11 : decode cX12_turn 11 = .ok (.aload_n 0, 1) := by decide +kernel
theorem dX12_turn_12 : decode cX12_turn 12 = .ok (.invokevirtual 173, 3) := by decide +kernel
theorem dX12_turn_15 : decode cX12_turn 15 = .ok (.aload_n 0, 1) := by decide +kernel
theorem dX12_turn_16 : decode cX12_turn 16 = .ok (.getfield 22, 3) := by decide +kernel
theorem dX12_turn_19 : decode cX12_turn 19 = .ok (.iload_n 1, 1) := by decide +kernel
theorem dX12_turn_20 : decode cX12_turn 20 = .ok (.invokestatic 112, 3) := by decide +kernel
theorem dX12_turn_23 : decode cX12_turn 23 = .ok (.istore_n 2, 1) := by decide +kernel
theorem dX12_turn_24 : decode cX12_turn 24 = .ok (.iconst 0, 1) := by decide +kernel
theorem dX12_turn_25 : decode cX12_turn 25 = .ok (.istore_n 3, 1) := by decide +kernel
theorem dX12_turn_26 : decode cX12_turn 26 = .ok (.iload_n 3, 1) := by decide +kernel
theorem dX12_turn_27 : decode cX12_turn 27 = .ok (.aload_n 0, 1) := by decide +kernel
theorem dX12_turn_28 : decode cX12_turn 28 = .ok (.getfield 22, 3) := by decide +kernel
theorem dX12_turn_31 : decode cX12_turn 31 = .ok (.iconst 3, 1) := by decide +kernel
theorem dX12_turn_32 : decode cX12_turn 32 = .ok (.iaload, 1) := by decide +kernel
theorem dX12_turn_33 : decode cX12_turn 33 = .ok (.if_icmp .ge 56, 3) := by decide +kernel
theorem dX12_turn_36 : decode cX12_turn 36 = .ok (.aload_n 0, 1) := by decide +kernel
theorem dX12_turn_37 : decode cX12_turn 37 = .ok (.getfield 22, 3) := by decide +kernel
theorem dX12_turn_40 : decode cX12_turn 40 = .ok (.bipush 29, 2) := by decide +kernel
theorem dX12_turn_42 : decode cX12_turn 42 = .ok (.iload_n 3, 1) := by decide +kernel
theorem dX12_turn_43 : decode cX12_turn 43 = .ok (.iadd, 1) := by decide +kernel
theorem dX12_turn_44 : decode cX12_turn 44 = .ok (.aload_n 0, 1) := by decide +kernel
theorem dX12_turn_45 : decode cX12_turn 45 = .ok (.getfield 22, 3) := by decide +kernel
theorem dX12_turn_48 : decode cX12_turn 48 = .ok (.bipush 21, 2) := by decide +kernel
theorem dX12_turn_50 : decode cX12_turn 50 = .ok (.iload_n 3, 1) := by decide +kernel
theorem dX12_turn_51 : decode cX12_turn 51 = .ok (.iadd, 1) := by decide +kernel
theorem dX12_turn_52 : decode cX12_turn 52 = .ok (.iaload, 1) := by decide +kernel
theorem dX12_turn_53 : decode cX12_turn 53 = .ok (.iload_n 1, 1) := by decide +kernel
theorem dX12_turn_54 : decode cX12_turn 54 = .ok (.if_icmp .ne 19, 3) := by decide +kernel
theorem dX12_turn_57 : decode cX12_turn 57 = .ok (.iload_n 2, 1) := by decide +kernel
theorem dX12_turn_58 : decode cX12_turn 58 = .ok (.iconst 1, 1) := by decide +kernel
theorem dX12_turn_59 : decode cX12_turn 59 = .ok (.isub, 1) := by decide +kernel
theorem dX12_turn_60 : decode cX12_turn 60 = .ok (.aload_n 0, 1) := by decide +kernel
theorem dX12_turn_61 : decode cX12_turn 61 = .ok (.getfield 22, 3) := by decide +kernel
theorem dX12_turn_64 : decode cX12_turn 64 = .ok (.bipush 29, 2) := by decide +kernel
theorem dX12_turn_66 : decode cX12_turn 66 = .ok (.iload_n 3, 1) := by decide +kernel
theorem dX12_turn_67 : decode cX12_turn 67 = .ok (.iadd, 1) := by decide +kernel
theorem dX12_turn_68 : decode cX12_turn 68 = .ok (.iaload, 1) := by decide +kernel
theorem dX12_turn_69 : decode cX12_turn 69 = .ok (.isub, 1) := by decide +kernel
theorem dX12_turn_70 : decode cX12_turn 70 = .ok (.goto 12, 3) := by decide +kernel
theorem dX12_turn_73 : decode cX12_turn 73 = .ok (.aload_n 0, 1) := by decide +kernel
theorem dX12_turn_74 : decode cX12_turn 74 = .ok (.getfield 22, 3) := by decide +kernel
theorem dX12_turn_77 : decode cX12_turn 77 = .ok (.bipush 29, 2) := by decide +kernel
theorem dX12_turn_79 : decode cX12_turn 79 = .ok (.iload_n 3, 1) := by decide +kernel
theorem dX12_turn_80 : decode cX12_turn 80 = .ok (.iadd, 1) := by decide +kernel
theorem dX12_turn_81 : decode cX12_turn 81 = .ok (.iaload, 1) := by decide +kernel
theorem dX12_turn_82 : decode cX12_turn 82 = .ok (.iastore, 1) := by decide +kernel
theorem dX12_turn_83 : decode cX12_turn 83 = .ok (.iinc 3 1, 3) := by decide +kernel
theorem dX12_turn_86 : decode cX12_turn 86 = .ok (.goto (-60), 3) := by decide +kernel
theorem dX12_turn_89 : decode cX12_turn 89 = .ok (.iload_n 2, 1) := by decide +kernel
theorem dX12_turn_90 : decode cX12_turn 90 = .ok (.ireturn, 1) := by decide +kernel
set_option maxRecDepth 20000 in
theorem ggX12_like_X12_isOne : GoodIn wsX12_like wsX12_isOne := goodIn_r _ [7, 2, 8, 9, 6, 10, 20, 21, 22, 23, 24, 25, 26, 27, 28, 29, 30, 31, 32, 33, 34, 35, 36, 37, 38, 39, 40, 41, 42, 43] (by decide +kernel) (by decide +kernel)
set_option maxRecDepth 20000 in
theorem gX12_like_X12_isOne : GoodIn wsX12_like (wsV RX12 183 RX12 yX12_isOne wsX12_isOne) := goodIn_app (goodIn_of _ (by decide +kernel)) ggX12_like_X12_isOne
set_option maxRecDepth 20000 in
theorem ggX12_like_X12_in : GoodIn wsX12_like wsX12_in := goodIn_r _ [10] (by decide +kernel) (by decide +kernel)
set_option maxRecDepth 20000 in
theorem gX12_like_X12_in : GoodIn wsX12_like (va_wsS RX12 53 yX12_in wsX12_in) := goodIn_app (goodIn_of _ (by decide +kernel)) ggX12_like_X12_in
set_option maxRecDepth 20000 in
theorem ggX12_like_X12_note : GoodIn wsX12_like wsX12_note := goodIn_r _ [14, 15, 16, 2, 17, 18, 6, 19, 20, 21, 22, 23, 24, 25, 26, 27, 28, 29, 30, 31, 32, 33, 34, 35, 36, 37, 38, 39, 40, 41, 42, 43] (by decide +kernel) (by decide +kernel)
set_option maxRecDepth 20000 in
theorem gX12_like_X12_note : GoodIn wsX12_like (wsV RX12 173 RX12 yX12_note wsX12_note) := goodIn_app (goodIn_of _ (by decide +kernel)) ggX12_like_X12_note
theorem dX12_like_0 : decode cX12_like 0 = .ok (.aload_n 0, 1) := by decide +kernel
theorem dX12_like_1 : decode cX12_like 1 = .ok (.iload_n 1, 1) := by decide +kernel
theorem dX12_like_2 : decode cX12_like 2 = .ok (.invokevirtual 183, 3) := by decide +kernel
theorem dX12_like_5 : decode cX12_like 5 = .ok (.ifCond .eq 18, 3) := by decide +kernel
theorem dX12_like_8 : decode cX12_like 8 = .ok (.iload_n 2, 1) := by decide +kernel
theorem dX12_like_9 : decode cX12_like 9 = .ok (.iconst 0, 1) := by decide +kernel
theorem dX12_like_10 : decode cX12_like 10 = .ok (.bipush 7, 2) := by decide +kernel
theorem dX12_like_12 : decode cX12_like 12 = .ok (.invokestatic 53, 3) := by decide +kernel
theorem dX12_like_15 : decode cX12_like 15 = .ok (.ifCond .eq 8, 3) := by decide +kernel
theorem dX12_like_18 : decode cX12_like 18 = .ok (.iload_n 2, 1) := by decide +kernel
theorem dX12_like_19 : decode cX12_like 19 = .ok (.iload_n 1, 1) := by decide +kernel
theorem dX12_like_20 : decode cX12_like 20 = .ok (.if_icmp .ne 6, 3) := by decide +kernel
theorem dX12_like_23 : decode cX12_like 23 = .ok (.ldc 66, 2) := by decide +kernel
theorem dX12_like_25 : decode cX12_like 25 = .ok (.ireturn, 1) := by decide +kernel
theorem dX12_like_26 : decode cX12_like 26 = .ok (.aload_n 0, 1) := by decide +kernel
theorem dX12_like_27 : decode cX12_like 27 = .ok (.invokevirtual 173, 3) := by decide +kernel
theorem dX12_like_30 : decode cX12_like 30 = .ok (.aload_n 0, 1) := by decide +kernel
theorem dX12_like_31 : decode cX12_like 31 = .ok (.getfield 22, 3) := by decide +kernel
theorem dX12_like_34 : decode cX12_like 34 = .ok (.bipush 13, 2) := by decide +kernel
theorem dX12_like_36 : decode cX12_like 36 = .ok (.iload_n 1, 1) := by decide +kernel
theorem dX12_like_37 : decode cX12_like 37 = .ok (.iadd, 1) := by decide +kernel
theorem dX12_like_38 : decode cX12_like 38 = .ok (.iaload, 1) := by decide +kernel
theorem dX12_like_39 : decode cX12_like 39 = .ok (.istore_n 3, 1) := by decide +kernel
theorem dX12_like_40 : decode cX12_like 40 = .ok (.aload_n 0, 1) := by decide +kernel
theorem dX12_like_41 : decode cX12_like 41 = .ok (.getfield 22, 3) := by decide +kernel
theorem dX12_like_44 : decode cX12_like 44 = .ok (.bipush 13, 2) := by decide +kernel
theorem dX12_like_46 : decode cX12_like 46 = .ok (.iload_n 1, 1) := by decide +kernel
theorem dX12_like_47 : decode cX12_like 47 = .ok (.iadd, 1) := by decide +kernel
theorem dX12_like_48 : decode cX12_like 48 = .ok (.iload_n 2, 1) := by decide +kernel
theorem dX12_like_49 : decode cX12_like 49 = .ok (.iastore, 1) := by decide +kernel
theorem dX12_like_50 : decode cX12_like 50 = .ok (.iload_n 3, 1) := by decide +kernel
theorem dX12_like_51 : decode cX12_like 51 = .ok (.ireturn, 1) := by decide +kernel
set_option maxRecDepth 20000 in
theorem ggX12_undo_X12_lay : GoodIn wsX12_undo wsX12_lay := goodIn_r _ [8] (by decide +kernel) (by decide +kernel)
set_option maxRecDepth 20000 in
theorem gX12_undo_X12_lay : GoodIn wsX12_undo (va_wsS RX12 130 yX12_lay wsX12_lay) := goodIn_app (goodIn_of _ (by decide +kernel)) ggX12_undo_X12_lay
theorem dX12_undo_0 : decode cX12_undo 0 = .ok (.aload_n 0, 1) := by decide +kernel
theorem dX12_undo_1 : decode cX12_undo 1 = .ok (.getfield 134, 3) := by decide +kernel
theorem dX12_undo_4 : decode cX12_undo 4 = .ok (.ifCond .ne 6, 3) := by decide +kernel
theorem dX12_undo_7 : decode cX12_undo 7 = .ok (.ldc 172, 2) := by decide +kernel
theorem dX12_undo_9 : decode cX12_undo 9 = .ok (.ireturn, 1) := by decide +kernel
theorem dX12_undo_10 : decode cX12_undo 10 = .ok (.aload_n 0, 1) := by decide +kernel
theorem dX12_undo_11 : decode cX12_undo 11 = .ok (.dup, 1) := by decide +kernel
theorem dX12_undo_12 : decode cX12_undo 12 = .ok (.getfield 134, 3) := by decide +kernel
theorem dX12_undo_15 : decode cX12_undo 15 = .ok (.iconst 1, 1) := by decide +kernel
theorem dX12_undo_16 : decode cX12_undo 16 = .ok (.isub, 1) := by decide +kernel
theorem dX12_undo_17 : decode cX12_undo 17 = .ok (.putfield 134, 3) := by decide +kernel
theorem dX12_undo_20 : decode cX12_undo 20 = .ok (.aload_n 0, 1) := by decide +kernel
theorem dX12_undo_21 : decode cX12_undo 21 = .ok (.getfield 41, 3) := by decide +kernel
theorem dX12_undo_24 : decode cX12_undo 24 = .ok (.bipush 37, 2) := by decide +kernel
theorem dX12_undo_26 : decode cX12_undo 26 = .ok (.aload_n 0, 1) := by decide +kernel
theorem dX12_undo_27 : decode cX12_undo 27 = .ok (.getfield 134, 3) := by decide +kernel
theorem dX12_undo_30 : decode cX12_undo 30 = .ok (.imul, 1) := by decide +kernel
theorem dX12_undo_31 : decode cX12_undo 31 = .ok (.aload_n 0, 1) := by decide +kernel
theorem dX12_undo_32 : decode cX12_undo 32 = .ok (.getfield 22, 3) := by decide +kernel
theorem dX12_undo_35 : decode cX12_undo 35 = .ok (.iconst 0, 1) := by decide +kernel
theorem dX12_undo_36 : decode cX12_undo 36 = .ok (.invokestatic 130, 3) := by decide +kernel
theorem dX12_undo_39 : decode cX12_undo 39 = .ok (.aload_n 0, 1) := by decide +kernel
theorem dX12_undo_40 : decode cX12_undo 40 = .ok (.getfield 134, 3) := by decide +kernel
theorem dX12_undo_43 : decode cX12_undo 43 = .ok (.ireturn, 1) := by decide +kernel
set_option maxRecDepth 20000 in
theorem ggX12_card_X12_isOne : GoodIn wsX12_card wsX12_isOne := goodIn_r _ [7, 2, 8, 9, 6, 10, 15, 16, 17, 18, 19, 20, 21, 22, 23, 24, 25, 26, 27, 28, 29, 30, 31, 32, 33, 34, 35, 36, 37, 38] (by decide +kernel) (by decide +kernel)
set_option maxRecDepth 20000 in
theorem gX12_card_X12_isOne : GoodIn wsX12_card (wsV RX12 183 RX12 yX12_isOne wsX12_isOne) := goodIn_app (goodIn_of _ (by decide +kernel)) ggX12_card_X12_isOne
set_option maxRecDepth 20000 in
theorem ggX12_card_X12_cardAt : GoodIn wsX12_card wsX12_cardAt := goodIn_r _ [13, 14] (by decide +kernel) (by decide +kernel)
set_option maxRecDepth 20000 in
theorem gX12_card_X12_cardAt : GoodIn wsX12_card (va_wsS RX12 153 yX12_cardAt wsX12_cardAt) := goodIn_app (goodIn_of _ (by decide +kernel)) ggX12_card_X12_cardAt
theorem dX12_card_0 : decode cX12_card 0 = .ok (.aload_n 0, 1) := by decide +kernel
theorem dX12_card_1 : decode cX12_card 1 = .ok (.iload_n 1, 1) := by decide +kernel
theorem dX12_card_2 : decode cX12_card 2 = .ok (.invokevirtual 183, 3) := by decide +kernel
theorem dX12_card_5 : decode cX12_card 5 = .ok (.ifCond .ne 6, 3) := by decide +kernel
theorem dX12_card_8 : decode cX12_card 8 = .ok (.ldc 66, 2) := by decide +kernel
theorem dX12_card_10 : decode cX12_card 10 = .ok (.ireturn, 1) := by decide +kernel
theorem dX12_card_11 : decode cX12_card 11 = .ok (.iload_n 2, 1) := by decide +kernel
theorem dX12_card_12 : decode cX12_card 12 = .ok (.tableswitch 90 0 3 #[32, 42, 52, 62], 32) := by decide +kernel
theorem dX12_card_44 : decode cX12_card 44 = .ok (.aload_n 0, 1) := by decide +kernel
theorem dX12_card_45 : decode cX12_card 45 = .ok (.getfield 22, 3) := by decide +kernel
theorem dX12_card_48 : decode cX12_card 48 = .ok (.bipush 21, 2) := by decide +kernel
theorem dX12_card_50 : decode cX12_card 50 = .ok (.iload_n 1, 1) := by decide +kernel
theorem dX12_card_51 : decode cX12_card 51 = .ok (.iadd, 1) := by decide +kernel
theorem dX12_card_52 : decode cX12_card 52 = .ok (.iaload, 1) := by decide +kernel
theorem dX12_card_53 : decode cX12_card 53 = .ok (.ireturn, 1) := by decide +kernel
theorem dX12_card_54 : decode cX12_card 54 = .ok (.aload_n 0, 1) := by decide +kernel
theorem dX12_card_55 : decode cX12_card 55 = .ok (.getfield 22, 3) := by decide +kernel
theorem dX12_card_58 : decode cX12_card 58 = .ok (.bipush 29, 2) := by decide +kernel
theorem dX12_card_60 : decode cX12_card 60 = .ok (.iload_n 1, 1) := by decide +kernel
theorem dX12_card_61 : decode cX12_card 61 = .ok (.iadd, 1) := by decide +kernel
theorem dX12_card_62 : decode cX12_card 62 = .ok (.iaload, 1) := by decide +kernel
theorem dX12_card_63 : decode cX12_card 63 = .ok (.ireturn, 1) := by decide +kernel
theorem dX12_card_64 : decode cX12_card 64 = .ok (.aload_n 0, 1) := by decide +kernel
theorem dX12_card_65 : decode cX12_card 65 = .ok (.getfield 22, 3) := by decide +kernel
theorem dX12_card_68 : decode cX12_card 68 = .ok (.bipush 13, 2) := by decide +kernel
theorem dX12_card_70 : decode cX12_card 70 = .ok (.iload_n 1, 1) := by decide +kernel
theorem dX12_card_71 : decode cX12_card 71 = .ok (.iadd, 1) := by decide +kernel
theorem dX12_card_72 : decode cX12_card 72 = .ok (.iaload, 1) := by decide +kernel
theorem dX12_card_73 : decode cX12_card 73 = .ok (.ireturn, 1) := by decide +kernel
theorem dX12_card_74 : decode cX12_card 74 = .ok (.aload_n 0, 1) := by decide +kernel
theorem dX12_card_75 : decode cX12_card 75 = .ok (.getfield 22, 3) := by decide +kernel
theorem dX12_card_78 : decode cX12_card 78 = .ok (.aload_n 0, 1) := by decide +kernel
theorem dX12_card_79 : decode cX12_card 79 = .ok (.getfield 22, 3) := by decide +kernel
theorem dX12_card_82 : decode cX12_card 82 = .ok (.bipush 21, 2) := by decide +kernel
theorem dX12_card_84 : decode cX12_card 84 = .ok (.iload_n 1, 1) := by decide +kernel
theorem dX12_card_85 : decode cX12_card 85 = .ok (.iadd, 1) := by decide +kernel
theorem dX12_card_86 : decode cX12_card 86 = .ok (.iaload, 1) := by decide +kernel
theorem dX12_card_87 : decode cX12_card 87 = .ok (.aload_n 0, 1) := by decide +kernel
theorem dX12_card_88 : decode cX12_card 88 = .ok (.getfield 22, 3) := by decide +kernel
theorem dX12_card_91 : decode cX12_card 91 = .ok (.bipush 29, 2) := by decide +kernel
theorem dX12_card_93 : decode cX12_card 93 = .ok (.iload_n 1, 1) := by decide +kernel
theorem dX12_card_94 : decode cX12_card 94 = .ok (.iadd, 1) := by decide +kernel
theorem dX12_card_95 : decode cX12_card 95 = .ok (.iaload, 1) := by decide +kernel
theorem dX12_card_96 : decode cX12_card 96 = .ok (.iconst 1, 1) := by decide +kernel
theorem dX12_card_97 : decode cX12_card 97 = .ok (.isub, 1) := by decide +kernel
theorem dX12_card_98 : decode cX12_card 98 = .ok (.invokestatic 153, 3) := by decide +kernel
theorem dX12_card_101 : decode cX12_card 101 = .ok (.ireturn, 1) := by decide +kernel
theorem dX12_card_102 : decode cX12_card 102 = .ok (.ldc 66, 2) := by decide +kernel
theorem dX12_card_104 : decode cX12_card 104 = .ok (.ireturn, 1) := by decide +kernel
theorem dX12_cardsIn_0 : decode cX12_cardsIn 0 = .ok (.iconst 0, 1) := by decide +kernel
theorem dX12_cardsIn_1 : decode cX12_cardsIn 1 = .ok (.istore_n 2, 1) := by decide +kernel
theorem dX12_cardsIn_2 : decode cX12_cardsIn 2 = .ok (.iconst 0, 1) := by decide +kernel
theorem dX12_cardsIn_3 : decode cX12_cardsIn 3 = .ok (.istore_n 3, 1) := by decide +kernel
theorem dX12_cardsIn_4 : decode cX12_cardsIn 4 = .ok (.iload_n 3, 1) := by decide +kernel
theorem dX12_cardsIn_5 : decode cX12_cardsIn 5 = .ok (.aload_n 0, 1) := by decide +kernel
theorem dX12_cardsIn_6 : decode cX12_cardsIn 6 = .ok (.iconst 3, 1) := by decide +kernel
theorem dX12_cardsIn_7 : decode cX12_cardsIn 7 = .ok (.iaload, 1) := by decide +kernel
theorem dX12_cardsIn_8 : decode cX12_cardsIn 8 = .ok (.if_icmp .ge 29, 3) := by decide +kernel
theorem dX12_cardsIn_11 : decode cX12_cardsIn 11 = .ok (.iload_n 2, 1) := by decide +kernel
theorem dX12_cardsIn_12 : decode cX12_cardsIn 12 = .ok (.aload_n 0, 1) := by decide +kernel
theorem dX12_cardsIn_13 : decode cX12_cardsIn 13 = .ok (.bipush 21, 2) := by decide +kernel
theorem dX12_cardsIn_15 : decode cX12_cardsIn 15 = .ok (.iload_n 3, 1) := by decide +kernel
theorem dX12_cardsIn_16 : decode cX12_cardsIn 16 = .ok (.iadd, 1) := by decide +kernel
theorem dX12_cardsIn_17 : decode cX12_cardsIn 17 = .ok (.iaload, 1) := by decide +kernel
theorem dX12_cardsIn_18 : decode cX12_cardsIn 18 = .ok (.iload_n 1, 1) := by decide +kernel
theorem dX12_cardsIn_19 : decode cX12_cardsIn 19 = .ok (.if_icmp .ne 9, 3) := by decide +kernel
theorem dX12_cardsIn_22 : decode cX12_cardsIn 22 = .ok (.iconst 1, 1) := by decide +kernel
theorem dX12_cardsIn_23 : decode cX12_cardsIn 23 = .ok (.iload_n 3, 1) := by decide +kernel
theorem dX12_cardsIn_24 : decode cX12_cardsIn 24 = .ok (.ishl, 1) := by decide +kernel
theorem dX12_cardsIn_25 : decode cX12_cardsIn 25 = .ok (.goto 4, 3) := by decide +kernel
theorem dX12_cardsIn_28 : decode cX12_cardsIn 28 = .ok (.iconst 0, 1) := by decide +kernel
theorem dX12_cardsIn_29 : decode cX12_cardsIn 29 = .ok (.ior, 1) := by decide +kernel
theorem dX12_cardsIn_30 : decode cX12_cardsIn 30 = .ok (.istore_n 2, 1) := by decide +kernel
theorem dX12_cardsIn_31 : decode cX12_cardsIn 31 = .ok (.iinc 3 1, 3) := by decide +kernel
theorem dX12_cardsIn_34 : decode cX12_cardsIn 34 = .ok (.goto (-30), 3) := by decide +kernel
theorem dX12_cardsIn_37 : decode cX12_cardsIn 37 = .ok (.iload_n 2, 1) := by decide +kernel
theorem dX12_cardsIn_38 : decode cX12_cardsIn 38 = .ok (.ireturn, 1) := by decide +kernel
set_option maxRecDepth 20000 in
theorem ggX12_drawer_X12_isDrawer : GoodIn wsX12_drawer wsX12_isDrawer := goodIn_r _ [7, 2, 8, 9, 6, 10, 21, 22, 23, 24, 25, 26, 27, 28, 29, 30, 31, 32, 33, 34, 35, 36, 37, 38, 39, 40, 41, 42, 43, 44] (by decide +kernel) (by decide +kernel)
set_option maxRecDepth 20000 in
theorem gX12_drawer_X12_isDrawer : GoodIn wsX12_drawer (wsV RX12 186 RX12 yX12_isDrawer wsX12_isDrawer) := goodIn_app (goodIn_of _ (by decide +kernel)) ggX12_drawer_X12_isDrawer
set_option maxRecDepth 20000 in
theorem ggX12_drawer_X12_inDrawer : GoodIn wsX12_drawer wsX12_inDrawer := goodIn_r _ [13] (by decide +kernel) (by decide +kernel)
set_option maxRecDepth 20000 in
theorem gX12_drawer_X12_inDrawer : GoodIn wsX12_drawer (va_wsS RX12 112 yX12_inDrawer wsX12_inDrawer) := goodIn_app (goodIn_of _ (by decide +kernel)) ggX12_drawer_X12_inDrawer
set_option maxRecDepth 20000 in
theorem ggX12_drawer_X12_cardsIn : GoodIn wsX12_drawer wsX12_cardsIn := goodIn_r _ [16] (by decide +kernel) (by decide +kernel)
set_option maxRecDepth 20000 in
theorem gX12_drawer_X12_cardsIn : GoodIn wsX12_drawer (va_wsS RX12 189 yX12_cardsIn wsX12_cardsIn) := goodIn_app (goodIn_of _ (by decide +kernel)) ggX12_drawer_X12_cardsIn
set_option maxRecDepth 20000 in
theorem ggX12_drawer_X12_cardAt : GoodIn wsX12_drawer wsX12_cardAt := goodIn_r _ [19, 20] (by decide +kernel) (by decide +kernel)
set_option maxRecDepth 20000 in
theorem gX12_drawer_X12_cardAt : GoodIn wsX12_drawer (va_wsS RX12 153 yX12_cardAt wsX12_cardAt) := goodIn_app (goodIn_of _ (by decide +kernel)) ggX12_drawer_X12_cardAt
theorem dX12_drawer_0 : decode cX12_drawer 0 = .ok (.aload_n 0, 1) := by decide +kernel
theorem dX12_drawer_1 : decode cX12_drawer 1 = .ok (.iload_n 1, 1) := by decide +kernel
theorem dX12_drawer_2 : decode cX12_drawer 2 = .ok (.invokevirtual 186, 3) := by decide +kernel
theorem dX12_drawer_5 : decode cX12_drawer 5 = .ok (.ifCond .ne 6, 3) := by decide +kernel
theorem dX12_drawer_8 : decode cX12_drawer 8 = .ok (.ldc 66, 2) := by decide +kernel
theorem dX12_drawer_10 : decode cX12_drawer 10 = .ok (.ireturn, 1) := by decide +kernel
theorem dX12_drawer_11 : decode cX12_drawer 11 = .ok (.iload_n 2, 1) := by decide +kernel
theorem dX12_drawer_12 : decode cX12_drawer 12 = .ok (.ifCond .ne 14, 3) := by decide +kernel
theorem dX12_drawer_15 : decode cX12_drawer 15 = .ok (.aload_n 0, 1) := by decide +kernel
theorem dX12_drawer_16 : decode cX12_drawer 16 = .ok (.getfield 22, 3) := by decide +kernel
theorem dX12_drawer_19 : decode cX12_drawer 19 = .ok (.iload_n 1, 1) := by decide +kernel
theorem dX12_drawer_20 : decode cX12_drawer 20 = .ok (.invokestatic 112, 3) := by decide +kernel
theorem dX12_drawer_23 : decode cX12_drawer 23 = .ok (.goto 38, 3) := by decide +kernel
theorem dX12_drawer_26 : decode cX12_drawer 26 = .ok (.iload_n 2, 1) := by decide +kernel
theorem dX12_drawer_27 : decode cX12_drawer 27 = .ok (.iconst 1, 1) := by decide +kernel
theorem dX12_drawer_28 : decode cX12_drawer 28 = .ok (.if_icmp .ne 14, 3) := by decide +kernel
theorem dX12_drawer_31 : decode cX12_drawer 31 = .ok (.aload_n 0, 1) := by decide +kernel
theorem dX12_drawer_32 : decode cX12_drawer 32 = .ok (.getfield 22, 3) := by decide +kernel
theorem dX12_drawer_35 : decode cX12_drawer 35 = .ok (.iload_n 1, 1) := by decide +kernel
theorem dX12_drawer_36 : decode cX12_drawer 36 = .ok (.invokestatic 189, 3) := by decide +kernel
theorem dX12_drawer_39 : decode cX12_drawer 39 = .ok (.goto 22, 3) := by decide +kernel
theorem dX12_drawer_42 : decode cX12_drawer 42 = .ok (.iload_n 2, 1) := by decide +kernel
theorem dX12_drawer_43 : decode cX12_drawer 43 = .ok (.iconst 2, 1) := by decide +kernel
theorem dX12_drawer_44 : decode cX12_drawer 44 = .ok (.if_icmp .ne 15, 3) := by decide +kernel
theorem dX12_drawer_47 : decode cX12_drawer 47 = .ok (.aload_n 0, 1) := by decide +kernel
theorem dX12_drawer_48 : decode cX12_drawer 48 = .ok (.getfield 22, 3) := by decide +kernel
theorem dX12_drawer_51 : decode cX12_drawer 51 = .ok (.iload_n 1, 1) := by decide +kernel
theorem dX12_drawer_52 : decode cX12_drawer 52 = .ok (.iconst 0, 1) := by decide +kernel
theorem dX12_drawer_53 : decode cX12_drawer 53 = .ok (.invokestatic 153, 3) := by decide +kernel
theorem dX12_drawer_56 : decode cX12_drawer 56 = .ok (.goto 5, 3) := by decide +kernel
theorem dX12_drawer_59 : decode cX12_drawer 59 = .ok (.ldc 66, 2) := by decide +kernel
theorem dX12_drawer_61 : decode cX12_drawer 61 = .ok (.ireturn, 1) := by decide +kernel
set_option maxRecDepth 20000 in
theorem ggX12_begin_X12_lay : GoodIn wsX12_begin wsX12_lay := goodIn_r _ [6] (by decide +kernel) (by decide +kernel)
set_option maxRecDepth 20000 in
theorem gX12_begin_X12_lay : GoodIn wsX12_begin (va_wsS RX12 130 yX12_lay wsX12_lay) := goodIn_app (goodIn_of _ (by decide +kernel)) ggX12_begin_X12_lay
theorem dX12_begin_0 : decode cX12_begin 0 = .ok (.aload_n 0, 1) := by decide +kernel
theorem dX12_begin_1 : decode cX12_begin 1 = .ok (.getfield 22, 3) := by decide +kernel
theorem dX12_begin_4 : decode cX12_begin 4 = .ok (.iconst 0, 1) := by decide +kernel
theorem dX12_begin_5 : decode cX12_begin 5 = .ok (.aload_n 0, 1) := by decide +kernel
theorem dX12_begin_6 : decode cX12_begin 6 = .ok (.getfield 28, 3) := by decide +kernel
theorem dX12_begin_9 : decode cX12_begin 9 = .ok (.iconst 0, 1) := by decide +kernel
theorem dX12_begin_10 : decode cX12_begin 10 = .ok (.invokestatic 130, 3) := by decide +kernel
theorem dX12_begin_13 : decode cX12_begin 13 = .ok (.return_, 1) := by decide +kernel
set_option maxRecDepth 20000 in
theorem ggX12_goOn_X12_nightIn : GoodIn wsX12_goOn wsX12_nightIn := goodIn_r _ [5, 6, 7, 4, 8, 9, 10, 11, 12, 13, 14, 15, 16, 17, 18, 19, 20, 21, 22, 23, 24, 25, 26, 27, 28, 29, 30, 31, 32, 33, 34, 35, 36] (by decide +kernel) (by decide +kernel)
set_option maxRecDepth 20000 in
theorem gX12_goOn_X12_nightIn : GoodIn wsX12_goOn (va_wsS RX12 176 yX12_nightIn wsX12_nightIn) := goodIn_app (goodIn_of _ (by decide +kernel)) ggX12_goOn_X12_nightIn
theorem dX12_goOn_0 : decode cX12_goOn 0 = .ok (.iconst 0, 1) := by decide +kernel
theorem dX12_goOn_1 : decode cX12_goOn 1 = .ok (.istore_n 2, 1) := by decide +kernel
theorem dX12_goOn_2 : decode cX12_goOn 2 = .ok (.iload_n 2, 1) := by decide +kernel
theorem dX12_goOn_3 : decode cX12_goOn 3 = .ok (.iload_n 1, 1) := by decide +kernel
theorem dX12_goOn_4 : decode cX12_goOn 4 = .ok (.if_icmp .ge 17, 3) := by decide +kernel
theorem dX12_goOn_7 : decode cX12_goOn 7 = .ok (.aload_n 0, 1) := by decide +kernel
theorem dX12_goOn_8 : decode cX12_goOn 8 = .ok (.getfield 28, 3) := by decide +kernel
theorem dX12_goOn_11 : decode cX12_goOn 11 = .ok (.iconst 0, 1) := by decide +kernel
theorem dX12_goOn_12 : decode cX12_goOn 12 = .ok (.invokestatic 176, 3) := by decide +kernel
theorem dX12_goOn_15 : decode cX12_goOn 15 = .ok (.iinc 2 1, 3) := by decide +kernel
theorem dX12_goOn_18 : decode cX12_goOn 18 = .ok (.goto (-16), 3) := by decide +kernel
theorem dX12_goOn_21 : decode cX12_goOn 21 = .ok (.return_, 1) := by decide +kernel
set_option maxRecDepth 20000 in
theorem ggX12_ahead_X12_isOne : GoodIn wsX12_ahead wsX12_isOne := goodIn_r _ [7, 8, 9, 10, 6, 11, 57, 58, 59, 60, 61, 62, 63, 64, 65, 66, 67, 68, 69, 70, 71, 72, 73, 74, 75, 76, 77, 78, 79, 80] (by decide +kernel) (by decide +kernel)
set_option maxRecDepth 20000 in
theorem gX12_ahead_X12_isOne : GoodIn wsX12_ahead (wsV RX12 183 RX12 yX12_isOne wsX12_isOne) := goodIn_app (goodIn_of _ (by decide +kernel)) ggX12_ahead_X12_isOne
set_option maxRecDepth 20000 in
theorem ggX12_ahead_X12_in : GoodIn wsX12_ahead wsX12_in := goodIn_r _ [11] (by decide +kernel) (by decide +kernel)
set_option maxRecDepth 20000 in
theorem gX12_ahead_X12_in : GoodIn wsX12_ahead (va_wsS RX12 53 yX12_in wsX12_in) := goodIn_app (goodIn_of _ (by decide +kernel)) ggX12_ahead_X12_in
set_option maxRecDepth 20000 in
theorem ggX12_ahead_X12_begin : GoodIn wsX12_ahead wsX12_begin := goodIn_r _ [15, 8, 2, 16, 17, 6, 18, 57, 58, 59, 60, 61, 62, 63, 64, 65, 66, 67, 68, 69, 70, 71, 72, 73, 74, 75, 76, 77, 78, 79, 80] (by decide +kernel) (by decide +kernel)
set_option maxRecDepth 20000 in
theorem gX12_ahead_X12_begin : GoodIn wsX12_ahead (wsV RX12 192 RX12 yX12_begin wsX12_begin) := goodIn_app (goodIn_of _ (by decide +kernel)) ggX12_ahead_X12_begin
set_option maxRecDepth 20000 in
theorem ggX12_ahead_X12_goOn : GoodIn wsX12_ahead wsX12_goOn := goodIn_r _ [22, 2, 23, 24, 6, 25, 26, 27, 28, 29, 30, 31, 32, 33, 34, 35, 36, 37, 38, 39, 40, 41, 42, 43, 44, 45, 46, 47, 48, 49, 50, 51, 52, 53, 54, 55, 56, 57, 58, 59, 60, 61, 62, 63, 64, 65, 66, 67, 68, 69, 70, 71, 72, 73, 74, 75, 76, 77, 78, 79, 80] (by decide +kernel) (by decide +kernel)
set_option maxRecDepth 20000 in
theorem gX12_ahead_X12_goOn : GoodIn wsX12_ahead (wsV RX12 195 RX12 yX12_goOn wsX12_goOn) := goodIn_app (goodIn_of _ (by decide +kernel)) ggX12_ahead_X12_goOn
theorem dX12_ahead_0 : decode cX12_ahead 0 = .ok (.aload_n 0, 1) := by decide +kernel
theorem dX12_ahead_1 : decode cX12_ahead 1 = .ok (.iload_n 1, 1) := by decide +kernel
theorem dX12_ahead_2 : decode cX12_ahead 2 = .ok (.invokevirtual 183, 3) := by decide +kernel
theorem dX12_ahead_5 : decode cX12_ahead 5 = .ok (.ifCond .eq 22, 3) := by decide +kernel
theorem dX12_ahead_8 : decode cX12_ahead 8 = .ok (.iload_n 2, 1) := by decide +kernel
theorem dX12_ahead_9 : decode cX12_ahead 9 = .ok (.iconst 0, 1) := by decide +kernel
theorem dX12_ahead_10 : decode cX12_ahead 10 = .ok (.bipush 60, 2) := by decide +kernel
theorem dX12_ahead_12 : decode cX12_ahead 12 = .ok (.invokestatic 53, 3) := by decide +kernel
theorem dX12_ahead_15 : decode cX12_ahead 15 = .ok (.ifCond .eq 12, 3) := by decide +kernel
theorem dX12_ahead_18 : decode cX12_ahead 18 = .ok (.iload_n 3, 1) := by decide +kernel
theorem dX12_ahead_19 : decode cX12_ahead 19 = .ok (.iconst 0, 1) := by decide +kernel
theorem dX12_ahead_20 : decode cX12_ahead 20 = .ok (.iconst 1, 1) := by decide +kernel
theorem dX12_ahead_21 : decode cX12_ahead 21 = .ok (.invokestatic 53, 3) := by decide +kernel
theorem dX12_ahead_24 : decode cX12_ahead 24 = .ok (.ifCond .ne 6, 3) := by decide +kernel
theorem dX12_ahead_27 : decode cX12_ahead 27 = .ok (.ldc 66, 2) := by decide +kernel
theorem dX12_ahead_29 : decode cX12_ahead 29 = .ok (.ireturn, 1) := by decide +kernel
theorem dX12_ahead_30 : decode cX12_ahead 30 = .ok (.aload_n 0, 1) := by decide +kernel
theorem dX12_ahead_31 : decode cX12_ahead 31 = .ok (.invokevirtual 192, 3) := by decide +kernel
theorem dX12_ahead_34 : decode cX12_ahead 34 = .ok (.aload_n 0, 1) := by decide +kernel
theorem dX12_ahead_35 : decode cX12_ahead 35 = .ok (.iload_n 2, 1) := by decide +kernel
theorem dX12_ahead_36 : decode cX12_ahead 36 = .ok (.invokevirtual 195, 3) := by decide +kernel
theorem dX12_ahead_39 : decode cX12_ahead 39 = .ok (.iload_n 3, 1) := by decide +kernel
theorem dX12_ahead_40 : decode cX12_ahead 40 = .ok (.ifCond .ne 15, 3) := by decide +kernel
theorem dX12_ahead_43 : decode cX12_ahead 43 = .ok (.aload_n 0, 1) := by decide +kernel
theorem dX12_ahead_44 : decode cX12_ahead 44 = .ok (.getfield 28, 3) := by decide +kernel
theorem dX12_ahead_47 : decode cX12_ahead 47 = .ok (.bipush 21, 2) := by decide +kernel
theorem dX12_ahead_49 : decode cX12_ahead 49 = .ok (.iload_n 1, 1) := by decide +kernel
theorem dX12_ahead_50 : decode cX12_ahead 50 = .ok (.iadd, 1) := by decide +kernel
theorem dX12_ahead_51 : decode cX12_ahead 51 = .ok (.iaload, 1) := by decide +kernel
theorem dX12_ahead_52 : decode cX12_ahead 52 = .ok (.goto 12, 3) := by decide +kernel
theorem dX12_ahead_55 : decode cX12_ahead 55 = .ok (.aload_n 0, 1) := by decide +kernel
theorem dX12_ahead_56 : decode cX12_ahead 56 = .ok (.getfield 28, 3) := by decide +kernel
theorem dX12_ahead_59 : decode cX12_ahead 59 = .ok (.bipush 29, 2) := by decide +kernel
theorem dX12_ahead_61 : decode cX12_ahead 61 = .ok (.iload_n 1, 1) := by decide +kernel
theorem dX12_ahead_62 : decode cX12_ahead 62 = .ok (.iadd, 1) := by decide +kernel
theorem dX12_ahead_63 : decode cX12_ahead 63 = .ok (.iaload, 1) := by decide +kernel
theorem dX12_ahead_64 : decode cX12_ahead 64 = .ok (.ireturn, 1) := by decide +kernel
set_option maxRecDepth 20000 in
theorem ggX12_found_X12_isOne : GoodIn wsX12_found wsX12_isOne := goodIn_r _ [8, 9, 10, 11, 7, 12, 61, 62, 63, 64, 65, 66, 67, 68, 69, 70, 71, 72, 73, 74, 75, 76, 77, 78, 79, 80, 81, 82, 83, 84] (by decide +kernel) (by decide +kernel)
set_option maxRecDepth 20000 in
theorem gX12_found_X12_isOne : GoodIn wsX12_found (wsV RX12 183 RX12 yX12_isOne wsX12_isOne) := goodIn_app (goodIn_of _ (by decide +kernel)) ggX12_found_X12_isOne
set_option maxRecDepth 20000 in
theorem ggX12_found_X12_isDrawer : GoodIn wsX12_found wsX12_isDrawer := goodIn_r _ [16, 9, 10, 11, 7, 12, 61, 62, 63, 64, 65, 66, 67, 68, 69, 70, 71, 72, 73, 74, 75, 76, 77, 78, 79, 80, 81, 82, 83, 84] (by decide +kernel) (by decide +kernel)
set_option maxRecDepth 20000 in
theorem gX12_found_X12_isDrawer : GoodIn wsX12_found (wsV RX12 186 RX12 yX12_isDrawer wsX12_isDrawer) := goodIn_app (goodIn_of _ (by decide +kernel)) ggX12_found_X12_isDrawer
set_option maxRecDepth 20000 in
theorem ggX12_found_X12_begin : GoodIn wsX12_found wsX12_begin := goodIn_r _ [20, 9, 2, 21, 22, 7, 23, 61, 62, 63, 64, 65, 66, 67, 68, 69, 70, 71, 72, 73, 74, 75, 76, 77, 78, 79, 80, 81, 82, 83, 84] (by decide +kernel) (by decide +kernel)
set_option maxRecDepth 20000 in
theorem gX12_found_X12_begin : GoodIn wsX12_found (wsV RX12 192 RX12 yX12_begin wsX12_begin) := goodIn_app (goodIn_of _ (by decide +kernel)) ggX12_found_X12_begin
set_option maxRecDepth 20000 in
theorem ggX12_found_X12_goOn : GoodIn wsX12_found wsX12_goOn := goodIn_r _ [27, 2, 28, 29, 7, 30, 31, 32, 33, 34, 35, 36, 37, 38, 39, 40, 41, 42, 3, 43, 44, 45, 46, 47, 48, 49, 50, 51, 52, 53, 54, 55, 56, 57, 58, 59, 60, 61, 62, 63, 64, 65, 66, 67, 68, 69, 70, 71, 72, 73, 74, 75, 76, 77, 78, 79, 80, 81, 82, 83, 84] (by decide +kernel) (by decide +kernel)
set_option maxRecDepth 20000 in
theorem gX12_found_X12_goOn : GoodIn wsX12_found (wsV RX12 195 RX12 yX12_goOn wsX12_goOn) := goodIn_app (goodIn_of _ (by decide +kernel)) ggX12_found_X12_goOn
theorem dX12_found_0 : decode cX12_found 0 = .ok (.aload_n 0, 1) := by decide +kernel
theorem dX12_found_1 : decode cX12_found 1 = .ok (.iload_n 1, 1) := by decide +kernel
theorem dX12_found_2 : decode cX12_found 2 = .ok (.invokevirtual 183, 3) := by decide +kernel
theorem dX12_found_5 : decode cX12_found 5 = .ok (.ifCond .eq 11, 3) := by decide +kernel
theorem dX12_found_8 : decode cX12_found 8 = .ok (.aload_n 0, 1) := by decide +kernel
theorem dX12_found_9 : decode cX12_found 9 = .ok (.iload_n 2, 1) := by decide +kernel
theorem dX12_found_10 : decode cX12_found 10 = .ok (.invokevirtual 186, 3) := by decide +kernel
theorem dX12_found_13 : decode cX12_found 13 = .ok (.ifCond .ne 6, 3) := by decide +kernel
theorem dX12_found_16 : decode cX12_found 16 = .ok (.ldc 66, 2) := by decide +kernel
theorem dX12_found_18 : decode cX12_found 18 = .ok (.ireturn, 1) := by decide +kernel
theorem dX12_found_19 : decode cX12_found 19 = .ok (.aload_n 0, 1) := by decide +kernel
theorem dX12_found_20 : decode cX12_found 20 = .ok (.invokevirtual 192, 3) := by decide +kernel
theorem dX12_found_23 : decode cX12_found 23 = .ok (.iconst 0, 1) := by decide +kernel
theorem dX12_found_24 : decode cX12_found 24 = .ok (.istore_n 3, 1) := by decide +kernel
theorem dX12_found_25 : decode cX12_found 25 = .ok (.iload_n 3, 1) := by decide +kernel
theorem dX12_found_26 : decode cX12_found 26 = .ok (.bipush 60, 2) := by decide +kernel
theorem dX12_found_28 : decode cX12_found 28 = .ok (.if_icmp .gt 29, 3) := by decide +kernel
theorem dX12_found_31 : decode cX12_found 31 = .ok (.aload_n 0, 1) := by decide +kernel
theorem dX12_found_32 : decode cX12_found 32 = .ok (.getfield 28, 3) := by decide +kernel
theorem dX12_found_35 : decode cX12_found 35 = .ok (.bipush 21, 2) := by decide +kernel
theorem dX12_found_37 : decode cX12_found 37 = .ok (.iload_n 1, 1) := by decide +kernel
theorem dX12_found_38 : decode cX12_found 38 = .ok (.iadd, 1) := by decide +kernel
theorem dX12_found_39 : decode cX12_found 39 = .ok (.iaload, 1) := by decide +kernel
theorem dX12_found_40 : decode cX12_found 40 = .ok (.iload_n 2, 1) := by decide +kernel
theorem dX12_found_41 : decode cX12_found 41 = .ok (.if_icmp .ne 5, 3) := by decide +kernel
theorem dX12_found_44 : decode cX12_found 44 = .ok (.iload_n 3, 1) := by decide +kernel
theorem dX12_found_45 : decode cX12_found 45 = .ok (.ireturn, 1) := by decide +kernel
theorem dX12_found_46 : decode cX12_found 46 = .ok (.aload_n 0, 1) := by decide +kernel
theorem dX12_found_47 : decode cX12_found 47 = .ok (.iconst 1, 1) := by decide +kernel
theorem dX12_found_48 : decode cX12_found 48 = .ok (.invokevirtual 195, 3) := by decide +kernel
theorem dX12_found_51 : decode cX12_found 51 = .ok (.iinc 3 1, 3) := by decide +kernel
theorem dX12_found_54 : decode cX12_found 54 = .ok (.goto (-29), 3) := by decide +kernel
theorem dX12_found_57 : decode cX12_found 57 = .ok (.ldc 137, 2) := by decide +kernel
theorem dX12_found_59 : decode cX12_found 59 = .ok (.ireturn, 1) := by decide +kernel
theorem dX12_isAs_0 : decode cX12_isAs 0 = .ok (.iconst 1, 1) := by decide +kernel
theorem dX12_isAs_1 : decode cX12_isAs 1 = .ok (.istore_n 2, 1) := by decide +kernel
theorem dX12_isAs_2 : decode cX12_isAs 2 = .ok (.iconst 0, 1) := by decide +kernel
theorem dX12_isAs_3 : decode cX12_isAs 3 = .ok (.istore_n 3, 1) := by decide +kernel
theorem dX12_isAs_4 : decode cX12_isAs 4 = .ok (.iload_n 3, 1) := by decide +kernel
theorem dX12_isAs_5 : decode cX12_isAs 5 = .ok (.aload_n 0, 1) := by decide +kernel
theorem dX12_isAs_6 : decode cX12_isAs 6 = .ok (.getfield 22, 3) := by decide +kernel
theorem dX12_isAs_9 : decode cX12_isAs 9 = .ok (.iconst 3, 1) := by decide +kernel
theorem dX12_isAs_10 : decode cX12_isAs 10 = .ok (.iaload, 1) := by decide +kernel
theorem dX12_isAs_11 : decode cX12_isAs 11 = .ok (.if_icmp .ge 55, 3) := by decide +kernel
theorem dX12_isAs_14 : decode cX12_isAs 14 = .ok (.iload_n 2, 1) := by decide +kernel
theorem dX12_isAs_15 : decode cX12_isAs 15 = .ok (.ifCond .eq 43, 3) := by decide +kernel
theorem dX12_isAs_18 : decode cX12_isAs 18 = .ok (.aload_n 0, 1) := by decide +kernel
theorem dX12_isAs_19 : decode cX12_isAs 19 = .ok (.getfield 28, 3) := by decide +kernel
theorem dX12_isAs_22 : decode cX12_isAs 22 = .ok (.bipush 21, 2) := by decide +kernel
theorem dX12_isAs_24 : decode cX12_isAs 24 = .ok (.iload_n 3, 1) := by decide +kernel
theorem dX12_isAs_25 : decode cX12_isAs 25 = .ok (.iadd, 1) := by decide +kernel
theorem dX12_isAs_26 : decode cX12_isAs 26 = .ok (.iaload, 1) := by decide +kernel
theorem dX12_isAs_27 : decode cX12_isAs 27 = .ok (.aload_n 1, 1) := by decide +kernel
theorem dX12_isAs_28 : decode cX12_isAs 28 = .ok (.bipush 21, 2) := by decide +kernel
theorem dX12_isAs_30 : decode cX12_isAs 30 = .ok (.iload_n 3, 1) := by decide +kernel
theorem dX12_isAs_31 : decode cX12_isAs 31 = .ok (.iadd, 1) := by decide +kernel
theorem dX12_isAs_32 : decode cX12_isAs 32 = .ok (.iaload, 1) := by decide +kernel
theorem dX12_isAs_33 : decode cX12_isAs 33 = .ok (.if_icmp .ne 25, 3) := by decide +kernel
theorem dX12_isAs_36 : decode cX12_isAs 36 = .ok (.aload_n 0, 1) := by decide +kernel
theorem dX12_isAs_37 : decode cX12_isAs 37 = .ok (.getfield 28, 3) := by decide +kernel
theorem dX12_isAs_40 : decode cX12_isAs 40 = .ok (.bipush 29, 2) := by decide +kernel
theorem dX12_isAs_42 : decode cX12_isAs 42 = .ok (.iload_n 3, 1) := by decide +kernel
theorem dX12_isAs_43 : decode cX12_isAs 43 = .ok (.iadd, 1) := by decide +kernel
theorem dX12_isAs_44 : decode cX12_isAs 44 = .ok (.iaload, 1) := by decide +kernel
theorem dX12_isAs_45 : decode cX12_isAs 45 = .ok (.aload_n 1, 1) := by decide +kernel
theorem dX12_isAs_46 : decode cX12_isAs 46 = .ok (.bipush 29, 2) := by decide +kernel
theorem dX12_isAs_48 : decode cX12_isAs 48 = .ok (.iload_n 3, 1) := by decide +kernel
theorem dX12_isAs_49 : decode cX12_isAs 49 = .ok (.iadd, 1) := by decide +kernel
theorem dX12_isAs_50 : decode cX12_isAs 50 = .ok (.iaload, 1) := by decide +kernel
theorem dX12_isAs_51 : decode cX12_isAs 51 = .ok (.if_icmp .ne 7, 3) := by decide +kernel
theorem dX12_isAs_54 : decode cX12_isAs 54 = .ok (.iconst 1, 1) := by decide +kernel
theorem dX12_isAs_55 : decode cX12_isAs 55 = .ok (.goto 4, 3) := by decide +kernel
theorem dX12_isAs_58 : decode cX12_isAs 58 = .ok (.iconst 0, 1) := by decide +kernel
theorem dX12_isAs_59 : decode cX12_isAs 59 = .ok (.istore_n 2, 1) := by decide +kernel
theorem dX12_isAs_60 : decode cX12_isAs 60 = .ok (.iinc 3 1, 3) := by decide +kernel
theorem dX12_isAs_63 : decode cX12_isAs 63 = .ok (.goto (-59), 3) := by decide +kernel
theorem dX12_isAs_66 : decode cX12_isAs 66 = .ok (.iload_n 2, 1) := by decide +kernel
theorem dX12_isAs_67 : decode cX12_isAs 67 = .ok (.ireturn, 1) := by decide +kernel
set_option maxRecDepth 20000 in
theorem ggX12_still_X12_isThere : GoodIn wsX12_still wsX12_isThere := goodIn_r _ [11, 5, 63, 64, 65, 66, 67, 68, 69, 70, 71, 72, 73, 74, 75, 76, 77, 78, 79, 80, 81, 82, 83, 84, 85, 86] (by decide +kernel) (by decide +kernel)
set_option maxRecDepth 20000 in
theorem gX12_still_X12_isThere : GoodIn wsX12_still (wsV RX12 169 RX12 yX12_isThere wsX12_isThere) := goodIn_app (goodIn_of _ (by decide +kernel)) ggX12_still_X12_isThere
set_option maxRecDepth 20000 in
theorem ggX12_still_X12_in : GoodIn wsX12_still wsX12_in := goodIn_r _ [14] (by decide +kernel) (by decide +kernel)
set_option maxRecDepth 20000 in
theorem gX12_still_X12_in : GoodIn wsX12_still (va_wsS RX12 53 yX12_in wsX12_in) := goodIn_app (goodIn_of _ (by decide +kernel)) ggX12_still_X12_in
set_option maxRecDepth 20000 in
theorem ggX12_still_X12_begin : GoodIn wsX12_still wsX12_begin := goodIn_r _ [18, 5, 3, 19, 20, 10, 21, 63, 64, 65, 66, 67, 68, 69, 70, 71, 72, 73, 74, 75, 76, 77, 78, 79, 80, 81, 82, 83, 84, 85, 86] (by decide +kernel) (by decide +kernel)
set_option maxRecDepth 20000 in
theorem gX12_still_X12_begin : GoodIn wsX12_still (wsV RX12 192 RX12 yX12_begin wsX12_begin) := goodIn_app (goodIn_of _ (by decide +kernel)) ggX12_still_X12_begin
set_option maxRecDepth 20000 in
theorem ggX12_still_X12_lay : GoodIn wsX12_still wsX12_lay := goodIn_r _ [21] (by decide +kernel) (by decide +kernel)
set_option maxRecDepth 20000 in
theorem gX12_still_X12_lay : GoodIn wsX12_still (va_wsS RX12 130 yX12_lay wsX12_lay) := goodIn_app (goodIn_of _ (by decide +kernel)) ggX12_still_X12_lay
set_option maxRecDepth 20000 in
theorem ggX12_still_X12_goOn : GoodIn wsX12_still wsX12_goOn := goodIn_r _ [25, 3, 26, 27, 10, 28, 29, 30, 31, 32, 33, 34, 35, 36, 37, 38, 39, 40, 6, 41, 42, 43, 44, 45, 46, 47, 48, 49, 50, 51, 52, 53, 54, 55, 56, 57, 58, 63, 64, 65, 66, 67, 68, 69, 70, 71, 72, 73, 74, 75, 76, 77, 78, 79, 80, 81, 82, 83, 84, 85, 86] (by decide +kernel) (by decide +kernel)
set_option maxRecDepth 20000 in
theorem gX12_still_X12_goOn : GoodIn wsX12_still (wsV RX12 195 RX12 yX12_goOn wsX12_goOn) := goodIn_app (goodIn_of _ (by decide +kernel)) ggX12_still_X12_goOn
set_option maxRecDepth 20000 in
theorem ggX12_still_X12_isAs : GoodIn wsX12_still wsX12_isAs := goodIn_r _ [62, 5, 3, 63, 64, 65, 66, 67, 68, 69, 70, 71, 72, 73, 74, 75, 76, 77, 78, 79, 80, 81, 82, 83, 84, 85, 86] (by decide +kernel) (by decide +kernel)
set_option maxRecDepth 20000 in
theorem gX12_still_X12_isAs : GoodIn wsX12_still (wsV RX12 199 RX12 yX12_isAs wsX12_isAs) := goodIn_app (goodIn_of _ (by decide +kernel)) ggX12_still_X12_isAs
theorem dX12_still_0 : decode cX12_still 0 = .ok (.aload_n 0, 1) := by decide +kernel
theorem dX12_still_1 : decode cX12_still 1 = .ok (.invokevirtual 169, 3) := by decide +kernel
theorem dX12_still_4 : decode cX12_still 4 = .ok (.ifCond .ne 6, 3) := by decide +kernel
theorem dX12_still_7 : decode cX12_still 7 = .ok (.ldc 172, 2) := by decide +kernel
theorem dX12_still_9 : decode cX12_still 9 = .ok (.ireturn, 1) := by decide +kernel
theorem dX12_still_10 : decode cX12_still 10 = .ok (.iload_n 1, 1) := by decide +kernel
theorem dX12_still_11 : decode cX12_still 11 = .ok (.iconst 0, 1) := by decide +kernel
theorem dX12_still_12 : decode cX12_still 12 = .ok (.iconst 1, 1) := by decide +kernel
theorem dX12_still_13 : decode cX12_still 13 = .ok (.invokestatic 53, 3) := by decide +kernel
theorem dX12_still_16 : decode cX12_still 16 = .ok (.ifCond .ne 6, 3) := by decide +kernel
theorem dX12_still_19 : decode cX12_still 19 = .ok (.ldc 66, 2) := by decide +kernel
theorem dX12_still_21 : decode cX12_still 21 = .ok (.ireturn, 1) := by decide +kernel
theorem dX12_still_22 : decode cX12_still 22 = .ok (.aload_n 0, 1) := by decide +kernel
theorem dX12_still_23 : decode cX12_still 23 = .ok (.invokevirtual 192, 3) := by decide +kernel
theorem dX12_still_26 : decode cX12_still 26 = .ok (.iconst 0, 1) := by decide +kernel
theorem dX12_still_27 : decode cX12_still 27 = .ok (.istore_n 2, 1) := by decide +kernel
theorem dX12_still_28 : decode cX12_still 28 = .ok (.iload_n 2, 1) := by decide +kernel
theorem dX12_still_29 : decode cX12_still 29 = .ok (.sipush 200, 3) := by decide +kernel
theorem dX12_still_32 : decode cX12_still 32 = .ok (.if_icmp .gt 71, 3) := by decide +kernel
theorem dX12_still_35 : decode cX12_still 35 = .ok (.aload_n 0, 1) := by decide +kernel
theorem dX12_still_36 : decode cX12_still 36 = .ok (.getfield 28, 3) := by decide +kernel
theorem dX12_still_39 : decode cX12_still 39 = .ok (.iconst 0, 1) := by decide +kernel
theorem dX12_still_40 : decode cX12_still 40 = .ok (.aload_n 0, 1) := by decide +kernel
theorem dX12_still_41 : decode cX12_still 41 = .ok (.getfield 31, 3) := by decide +kernel
theorem dX12_still_44 : decode cX12_still 44 = .ok (.iconst 0, 1) := by decide +kernel
theorem dX12_still_45 : decode cX12_still 45 = .ok (.invokestatic 130, 3) := by decide +kernel
theorem dX12_still_48 : decode cX12_still 48 = .ok (.aload_n 0, 1) := by decide +kernel
theorem dX12_still_49 : decode cX12_still 49 = .ok (.iconst 1, 1) := by decide +kernel
theorem dX12_still_50 : decode cX12_still 50 = .ok (.invokevirtual 195, 3) := by decide +kernel
theorem dX12_still_53 : decode cX12_still 53 = .ok (.iload_n 1, 1) := by decide +kernel
theorem dX12_still_54 : decode cX12_still 54 = .ok (.ifCond .ne 16, 3) := by decide +kernel
theorem dX12_still_57 : decode cX12_still 57 = .ok (.aload_n 0, 1) := by decide +kernel
theorem dX12_still_58 : decode cX12_still 58 = .ok (.aload_n 0, 1) := by decide +kernel
theorem dX12_still_59 : decode cX12_still 59 = .ok (.getfield 31, 3) := by decide +kernel
theorem dX12_still_62 : decode cX12_still 62 = .ok (.invokevirtual 199, 3) := by decide +kernel
theorem dX12_still_65 : decode cX12_still 65 = .ok (.ifCond .eq 5, 3) := by decide +kernel
theorem dX12_still_68 : decode cX12_still 68 = .ok (.iload_n 2, 1) := by decide +kernel
theorem dX12_still_69 : decode cX12_still 69 = .ok (.ireturn, 1) := by decide +kernel
theorem dX12_still_70 : decode cX12_still 70 = .ok (.iload_n 1, 1) := by decide +kernel
theorem dX12_still_71 : decode cX12_still 71 = .ok (.iconst 1, 1) := by decide +kernel
theorem dX12_still_72 : decode cX12_still 72 = .ok (.if_icmp .ne 25, 3) := by decide +kernel
theorem dX12_still_75 : decode cX12_still 75 = .ok (.iload_n 2, 1) := by decide +kernel
theorem dX12_still_76 : decode cX12_still 76 = .ok (.sipush 200, 3) := by decide +kernel
theorem dX12_still_79 : decode cX12_still 79 = .ok (.if_icmp .ge 18, 3) := by decide +kernel
theorem dX12_still_82 : decode cX12_still 82 = .ok (.aload_n 0, 1) := by decide +kernel
theorem dX12_still_83 : decode cX12_still 83 = .ok (.aload_n 0, 1) := by decide +kernel
theorem dX12_still_84 : decode cX12_still 84 = .ok (.getfield 22, 3) := by decide +kernel
theorem dX12_still_87 : decode cX12_still 87 = .ok (.invokevirtual 199, 3) := by decide +kernel
theorem dX12_still_90 : decode cX12_still 90 = .ok (.ifCond .eq 7, 3) := by decide +kernel
theorem dX12_still_93 : decode cX12_still 93 = .ok (.iload_n 2, 1) := by decide +kernel
theorem dX12_still_94 : decode cX12_still 94 = .ok (.iconst 1, 1) := by decide +kernel
theorem dX12_still_95 : decode cX12_still 95 = .ok (.iadd, 1) := by decide +kernel
theorem dX12_still_96 : decode cX12_still 96 = .ok (.ireturn, 1) := by decide +kernel
theorem dX12_still_97 : decode cX12_still 97 = .ok (.iinc 2 1, 3) := by decide +kernel
theorem dX12_still_100 : decode cX12_still 100 = .ok (.goto (-72), 3) := by decide +kernel
theorem dX12_still_103 : decode cX12_still 103 = .ok (.ldc 137, 2) := by decide +kernel
theorem dX12_still_105 : decode cX12_still 105 = .ok (.ireturn, 1) := by decide +kernel
set_option maxRecDepth 20000 in
theorem ggX12_mates_X12_isThere : GoodIn wsX12_mates wsX12_isThere := goodIn_r _ [7, 1, 15, 16, 17, 18, 19, 20, 21, 22, 23, 24, 25, 26, 27, 28, 29, 30, 31, 32, 33, 34, 35, 36, 37, 38] (by decide +kernel) (by decide +kernel)
set_option maxRecDepth 20000 in
theorem gX12_mates_X12_isThere : GoodIn wsX12_mates (wsV RX12 169 RX12 yX12_isThere wsX12_isThere) := goodIn_app (goodIn_of _ (by decide +kernel)) ggX12_mates_X12_isThere
set_option maxRecDepth 20000 in
theorem ggX12_mates_X12_matesIn : GoodIn wsX12_mates wsX12_matesIn := goodIn_r _ [10, 11, 12, 6, 13, 14] (by decide +kernel) (by decide +kernel)
set_option maxRecDepth 20000 in
theorem gX12_mates_X12_matesIn : GoodIn wsX12_mates (va_wsS RX12 179 yX12_matesIn wsX12_matesIn) := goodIn_app (goodIn_of _ (by decide +kernel)) ggX12_mates_X12_matesIn
theorem dX12_mates_0 : decode cX12_mates 0 = .ok (.aload_n 0, 1) := by decide +kernel
theorem dX12_mates_1 : decode cX12_mates 1 = .ok (.invokevirtual 169, 3) := by decide +kernel
theorem dX12_mates_4 : decode cX12_mates 4 = .ok (.ifCond .eq 13, 3) := by decide +kernel
theorem dX12_mates_7 : decode cX12_mates 7 = .ok (.aload_n 0, 1) := by decide +kernel
theorem dX12_mates_8 : decode cX12_mates 8 = .ok (.getfield 22, 3) := by decide +kernel
theorem dX12_mates_11 : decode cX12_mates 11 = .ok (.invokestatic 179, 3) := by decide +kernel
theorem dX12_mates_14 : decode cX12_mates 14 = .ok (.goto 5, 3) := by decide +kernel
theorem dX12_mates_17 : decode cX12_mates 17 = .ok (.ldc 172, 2) := by decide +kernel
theorem dX12_mates_19 : decode cX12_mates 19 = .ok (.ireturn, 1) := by decide +kernel
theorem dX12_bits_0 : decode cX12_bits 0 = .ok (.iconst 0, 1) := by decide +kernel
theorem dX12_bits_1 : decode cX12_bits 1 = .ok (.istore_n 1, 1) := by decide +kernel
theorem dX12_bits_2 : decode cX12_bits 2 = .ok (.iconst 0, 1) := by decide +kernel
theorem dX12_bits_3 : decode cX12_bits 3 = .ok (.istore_n 2, 1) := by decide +kernel
theorem dX12_bits_4 : decode cX12_bits 4 = .ok (.iload_n 2, 1) := by decide +kernel
theorem dX12_bits_5 : decode cX12_bits 5 = .ok (.bipush 8, 2) := by decide +kernel
theorem dX12_bits_7 : decode cX12_bits 7 = .ok (.if_icmp .ge 17, 3) := by decide +kernel
theorem dX12_bits_10 : decode cX12_bits 10 = .ok (.iload_n 1, 1) := by decide +kernel
theorem dX12_bits_11 : decode cX12_bits 11 = .ok (.iload_n 0, 1) := by decide +kernel
theorem dX12_bits_12 : decode cX12_bits 12 = .ok (.iload_n 2, 1) := by decide +kernel
theorem dX12_bits_13 : decode cX12_bits 13 = .ok (.ishr, 1) := by decide +kernel
theorem dX12_bits_14 : decode cX12_bits 14 = .ok (.iconst 1, 1) := by decide +kernel
theorem dX12_bits_15 : decode cX12_bits 15 = .ok (.iand, 1) := by decide +kernel
theorem dX12_bits_16 : decode cX12_bits 16 = .ok (.iadd, 1) := by decide +kernel
theorem dX12_bits_17 : decode cX12_bits 17 = .ok (.istore_n 1, 1) := by decide +kernel
theorem dX12_bits_18 : decode cX12_bits 18 = .ok (.iinc 2 1, 3) := by decide +kernel
theorem dX12_bits_21 : decode cX12_bits 21 = .ok (.goto (-17), 3) := by decide +kernel
theorem dX12_bits_24 : decode cX12_bits 24 = .ok (.iload_n 1, 1) := by decide +kernel
theorem dX12_bits_25 : decode cX12_bits 25 = .ok (.ireturn, 1) := by decide +kernel
set_option maxRecDepth 20000 in
theorem ggX12_rods_X12_isOne : GoodIn wsX12_rods wsX12_isOne := goodIn_r _ [9, 3, 10, 11, 8, 12, 64, 65, 66, 67, 68, 69, 70, 71, 72, 73, 74, 75, 76, 77, 78, 79, 80, 81, 82, 83, 84, 85, 86, 87] (by decide +kernel) (by decide +kernel)
set_option maxRecDepth 20000 in
theorem gX12_rods_X12_isOne : GoodIn wsX12_rods (wsV RX12 183 RX12 yX12_isOne wsX12_isOne) := goodIn_app (goodIn_of _ (by decide +kernel)) ggX12_rods_X12_isOne
set_option maxRecDepth 20000 in
theorem ggX12_rods_X12_isDrawer : GoodIn wsX12_rods wsX12_isDrawer := goodIn_r _ [16, 3, 10, 11, 8, 12, 64, 65, 66, 67, 68, 69, 70, 71, 72, 73, 74, 75, 76, 77, 78, 79, 80, 81, 82, 83, 84, 85, 86, 87] (by decide +kernel) (by decide +kernel)
set_option maxRecDepth 20000 in
theorem gX12_rods_X12_isDrawer : GoodIn wsX12_rods (wsV RX12 186 RX12 yX12_isDrawer wsX12_isDrawer) := goodIn_app (goodIn_of _ (by decide +kernel)) ggX12_rods_X12_isDrawer
set_option maxRecDepth 20000 in
theorem ggX12_rods_X12_in : GoodIn wsX12_rods wsX12_in := goodIn_r _ [12] (by decide +kernel) (by decide +kernel)
set_option maxRecDepth 20000 in
theorem gX12_rods_X12_in : GoodIn wsX12_rods (va_wsS RX12 53 yX12_in wsX12_in) := goodIn_app (goodIn_of _ (by decide +kernel)) ggX12_rods_X12_in
set_option maxRecDepth 20000 in
theorem ggX12_rods_X12_bits : GoodIn wsX12_rods wsX12_bits := goodIn_r _ [19] (by decide +kernel) (by decide +kernel)
set_option maxRecDepth 20000 in
theorem gX12_rods_X12_bits : GoodIn wsX12_rods (va_wsS RX12 203 yX12_bits wsX12_bits) := goodIn_app (goodIn_of _ (by decide +kernel)) ggX12_rods_X12_bits
set_option maxRecDepth 20000 in
theorem ggX12_rods_X12_begin : GoodIn wsX12_rods wsX12_begin := goodIn_r _ [23, 3, 4, 24, 25, 8, 26, 64, 65, 66, 67, 68, 69, 70, 71, 72, 73, 74, 75, 76, 77, 78, 79, 80, 81, 82, 83, 84, 85, 86, 87] (by decide +kernel) (by decide +kernel)
set_option maxRecDepth 20000 in
theorem gX12_rods_X12_begin : GoodIn wsX12_rods (wsV RX12 192 RX12 yX12_begin wsX12_begin) := goodIn_app (goodIn_of _ (by decide +kernel)) ggX12_rods_X12_begin
set_option maxRecDepth 20000 in
theorem ggX12_rods_X12_isIn : GoodIn wsX12_rods wsX12_isIn := goodIn_r _ [29] (by decide +kernel) (by decide +kernel)
set_option maxRecDepth 20000 in
theorem gX12_rods_X12_isIn : GoodIn wsX12_rods (va_wsS RX12 163 yX12_isIn wsX12_isIn) := goodIn_app (goodIn_of _ (by decide +kernel)) ggX12_rods_X12_isIn
set_option maxRecDepth 20000 in
theorem ggX12_rods_X12_goOn : GoodIn wsX12_rods wsX12_goOn := goodIn_r _ [33, 4, 34, 35, 8, 36, 27, 28, 29, 37, 38, 39, 40, 41, 42, 43, 44, 45, 2, 46, 47, 48, 49, 50, 51, 52, 53, 54, 55, 56, 57, 58, 59, 60, 61, 62, 63, 64, 65, 66, 67, 68, 69, 70, 71, 72, 73, 74, 75, 76, 77, 78, 79, 80, 81, 82, 83, 84, 85, 86, 87] (by decide +kernel) (by decide +kernel)
set_option maxRecDepth 20000 in
theorem gX12_rods_X12_goOn : GoodIn wsX12_rods (wsV RX12 195 RX12 yX12_goOn wsX12_goOn) := goodIn_app (goodIn_of _ (by decide +kernel)) ggX12_rods_X12_goOn
theorem dX12_rods_0 : decode cX12_rods 0 = .ok (.aload_n 0, 1) := by decide +kernel
theorem dX12_rods_1 : decode cX12_rods 1 = .ok (.iload_n 1, 1) := by decide +kernel
theorem dX12_rods_2 : decode cX12_rods 2 = .ok (.invokevirtual 183, 3) := by decide +kernel
theorem dX12_rods_5 : decode cX12_rods 5 = .ok (.ifCond .eq 31, 3) := by decide +kernel
theorem dX12_rods_8 : decode cX12_rods 8 = .ok (.aload_n 0, 1) := by decide +kernel
theorem dX12_rods_9 : decode cX12_rods 9 = .ok (.iload_n 2, 1) := by decide +kernel
theorem dX12_rods_10 : decode cX12_rods 10 = .ok (.invokevirtual 186, 3) := by decide +kernel
theorem dX12_rods_13 : decode cX12_rods 13 = .ok (.ifCond .eq 23, 3) := by decide +kernel
theorem dX12_rods_16 : decode cX12_rods 16 = .ok (.iload_n 3, 1) := by decide +kernel
theorem dX12_rods_17 : decode cX12_rods 17 = .ok (.iconst 1, 1) := by decide +kernel
theorem dX12_rods_18 : decode cX12_rods 18 = .ok (.bipush 20, 2) := by decide +kernel
theorem dX12_rods_20 : decode cX12_rods 20 = .ok (.invokestatic 53, 3) := by decide +kernel
theorem dX12_rods_23 : decode cX12_rods 23 = .ok (.ifCond .eq 13, 3) := by decide +kernel
theorem dX12_rods_26 : decode cX12_rods 26 = .ok (.iload 4, 2) := by decide +kernel
theorem dX12_rods_28 : decode cX12_rods 28 = .ok (.iconst 0, 1) := by decide +kernel
theorem dX12_rods_29 : decode cX12_rods 29 = .ok (.iconst 1, 1) := by decide +kernel
theorem dX12_rods_30 : decode cX12_rods 30 = .ok (.invokestatic 53, 3) := by decide +kernel
theorem dX12_rods_33 : decode cX12_rods 33 = .ok (.ifCond .ne 6, 3) := by decide +kernel
theorem dX12_rods_36 : decode cX12_rods 36 = .ok (.ldc 66, 2) := by decide +kernel
theorem dX12_rods_38 : decode cX12_rods 38 = .ok (.ireturn, 1) := by decide +kernel
theorem dX12_rods_39 : decode cX12_rods 39 = .ok (.ldc 137, 2) := by decide +kernel
theorem dX12_rods_41 : decode cX12_rods 41 = .ok (.istore 5, 2) := by decide +kernel
theorem dX12_rods_43 : decode cX12_rods 43 = .ok (.iconst 0, 1) := by decide +kernel
theorem dX12_rods_44 : decode cX12_rods 44 = .ok (.istore 6, 2) := by decide +kernel
theorem dX12_rods_46 : decode cX12_rods 46 = .ok (.iload 6, 2) := by decide +kernel
theorem dX12_rods_48 : decode cX12_rods 48 = .ok (.iconst 1, 1) := by decide +kernel
theorem dX12_rods_49 : decode cX12_rods 49 = .ok (.aload_n 0, 1) := by decide +kernel
theorem dX12_rods_50 : decode cX12_rods 50 = .ok (.getfield 22, 3) := by decide +kernel
theorem dX12_rods_53 : decode cX12_rods 53 = .ok (.iconst 3, 1) := by decide +kernel
theorem dX12_rods_54 : decode cX12_rods 54 = .ok (.iaload, 1) := by decide +kernel
theorem dX12_rods_55 : decode cX12_rods 55 = .ok (.ishl, 1) := by decide +kernel
theorem dX12_rods_56 : decode cX12_rods 56 = .ok (.if_icmp .ge 112, 3) := by decide +kernel
theorem dX12_rods_59 : decode cX12_rods 59 = .ok (.iload 5, 2) := by decide +kernel
theorem dX12_rods_61 : decode cX12_rods 61 = .ok (.ldc 137, 2) := by decide +kernel
theorem dX12_rods_63 : decode cX12_rods 63 = .ok (.if_icmp .eq 16, 3) := by decide +kernel
theorem dX12_rods_66 : decode cX12_rods 66 = .ok (.iload 6, 2) := by decide +kernel
theorem dX12_rods_68 : decode cX12_rods 68 = .ok (.invokestatic 203, 3) := by decide +kernel
theorem dX12_rods_71 : decode cX12_rods 71 = .ok (.iload 5, 2) := by decide +kernel
theorem dX12_rods_73 : decode cX12_rods 73 = .ok (.invokestatic 203, 3) := by decide +kernel
theorem dX12_rods_76 : decode cX12_rods 76 = .ok (.if_icmp .ge 86, 3) := by decide +kernel
theorem dX12_rods_79 : decode cX12_rods 79 = .ok (.aload_n 0, 1) := by decide +kernel
theorem dX12_rods_80 : decode cX12_rods 80 = .ok (.invokevirtual 192, 3) := by decide +kernel
theorem dX12_rods_83 : decode cX12_rods 83 = .ok (.iconst 0, 1) := by decide +kernel
theorem dX12_rods_84 : decode cX12_rods 84 = .ok (.istore 7, 2) := by decide +kernel
theorem dX12_rods_86 : decode cX12_rods 86 = .ok (.iload 7, 2) := by decide +kernel
theorem dX12_rods_88 : decode cX12_rods 88 = .ok (.aload_n 0, 1) := by decide +kernel
