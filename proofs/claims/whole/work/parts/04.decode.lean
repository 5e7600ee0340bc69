theorem dX5_readItem_16 : decode cX5_readItem 16 = .ok (.putfield 27, 3) := by decide +kernel
theorem dX5_readItem_19 : decode cX5_readItem 19 = .ok (.iload_n 2, 1) := by decide +kernel
theorem dX5_readItem_20 : decode cX5_readItem 20 = .ok (.bipush 99, 2) := by decide +kernel
theorem dX5_readItem_22 : decode cX5_readItem 22 = .ok (.if_icmp .ne 9, 3) := by decide +kernel
theorem dX5_readItem_25 : decode cX5_readItem 25 = .ok (.aload_n 0, 1) := by decide +kernel
theorem dX5_readItem_26 : decode cX5_readItem 26 = .ok (.aload_n 1, 1) := by decide +kernel
theorem dX5_readItem_27 : decode cX5_readItem 27 = .ok (.invokevirtual 43, 3) := by decide +kernel
theorem dX5_readItem_30 : decode cX5_readItem 30 = .ok (.ireturn, 1) := by decide +kernel
theorem dX5_readItem_31 : decode cX5_readItem 31 = .ok (.iload_n 2, 1) := by decide +kernel
theorem dX5_readItem_32 : decode cX5_readItem 32 = .ok (.bipush 115, 2) := by decide +kernel
theorem dX5_readItem_34 : decode cX5_readItem 34 = .ok (.if_icmp .ne 15, 3) := by decide +kernel
theorem dX5_readItem_37 : decode cX5_readItem 37 = .ok (.aload_n 0, 1) := by decide +kernel
theorem dX5_readItem_38 : decode cX5_readItem 38 = .ok (.aload_n 1, 1) := by decide +kernel
theorem dX5_readItem_39 : decode cX5_readItem 39 = .ok (.invokevirtual 46, 3) := by decide +kernel
theorem dX5_readItem_42 : decode cX5_readItem 42 = .ok (.ifCond .eq 7, 3) := by decide +kernel
theorem dX5_readItem_45 : decode cX5_readItem 45 = .ok (.iconst 1, 1) := by decide +kernel
theorem dX5_readItem_46 : decode cX5_readItem 46 = .ok (.goto 4, 3) := by decide +kernel
theorem dX5_readItem_49 : decode cX5_readItem 49 = .ok (.iconst 0, 1) := by decide +kernel
theorem dX5_readItem_50 : decode cX5_readItem 50 = .ok (.ireturn, 1) := by decide +kernel
set_option maxRecDepth 20000 in
theorem ggX5_readColumn_X5_readNumber : GoodIn wsX5_readColumn wsX5_readNumber := goodIn_r _ [7, 8, 9, 10, 11, 12, 13, 14, 15, 16, 17, 18, 23, 24, 25, 26, 27, 28, 29] (by decide +kernel) (by decide +kernel)
set_option maxRecDepth 20000 in
theorem gX5_readColumn_X5_readNumber : GoodIn wsX5_readColumn (wsV RX5 49 RX5 yX5_readNumber wsX5_readNumber) := goodIn_app (goodIn_of _ (by decide +kernel)) ggX5_readColumn_X5_readNumber
set_option maxRecDepth 20000 in
theorem ggX5_readColumn_X7_within : GoodIn wsX5_readColumn wsX7_within := goodIn_r _ [18] (by decide +kernel) (by decide +kernel)
set_option maxRecDepth 20000 in
theorem gX5_readColumn_X7_within_n53 : GoodIn wsX5_readColumn (wsX7_within) := ggX5_readColumn_X7_within
set_option maxRecDepth 20000 in
theorem ggX5_readColumn_X5_readSign : GoodIn wsX5_readColumn wsX5_readSign := goodIn_r _ [22, 8, 9, 10, 11, 12, 13, 14, 15, 23, 24, 25, 26, 27, 28, 29] (by decide +kernel) (by decide +kernel)
set_option maxRecDepth 20000 in
theorem gX5_readColumn_X5_readSign : GoodIn wsX5_readColumn (wsV RX5 57 RX5 yX5_readSign wsX5_readSign) := goodIn_app (goodIn_of _ (by decide +kernel)) ggX5_readColumn_X5_readSign
theorem dX5_readColumn_0 : decode cX5_readColumn 0 = .ok (.aload_n 0, 1) := by decide +kernel
theorem dX5_readColumn_1 : decode cX5_readColumn 1 = .ok (.aload_n 1, 1) := by decide +kernel
theorem dX5_readColumn_2 : decode cX5_readColumn 2 = .ok (.invokevirtual 49, 3) := by decide +kernel
theorem dX5_readColumn_5 : decode cX5_readColumn 5 = .ok (.istore_n 2, 1) := by decide +kernel
theorem dX5_readColumn_6 : decode cX5_readColumn 6 = .ok (.aload_n 0, 1) := by decide +kernel
theorem dX5_readColumn_7 : decode cX5_readColumn 7 = .ok (.getfield 20, 3) := by decide +kernel
theorem dX5_readColumn_10 : decode cX5_readColumn 10 = .ok (.bipush 20, 2) := by decide +kernel
theorem dX5_readColumn_12 : decode cX5_readColumn 12 = .ok (.if_icmp .ge 23, 3) := by decide +kernel
theorem dX5_readColumn_15 : decode cX5_readColumn 15 = .ok (.iload_n 2, 1) := by decide +kernel
theorem dX5_readColumn_16 : decode cX5_readColumn 16 = .ok (.iconst 1, 1) := by decide +kernel
theorem dX5_readColumn_17 : decode cX5_readColumn 17 = .ok (.bipush 20, 2) := by decide +kernel
theorem dX5_readColumn_19 : decode cX5_readColumn 19 = .ok (.invokestatic 53, 3) := by decide +kernel
theorem dX5_readColumn_22 : decode cX5_readColumn 22 = .ok (.ifCond .eq 13, 3) := by decide +kernel
theorem dX5_readColumn_25 : decode cX5_readColumn 25 = .ok (.aload_n 0, 1) := by decide +kernel
theorem dX5_readColumn_26 : decode cX5_readColumn 26 = .ok (.aload_n 1, 1) := by decide +kernel
theorem dX5_readColumn_27 : decode cX5_readColumn 27 = .ok (.bipush 59, 2) := by decide +kernel
theorem dX5_readColumn_29 : decode cX5_readColumn 29 = .ok (.invokevirtual 57, 3) := by decide +kernel
theorem dX5_readColumn_32 : decode cX5_readColumn 32 = .ok (.ifCond .ne 5, 3) := by decide +kernel
theorem dX5_readColumn_35 : decode cX5_readColumn 35 = .ok (.iconst 0, 1) := by decide +kernel
theorem dX5_readColumn_36 : decode cX5_readColumn 36 = .ok (.ireturn, 1) := by decide +kernel
theorem dX5_readColumn_37 : decode cX5_readColumn 37 = .ok (.aload_n 0, 1) := by decide +kernel
theorem dX5_readColumn_38 : decode cX5_readColumn 38 = .ok (.getfield 9, 3) := by decide +kernel
theorem dX5_readColumn_41 : decode cX5_readColumn 41 = .ok (.aload_n 0, 1) := by decide +kernel
theorem dX5_readColumn_42 : decode cX5_readColumn 42 = .ok (.getfield 20, 3) := by decide +kernel
theorem dX5_readColumn_45 : decode cX5_readColumn 45 = .ok (.iload_n 2, 1) := by decide +kernel
theorem dX5_readColumn_46 : decode cX5_readColumn 46 = .ok (.iastore, 1) := by decide +kernel
theorem dX5_readColumn_47 : decode cX5_readColumn 47 = .ok (.aload_n 0, 1) := by decide +kernel
theorem dX5_readColumn_48 : decode cX5_readColumn 48 = .ok (.dup, 1) := by decide +kernel
theorem dX5_readColumn_49 : decode cX5_readColumn 49 = .ok (.getfield 20, 3) := by decide +kernel
theorem dX5_readColumn_52 : decode cX5_readColumn 52 = .ok (.iconst 1, 1) := by decide +kernel
theorem dX5_readColumn_53 : decode cX5_readColumn 53 = .ok (.iadd, 1) := by decide +kernel
theorem dX5_readColumn_54 : decode cX5_readColumn 54 = .ok (.putfield 20, 3) := by decide +kernel
theorem dX5_readColumn_57 : decode cX5_readColumn 57 = .ok (.iconst 1, 1) := by decide +kernel
theorem dX5_readColumn_58 : decode cX5_readColumn 58 = .ok (.ireturn, 1) := by decide +kernel
set_option maxRecDepth 20000 in
theorem ggX5_readShip_X5_readNumber : GoodIn wsX5_readShip wsX5_readNumber := goodIn_r _ [10, 11, 12, 13, 14, 15, 16, 17, 18, 19, 20, 21, 26, 27, 28, 29, 30, 31, 32] (by decide +kernel) (by decide +kernel)
set_option maxRecDepth 20000 in
theorem gX5_readShip_X5_readNumber : GoodIn wsX5_readShip (wsV RX5 49 RX5 yX5_readNumber wsX5_readNumber) := goodIn_app (goodIn_of _ (by decide +kernel)) ggX5_readShip_X5_readNumber
set_option maxRecDepth 20000 in
theorem ggX5_readShip_X7_within : GoodIn wsX5_readShip wsX7_within := goodIn_r _ [21] (by decide +kernel) (by decide +kernel)
set_option maxRecDepth 20000 in
theorem gX5_readShip_X7_within_n53 : GoodIn wsX5_readShip (wsX7_within) := ggX5_readShip_X7_within
set_option maxRecDepth 20000 in
theorem ggX5_readShip_X5_readSign : GoodIn wsX5_readShip wsX5_readSign := goodIn_r _ [25, 11, 12, 13, 14, 15, 16, 17, 18, 26, 27, 28, 29, 30, 31, 32] (by decide +kernel) (by decide +kernel)
set_option maxRecDepth 20000 in
theorem gX5_readShip_X5_readSign : GoodIn wsX5_readShip (wsV RX5 57 RX5 yX5_readSign wsX5_readSign) := goodIn_app (goodIn_of _ (by decide +kernel)) ggX5_readShip_X5_readSign
theorem dX5_readShip_0 : decode cX5_readShip 0 = .ok (.aload_n 0, 1) := by decide +kernel
theorem dX5_readShip_1 : decode cX5_readShip 1 = .ok (.getfield 24, 3) := by decide +kernel
theorem dX5_readShip_4 : decode cX5_readShip 4 = .ok (.iconst 5, 1) := by decide +kernel
theorem dX5_readShip_5 : decode cX5_readShip 5 = .ok (.if_icmp .lt 5, 3) := by decide +kernel
theorem dX5_readShip_8 : decode cX5_readShip 8 = .ok (.iconst 0, 1) := by decide +kernel
theorem dX5_readShip_9 : decode cX5_readShip 9 = .ok (.ireturn, 1) := by decide +kernel
theorem dX5_readShip_10 : decode cX5_readShip 10 = .ok (.aload_n 0, 1) := by decide +kernel
theorem dX5_readShip_11 : decode cX5_readShip 11 = .ok (.getfield 17, 3) := by decide +kernel
theorem dX5_readShip_14 : decode cX5_readShip 14 = .ok (.aload_n 0, 1) := by decide +kernel
theorem dX5_readShip_15 : decode cX5_readShip 15 = .ok (.getfield 24, 3) := by decide +kernel
theorem dX5_readShip_18 : decode cX5_readShip 18 = .ok (.aaload, 1) := by decide +kernel
theorem dX5_readShip_19 : decode cX5_readShip 19 = .ok (.astore_n 2, 1) := by decide +kernel
theorem dX5_readShip_20 : decode cX5_readShip 20 = .ok (.iconst 0, 1) := by decide +kernel
theorem dX5_readShip_21 : decode cX5_readShip 21 = .ok (.istore_n 3, 1) := by decide +kernel
theorem dX5_readShip_22 : decode cX5_readShip 22 = .ok (.iload_n 3, 1) := by decide +kernel
theorem dX5_readShip_23 : decode cX5_readShip 23 = .ok (.bipush 7, 2) := by decide +kernel
theorem dX5_readShip_25 : decode cX5_readShip 25 = .ok (.if_icmp .ge 80, 3) := by decide +kernel
theorem dX5_readShip_28 : decode cX5_readShip 28 = .ok (.iload_n 3, 1) := by decide +kernel
theorem dX5_readShip_29 : decode cX5_readShip 29 = .ok (.ifCond .ne 12, 3) := by decide +kernel
theorem dX5_readShip_32 : decode cX5_readShip 32 = .ok (.aload_n 0, 1) := by decide +kernel
theorem dX5_readShip_33 : decode cX5_readShip 33 = .ok (.getfield 20, 3) := by decide +kernel
theorem dX5_readShip_36 : decode cX5_readShip 36 = .ok (.iconst 1, 1) := by decide +kernel
theorem dX5_readShip_37 : decode cX5_readShip 37 = .ok (.isub, 1) := by decide +kernel
theorem dX5_readShip_38 : decode cX5_readShip 38 = .ok (.goto 8, 3) := by decide +kernel
theorem dX5_readShip_41 : decode cX5_readShip 41 = .ok (.getstatic 61, 3) := by decide +kernel
theorem dX5_readShip_44 : decode cX5_readShip 44 = .ok (.iload_n 3, 1) := by decide +kernel
theorem dX5_readShip_45 : decode cX5_readShip 45 = .ok (.iaload, 1) := by decide +kernel
theorem dX5_readShip_46 : decode cX5_readShip 46 = .ok (.istore 4, 2) := by decide +kernel
theorem dX5_readShip_48 : decode cX5_readShip 48 = .ok (.iload_n 3, 1) := by decide +kernel
theorem dX5_readShip_49 : decode cX5_readShip 49 = .ok (.bipush 6, 2) := by decide +kernel
theorem dX5_readShip_51 : decode cX5_readShip 51 = .ok (.if_icmp .ne 8, 3) := by decide +kernel
theorem dX5_readShip_54 : decode cX5_readShip 54 = .ok (.bipush 59, 2) := by decide +kernel
theorem dX5_readShip_56 : decode cX5_readShip 56 = .ok (.goto 5, 3) := by decide +kernel
theorem dX5_readShip_59 : decode cX5_readShip 59 = .ok (.bipush 44, 2) := by decide +kernel
theorem dX5_readShip_61 : decode cX5_readShip 61 = .ok (.istore 5, 2) := by decide +kernel
theorem dX5_readShip_63 : decode cX5_readShip 63 = .ok (.aload_n 2, 1) := by decide +kernel
theorem dX5_readShip_64 : decode cX5_readShip 64 = .ok (.iload_n 3, 1) := by decide +kernel
theorem dX5_readShip_65 : decode cX5_readShip 65 = .ok (.aload_n 0, 1) := by decide +kernel
theorem dX5_readShip_66 : decode cX5_readShip 66 = .ok (.aload_n 1, 1) := by decide +kernel
theorem dX5_readShip_67 : decode cX5_readShip 67 = .ok (.invokevirtual 49, 3) := by decide +kernel
theorem dX5_readShip_70 : decode cX5_readShip 70 = .ok (.iastore, 1) := by decide +kernel
theorem dX5_readShip_71 : decode cX5_readShip 71 = .ok (.aload_n 2, 1) := by decide +kernel
theorem dX5_readShip_72 : decode cX5_readShip 72 = .ok (.iload_n 3, 1) := by decide +kernel
theorem dX5_readShip_73 : decode cX5_readShip 73 = .ok (.iaload, 1) := by decide +kernel
theorem dX5_readShip_74 : decode cX5_readShip 74 = .ok (.getstatic 64, 3) := by decide +kernel
theorem dX5_readShip_77 : decode cX5_readShip 77 = .ok (.iload_n 3, 1) := by decide +kernel
theorem dX5_readShip_78 : decode cX5_readShip 78 = .ok (.iaload, 1) := by decide +kernel
theorem dX5_readShip_79 : decode cX5_readShip 79 = .ok (.iload 4, 2) := by decide +kernel
theorem dX5_readShip_81 : decode cX5_readShip 81 = .ok (.invokestatic 53, 3) := by decide +kernel
theorem dX5_readShip_84 : decode cX5_readShip 84 = .ok (.ifCond .eq 13, 3) := by decide +kernel
theorem dX5_readShip_87 : decode cX5_readShip 87 = .ok (.aload_n 0, 1) := by decide +kernel
theorem dX5_readShip_88 : decode cX5_readShip 88 = .ok (.aload_n 1, 1) := by decide +kernel
theorem dX5_readShip_89 : decode cX5_readShip 89 = .ok (.iload 5, 2) := by decide +kernel
theorem dX5_readShip_91 : decode cX5_readShip 91 = .ok (.invokevirtual 57, 3) := by decide +kernel
theorem dX5_readShip_94 : decode cX5_readShip 94 = .ok (.ifCond .ne 5, 3) := by decide +kernel
theorem dX5_readShip_97 : decode cX5_readShip 97 = .ok (.iconst 0, 1) := by decide +kernel
theorem dX5_readShip_98 : decode cX5_readShip 98 = .ok (.ireturn, 1) := by decide +kernel
theorem dX5_readShip_99 : decode cX5_readShip 99 = .ok (.iinc 3 1, 3) := by decide +kernel
theorem dX5_readShip_102 : decode cX5_readShip 102 = .ok (.goto (-80), 3) := by decide +kernel
theorem dX5_readShip_105 : decode cX5_readShip 105 = .ok (.aload_n 0, 1) := by decide +kernel
theorem dX5_readShip_106 : decode cX5_readShip 106 = .ok (.dup, 1) := by decide +kernel
theorem dX5_readShip_107 : decode cX5_readShip 107 = .ok (.getfield 24, 3) := by decide +kernel
theorem dX5_readShip_110 : decode cX5_readShip 110 = .ok (.iconst 1, 1) := by decide +kernel
theorem dX5_readShip_111 : decode cX5_readShip 111 = .ok (.iadd, 1) := by decide +kernel
theorem dX5_readShip_112 : decode cX5_readShip 112 = .ok (.putfield 24, 3) := by decide +kernel
theorem dX5_readShip_115 : decode cX5_readShip 115 = .ok (.iconst 1, 1) := by decide +kernel
theorem dX5_readShip_116 : decode cX5_readShip 116 = .ok (.ireturn, 1) := by decide +kernel
set_option maxRecDepth 20000 in
theorem ggX5_readNumber_X3_letterAt : GoodIn wsX5_readNumber wsX3_letterAt := goodIn_r _ [6, 7, 8, 17, 18] (by decide +kernel) (by decide +kernel)
set_option maxRecDepth 20000 in
theorem gX5_readNumber_X3_letterAt : GoodIn wsX5_readNumber (wsV RX5 39 RX3 yX3_letterAt wsX3_letterAt) := goodIn_app (goodIn_of _ (by decide +kernel)) ggX5_readNumber_X3_letterAt
set_option maxRecDepth 20000 in
theorem ggX5_readNumber_X7_within : GoodIn wsX5_readNumber wsX7_within := goodIn_r _ [11] (by decide +kernel) (by decide +kernel)
set_option maxRecDepth 20000 in
theorem gX5_readNumber_X7_within_n53 : GoodIn wsX5_readNumber (wsX7_within) := ggX5_readNumber_X7_within
theorem dX5_readNumber_0 : decode cX5_readNumber 0 = .ok (.iconst 0, 1) := by decide +kernel
theorem dX5_readNumber_1 : decode cX5_readNumber 1 = .ok (.istore_n 2, 1) := by decide +kernel
theorem dX5_readNumber_2 : decode cX5_readNumber 2 = .ok (.iconst 0, 1) := by decide +kernel
theorem dX5_readNumber_3 : decode cX5_readNumber 3 = .ok (.istore_n 3, 1) := by decide +kernel
theorem dX5_readNumber_4 : decode cX5_readNumber 4 = .ok (.iload_n 3, 1) := by decide +kernel
theorem dX5_readNumber_5 : decode cX5_readNumber 5 = .ok (.iconst 3, 1) := by decide +kernel
theorem dX5_readNumber_6 : decode cX5_readNumber 6 = .ok (.if_icmp .ge 54, 3) := by decide +kernel
theorem dX5_readNumber_9 : decode cX5_readNumber 9 = .ok (.aload_n 1, 1) := by decide +kernel
theorem dX5_readNumber_10 : decode cX5_readNumber 10 = .ok (.aload_n 0, 1) := by decide +kernel
theorem dX5_readNumber_11 : decode cX5_readNumber 11 = .ok (.getfield 27, 3) := by decide +kernel
theorem dX5_readNumber_14 : decode cX5_readNumber 14 = .ok (.invokevirtual 39, 3) := by decide +kernel
theorem dX5_readNumber_17 : decode cX5_readNumber 17 = .ok (.bipush 48, 2) := by decide +kernel
theorem dX5_readNumber_19 : decode cX5_readNumber 19 = .ok (.bipush 57, 2) := by decide +kernel
theorem dX5_readNumber_21 : decode cX5_readNumber 21 = .ok (.invokestatic 53, 3) := by decide +kernel
theorem dX5_readNumber_24 : decode cX5_readNumber 24 = .ok (.ifCond .eq 36, 3) := by decide +kernel
theorem dX5_readNumber_27 : decode cX5_readNumber 27 = .ok (.iload_n 2, 1) := by decide +kernel
theorem dX5_readNumber_28 : decode cX5_readNumber 28 = .ok (.bipush 10, 2) := by decide +kernel
theorem dX5_readNumber_30 : decode cX5_readNumber 30 = .ok (.imul, 1) := by decide +kernel
theorem dX5_readNumber_31 : decode cX5_readNumber 31 = .ok (.aload_n 1, 1) := by decide +kernel
theorem dX5_readNumber_32 : decode cX5_readNumber 32 = .ok (.aload_n 0, 1) := by decide +kernel
theorem dX5_readNumber_33 : decode cX5_readNumber 33 = .ok (.getfield 27, 3) := by decide +kernel
theorem dX5_readNumber_36 : decode cX5_readNumber 36 = .ok (.invokevirtual 39, 3) := by decide +kernel
theorem dX5_readNumber_39 : decode cX5_readNumber 39 = .ok (.bipush 48, 2) := by decide +kernel
theorem dX5_readNumber_41 : decode cX5_readNumber 41 = .ok (.isub, 1) := by decide +kernel
theorem dX5_readNumber_42 : decode cX5_readNumber 42 = .ok (.iadd, 1) := by decide +kernel
theorem dX5_readNumber_43 : decode cX5_readNumber 43 = .ok (.istore_n 2, 1) := by decide +kernel
theorem dX5_readNumber_44 : decode cX5_readNumber 44 = .ok (.aload_n 0, 1) := by decide +kernel
theorem dX5_readNumber_45 : decode cX5_readNumber 45 = .ok (.dup, 1) := by decide +kernel
theorem dX5_readNumber_46 : decode cX5_readNumber 46 = .ok (.getfield 27, 3) := by decide +kernel
theorem dX5_readNumber_49 : decode cX5_readNumber 49 = .ok (.iconst 1, 1) := by decide +kernel
theorem dX5_readNumber_50 : decode cX5_readNumber 50 = .ok (.iadd, 1) := by decide +kernel
theorem dX5_readNumber_51 : decode cX5_readNumber 51 = .ok (.putfield 27, 3) := by decide +kernel
theorem dX5_readNumber_54 : decode cX5_readNumber 54 = .ok (.iinc 3 1, 3) := by decide +kernel
theorem dX5_readNumber_57 : decode cX5_readNumber 57 = .ok (.goto (-53), 3) := by decide +kernel
theorem dX5_readNumber_60 : decode cX5_readNumber 60 = .ok (.iload_n 3, 1) := by decide +kernel
theorem dX5_readNumber_61 : decode cX5_readNumber 61 = .ok (.ifCond .ne 7, 3) := by decide +kernel
theorem dX5_readNumber_64 : decode cX5_readNumber 64 = .ok (.iconst (-1), 1) := by decide +kernel
theorem dX5_readNumber_65 : decode cX5_readNumber 65 = .ok (.goto 4, 3) := by decide +kernel
theorem dX5_readNumber_68 : decode cX5_readNumber 68 = .ok (.iload_n 2, 1) := by decide +kernel
theorem dX5_readNumber_69 : decode cX5_readNumber 69 = .ok (.ireturn, 1) := by decide +kernel
set_option maxRecDepth 20000 in
theorem ggX5_readSign_X3_letterAt : GoodIn wsX5_readSign wsX3_letterAt := goodIn_r _ [6, 7, 8, 14, 15] (by decide +kernel) (by decide +kernel)
set_option maxRecDepth 20000 in
theorem gX5_readSign_X3_letterAt : GoodIn wsX5_readSign (wsV RX5 39 RX3 yX3_letterAt wsX3_letterAt) := goodIn_app (goodIn_of _ (by decide +kernel)) ggX5_readSign_X3_letterAt
theorem dX5_readSign_0 : decode cX5_readSign 0 = .ok (.aload_n 1, 1) := by decide +kernel
theorem dX5_readSign_1 : decode cX5_readSign 1 = .ok (.aload_n 0, 1) := by decide +kernel
theorem dX5_readSign_2 : decode cX5_readSign 2 = .ok (.getfield 27, 3) := by decide +kernel
theorem dX5_readSign_5 : decode cX5_readSign 5 = .ok (.invokevirtual 39, 3) := by decide +kernel
theorem dX5_readSign_8 : decode cX5_readSign 8 = .ok (.iload_n 2, 1) := by decide +kernel
theorem dX5_readSign_9 : decode cX5_readSign 9 = .ok (.if_icmp .eq 5, 3) := by decide +kernel
theorem dX5_readSign_12 : decode cX5_readSign 12 = .ok (.iconst 0, 1) := by decide +kernel
theorem dX5_readSign_13 : decode cX5_readSign 13 = .ok (.ireturn, 1) := by decide +kernel
theorem dX5_readSign_14 : decode cX5_readSign 14 = .ok (.aload_n 0, 1) := by decide +kernel
theorem dX5_readSign_15 : decode cX5_readSign 15 = .ok (.dup, 1) := by decide +kernel
theorem dX5_readSign_16 : decode cX5_readSign 16 = .ok (.getfield 27, 3) := by decide +kernel
theorem dX5_readSign_19 : decode cX5_readSign 19 = .ok (.iconst 1, 1) := by decide +kernel
theorem dX5_readSign_20 : decode cX5_readSign 20 = .ok (.iadd, 1) := by decide +kernel
theorem dX5_readSign_21 : decode cX5_readSign 21 = .ok (.putfield 27, 3) := by decide +kernel
theorem dX5_readSign_24 : decode cX5_readSign 24 = .ok (.iconst 1, 1) := by decide +kernel
theorem dX5_readSign_25 : decode cX5_readSign 25 = .ok (.ireturn, 1) := by decide +kernel
set_option maxRecDepth 20000 in
theorem ggX6_init_X0_init : GoodIn wsX6_init wsX0_init := goodIn_r _ [10, 11, 2, 3] (by decide +kernel) (by decide +kernel)
set_option maxRecDepth 20000 in
theorem gX6_init_X0_init_n11 : GoodIn wsX6_init (wsX0_init) := ggX6_init_X0_init
theorem dX6_init_0 : decode cX6_init 0 = .ok (.aload_n 0, 1) := by decide +kernel
theorem dX6_init_1 : decode cX6_init 1 = .ok (.invokespecial 5, 3) := by decide +kernel
theorem dX6_init_4 : decode cX6_init 4 = .ok (.aload_n 0, 1) := by decide +kernel
theorem dX6_init_5 : decode cX6_init 5 = .ok (.new 1, 3) := by decide +kernel
theorem dX6_init_8 : decode cX6_init 8 = .ok (.dup, 1) := by decide +kernel
theorem dX6_init_9 : decode cX6_init 9 = .ok (.invokespecial 11, 3) := by decide +kernel
theorem dX6_init_12 : decode cX6_init 12 = .ok (.putfield 12, 3) := by decide +kernel
theorem dX6_init_15 : decode cX6_init 15 = .ok (.aload_n 0, 1) := by decide +kernel
theorem dX6_init_16 : decode cX6_init 16 = .ok (.new 1, 3) := by decide +kernel
theorem dX6_init_19 : decode cX6_init 19 = .ok (.dup, 1) := by decide +kernel
theorem dX6_init_20 : decode cX6_init 20 = .ok (.invokespecial 11, 3) := by decide +kernel
theorem dX6_init_23 : decode cX6_init 23 = .ok (.putfield 18, 3) := by decide +kernel
theorem dX6_init_26 : decode cX6_init 26 = .ok (.return_, 1) := by decide +kernel
set_option maxRecDepth 20000 in
theorem ggX6_layOut_X0_put : GoodIn wsX6_layOut wsX0_put := goodIn_r _ [13, 14, 15, 16, 27, 28, 29] (by decide +kernel) (by decide +kernel)
set_option maxRecDepth 20000 in
theorem gX6_layOut_X0_put : GoodIn wsX6_layOut (wsV RX6 23 RX0 yX0_put wsX0_put) := goodIn_app (goodIn_of _ (by decide +kernel)) ggX6_layOut_X0_put
theorem dX6_layOut_0 : decode cX6_layOut 0 = .ok (.aload_n 1, 1) := by decide +kernel
theorem dX6_layOut_1 : decode cX6_layOut 1 = .ok (.arraylength, 1) := by decide +kernel
theorem dX6_layOut_2 : decode cX6_layOut 2 = .ok (.bipush 7, 2) := by decide +kernel
theorem dX6_layOut_4 : decode cX6_layOut 4 = .ok (.if_icmp .ge 4, 3) := by decide +kernel
theorem dX6_layOut_7 : decode cX6_layOut 7 = .ok (.return_, 1) := by decide +kernel
theorem dX6_layOut_8 : decode cX6_layOut 8 = .ok (.aload_n 0, 1) := by decide +kernel
theorem dX6_layOut_9 : decode cX6_layOut 9 = .ok (.getfield 12, 3) := by decide +kernel
theorem dX6_layOut_12 : decode cX6_layOut 12 = .ok (.aload_n 1, 1) := by decide +kernel
theorem dX6_layOut_13 : decode cX6_layOut 13 = .ok (.iconst 0, 1) := by decide +kernel
theorem dX6_layOut_14 : decode cX6_layOut 14 = .ok (.iaload, 1) := by decide +kernel
theorem dX6_layOut_15 : decode cX6_layOut 15 = .ok (.aload_n 1, 1) := by decide +kernel
theorem dX6_layOut_16 : decode cX6_layOut 16 = .ok (.iconst 1, 1) := by decide +kernel
theorem dX6_layOut_17 : decode cX6_layOut 17 = .ok (.iaload, 1) := by decide +kernel
theorem dX6_layOut_18 : decode cX6_layOut 18 = .ok (.aload_n 1, 1) := by decide +kernel
theorem dX6_layOut_19 : decode cX6_layOut 19 = .ok (.iconst 2, 1) := by decide +kernel
theorem dX6_layOut_20 : decode cX6_layOut 20 = .ok (.iaload, 1) := by decide +kernel
theorem dX6_layOut_21 : decode cX6_layOut 21 = .ok (.invokevirtual 23, 3) := by decide +kernel
theorem dX6_layOut_24 : decode cX6_layOut 24 = .ok (.aload_n 0, 1) := by decide +kernel
theorem dX6_layOut_25 : decode cX6_layOut 25 = .ok (.aload_n 1, 1) := by decide +kernel
theorem dX6_layOut_26 : decode cX6_layOut 26 = .ok (.iconst 3, 1) := by decide +kernel
theorem dX6_layOut_27 : decode cX6_layOut 27 = .ok (.iaload, 1) := by decide +kernel
theorem dX6_layOut_28 : decode cX6_layOut 28 = .ok (.putfield 27, 3) := by decide +kernel
theorem dX6_layOut_31 : decode cX6_layOut 31 = .ok (.aload_n 0, 1) := by decide +kernel
theorem dX6_layOut_32 : decode cX6_layOut 32 = .ok (.aload_n 1, 1) := by decide +kernel
theorem dX6_layOut_33 : decode cX6_layOut 33 = .ok (.iconst 4, 1) := by decide +kernel
theorem dX6_layOut_34 : decode cX6_layOut 34 = .ok (.iaload, 1) := by decide +kernel
theorem dX6_layOut_35 : decode cX6_layOut 35 = .ok (.putfield 31, 3) := by decide +kernel
theorem dX6_layOut_38 : decode cX6_layOut 38 = .ok (.aload_n 0, 1) := by decide +kernel
theorem dX6_layOut_39 : decode cX6_layOut 39 = .ok (.aload_n 1, 1) := by decide +kernel
theorem dX6_layOut_40 : decode cX6_layOut 40 = .ok (.iconst 5, 1) := by decide +kernel
theorem dX6_layOut_41 : decode cX6_layOut 41 = .ok (.iaload, 1) := by decide +kernel
theorem dX6_layOut_42 : decode cX6_layOut 42 = .ok (.putfield 34, 3) := by decide +kernel
theorem dX6_layOut_45 : decode cX6_layOut 45 = .ok (.aload_n 0, 1) := by decide +kernel
theorem dX6_layOut_46 : decode cX6_layOut 46 = .ok (.aload_n 1, 1) := by decide +kernel
theorem dX6_layOut_47 : decode cX6_layOut 47 = .ok (.bipush 6, 2) := by decide +kernel
theorem dX6_layOut_49 : decode cX6_layOut 49 = .ok (.iaload, 1) := by decide +kernel
theorem dX6_layOut_50 : decode cX6_layOut 50 = .ok (.putfield 37, 3) := by decide +kernel
theorem dX6_layOut_53 : decode cX6_layOut 53 = .ok (.aload_n 0, 1) := by decide +kernel
theorem dX6_layOut_54 : decode cX6_layOut 54 = .ok (.iconst 0, 1) := by decide +kernel
theorem dX6_layOut_55 : decode cX6_layOut 55 = .ok (.putfield 40, 3) := by decide +kernel
theorem dX6_layOut_58 : decode cX6_layOut 58 = .ok (.aload_n 0, 1) := by decide +kernel
theorem dX6_layOut_59 : decode cX6_layOut 59 = .ok (.iconst 0, 1) := by decide +kernel
theorem dX6_layOut_60 : decode cX6_layOut 60 = .ok (.putfield 44, 3) := by decide +kernel
theorem dX6_layOut_63 : decode cX6_layOut 63 = .ok (.aload_n 0, 1) := by decide +kernel
theorem dX6_layOut_64 : decode cX6_layOut 64 = .ok (.iconst 0, 1) := by decide +kernel
theorem dX6_layOut_65 : decode cX6_layOut 65 = .ok (.putfield 47, 3) := by decide +kernel
theorem dX6_layOut_68 : decode cX6_layOut 68 = .ok (.return_, 1) := by decide +kernel
theorem dX6_anchorAt_0 : decode cX6_anchorAt 0 = .ok (.iload_n 1, 1) := by decide +kernel
theorem dX6_anchorAt_1 : decode cX6_anchorAt 1 = .ok (.ifCond .ne 8, 3) := by decide +kernel
theorem dX6_anchorAt_4 : decode cX6_anchorAt 4 = .ok (.aload_n 0, 1) := by decide +kernel
theorem dX6_anchorAt_5 : decode cX6_anchorAt 5 = .ok (.getfield 12, 3) := by decide +kernel
theorem dX6_anchorAt_8 : decode cX6_anchorAt 8 = .ok (.areturn, 1) := by decide +kernel
theorem dX6_anchorAt_9 : decode cX6_anchorAt 9 = .ok (.aload_n 0, 1) := by decide +kernel
theorem dX6_anchorAt_10 : decode cX6_anchorAt 10 = .ok (.getfield 40, 3) := by decide +kernel
theorem dX6_anchorAt_13 : decode cX6_anchorAt 13 = .ok (.ifCond .eq 10, 3) := by decide +kernel
theorem dX6_anchorAt_16 : decode cX6_anchorAt 16 = .ok (.aload_n 0, 1) := by decide +kernel
theorem dX6_anchorAt_17 : decode cX6_anchorAt 17 = .ok (.getfield 18, 3) := by decide +kernel
theorem dX6_anchorAt_20 : decode cX6_anchorAt 20 = .ok (.goto 4, 3) := by decide +kernel
theorem dX6_anchorAt_23 : decode cX6_anchorAt 23 = .ok (.aconst_null, 1) := by decide +kernel
theorem dX6_anchorAt_24 : decode cX6_anchorAt 24 = .ok (.areturn, 1) := by decide +kernel
theorem dX6_pullBy_0 : decode cX6_pullBy 0 = .ok (.iload_n 1, 1) := by decide +kernel
theorem dX6_pullBy_1 : decode cX6_pullBy 1 = .ok (.iload_n 1, 1) := by decide +kernel
theorem dX6_pullBy_2 : decode cX6_pullBy 2 = .ok (.imul, 1) := by decide +kernel
theorem dX6_pullBy_3 : decode cX6_pullBy 3 = .ok (.aload_n 0, 1) := by decide +kernel
theorem dX6_pullBy_4 : decode cX6_pullBy 4 = .ok (.getfield 34, 3) := by decide +kernel
theorem dX6_pullBy_7 : decode cX6_pullBy 7 = .ok (.imul, 1) := by decide +kernel
theorem dX6_pullBy_8 : decode cX6_pullBy 8 = .ok (.iconst 4, 1) := by decide +kernel
theorem dX6_pullBy_9 : decode cX6_pullBy 9 = .ok (.idiv, 1) := by decide +kernel
theorem dX6_pullBy_10 : decode cX6_pullBy 10 = .ok (.ireturn, 1) := by decide +kernel
theorem dX6_isClearOf_0 : decode cX6_isClearOf 0 = .ok (.aload_n 0, 1) := by decide +kernel
theorem dX6_isClearOf_1 : decode cX6_isClearOf 1 = .ok (.getfield 44, 3) := by decide +kernel
theorem dX6_isClearOf_4 : decode cX6_isClearOf 4 = .ok (.ifCond .ne 10, 3) := by decide +kernel
theorem dX6_isClearOf_7 : decode cX6_isClearOf 7 = .ok (.aload_n 1, 1) := by decide +kernel
theorem dX6_isClearOf_8 : decode cX6_isClearOf 8 = .ok (.getfield 44, 3) := by decide +kernel
theorem dX6_isClearOf_11 : decode cX6_isClearOf 11 = .ok (.ifCond .eq 5, 3) := by decide +kernel
theorem dX6_isClearOf_14 : decode cX6_isClearOf 14 = .ok (.iconst 1, 1) := by decide +kernel
theorem dX6_isClearOf_15 : decode cX6_isClearOf 15 = .ok (.ireturn, 1) := by decide +kernel
theorem dX6_isClearOf_16 : decode cX6_isClearOf 16 = .ok (.bipush 10, 2) := by decide +kernel
theorem dX6_isClearOf_18 : decode cX6_isClearOf 18 = .ok (.aload_n 0, 1) := by decide +kernel
theorem dX6_isClearOf_19 : decode cX6_isClearOf 19 = .ok (.getfield 12, 3) := by decide +kernel
theorem dX6_isClearOf_22 : decode cX6_isClearOf 22 = .ok (.getfield 50, 3) := by decide +kernel
theorem dX6_isClearOf_25 : decode cX6_isClearOf 25 = .ok (.aload_n 1, 1) := by decide +kernel
theorem dX6_isClearOf_26 : decode cX6_isClearOf 26 = .ok (.getfield 12, 3) := by decide +kernel
theorem dX6_isClearOf_29 : decode cX6_isClearOf 29 = .ok (.getfield 50, 3) := by decide +kernel
theorem dX6_isClearOf_32 : decode cX6_isClearOf 32 = .ok (.isub, 1) := by decide +kernel
theorem dX6_isClearOf_33 : decode cX6_isClearOf 33 = .ok (.imul, 1) := by decide +kernel
theorem dX6_isClearOf_34 : decode cX6_isClearOf 34 = .ok (.istore_n 2, 1) := by decide +kernel
theorem dX6_isClearOf_35 : decode cX6_isClearOf 35 = .ok (.bipush 10, 2) := by decide +kernel
theorem dX6_isClearOf_37 : decode cX6_isClearOf 37 = .ok (.aload_n 0, 1) := by decide +kernel
theorem dX6_isClearOf_38 : decode cX6_isClearOf 38 = .ok (.getfield 12, 3) := by decide +kernel
theorem dX6_isClearOf_41 : decode cX6_isClearOf 41 = .ok (.getfield 53, 3) := by decide +kernel
theorem dX6_isClearOf_44 : decode cX6_isClearOf 44 = .ok (.aload_n 1, 1) := by decide +kernel
theorem dX6_isClearOf_45 : decode cX6_isClearOf 45 = .ok (.getfield 12, 3) := by decide +kernel
theorem dX6_isClearOf_48 : decode cX6_isClearOf 48 = .ok (.getfield 53, 3) := by decide +kernel
theorem dX6_isClearOf_51 : decode cX6_isClearOf 51 = .ok (.isub, 1) := by decide +kernel
theorem dX6_isClearOf_52 : decode cX6_isClearOf 52 = .ok (.imul, 1) := by decide +kernel
theorem dX6_isClearOf_53 : decode cX6_isClearOf 53 = .ok (.istore_n 3, 1) := by decide +kernel
theorem dX6_isClearOf_54 : decode cX6_isClearOf 54 = .ok (.aload_n 0, 1) := by decide +kernel
theorem dX6_isClearOf_55 : decode cX6_isClearOf 55 = .ok (.getfield 56, 3) := by decide +kernel
theorem dX6_isClearOf_58 : decode cX6_isClearOf 58 = .ok (.aload_n 1, 1) := by decide +kernel
theorem dX6_isClearOf_59 : decode cX6_isClearOf 59 = .ok (.getfield 56, 3) := by decide +kernel
theorem dX6_isClearOf_62 : decode cX6_isClearOf 62 = .ok (.iadd, 1) := by decide +kernel
theorem dX6_isClearOf_63 : decode cX6_isClearOf 63 = .ok (.istore 4, 2) := by decide +kernel
theorem dX6_isClearOf_65 : decode cX6_isClearOf 65 = .ok (.iload_n 2, 1) := by decide +kernel
theorem dX6_isClearOf_66 : decode cX6_isClearOf 66 = .ok (.iload_n 2, 1) := by decide +kernel
theorem dX6_isClearOf_67 : decode cX6_isClearOf 67 = .ok (.imul, 1) := by decide +kernel
theorem dX6_isClearOf_68 : decode cX6_isClearOf 68 = .ok (.iload_n 3, 1) := by decide +kernel
theorem dX6_isClearOf_69 : decode cX6_isClearOf 69 = .ok (.iload_n 3, 1) := by decide +kernel
theorem dX6_isClearOf_70 : decode cX6_isClearOf 70 = .ok (.imul, 1) := by decide +kernel
theorem dX6_isClearOf_71 : decode cX6_isClearOf 71 = .ok (.iadd, 1) := by decide +kernel
theorem dX6_isClearOf_72 : decode cX6_isClearOf 72 = .ok (.iload 4, 2) := by decide +kernel
theorem dX6_isClearOf_74 : decode cX6_isClearOf 74 = .ok (.iload 4, 2) := by decide +kernel
theorem dX6_isClearOf_76 : decode cX6_isClearOf 76 = .ok (.imul, 1) := by decide +kernel
theorem dX6_isClearOf_77 : decode cX6_isClearOf 77 = .ok (.if_icmp .lt 7, 3) := by decide +kernel
theorem dX6_isClearOf_80 : decode cX6_isClearOf 80 = .ok (.iconst 1, 1) := by decide +kernel
theorem dX6_isClearOf_81 : decode cX6_isClearOf 81 = .ok (.goto 4, 3) := by decide +kernel
theorem dX6_isClearOf_84 : decode cX6_isClearOf 84 = .ok (.iconst 0, 1) := by decide +kernel
theorem dX6_isClearOf_85 : decode cX6_isClearOf 85 = .ok (.ireturn, 1) := by decide +kernel
set_option maxRecDepth 20000 in
theorem ggX6_save_X0_save : GoodIn wsX6_save wsX0_save := goodIn_r _ [10, 11, 12, 13, 27, 28, 29] (by decide +kernel) (by decide +kernel)
set_option maxRecDepth 20000 in
theorem gX6_save_X0_save : GoodIn wsX6_save (wsV RX6 59 RX0 yX0_save wsX0_save) := goodIn_app (goodIn_of _ (by decide +kernel)) ggX6_save_X0_save
set_option maxRecDepth 20000 in
theorem ggX6_save_X7_oneIf : GoodIn wsX6_save wsX7_oneIf := goodIn_r _ [16] (by decide +kernel) (by decide +kernel)
set_option maxRecDepth 20000 in
theorem gX6_save_X7_oneIf_n63 : GoodIn wsX6_save (wsX7_oneIf) := ggX6_save_X7_oneIf
theorem dX6_save_0 : decode cX6_save 0 = .ok (.iload_n 2, 1) := by decide +kernel
theorem dX6_save_1 : decode cX6_save 1 = .ok (.ifCond .lt 12, 3) := by decide +kernel
theorem dX6_save_4 : decode cX6_save 4 = .ok (.iload_n 2, 1) := by decide +kernel
theorem dX6_save_5 : decode cX6_save 5 = .ok (.aload_n 1, 1) := by decide +kernel
theorem dX6_save_6 : decode cX6_save 6 = .ok (.arraylength, 1) := by decide +kernel
theorem dX6_save_7 : decode cX6_save 7 = .ok (.bipush 9, 2) := by decide +kernel
theorem dX6_save_9 : decode cX6_save 9 = .ok (.isub, 1) := by decide +kernel
theorem dX6_save_10 : decode cX6_save 10 = .ok (.if_icmp .le 4, 3) := by decide +kernel
theorem dX6_save_13 : decode cX6_save 13 = .ok (.return_, 1) := by decide +kernel
theorem dX6_save_14 : decode cX6_save 14 = .ok (.aload_n 0, 1) := by decide +kernel
theorem dX6_save_15 : decode cX6_save 15 = .ok (.getfield 12, 3) := by decide +kernel
theorem dX6_save_18 : decode cX6_save 18 = .ok (.aload_n 1, 1) := by decide +kernel
theorem dX6_save_19 : decode cX6_save 19 = .ok (.iload_n 2, 1) := by decide +kernel
theorem dX6_save_20 : decode cX6_save 20 = .ok (.invokevirtual 59, 3) := by decide +kernel
theorem dX6_save_23 : decode cX6_save 23 = .ok (.aload_n 0, 1) := by decide +kernel
theorem dX6_save_24 : decode cX6_save 24 = .ok (.getfield 18, 3) := by decide +kernel
theorem dX6_save_27 : decode cX6_save 27 = .ok (.aload_n 1, 1) := by decide +kernel
theorem dX6_save_28 : decode cX6_save 28 = .ok (.iload_n 2, 1) := by decide +kernel
theorem dX6_save_29 : decode cX6_save 29 = .ok (.iconst 3, 1) := by decide +kernel
theorem dX6_save_30 : decode cX6_save 30 = .ok (.iadd, 1) := by decide +kernel
theorem dX6_save_31 : decode cX6_save 31 = .ok (.invokevirtual 59, 3) := by decide +kernel
theorem dX6_save_34 : decode cX6_save 34 = .ok (.iload_n 2, 1) := by decide +kernel
theorem dX6_save_35 : decode cX6_save 35 = .ok (.bipush 6, 2) := by decide +kernel
theorem dX6_save_37 : decode cX6_save 37 = .ok (.iadd, 1) := by decide +kernel
theorem dX6_save_38 : decode cX6_save 38 = .ok (.istore_n 3, 1) := by decide +kernel
theorem dX6_save_39 : decode cX6_save 39 = .ok (.aload_n 1, 1) := by decide +kernel
theorem dX6_save_40 : decode cX6_save 40 = .ok (.iload_n 3, 1) := by decide +kernel
theorem dX6_save_41 : decode cX6_save 41 = .ok (.aload_n 0, 1) := by decide +kernel
theorem dX6_save_42 : decode cX6_save 42 = .ok (.getfield 40, 3) := by decide +kernel
theorem dX6_save_45 : decode cX6_save 45 = .ok (.invokestatic 63, 3) := by decide +kernel
theorem dX6_save_48 : decode cX6_save 48 = .ok (.iastore, 1) := by decide +kernel
theorem dX6_save_49 : decode cX6_save 49 = .ok (.aload_n 1, 1) := by decide +kernel
theorem dX6_save_50 : decode cX6_save 50 = .ok (.iload_n 3, 1) := by decide +kernel
theorem dX6_save_51 : decode cX6_save 51 = .ok (.iconst 1, 1) := by decide +kernel
theorem dX6_save_52 : decode cX6_save 52 = .ok (.iadd, 1) := by decide +kernel
theorem dX6_save_53 : decode cX6_save 53 = .ok (.aload_n 0, 1) := by decide +kernel
theorem dX6_save_54 : decode cX6_save 54 = .ok (.getfield 44, 3) := by decide +kernel
theorem dX6_save_57 : decode cX6_save 57 = .ok (.invokestatic 63, 3) := by decide +kernel
theorem dX6_save_60 : decode cX6_save 60 = .ok (.iastore, 1) := by decide +kernel
theorem dX6_save_61 : decode cX6_save 61 = .ok (.aload_n 1, 1) := by decide +kernel
theorem dX6_save_62 : decode cX6_save 62 = .ok (.iload_n 3, 1) := by decide +kernel
theorem dX6_save_63 : decode cX6_save 63 = .ok (.iconst 2, 1) := by decide +kernel
theorem dX6_save_64 : decode cX6_save 64 = .ok (.iadd, 1) := by decide +kernel
theorem dX6_save_65 : decode cX6_save 65 = .ok (.aload_n 0, 1) := by decide +kernel
theorem dX6_save_66 : decode cX6_save 66 = .ok (.getfield 47, 3) := by decide +kernel
theorem dX6_save_69 : decode cX6_save 69 = .ok (.iastore, 1) := by decide +kernel
theorem dX6_save_70 : decode cX6_save 70 = .ok (.return_, 1) := by decide +kernel
set_option maxRecDepth 20000 in
theorem ggX6_restore_X0_restore : GoodIn wsX6_restore wsX0_restore := goodIn_r _ [10, 11, 12, 13, 9, 14, 15, 16, 17, 28, 29, 30] (by decide +kernel) (by decide +kernel)
set_option maxRecDepth 20000 in
theorem gX6_restore_X0_restore : GoodIn wsX6_restore (wsV RX6 67 RX0 yX0_restore wsX0_restore) := goodIn_app (goodIn_of _ (by decide +kernel)) ggX6_restore_X0_restore
theorem dX6_restore_0 : decode cX6_restore 0 = .ok (.iload_n 2, 1) := by decide +kernel
theorem dX6_restore_1 : decode cX6_restore 1 = .ok (.ifCond .lt 12, 3) := by decide +kernel
theorem dX6_restore_4 : decode cX6_restore 4 = .ok (.iload_n 2, 1) := by decide +kernel
theorem dX6_restore_5 : decode cX6_restore 5 = .ok (.aload_n 1, 1) := by decide +kernel
theorem dX6_restore_6 : decode cX6_restore 6 = .ok (.arraylength, 1) := by decide +kernel
theorem dX6_restore_7 : decode cX6_restore 7 = .ok (.bipush 9, 2) := by decide +kernel
theorem dX6_restore_9 : decode cX6_restore 9 = .ok (.isub, 1) := by decide +kernel
theorem dX6_restore_10 : decode cX6_restore 10 = .ok (.if_icmp .le 4, 3) := by decide +kernel
theorem dX6_restore_13 : decode cX6_restore 13 = .ok (.return_, 1) := by decide +kernel
theorem dX6_restore_14 : decode cX6_restore 14 = .ok (.aload_n 0, 1) := by decide +kernel
theorem dX6_restore_15 : decode cX6_restore 15 = .ok (.getfield 12, 3) := by decide +kernel
theorem dX6_restore_18 : decode cX6_restore 18 = .ok (.aload_n 1, 1) := by decide +kernel
theorem dX6_restore_19 : decode cX6_restore 19 = .ok (.iload_n 2, 1) := by decide +kernel
theorem dX6_restore_20 : decode cX6_restore 20 = .ok (.invokevirtual 67, 3) := by decide +kernel
theorem dX6_restore_23 : decode cX6_restore 23 = .ok (.aload_n 0, 1) := by decide +kernel
theorem dX6_restore_24 : decode cX6_restore 24 = .ok (.getfield 18, 3) := by decide +kernel
theorem dX6_restore_27 : decode cX6_restore 27 = .ok (.aload_n 1, 1) := by decide +kernel
theorem dX6_restore_28 : decode cX6_restore 28 = .ok (.iload_n 2, 1) := by decide +kernel
theorem dX6_restore_29 : decode cX6_restore 29 = .ok (.iconst 3, 1) := by decide +kernel
theorem dX6_restore_30 : decode cX6_restore 30 = .ok (.iadd, 1) := by decide +kernel
theorem dX6_restore_31 : decode cX6_restore 31 = .ok (.invokevirtual 67, 3) := by decide +kernel
theorem dX6_restore_34 : decode cX6_restore 34 = .ok (.iload_n 2, 1) := by decide +kernel
theorem dX6_restore_35 : decode cX6_restore 35 = .ok (.bipush 6, 2) := by decide +kernel
theorem dX6_restore_37 : decode cX6_restore 37 = .ok (.iadd, 1) := by decide +kernel
theorem dX6_restore_38 : decode cX6_restore 38 = .ok (.istore_n 3, 1) := by decide +kernel
theorem dX6_restore_39 : decode cX6_restore 39 = .ok (.aload_n 0, 1) := by decide +kernel
theorem dX6_restore_40 : decode cX6_restore 40 = .ok (.aload_n 1, 1) := by decide +kernel
theorem dX6_restore_41 : decode cX6_restore 41 = .ok (.iload_n 3, 1) := by decide +kernel
theorem dX6_restore_42 : decode cX6_restore 42 = .ok (.iaload, 1) := by decide +kernel
theorem dX6_restore_43 : decode cX6_restore 43 = .ok (.iconst 1, 1) := by decide +kernel
theorem dX6_restore_44 : decode cX6_restore 44 = .ok (.if_icmp .ne 7, 3) := by decide +kernel
theorem dX6_restore_47 : decode cX6_restore 47 = .ok (.iconst 1, 1) := by decide +kernel
theorem dX6_restore_48 : decode cX6_restore 48 = .ok (.goto 4, 3) := by decide +kernel
theorem dX6_restore_51 : decode cX6_restore 51 = .ok (.iconst 0, 1) := by decide +kernel
theorem dX6_restore_52 : decode cX6_restore 52 = .ok (.putfield 40, 3) := by decide +kernel
theorem dX6_restore_55 : decode cX6_restore 55 = .ok (.aload_n 0, 1) := by decide +kernel
theorem dX6_restore_56 : decode cX6_restore 56 = .ok (.aload_n 1, 1) := by decide +kernel
theorem dX6_restore_57 : decode cX6_restore 57 = .ok (.iload_n 3, 1) := by decide +kernel
theorem dX6_restore_58 : decode cX6_restore 58 = .ok (.iconst 1, 1) := by decide +kernel
theorem dX6_restore_59 : decode cX6_restore 59 = .ok (.iadd, 1) := by decide +kernel
theorem dX6_restore_60 : decode cX6_restore 60 = .ok (.iaload, 1) := by decide +kernel
theorem dX6_restore_61 : decode cX6_restore 61 = .ok (.iconst 1, 1) := by decide +kernel
theorem dX6_restore_62 : decode cX6_restore 62 = .ok (.if_icmp .ne 7, 3) := by decide +kernel
theorem dX6_restore_65 : decode cX6_restore 65 = .ok (.iconst 1, 1) := by decide +kernel
theorem dX6_restore_66 : decode cX6_restore 66 = .ok (.goto 4, 3) := by decide +kernel
theorem dX6_restore_69 : decode cX6_restore 69 = .ok (.iconst 0, 1) := by decide +kernel
theorem dX6_restore_70 : decode cX6_restore 70 = .ok (.putfield 44, 3) := by decide +kernel
theorem dX6_restore_73 : decode cX6_restore 73 = .ok (.aload_n 0, 1) := by decide +kernel
theorem dX6_restore_74 : decode cX6_restore 74 = .ok (.aload_n 1, 1) := by decide +kernel
theorem dX6_restore_75 : decode cX6_restore 75 = .ok (.iload_n 3, 1) := by decide +kernel
theorem dX6_restore_76 : decode cX6_restore 76 = .ok (.iconst 2, 1) := by decide +kernel
theorem dX6_restore_77 : decode cX6_restore 77 = .ok (.iadd, 1) := by decide +kernel
theorem dX6_restore_78 : decode cX6_restore 78 = .ok (.iaload, 1) := by decide +kernel
theorem dX6_restore_79 : decode cX6_restore 79 = .ok (.putfield 47, 3) := by decide +kernel
theorem dX6_restore_82 : decode cX6_restore 82 = .ok (.return_, 1) := by decide +kernel
set_option maxRecDepth 20000 in
theorem ggX7_init_X3_init : GoodIn wsX7_init wsX3_init := goodIn_r _ [21, 22, 2, 3, 23, 24, 196, 197] (by decide +kernel) (by decide +kernel)
set_option maxRecDepth 20000 in
theorem gX7_init_X3_init_n9 : GoodIn wsX7_init (wsX3_init) := ggX7_init_X3_init
set_option maxRecDepth 20000 in
theorem ggX7_init_X5_init : GoodIn wsX7_init wsX5_init := goodIn_r _ [26, 27, 2, 3, 28, 29, 30, 31, 202, 203, 204, 205, 206] (by decide +kernel) (by decide +kernel)
set_option maxRecDepth 20000 in
theorem gX7_init_X5_init_n18 : GoodIn wsX7_init (wsX5_init) := ggX7_init_X5_init
set_option maxRecDepth 20000 in
theorem ggX7_init_X1_init : GoodIn wsX7_init wsX1_init := goodIn_r _ [34, 35, 2, 3, 28, 36, 37, 38, 39, 40, 41, 42, 43, 44, 45, 46, 47, 48, 49, 50, 51, 52, 53, 54, 55, 56, 57, 58, 207, 208, 209, 210, 211, 212, 216, 217, 218, 219, 220, 221, 222, 223, 224, 225, 226, 227, 228, 229, 230, 231, 232, 233, 234, 235, 236, 237, 238, 239, 240] (by decide +kernel) (by decide +kernel)
set_option maxRecDepth 20000 in
theorem gX7_init_X1_init : GoodIn wsX7_init (wsX1_init) := ggX7_init_X1_init
set_option maxRecDepth 20000 in
theorem ggX7_init_X4_init : GoodIn wsX7_init wsX4_init := goodIn_r _ [60, 61, 2, 3, 62, 28, 63, 213, 214, 215] (by decide +kernel) (by decide +kernel)
set_option maxRecDepth 20000 in
theorem gX7_init_X4_init_n32 : GoodIn wsX7_init (wsX4_init) := ggX7_init_X4_init
set_option maxRecDepth 20000 in
theorem ggX7_init_J0_length_8abf5 : GoodIn wsX7_init wsJ0_length_8abf5 := goodIn_r _ [68, 69, 70, 71, 72, 67, 73, 74, 75] (by decide +kernel) (by decide +kernel)
set_option maxRecDepth 20000 in
theorem gX7_init_J0_length_8abf5 : GoodIn wsX7_init (wsV RX7 39 RJ0 yJ0_length_8abf5 wsJ0_length_8abf5) := goodIn_app (goodIn_of _ (by decide +kernel)) ggX7_init_J0_length_8abf5
set_option maxRecDepth 20000 in
theorem ggX7_init_J0_charAt_5068e : GoodIn wsX7_init wsJ0_charAt_5068e := goodIn_r _ [79, 69, 80, 81, 82, 67, 83, 74, 75, 84, 85, 86, 87, 88, 89, 90, 91, 92, 93, 94, 95, 96, 97, 98, 99, 100, 101, 102, 103, 104, 105, 106, 107, 108, 109, 110, 111, 112] (by decide +kernel) (by decide +kernel)
set_option maxRecDepth 20000 in
theorem gX7_init_J0_charAt_5068e : GoodIn wsX7_init (wsV RX7 45 RJ0 yJ0_charAt_5068e wsJ0_charAt_5068e) := goodIn_app (goodIn_of _ (by decide +kernel)) ggX7_init_J0_charAt_5068e
set_option maxRecDepth 20000 in
theorem ggX7_init_X3_append : GoodIn wsX7_init wsX3_append := goodIn_r _ [116, 117, 24, 196, 197] (by decide +kernel) (by decide +kernel)
set_option maxRecDepth 20000 in
theorem gX7_init_X3_append : GoodIn wsX7_init (wsV RX7 49 RX3 yX3_append wsX3_append) := goodIn_app (goodIn_of _ (by decide +kernel)) ggX7_init_X3_append
set_option maxRecDepth 20000 in
theorem ggX7_init_X5_read : GoodIn wsX7_init wsX5_read := goodIn_r _ [121, 122, 123, 124, 125, 126, 127, 128, 10, 129, 130, 131, 132, 6, 133, 117, 24, 134, 135, 136, 137, 29, 138, 139, 140, 141, 142, 143, 144, 145, 146, 147, 148, 149, 150, 151, 152, 31, 153, 154, 202, 203, 204, 205, 206, 196, 197] (by decide +kernel) (by decide +kernel)
set_option maxRecDepth 20000 in
theorem gX7_init_X5_read : GoodIn wsX7_init (wsV RX7 53 RX5 yX5_read wsX5_read) := goodIn_app (goodIn_of _ (by decide +kernel)) ggX7_init_X5_read
set_option maxRecDepth 20000 in
theorem ggX7_init_X1_layOut : GoodIn wsX7_init wsX1_layOut := goodIn_r _ [158, 159, 160, 161, 36, 162, 163, 164, 165, 166, 167, 168, 169, 170, 171, 38, 172, 173, 174, 175, 176, 44, 177, 54, 178, 179, 180, 181, 182, 183, 184, 185, 186, 187, 53, 188, 189, 190, 191, 202, 203, 204, 205, 206, 207, 208, 209, 210, 211, 212, 228, 229, 230, 231, 232, 233, 234, 235, 236, 237, 238, 239, 240] (by decide +kernel) (by decide +kernel)
set_option maxRecDepth 20000 in
theorem gX7_init_X1_layOut : GoodIn wsX7_init (wsV RX7 57 RX1 yX1_layOut wsX1_layOut) := goodIn_app (goodIn_of _ (by decide +kernel)) ggX7_init_X1_layOut
set_option maxRecDepth 20000 in
theorem ggX7_init_X3_clear : GoodIn wsX7_init wsX3_clear := goodIn_r _ [195, 117, 196, 197] (by decide +kernel) (by decide +kernel)
set_option maxRecDepth 20000 in
theorem gX7_init_X3_clear : GoodIn wsX7_init (wsV RX7 61 RX3 yX3_clear wsX3_clear) := goodIn_app (goodIn_of _ (by decide +kernel)) ggX7_init_X3_clear
theorem dX7_init_0 : decode cX7_init 0 = .ok (.aload_n 0, 1) := by decide +kernel
theorem dX7_init_1 : decode cX7_init 1 = .ok (.invokespecial 1, 3) := by decide +kernel
theorem dX7_init_4 : decode cX7_init 4 = .ok (.aload_n 0, 1) := by decide +kernel
theorem dX7_init_5 : decode cX7_init 5 = .ok (.new 7, 3) := by decide +kernel
theorem dX7_init_8 : decode cX7_init 8 = .ok (.dup, 1) := by decide +kernel
theorem dX7_init_9 : decode cX7_init 9 = .ok (.invokespecial 9, 3) := by decide +kernel
theorem dX7_init_12 : decode cX7_init 12 = .ok (.putfield 10, 3) := by decide +kernel
theorem dX7_init_15 : decode cX7_init 15 = .ok (.aload_n 0, 1) := by decide +kernel
theorem dX7_init_16 : decode cX7_init 16 = .ok (.new 16, 3) := by decide +kernel
theorem dX7_init_19 : decode cX7_init 19 = .ok (.dup, 1) := by decide +kernel
theorem dX7_init_20 : decode cX7_init 20 = .ok (.invokespecial 18, 3) := by decide +kernel
theorem dX7_init_23 : decode cX7_init 23 = .ok (.putfield 19, 3) := by decide +kernel
theorem dX7_init_26 : decode cX7_init 26 = .ok (.aload_n 0, 1) := by decide +kernel
theorem dX7_init_27 : decode cX7_init 27 = .ok (.new 23, 3) := by decide +kernel
theorem dX7_init_30 : decode cX7_init 30 = .ok (.dup, 1) := by decide +kernel
theorem dX7_init_31 : decode cX7_init 31 = .ok (.invokespecial 25, 3) := by decide +kernel
theorem dX7_init_34 : decode cX7_init 34 = .ok (.putfield 26, 3) := by decide +kernel
theorem dX7_init_37 : decode cX7_init 37 = .ok (.aload_n 0, 1) := by decide +kernel
theorem dX7_init_38 : decode cX7_init 38 = .ok (.new 30, 3) := by decide +kernel
theorem dX7_init_41 : decode cX7_init 41 = .ok (.dup, 1) := by decide +kernel
theorem dX7_init_42 : decode cX7_init 42 = .ok (.invokespecial 32, 3) := by decide +kernel
theorem dX7_init_45 : decode cX7_init 45 = .ok (.putfield 33, 3) := by decide +kernel
theorem dX7_init_48 : decode cX7_init 48 = .ok (.iconst 0, 1) := by decide +kernel
theorem dX7_init_49 : decode cX7_init 49 = .ok (.istore_n 1, 1) := by decide +kernel
theorem dX7_init_50 : decode cX7_init 50 = .ok (.iload_n 1, 1) := by decide +kernel
theorem dX7_init_51 : decode cX7_init 51 = .ok (.ldc 37, 2) := by decide +kernel
theorem dX7_init_53 : decode cX7_init 53 = .ok (.invokevirtual 39, 3) := by decide +kernel
theorem dX7_init_56 : decode cX7_init 56 = .ok (.if_icmp .ge 23, 3) := by decide +kernel
theorem dX7_init_59 : decode cX7_init 59 = .ok (.aload_n 0, 1) := by decide +kernel
theorem dX7_init_60 : decode cX7_init 60 = .ok (.getfield 10, 3) := by decide +kernel
theorem dX7_init_63 : decode cX7_init 63 = .ok (.ldc 37, 2) := by decide +kernel
theorem dX7_init_65 : decode cX7_init 65 = .ok (.iload_n 1, 1) := by decide +kernel
theorem dX7_init_66 : decode cX7_init 66 = .ok (.invokevirtual 45, 3) := by decide +kernel
theorem dX7_init_69 : decode cX7_init 69 = .ok (.invokevirtual 49, 3) := by decide +kernel
theorem dX7_init_72 : decode cX7_init 72 = .ok (.pop, 1) := by decide +kernel
theorem dX7_init_73 : decode cX7_init 73 = .ok (.iinc 1 1, 3) := by decide +kernel
theorem dX7_init_76 : decode cX7_init 76 = .ok (.goto (-26), 3) := by decide +kernel
theorem dX7_init_79 : decode cX7_init 79 = .ok (.aload_n 0, 1) := by decide +kernel
theorem dX7_init_80 : decode cX7_init 80 = .ok (.getfield 19, 3) := by decide +kernel
theorem dX7_init_83 : decode cX7_init 83 = .ok (.aload_n 0, 1) := by decide +kernel
theorem dX7_init_84 : decode cX7_init 84 = .ok (.getfield 10, 3) := by decide +kernel
theorem dX7_init_87 : decode cX7_init 87 = .ok (.invokevirtual 53, 3) := by decide +kernel
theorem dX7_init_90 : decode cX7_init 90 = .ok (.pop, 1) := by decide +kernel
theorem dX7_init_91 : decode cX7_init 91 = .ok (.aload_n 0, 1) := by decide +kernel
theorem dX7_init_92 : decode cX7_init 92 = .ok (.getfield 26, 3) := by decide +kernel
theorem dX7_init_95 : decode cX7_init 95 = .ok (.aload_n 0, 1) := by decide +kernel
theorem dX7_init_96 : decode cX7_init 96 = .ok (.getfield 19, 3) := by decide +kernel
theorem dX7_init_99 : decode cX7_init 99 = .ok (.invokevirtual 57, 3) := by decide +kernel
theorem dX7_init_102 : decode cX7_init 102 = .ok (.aload_n 0, 1) := by decide +kernel
theorem dX7_init_103 : decode cX7_init 103 = .ok (.getfield 10, 3) := by decide +kernel
theorem dX7_init_106 : decode cX7_init 106 = .ok (.invokevirtual 61, 3) := by decide +kernel
theorem dX7_init_109 : decode cX7_init 109 = .ok (.return_, 1) := by decide +kernel
set_option maxRecDepth 20000 in
theorem ggX7_write_X7_within : GoodIn wsX7_write wsX7_within := goodIn_r _ [6] (by decide +kernel) (by decide +kernel)
set_option maxRecDepth 20000 in
theorem gX7_write_X7_within : GoodIn wsX7_write (va_wsS RX7 64 yX7_within wsX7_within) := goodIn_app (goodIn_of _ (by decide +kernel)) ggX7_write_X7_within
set_option maxRecDepth 20000 in
theorem ggX7_write_X3_append : GoodIn wsX7_write wsX3_append := goodIn_r _ [11, 12, 13, 18, 19] (by decide +kernel) (by decide +kernel)
set_option maxRecDepth 20000 in
theorem gX7_write_X3_append : GoodIn wsX7_write (wsV RX7 49 RX3 yX3_append wsX3_append) := goodIn_app (goodIn_of _ (by decide +kernel)) ggX7_write_X3_append
theorem dX7_write_0 : decode cX7_write 0 = .ok (.iload_n 1, 1) := by decide +kernel
theorem dX7_write_1 : decode cX7_write 1 = .ok (.bipush 32, 2) := by decide +kernel
theorem dX7_write_3 : decode cX7_write 3 = .ok (.bipush 126, 2) := by decide +kernel
theorem dX7_write_5 : decode cX7_write 5 = .ok (.invokestatic 64, 3) := by decide +kernel
theorem dX7_write_8 : decode cX7_write 8 = .ok (.ifCond .ne 5, 3) := by decide +kernel
theorem dX7_write_11 : decode cX7_write 11 = .ok (.iconst (-1), 1) := by decide +kernel
theorem dX7_write_12 : decode cX7_write 12 = .ok (.ireturn, 1) := by decide +kernel
theorem dX7_write_13 : decode cX7_write 13 = .ok (.aload_n 0, 1) := by decide +kernel
theorem dX7_write_14 : decode cX7_write 14 = .ok (.getfield 10, 3) := by decide +kernel
theorem dX7_write_17 : decode cX7_write 17 = .ok (.iload_n 1, 1) := by decide +kernel
theorem dX7_write_18 : decode cX7_write 18 = .ok (.i2c, 1) := by decide +kernel
theorem dX7_write_19 : decode cX7_write 19 = .ok (.invokevirtual 49, 3) := by decide +kernel
theorem dX7_write_22 : decode cX7_write 22 = .ok (.ifCond .eq 13, 3) := by decide +kernel
theorem dX7_write_25 : decode cX7_write 25 = .ok (.aload_n 0, 1) := by decide +kernel
theorem dX7_write_26 : decode cX7_write 26 = .ok (.getfield 10, 3) := by decide +kernel
theorem dX7_write_29 : decode cX7_write 29 = .ok (.getfield 68, 3) := by decide +kernel
theorem dX7_write_32 : decode cX7_write 32 = .ok (.goto 5, 3) := by decide +kernel
theorem dX7_write_35 : decode cX7_write 35 = .ok (.bipush (-3), 2) := by decide +kernel
theorem dX7_write_37 : decode cX7_write 37 = .ok (.ireturn, 1) := by decide +kernel
set_option maxRecDepth 20000 in
theorem ggX7_wipe_X3_clear : GoodIn wsX7_wipe wsX3_clear := goodIn_r _ [7, 8, 13, 14] (by decide +kernel) (by decide +kernel)
set_option maxRecDepth 20000 in
theorem gX7_wipe_X3_clear : GoodIn wsX7_wipe (wsV RX7 61 RX3 yX3_clear wsX3_clear) := goodIn_app (goodIn_of _ (by decide +kernel)) ggX7_wipe_X3_clear
theorem dX7_wipe_0 : decode cX7_wipe 0 = .ok (.aload_n 0, 1) := by decide +kernel
theorem dX7_wipe_1 : decode cX7_wipe 1 = .ok (.getfield 10, 3) := by decide +kernel
theorem dX7_wipe_4 : decode cX7_wipe 4 = .ok (.getfield 68, 3) := by decide +kernel
theorem dX7_wipe_7 : decode cX7_wipe 7 = .ok (.istore_n 1, 1) := by decide +kernel
theorem dX7_wipe_8 : decode cX7_wipe 8 = .ok (.aload_n 0, 1) := by decide +kernel
theorem dX7_wipe_9 : decode cX7_wipe 9 = .ok (.getfield 10, 3) := by decide +kernel
theorem dX7_wipe_12 : decode cX7_wipe 12 = .ok (.invokevirtual 61, 3) := by decide +kernel
theorem dX7_wipe_15 : decode cX7_wipe 15 = .ok (.iload_n 1, 1) := by decide +kernel
theorem dX7_wipe_16 : decode cX7_wipe 16 = .ok (.ireturn, 1) := by decide +kernel
set_option maxRecDepth 20000 in
theorem ggX7_fault_X5_read : GoodIn wsX7_fault wsX5_read := goodIn_r _ [7, 8, 9, 10, 11, 12, 13, 14, 6, 15, 16, 17, 18, 19, 20, 21, 22, 23, 24, 25, 26, 27, 28, 29, 30, 31, 32, 33, 34, 35, 36, 37, 38, 39, 40, 41, 42, 43, 44, 45, 50, 51, 52, 53, 54, 55, 56] (by decide +kernel) (by decide +kernel)
set_option maxRecDepth 20000 in
theorem gX7_fault_X5_read : GoodIn wsX7_fault (wsV RX7 53 RX5 yX5_read wsX5_read) := goodIn_app (goodIn_of _ (by decide +kernel)) ggX7_fault_X5_read
theorem dX7_fault_0 : decode cX7_fault 0 = .ok (.aload_n 0, 1) := by decide +kernel
theorem dX7_fault_1 : decode cX7_fault 1 = .ok (.getfield 19, 3) := by decide +kernel
theorem dX7_fault_4 : decode cX7_fault 4 = .ok (.aload_n 0, 1) := by decide +kernel
theorem dX7_fault_5 : decode cX7_fault 5 = .ok (.getfield 10, 3) := by decide +kernel
theorem dX7_fault_8 : decode cX7_fault 8 = .ok (.invokevirtual 53, 3) := by decide +kernel
theorem dX7_fault_11 : decode cX7_fault 11 = .ok (.ireturn, 1) := by decide +kernel
set_option maxRecDepth 20000 in
theorem ggX7_lay_X5_read : GoodIn wsX7_lay wsX5_read := goodIn_r _ [12, 13, 14, 15, 16, 17, 18, 19, 11, 20, 21, 22, 23, 24, 25, 26, 27, 28, 29, 30, 31, 32, 33, 34, 35, 36, 37, 38, 39, 40, 41, 42, 43, 44, 45, 46, 47, 48, 49, 50, 104, 105, 106, 107, 108, 115, 116] (by decide +kernel) (by decide +kernel)
set_option maxRecDepth 20000 in
theorem gX7_lay_X5_read : GoodIn wsX7_lay (wsV RX7 53 RX5 yX5_read wsX5_read) := goodIn_app (goodIn_of _ (by decide +kernel)) ggX7_lay_X5_read
set_option maxRecDepth 20000 in
theorem ggX7_lay_X1_layOut : GoodIn wsX7_lay wsX1_layOut := goodIn_r _ [55, 56, 57, 58, 59, 60, 61, 62, 63, 64, 65, 66, 67, 68, 69, 70, 71, 72, 73, 74, 75, 76, 77, 78, 79, 80, 81, 82, 83, 84, 85, 86, 87, 88, 89, 90, 91, 92, 93, 104, 105, 106, 107, 108, 109, 110, 111, 112, 113, 114, 117, 118, 119, 120, 121, 122, 123, 124, 125, 126, 127, 128, 129] (by decide +kernel) (by decide +kernel)
set_option maxRecDepth 20000 in
theorem gX7_lay_X1_layOut : GoodIn wsX7_lay (wsV RX7 57 RX1 yX1_layOut wsX1_layOut) := goodIn_app (goodIn_of _ (by decide +kernel)) ggX7_lay_X1_layOut
set_option maxRecDepth 20000 in
theorem ggX7_lay_X4_clear : GoodIn wsX7_lay wsX4_clear := goodIn_r _ [98, 99, 130, 131, 132] (by decide +kernel) (by decide +kernel)
set_option maxRecDepth 20000 in
theorem gX7_lay_X4_clear : GoodIn wsX7_lay (wsV RX7 77 RX4 yX4_clear wsX4_clear) := goodIn_app (goodIn_of _ (by decide +kernel)) ggX7_lay_X4_clear
theorem dX7_lay_0 : decode cX7_lay 0 = .ok (.aload_n 0, 1) := by decide +kernel
theorem dX7_lay_1 : decode cX7_lay 1 = .ok (.getfield 19, 3) := by decide +kernel
theorem dX7_lay_4 : decode cX7_lay 4 = .ok (.aload_n 0, 1) := by decide +kernel
theorem dX7_lay_5 : decode cX7_lay 5 = .ok (.getfield 10, 3) := by decide +kernel
theorem dX7_lay_8 : decode cX7_lay 8 = .ok (.invokevirtual 53, 3) := by decide +kernel
theorem dX7_lay_11 : decode cX7_lay 11 = .ok (.bipush (-4), 2) := by decide +kernel
theorem dX7_lay_13 : decode cX7_lay 13 = .ok (.if_icmp .ne 25, 3) := by decide +kernel
theorem dX7_lay_16 : decode cX7_lay 16 = .ok (.aload_n 0, 1) := by decide +kernel
theorem dX7_lay_17 : decode cX7_lay 17 = .ok (.getfield 19, 3) := by decide +kernel
theorem dX7_lay_20 : decode cX7_lay 20 = .ok (.getfield 71, 3) := by decide +kernel
theorem dX7_lay_23 : decode cX7_lay 23 = .ok (.iconst 2, 1) := by decide +kernel
theorem dX7_lay_24 : decode cX7_lay 24 = .ok (.if_icmp .lt 14, 3) := by decide +kernel
theorem dX7_lay_27 : decode cX7_lay 27 = .ok (.aload_n 0, 1) := by decide +kernel
theorem dX7_lay_28 : decode cX7_lay 28 = .ok (.getfield 19, 3) := by decide +kernel
theorem dX7_lay_31 : decode cX7_lay 31 = .ok (.getfield 74, 3) := by decide +kernel
theorem dX7_lay_34 : decode cX7_lay 34 = .ok (.iconst 1, 1) := by decide +kernel
theorem dX7_lay_35 : decode cX7_lay 35 = .ok (.if_icmp .ge 6, 3) := by decide +kernel
theorem dX7_lay_38 : decode cX7_lay 38 = .ok (.bipush (-2), 2) := by decide +kernel
theorem dX7_lay_40 : decode cX7_lay 40 = .ok (.ireturn, 1) := by decide +kernel
theorem dX7_lay_41 : decode cX7_lay 41 = .ok (.aload_n 0, 1) := by decide +kernel
theorem dX7_lay_42 : decode cX7_lay 42 = .ok (.getfield 26, 3) := by decide +kernel
theorem dX7_lay_45 : decode cX7_lay 45 = .ok (.aload_n 0, 1) := by decide +kernel
theorem dX7_lay_46 : decode cX7_lay 46 = .ok (.getfield 19, 3) := by decide +kernel
theorem dX7_lay_49 : decode cX7_lay 49 = .ok (.invokevirtual 57, 3) := by decide +kernel
theorem dX7_lay_52 : decode cX7_lay 52 = .ok (.aload_n 0, 1) := by decide +kernel
theorem dX7_lay_53 : decode cX7_lay 53 = .ok (.getfield 33, 3) := by decide +kernel
theorem dX7_lay_56 : decode cX7_lay 56 = .ok (.invokevirtual 77, 3) := by decide +kernel
theorem dX7_lay_59 : decode cX7_lay 59 = .ok (.aload_n 0, 1) := by decide +kernel
theorem dX7_lay_60 : decode cX7_lay 60 = .ok (.getfield 26, 3) := by decide +kernel
theorem dX7_lay_63 : decode cX7_lay 63 = .ok (.getfield 78, 3) := by decide +kernel
theorem dX7_lay_66 : decode cX7_lay 66 = .ok (.ireturn, 1) := by decide +kernel
set_option maxRecDepth 20000 in
theorem ggX7_links_X1_shipAt : GoodIn wsX7_links wsX1_shipAt := goodIn_r _ [8, 9, 10, 78, 79, 80, 81, 82, 83] (by decide +kernel) (by decide +kernel)
set_option maxRecDepth 20000 in
theorem gX7_links_X1_shipAt : GoodIn wsX7_links (wsV RX7 81 RX1 yX1_shipAt wsX1_shipAt) := goodIn_app (goodIn_of _ (by decide +kernel)) ggX7_links_X1_shipAt
set_option maxRecDepth 20000 in
theorem ggX7_links_X7_within : GoodIn wsX7_links wsX7_within := goodIn_r _ [14] (by decide +kernel) (by decide +kernel)
set_option maxRecDepth 20000 in
theorem gX7_links_X7_within : GoodIn wsX7_links (va_wsS RX7 64 yX7_within wsX7_within) := goodIn_app (goodIn_of _ (by decide +kernel)) ggX7_links_X7_within
set_option maxRecDepth 20000 in
theorem ggX7_links_X6_anchorAt : GoodIn wsX7_links wsX6_anchorAt := goodIn_r _ [19, 20, 21, 22, 65, 66, 67, 68, 69, 70, 71, 72, 73, 74] (by decide +kernel) (by decide +kernel)
set_option maxRecDepth 20000 in
theorem gX7_links_X6_anchorAt : GoodIn wsX7_links (wsV RX7 85 RX6 yX6_anchorAt wsX6_anchorAt) := goodIn_app (goodIn_of _ (by decide +kernel)) ggX7_links_X6_anchorAt
set_option maxRecDepth 20000 in
theorem ggX7_links_X7_remember : GoodIn wsX7_links wsX7_remember := goodIn_r _ [26, 1, 27, 28, 29, 30, 31, 32, 33, 34, 35, 36, 37, 38, 39, 40, 41, 42, 7, 43, 44, 9, 10, 45, 46, 47, 18, 48, 20, 22, 21, 49, 50, 51, 52, 53, 54, 55, 56, 57, 58, 59, 13, 60, 61, 62, 63, 64, 84, 85, 86, 78, 79, 80, 81, 82, 83, 65, 66, 67, 68, 69, 70, 71, 72, 73, 74, 75, 76, 77] (by decide +kernel) (by decide +kernel)
set_option maxRecDepth 20000 in
theorem gX7_links_X7_remember : GoodIn wsX7_links (wsV RX7 95 RX7 yX7_remember wsX7_remember) := goodIn_app (goodIn_of _ (by decide +kernel)) ggX7_links_X7_remember
theorem dX7_links_0 : decode cX7_links 0 = .ok (.aload_n 0, 1) := by decide +kernel
theorem dX7_links_1 : decode cX7_links 1 = .ok (.getfield 26, 3) := by decide +kernel
theorem dX7_links_4 : decode cX7_links 4 = .ok (.iload_n 1, 1) := by decide +kernel
theorem dX7_links_5 : decode cX7_links 5 = .ok (.invokevirtual 81, 3) := by decide +kernel
theorem dX7_links_8 : decode cX7_links 8 = .ok (.astore 4, 2) := by decide +kernel
theorem dX7_links_10 : decode cX7_links 10 = .ok (.aload 4, 2) := by decide +kernel
theorem dX7_links_12 : decode cX7_links 12 = .ok (.ifnull 22, 3) := by decide +kernel
theorem dX7_links_15 : decode cX7_links 15 = .ok (.iload_n 2, 1) := by decide +kernel
theorem dX7_links_16 : decode cX7_links 16 = .ok (.iconst 0, 1) := by decide +kernel
theorem dX7_links_17 : decode cX7_links 17 = .ok (.iconst 1, 1) := by decide +kernel
theorem dX7_links_18 : decode cX7_links 18 = .ok (.invokestatic 64, 3) := by decide +kernel
theorem dX7_links_21 : decode cX7_links 21 = .ok (.ifCond .eq 13, 3) := by decide +kernel
theorem dX7_links_24 : decode cX7_links 24 = .ok (.iload_n 3, 1) := by decide +kernel
theorem dX7_links_25 : decode cX7_links 25 = .ok (.iconst 1, 1) := by decide +kernel
theorem dX7_links_26 : decode cX7_links 26 = .ok (.bipush 60, 2) := by decide +kernel
theorem dX7_links_28 : decode cX7_links 28 = .ok (.invokestatic 64, 3) := by decide +kernel
theorem dX7_links_31 : decode cX7_links 31 = .ok (.ifCond .ne 5, 3) := by decide +kernel
theorem dX7_links_34 : decode cX7_links 34 = .ok (.iconst (-1), 1) := by decide +kernel
theorem dX7_links_35 : decode cX7_links 35 = .ok (.ireturn, 1) := by decide +kernel
theorem dX7_links_36 : decode cX7_links 36 = .ok (.aload 4, 2) := by decide +kernel
theorem dX7_links_38 : decode cX7_links 38 = .ok (.iload_n 2, 1) := by decide +kernel
theorem dX7_links_39 : decode cX7_links 39 = .ok (.invokevirtual 85, 3) := by decide +kernel
theorem dX7_links_42 : decode cX7_links 42 = .ok (.astore 5, 2) := by decide +kernel
theorem dX7_links_44 : decode cX7_links 44 = .ok (.aload 4, 2) := by decide +kernel
theorem dX7_links_46 : decode cX7_links 46 = .ok (.getfield 91, 3) := by decide +kernel
theorem dX7_links_49 : decode cX7_links 49 = .ok (.ifCond .ne 8, 3) := by decide +kernel
theorem dX7_links_52 : decode cX7_links 52 = .ok (.aload 5, 2) := by decide +kernel
theorem dX7_links_54 : decode cX7_links 54 = .ok (.ifnonnull 6, 3) := by decide +kernel
theorem dX7_links_57 : decode cX7_links 57 = .ok (.bipush (-2), 2) := by decide +kernel
theorem dX7_links_59 : decode cX7_links 59 = .ok (.ireturn, 1) := by decide +kernel
theorem dX7_links_60 : decode cX7_links 60 = .ok (.aload_n 0, 1) := by decide +kernel
theorem dX7_links_61 : decode cX7_links 61 = .ok (.invokevirtual 95, 3) := by decide +kernel
theorem dX7_links_64 : decode cX7_links 64 = .ok (.aload 5, 2) := by decide +kernel
theorem dX7_links_66 : decode cX7_links 66 = .ok (.getfield 98, 3) := by decide +kernel
theorem dX7_links_69 : decode cX7_links 69 = .ok (.istore 6, 2) := by decide +kernel
theorem dX7_links_71 : decode cX7_links 71 = .ok (.aload 5, 2) := by decide +kernel
theorem dX7_links_73 : decode cX7_links 73 = .ok (.iload_n 3, 1) := by decide +kernel
theorem dX7_links_74 : decode cX7_links 74 = .ok (.putfield 98, 3) := by decide +kernel
theorem dX7_links_77 : decode cX7_links 77 = .ok (.iload 6, 2) := by decide +kernel
theorem dX7_links_79 : decode cX7_links 79 = .ok (.ireturn, 1) := by decide +kernel
set_option maxRecDepth 20000 in
theorem ggX7_moor_X1_shipAt : GoodIn wsX7_moor wsX1_shipAt := goodIn_r _ [9, 10, 11, 86, 87, 88, 89, 90, 91] (by decide +kernel) (by decide +kernel)
set_option maxRecDepth 20000 in
theorem gX7_moor_X1_shipAt : GoodIn wsX7_moor (wsV RX7 81 RX1 yX1_shipAt wsX1_shipAt) := goodIn_app (goodIn_of _ (by decide +kernel)) ggX7_moor_X1_shipAt
set_option maxRecDepth 20000 in
theorem ggX7_moor_X1_isCell : GoodIn wsX7_moor wsX1_isCell := goodIn_r _ [15, 16, 17, 18, 19, 86, 87, 88, 89, 90, 91] (by decide +kernel) (by decide +kernel)
set_option maxRecDepth 20000 in
theorem gX7_moor_X1_isCell : GoodIn wsX7_moor (wsV RX7 103 RX1 yX1_isCell wsX1_isCell) := goodIn_app (goodIn_of _ (by decide +kernel)) ggX7_moor_X1_isCell
set_option maxRecDepth 20000 in
theorem ggX7_moor_X7_within : GoodIn wsX7_moor wsX7_within := goodIn_r _ [19] (by decide +kernel) (by decide +kernel)
set_option maxRecDepth 20000 in
theorem gX7_moor_X7_within : GoodIn wsX7_moor (va_wsS RX7 64 yX7_within wsX7_within) := goodIn_app (goodIn_of _ (by decide +kernel)) ggX7_moor_X7_within
set_option maxRecDepth 20000 in
theorem ggX7_moor_X7_remember : GoodIn wsX7_moor wsX7_remember := goodIn_r _ [24, 1, 25, 26, 27, 28, 29, 30, 31, 32, 33, 34, 35, 36, 37, 38, 39, 40, 8, 41, 42, 10, 11, 43, 44, 45, 46, 47, 48, 49, 50, 51, 52, 53, 54, 55, 56, 57, 58, 59, 60, 61, 18, 62, 72, 73, 74, 75, 92, 93, 94, 86, 87, 88, 89, 90, 91, 76, 77, 78, 79, 80, 81, 82, 83, 84, 85, 95, 96, 97] (by decide +kernel) (by decide +kernel)
set_option maxRecDepth 20000 in
theorem gX7_moor_X7_remember : GoodIn wsX7_moor (wsV RX7 95 RX7 yX7_remember wsX7_remember) := goodIn_app (goodIn_of _ (by decide +kernel)) ggX7_moor_X7_remember
set_option maxRecDepth 20000 in
theorem ggX7_moor_X0_put : GoodIn wsX7_moor wsX0_put := goodIn_r _ [66, 58, 59, 60, 95, 96, 97] (by decide +kernel) (by decide +kernel)
set_option maxRecDepth 20000 in
theorem gX7_moor_X0_put : GoodIn wsX7_moor (wsV RX7 114 RX0 yX0_put wsX0_put) := goodIn_app (goodIn_of _ (by decide +kernel)) ggX7_moor_X0_put
set_option maxRecDepth 20000 in
theorem ggX7_moor_X1_depthAt : GoodIn wsX7_moor wsX1_depthAt := goodIn_r _ [70, 71, 86, 87, 88, 89, 90, 91] (by decide +kernel) (by decide +kernel)
set_option maxRecDepth 20000 in
theorem gX7_moor_X1_depthAt : GoodIn wsX7_moor (wsV RX7 118 RX1 yX1_depthAt wsX1_depthAt) := goodIn_app (goodIn_of _ (by decide +kernel)) ggX7_moor_X1_depthAt
theorem dX7_moor_0 : decode cX7_moor 0 = .ok (.aload_n 0, 1) := by decide +kernel
theorem dX7_moor_1 : decode cX7_moor 1 = .ok (.getfield 26, 3) := by decide +kernel
theorem dX7_moor_4 : decode cX7_moor 4 = .ok (.iload_n 1, 1) := by decide +kernel
theorem dX7_moor_5 : decode cX7_moor 5 = .ok (.invokevirtual 81, 3) := by decide +kernel
theorem dX7_moor_8 : decode cX7_moor 8 = .ok (.astore 5, 2) := by decide +kernel
theorem dX7_moor_10 : decode cX7_moor 10 = .ok (.aload 5, 2) := by decide +kernel
theorem dX7_moor_12 : decode cX7_moor 12 = .ok (.ifnull 26, 3) := by decide +kernel
theorem dX7_moor_15 : decode cX7_moor 15 = .ok (.aload_n 0, 1) := by decide +kernel
theorem dX7_moor_16 : decode cX7_moor 16 = .ok (.getfield 26, 3) := by decide +kernel
theorem dX7_moor_19 : decode cX7_moor 19 = .ok (.iload_n 2, 1) := by decide +kernel
theorem dX7_moor_20 : decode cX7_moor 20 = .ok (.iload_n 3, 1) := by decide +kernel
theorem dX7_moor_21 : decode cX7_moor 21 = .ok (.invokevirtual 103, 3) := by decide +kernel
theorem dX7_moor_24 : decode cX7_moor 24 = .ok (.ifCond .eq 14, 3) := by decide +kernel
theorem dX7_moor_27 : decode cX7_moor 27 = .ok (.iload 4, 2) := by decide +kernel
theorem dX7_moor_29 : decode cX7_moor 29 = .ok (.iconst 1, 1) := by decide +kernel
theorem dX7_moor_30 : decode cX7_moor 30 = .ok (.bipush 60, 2) := by decide +kernel
theorem dX7_moor_32 : decode cX7_moor 32 = .ok (.invokestatic 64, 3) := by decide +kernel
theorem dX7_moor_35 : decode cX7_moor 35 = .ok (.ifCond .ne 5, 3) := by decide +kernel
theorem dX7_moor_38 : decode cX7_moor 38 = .ok (.iconst (-1), 1) := by decide +kernel
theorem dX7_moor_39 : decode cX7_moor 39 = .ok (.ireturn, 1) := by decide +kernel
theorem dX7_moor_40 : decode cX7_moor 40 = .ok (.aload 5, 2) := by decide +kernel
theorem dX7_moor_42 : decode cX7_moor 42 = .ok (.getfield 91, 3) := by decide +kernel
theorem dX7_moor_45 : decode cX7_moor 45 = .ok (.ifCond .ne 11, 3) := by decide +kernel
theorem dX7_moor_48 : decode cX7_moor 48 = .ok (.aload 5, 2) := by decide +kernel
theorem dX7_moor_50 : decode cX7_moor 50 = .ok (.getfield 107, 3) := by decide +kernel
theorem dX7_moor_53 : decode cX7_moor 53 = .ok (.ifCond .eq 6, 3) := by decide +kernel
theorem dX7_moor_56 : decode cX7_moor 56 = .ok (.bipush (-2), 2) := by decide +kernel
theorem dX7_moor_58 : decode cX7_moor 58 = .ok (.ireturn, 1) := by decide +kernel
theorem dX7_moor_59 : decode cX7_moor 59 = .ok (.aload_n 0, 1) := by decide +kernel
theorem dX7_moor_60 : decode cX7_moor 60 = .ok (.invokevirtual 95, 3) := by decide +kernel
theorem dX7_moor_63 : decode cX7_moor 63 = .ok (.aload 5, 2) := by decide +kernel
theorem dX7_moor_65 : decode cX7_moor 65 = .ok (.iconst 1, 1) := by decide +kernel
theorem dX7_moor_66 : decode cX7_moor 66 = .ok (.putfield 107, 3) := by decide +kernel
theorem dX7_moor_69 : decode cX7_moor 69 = .ok (.aload 5, 2) := by decide +kernel
theorem dX7_moor_71 : decode cX7_moor 71 = .ok (.getfield 110, 3) := by decide +kernel
theorem dX7_moor_74 : decode cX7_moor 74 = .ok (.iload_n 2, 1) := by decide +kernel
theorem dX7_moor_75 : decode cX7_moor 75 = .ok (.iload_n 3, 1) := by decide +kernel
theorem dX7_moor_76 : decode cX7_moor 76 = .ok (.iload 4, 2) := by decide +kernel
theorem dX7_moor_78 : decode cX7_moor 78 = .ok (.invokevirtual 114, 3) := by decide +kernel
theorem dX7_moor_81 : decode cX7_moor 81 = .ok (.aload_n 0, 1) := by decide +kernel
theorem dX7_moor_82 : decode cX7_moor 82 = .ok (.getfield 26, 3) := by decide +kernel
theorem dX7_moor_85 : decode cX7_moor 85 = .ok (.iload_n 2, 1) := by decide +kernel
theorem dX7_moor_86 : decode cX7_moor 86 = .ok (.invokevirtual 118, 3) := by decide +kernel
theorem dX7_moor_89 : decode cX7_moor 89 = .ok (.ireturn, 1) := by decide +kernel
set_option maxRecDepth 20000 in
theorem ggX7_weigh_X1_shipAt : GoodIn wsX7_weigh wsX1_shipAt := goodIn_r _ [10, 11, 12, 73, 74, 75, 76, 77, 78] (by decide +kernel) (by decide +kernel)
set_option maxRecDepth 20000 in
theorem gX7_weigh_X1_shipAt : GoodIn wsX7_weigh (wsV RX7 81 RX1 yX1_shipAt wsX1_shipAt) := goodIn_app (goodIn_of _ (by decide +kernel)) ggX7_weigh_X1_shipAt
set_option maxRecDepth 20000 in
theorem ggX7_weigh_X7_remember : GoodIn wsX7_weigh wsX7_remember := goodIn_r _ [17, 1, 18, 19, 20, 21, 22, 23, 24, 25, 26, 27, 28, 29, 30, 31, 32, 33, 9, 34, 35, 11, 12, 36, 37, 38, 39, 40, 41, 42, 43, 44, 45, 46, 47, 48, 49, 50, 51, 52, 53, 54, 16, 55, 56, 57, 58, 59, 79, 80, 81, 73, 74, 75, 76, 77, 78, 60, 61, 62, 63, 64, 65, 66, 67, 68, 69, 70, 71, 72] (by decide +kernel) (by decide +kernel)
set_option maxRecDepth 20000 in
theorem gX7_weigh_X7_remember : GoodIn wsX7_weigh (wsV RX7 95 RX7 yX7_remember wsX7_remember) := goodIn_app (goodIn_of _ (by decide +kernel)) ggX7_weigh_X7_remember
theorem dX7_weigh_0 : decode cX7_weigh 0 = .ok (.aload_n 0, 1) := by decide +kernel
theorem dX7_weigh_1 : decode cX7_weigh 1 = .ok (.getfield 26, 3) := by decide +kernel
theorem dX7_weigh_4 : decode cX7_weigh 4 = .ok (.iload_n 1, 1) := by decide +kernel
theorem dX7_weigh_5 : decode cX7_weigh 5 = .ok (.invokevirtual 81, 3) := by decide +kernel
theorem dX7_weigh_8 : decode cX7_weigh 8 = .ok (.astore_n 2, 1) := by decide +kernel
theorem dX7_weigh_9 : decode cX7_weigh 9 = .ok (.aload_n 2, 1) := by decide +kernel
theorem dX7_weigh_10 : decode cX7_weigh 10 = .ok (.ifnonnull 5, 3) := by decide +kernel
theorem dX7_weigh_13 : decode cX7_weigh 13 = .ok (.iconst (-1), 1) := by decide +kernel
theorem dX7_weigh_14 : decode cX7_weigh 14 = .ok (.ireturn, 1) := by decide +kernel
theorem dX7_weigh_15 : decode cX7_weigh 15 = .ok (.aload_n 2, 1) := by decide +kernel
theorem dX7_weigh_16 : decode cX7_weigh 16 = .ok (.getfield 91, 3) := by decide +kernel
theorem dX7_weigh_19 : decode cX7_weigh 19 = .ok (.ifCond .ne 10, 3) := by decide +kernel
theorem dX7_weigh_22 : decode cX7_weigh 22 = .ok (.aload_n 2, 1) := by decide +kernel
theorem dX7_weigh_23 : decode cX7_weigh 23 = .ok (.getfield 107, 3) := by decide +kernel
theorem dX7_weigh_26 : decode cX7_weigh 26 = .ok (.ifCond .ne 6, 3) := by decide +kernel
theorem dX7_weigh_29 : decode cX7_weigh 29 = .ok (.bipush (-2), 2) := by decide +kernel
theorem dX7_weigh_31 : decode cX7_weigh 31 = .ok (.ireturn, 1) := by decide +kernel
theorem dX7_weigh_32 : decode cX7_weigh 32 = .ok (.aload_n 0, 1) := by decide +kernel
theorem dX7_weigh_33 : decode cX7_weigh 33 = .ok (.invokevirtual 95, 3) := by decide +kernel
theorem dX7_weigh_36 : decode cX7_weigh 36 = .ok (.aload_n 2, 1) := by decide +kernel
theorem dX7_weigh_37 : decode cX7_weigh 37 = .ok (.iconst 0, 1) := by decide +kernel
theorem dX7_weigh_38 : decode cX7_weigh 38 = .ok (.putfield 107, 3) := by decide +kernel
theorem dX7_weigh_41 : decode cX7_weigh 41 = .ok (.aload_n 2, 1) := by decide +kernel
theorem dX7_weigh_42 : decode cX7_weigh 42 = .ok (.getfield 110, 3) := by decide +kernel
theorem dX7_weigh_45 : decode cX7_weigh 45 = .ok (.getfield 98, 3) := by decide +kernel
theorem dX7_weigh_48 : decode cX7_weigh 48 = .ok (.ireturn, 1) := by decide +kernel
set_option maxRecDepth 20000 in
theorem ggX7_hours_X7_within : GoodIn wsX7_hours wsX7_within := goodIn_r _ [6] (by decide +kernel) (by decide +kernel)
set_option maxRecDepth 20000 in
theorem gX7_hours_X7_within : GoodIn wsX7_hours (va_wsS RX7 64 yX7_within wsX7_within) := goodIn_app (goodIn_of _ (by decide +kernel)) ggX7_hours_X7_within
set_option maxRecDepth 20000 in
theorem ggX7_hours_X7_isWind : GoodIn wsX7_hours wsX7_isWind := goodIn_r _ [9, 3, 4, 5, 6] (by decide +kernel) (by decide +kernel)
set_option maxRecDepth 20000 in
theorem gX7_hours_X7_isWind : GoodIn wsX7_hours (va_wsS RX7 122 yX7_isWind wsX7_isWind) := goodIn_app (goodIn_of _ (by decide +kernel)) ggX7_hours_X7_isWind
set_option maxRecDepth 20000 in
theorem ggX7_hours_X7_remember : GoodIn wsX7_hours wsX7_remember := goodIn_r _ [13, 1, 14, 15, 16, 17, 18, 19, 20, 21, 22, 23, 24, 25, 26, 27, 28, 29, 30, 31, 32, 33, 34, 35, 36, 37, 38, 39, 40, 41, 42, 43, 44, 45, 46, 47, 48, 49, 50, 51, 52, 53, 5, 54, 136, 137, 138, 139, 146, 147, 148, 140, 141, 142, 143, 144, 145, 149, 150, 151, 152, 153, 154, 155, 156, 157, 158, 159, 160, 161] (by decide +kernel) (by decide +kernel)
set_option maxRecDepth 20000 in
theorem gX7_hours_X7_remember : GoodIn wsX7_hours (wsV RX7 95 RX7 yX7_remember wsX7_remember) := goodIn_app (goodIn_of _ (by decide +kernel)) ggX7_hours_X7_remember
set_option maxRecDepth 20000 in
theorem ggX7_hours_X1_passHour : GoodIn wsX7_hours wsX1_passHour := goodIn_r _ [58, 33, 34, 59, 60, 61, 32, 62, 63, 64, 30, 65, 66, 67, 68, 69, 38, 70, 71, 72, 73, 74, 75, 76, 77, 78, 79, 80, 81, 82, 83, 84, 85, 86, 87, 88, 89, 90, 91, 92, 93, 94, 95, 96, 97, 98, 99, 100, 101, 102, 103, 104, 105, 106, 107, 108, 109, 110, 111, 112, 113, 114, 115, 116, 117, 118, 119, 120, 121, 122, 123, 124, 125, 126, 53, 5, 54, 127, 128, 129, 130, 131, 4, 6, 132, 133, 134, 48, 135, 50, 51, 52, 140, 141, 142, 143, 144, 145, 149, 150, 151, 152, 153, 154, 155, 156, 157, 158, 159, 160, 161, 162, 163, 164, 165, 166, 167, 168, 169, 170, 171, 172, 173] (by decide +kernel) (by decide +kernel)
set_option maxRecDepth 20000 in
theorem gX7_hours_X1_passHour : GoodIn wsX7_hours (wsV RX7 129 RX1 yX1_passHour wsX1_passHour) := goodIn_app (goodIn_of _ (by decide +kernel)) ggX7_hours_X1_passHour
theorem dX7_hours_0 : decode cX7_hours 0 = .ok (.iload_n 1, 1) := by decide +kernel
theorem dX7_hours_1 : decode cX7_hours 1 = .ok (.iconst 1, 1) := by decide +kernel
theorem dX7_hours_2 : decode cX7_hours 2 = .ok (.bipush 24, 2) := by decide +kernel
theorem dX7_hours_4 : decode cX7_hours 4 = .ok (.invokestatic 64, 3) := by decide +kernel
theorem dX7_hours_7 : decode cX7_hours 7 = .ok (.ifCond .eq 19, 3) := by decide +kernel
theorem dX7_hours_10 : decode cX7_hours 10 = .ok (.iload_n 2, 1) := by decide +kernel
theorem dX7_hours_11 : decode cX7_hours 11 = .ok (.invokestatic 122, 3) := by decide +kernel
theorem dX7_hours_14 : decode cX7_hours 14 = .ok (.ifCond .eq 12, 3) := by decide +kernel
theorem dX7_hours_17 : decode cX7_hours 17 = .ok (.iload_n 3, 1) := by decide +kernel
theorem dX7_hours_18 : decode cX7_hours 18 = .ok (.iconst 0, 1) := by decide +kernel
theorem dX7_hours_19 : decode cX7_hours 19 = .ok (.iconst 3, 1) := by decide +kernel
theorem dX7_hours_20 : decode cX7_hours 20 = .ok (.invokestatic 64, 3) := by decide +kernel
theorem dX7_hours_23 : decode cX7_hours 23 = .ok (.ifCond .ne 5, 3) := by decide +kernel
theorem dX7_hours_26 : decode cX7_hours 26 = .ok (.iconst (-1), 1) := by decide +kernel
theorem dX7_hours_27 : decode cX7_hours 27 = .ok (.ireturn, 1) := by decide +kernel
theorem dX7_hours_28 : decode cX7_hours 28 = .ok (.aload_n 0, 1) := by decide +kernel
theorem dX7_hours_29 : decode cX7_hours 29 = .ok (.getfield 26, 3) := by decide +kernel
theorem dX7_hours_32 : decode cX7_hours 32 = .ok (.getfield 126, 3) := by decide +kernel
theorem dX7_hours_35 : decode cX7_hours 35 = .ok (.iload_n 1, 1) := by decide +kernel
theorem dX7_hours_36 : decode cX7_hours 36 = .ok (.iadd, 1) := by decide +kernel
theorem dX7_hours_37 : decode cX7_hours 37 = .ok (.sipush 999, 3) := by decide +kernel
theorem dX7_hours_40 : decode cX7_hours 40 = .ok (.if_icmp .le 6, 3) := by decide +kernel
theorem dX7_hours_43 : decode cX7_hours 43 = .ok (.bipush (-2), 2) := by decide +kernel
theorem dX7_hours_45 : decode cX7_hours 45 = .ok (.ireturn, 1) := by decide +kernel
theorem dX7_hours_46 : decode cX7_hours 46 = .ok (.aload_n 0, 1) := by decide +kernel
theorem dX7_hours_47 : decode cX7_hours 47 = .ok (.invokevirtual 95, 3) := by decide +kernel
theorem dX7_hours_50 : decode cX7_hours 50 = .ok (.iconst 0, 1) := by decide +kernel
theorem dX7_hours_51 : decode cX7_hours 51 = .ok (.istore 4, 2) := by decide +kernel
theorem dX7_hours_53 : decode cX7_hours 53 = .ok (.iconst 0, 1) := by decide +kernel
theorem dX7_hours_54 : decode cX7_hours 54 = .ok (.istore 5, 2) := by decide +kernel
theorem dX7_hours_56 : decode cX7_hours 56 = .ok (.iload 5, 2) := by decide +kernel
theorem dX7_hours_58 : decode cX7_hours 58 = .ok (.iload_n 1, 1) := by decide +kernel
theorem dX7_hours_59 : decode cX7_hours 59 = .ok (.if_icmp .ge 23, 3) := by decide +kernel
theorem dX7_hours_62 : decode cX7_hours 62 = .ok (.iload 4, 2) := by decide +kernel
theorem dX7_hours_64 : decode cX7_hours 64 = .ok (.aload_n 0, 1) := by decide +kernel
theorem dX7_hours_65 : decode cX7_hours 65 = .ok (.getfield 26, 3) := by decide +kernel
theorem dX7_hours_68 : decode cX7_hours 68 = .ok (.iload_n 2, 1) := by decide +kernel
theorem dX7_hours_69 : decode cX7_hours 69 = .ok (.iload_n 3, 1) := by decide +kernel
theorem dX7_hours_70 : decode cX7_hours 70 = .ok (.invokevirtual 129, 3) := by decide +kernel
theorem dX7_hours_73 : decode cX7_hours 73 = .ok (.iadd, 1) := by decide +kernel
theorem dX7_hours_74 : decode cX7_hours 74 = .ok (.istore 4, 2) := by decide +kernel
theorem dX7_hours_76 : decode cX7_hours 76 = .ok (.iinc 5 1, 3) := by decide +kernel
theorem dX7_hours_79 : decode cX7_hours 79 = .ok (.goto (-23), 3) := by decide +kernel
theorem dX7_hours_82 : decode cX7_hours 82 = .ok (.iload 4, 2) := by decide +kernel
theorem dX7_hours_84 : decode cX7_hours 84 = .ok (.ireturn, 1) := by decide +kernel
set_option maxRecDepth 20000 in
theorem ggX7_undo_X4_takeLatest : GoodIn wsX7_undo wsX4_takeLatest := goodIn_r _ [8, 9, 10, 11, 46, 47, 48] (by decide +kernel) (by decide +kernel)
set_option maxRecDepth 20000 in
theorem gX7_undo_X4_takeLatest : GoodIn wsX7_undo (wsV RX7 133 RX4 yX4_takeLatest wsX4_takeLatest) := goodIn_app (goodIn_of _ (by decide +kernel)) ggX7_undo_X4_takeLatest
set_option maxRecDepth 20000 in
theorem ggX7_undo_X1_restore : GoodIn wsX7_undo wsX1_restore := goodIn_r _ [16, 17, 18, 19, 20, 21, 22, 23, 24, 25, 26, 27, 28, 29, 30, 31, 32, 33, 34, 35, 36, 37, 38, 39, 40, 41, 49, 50, 51, 52, 53, 54, 55, 56, 57, 58, 59, 60, 61, 62, 63, 64, 65, 66, 67] (by decide +kernel) (by decide +kernel)
set_option maxRecDepth 20000 in
theorem gX7_undo_X1_restore : GoodIn wsX7_undo (wsV RX7 137 RX1 yX1_restore wsX1_restore) := goodIn_app (goodIn_of _ (by decide +kernel)) ggX7_undo_X1_restore
theorem dX7_undo_0 : decode cX7_undo 0 = .ok (.aload_n 0, 1) := by decide +kernel
theorem dX7_undo_1 : decode cX7_undo 1 = .ok (.getfield 33, 3) := by decide +kernel
theorem dX7_undo_4 : decode cX7_undo 4 = .ok (.invokevirtual 133, 3) := by decide +kernel
theorem dX7_undo_7 : decode cX7_undo 7 = .ok (.astore_n 1, 1) := by decide +kernel
theorem dX7_undo_8 : decode cX7_undo 8 = .ok (.aload_n 1, 1) := by decide +kernel
theorem dX7_undo_9 : decode cX7_undo 9 = .ok (.ifnonnull 6, 3) := by decide +kernel
theorem dX7_undo_12 : decode cX7_undo 12 = .ok (.bipush (-2), 2) := by decide +kernel
theorem dX7_undo_14 : decode cX7_undo 14 = .ok (.ireturn, 1) := by decide +kernel
theorem dX7_undo_15 : decode cX7_undo 15 = .ok (.aload_n 0, 1) := by decide +kernel
theorem dX7_undo_16 : decode cX7_undo 16 = .ok (.getfield 26, 3) := by decide +kernel
theorem dX7_undo_19 : decode cX7_undo 19 = .ok (.aload_n 1, 1) := by decide +kernel
theorem dX7_undo_20 : decode cX7_undo 20 = .ok (.invokevirtual 137, 3) := by decide +kernel
theorem dX7_undo_23 : decode cX7_undo 23 = .ok (.aload_n 0, 1) := by decide +kernel
theorem dX7_undo_24 : decode cX7_undo 24 = .ok (.getfield 33, 3) := by decide +kernel
theorem dX7_undo_27 : decode cX7_undo 27 = .ok (.getfield 141, 3) := by decide +kernel
theorem dX7_undo_30 : decode cX7_undo 30 = .ok (.ireturn, 1) := by decide +kernel
set_option maxRecDepth 20000 in
theorem ggX7_anchor_X1_shipAt : GoodIn wsX7_anchor wsX1_shipAt := goodIn_r _ [9, 10, 11, 31, 32, 33, 34, 35, 36] (by decide +kernel) (by decide +kernel)
set_option maxRecDepth 20000 in
theorem gX7_anchor_X1_shipAt : GoodIn wsX7_anchor (wsV RX7 81 RX1 yX1_shipAt wsX1_shipAt) := goodIn_app (goodIn_of _ (by decide +kernel)) ggX7_anchor_X1_shipAt
set_option maxRecDepth 20000 in
theorem ggX7_anchor_X7_within : GoodIn wsX7_anchor wsX7_within := goodIn_r _ [15] (by decide +kernel) (by decide +kernel)
set_option maxRecDepth 20000 in
theorem gX7_anchor_X7_within : GoodIn wsX7_anchor (va_wsS RX7 64 yX7_within wsX7_within) := goodIn_app (goodIn_of _ (by decide +kernel)) ggX7_anchor_X7_within
set_option maxRecDepth 20000 in
theorem ggX7_anchor_X6_anchorAt : GoodIn wsX7_anchor wsX6_anchorAt := goodIn_r _ [20, 21, 22, 23, 37, 38, 39, 40, 41, 42, 43, 44, 45, 46] (by decide +kernel) (by decide +kernel)
set_option maxRecDepth 20000 in
theorem gX7_anchor_X6_anchorAt : GoodIn wsX7_anchor (wsV RX7 85 RX6 yX6_anchorAt wsX6_anchorAt) := goodIn_app (goodIn_of _ (by decide +kernel)) ggX7_anchor_X6_anchorAt
theorem dX7_anchor_0 : decode cX7_anchor 0 = .ok (.aload_n 0, 1) := by decide +kernel
theorem dX7_anchor_1 : decode cX7_anchor 1 = .ok (.getfield 26, 3) := by decide +kernel
theorem dX7_anchor_4 : decode cX7_anchor 4 = .ok (.iload_n 1, 1) := by decide +kernel
theorem dX7_anchor_5 : decode cX7_anchor 5 = .ok (.invokevirtual 81, 3) := by decide +kernel
theorem dX7_anchor_8 : decode cX7_anchor 8 = .ok (.astore 4, 2) := by decide +kernel
theorem dX7_anchor_10 : decode cX7_anchor 10 = .ok (.aload 4, 2) := by decide +kernel
theorem dX7_anchor_12 : decode cX7_anchor 12 = .ok (.ifnull 21, 3) := by decide +kernel
theorem dX7_anchor_15 : decode cX7_anchor 15 = .ok (.iload_n 2, 1) := by decide +kernel
theorem dX7_anchor_16 : decode cX7_anchor 16 = .ok (.iconst 0, 1) := by decide +kernel
theorem dX7_anchor_17 : decode cX7_anchor 17 = .ok (.iconst 1, 1) := by decide +kernel
theorem dX7_anchor_18 : decode cX7_anchor 18 = .ok (.invokestatic 64, 3) := by decide +kernel
theorem dX7_anchor_21 : decode cX7_anchor 21 = .ok (.ifCond .eq 12, 3) := by decide +kernel
theorem dX7_anchor_24 : decode cX7_anchor 24 = .ok (.iload_n 3, 1) := by decide +kernel
theorem dX7_anchor_25 : decode cX7_anchor 25 = .ok (.iconst 0, 1) := by decide +kernel
theorem dX7_anchor_26 : decode cX7_anchor 26 = .ok (.iconst 2, 1) := by decide +kernel
theorem dX7_anchor_27 : decode cX7_anchor 27 = .ok (.invokestatic 64, 3) := by decide +kernel
theorem dX7_anchor_30 : decode cX7_anchor 30 = .ok (.ifCond .ne 5, 3) := by decide +kernel
theorem dX7_anchor_33 : decode cX7_anchor 33 = .ok (.iconst (-1), 1) := by decide +kernel
theorem dX7_anchor_34 : decode cX7_anchor 34 = .ok (.ireturn, 1) := by decide +kernel
theorem dX7_anchor_35 : decode cX7_anchor 35 = .ok (.aload 4, 2) := by decide +kernel
theorem dX7_anchor_37 : decode cX7_anchor 37 = .ok (.iload_n 2, 1) := by decide +kernel
theorem dX7_anchor_38 : decode cX7_anchor 38 = .ok (.invokevirtual 85, 3) := by decide +kernel
theorem dX7_anchor_41 : decode cX7_anchor 41 = .ok (.astore 5, 2) := by decide +kernel
theorem dX7_anchor_43 : decode cX7_anchor 43 = .ok (.aload 5, 2) := by decide +kernel
theorem dX7_anchor_45 : decode cX7_anchor 45 = .ok (.ifnonnull 6, 3) := by decide +kernel
theorem dX7_anchor_48 : decode cX7_anchor 48 = .ok (.bipush (-4), 2) := by decide +kernel
theorem dX7_anchor_50 : decode cX7_anchor 50 = .ok (.ireturn, 1) := by decide +kernel
theorem dX7_anchor_51 : decode cX7_anchor 51 = .ok (.iload_n 3, 1) := by decide +kernel
theorem dX7_anchor_52 : decode cX7_anchor 52 = .ok (.lookupswitch 40 #[(0, 28), (1, 34)], 28) := by decide +kernel
theorem dX7_anchor_80 : decode cX7_anchor 80 = .ok (.aload 5, 2) := by decide +kernel
theorem dX7_anchor_82 : decode cX7_anchor 82 = .ok (.getfield 144, 3) := by decide +kernel
theorem dX7_anchor_85 : decode cX7_anchor 85 = .ok (.ireturn, 1) := by decide +kernel
theorem dX7_anchor_86 : decode cX7_anchor 86 = .ok (.aload 5, 2) := by decide +kernel
theorem dX7_anchor_88 : decode cX7_anchor 88 = .ok (.getfield 147, 3) := by decide +kernel
theorem dX7_anchor_91 : decode cX7_anchor 91 = .ok (.ireturn, 1) := by decide +kernel
theorem dX7_anchor_92 : decode cX7_anchor 92 = .ok (.aload 5, 2) := by decide +kernel
theorem dX7_anchor_94 : decode cX7_anchor 94 = .ok (.getfield 98, 3) := by decide +kernel
theorem dX7_anchor_97 : decode cX7_anchor 97 = .ok (.ireturn, 1) := by decide +kernel
set_option maxRecDepth 20000 in
theorem ggX7_ship_X1_shipAt : GoodIn wsX7_ship wsX1_shipAt := goodIn_r _ [12, 13, 14, 33, 34, 35, 36, 37, 38] (by decide +kernel) (by decide +kernel)
set_option maxRecDepth 20000 in
theorem gX7_ship_X1_shipAt : GoodIn wsX7_ship (wsV RX7 81 RX1 yX1_shipAt wsX1_shipAt) := goodIn_app (goodIn_of _ (by decide +kernel)) ggX7_ship_X1_shipAt
set_option maxRecDepth 20000 in
theorem ggX7_ship_X7_oneIf : GoodIn wsX7_ship wsX7_oneIf := goodIn_r _ [18] (by decide +kernel) (by decide +kernel)
set_option maxRecDepth 20000 in
theorem gX7_ship_X7_oneIf : GoodIn wsX7_ship (va_wsS RX7 160 yX7_oneIf wsX7_oneIf) := goodIn_app (goodIn_of _ (by decide +kernel)) ggX7_ship_X7_oneIf
theorem dX7_ship_0 : decode cX7_ship 0 = .ok (.aload_n 0, 1) := by decide +kernel
theorem dX7_ship_1 : decode cX7_ship 1 = .ok (.getfield 26, 3) := by decide +kernel
theorem dX7_ship_4 : decode cX7_ship 4 = .ok (.iload_n 1, 1) := by decide +kernel
theorem dX7_ship_5 : decode cX7_ship 5 = .ok (.invokevirtual 81, 3) := by decide +kernel
theorem dX7_ship_8 : decode cX7_ship 8 = .ok (.astore_n 3, 1) := by decide +kernel
theorem dX7_ship_9 : decode cX7_ship 9 = .ok (.aload_n 3, 1) := by decide +kernel
theorem dX7_ship_10 : decode cX7_ship 10 = .ok (.ifnonnull 5, 3) := by decide +kernel
theorem dX7_ship_13 : decode cX7_ship 13 = .ok (.iconst (-1), 1) := by decide +kernel
theorem dX7_ship_14 : decode cX7_ship 14 = .ok (.ireturn, 1) := by decide +kernel
theorem dX7_ship_15 : decode cX7_ship 15 = .ok (.iload_n 2, 1) := by decide +kernel
theorem dX7_ship_16 : decode cX7_ship 16 = .ok (.tableswitch 73 0 5 #[40, 45, 50, 55, 60, 68], 40) := by decide +kernel
theorem dX7_ship_56 : decode cX7_ship 56 = .ok (.aload_n 3, 1) := by decide +kernel
theorem dX7_ship_57 : decode cX7_ship 57 = .ok (.getfield 150, 3) := by decide +kernel
theorem dX7_ship_60 : decode cX7_ship 60 = .ok (.ireturn, 1) := by decide +kernel
theorem dX7_ship_61 : decode cX7_ship 61 = .ok (.aload_n 3, 1) := by decide +kernel
theorem dX7_ship_62 : decode cX7_ship 62 = .ok (.getfield 153, 3) := by decide +kernel
theorem dX7_ship_65 : decode cX7_ship 65 = .ok (.ireturn, 1) := by decide +kernel
theorem dX7_ship_66 : decode cX7_ship 66 = .ok (.aload_n 3, 1) := by decide +kernel
theorem dX7_ship_67 : decode cX7_ship 67 = .ok (.getfield 154, 3) := by decide +kernel
theorem dX7_ship_70 : decode cX7_ship 70 = .ok (.ireturn, 1) := by decide +kernel
theorem dX7_ship_71 : decode cX7_ship 71 = .ok (.aload_n 3, 1) := by decide +kernel
theorem dX7_ship_72 : decode cX7_ship 72 = .ok (.getfield 157, 3) := by decide +kernel
theorem dX7_ship_75 : decode cX7_ship 75 = .ok (.ireturn, 1) := by decide +kernel
theorem dX7_ship_76 : decode cX7_ship 76 = .ok (.aload_n 3, 1) := by decide +kernel
theorem dX7_ship_77 : decode cX7_ship 77 = .ok (.getfield 91, 3) := by decide +kernel
theorem dX7_ship_80 : decode cX7_ship 80 = .ok (.invokestatic 160, 3) := by decide +kernel
theorem dX7_ship_83 : decode cX7_ship 83 = .ok (.ireturn, 1) := by decide +kernel
theorem dX7_ship_84 : decode cX7_ship 84 = .ok (.aload_n 3, 1) := by decide +kernel
theorem dX7_ship_85 : decode cX7_ship 85 = .ok (.getfield 164, 3) := by decide +kernel
theorem dX7_ship_88 : decode cX7_ship 88 = .ok (.ireturn, 1) := by decide +kernel
theorem dX7_ship_89 : decode cX7_ship 89 = .ok (.iconst (-1), 1) := by decide +kernel
theorem dX7_ship_90 : decode cX7_ship 90 = .ok (.ireturn, 1) := by decide +kernel
set_option maxRecDepth 20000 in
theorem ggX7_hangs_X1_shipAt : GoodIn wsX7_hangs wsX1_shipAt := goodIn_r _ [14, 15, 16, 120, 121, 122, 123, 124, 125] (by decide +kernel) (by decide +kernel)
set_option maxRecDepth 20000 in
theorem gX7_hangs_X1_shipAt : GoodIn wsX7_hangs (wsV RX7 81 RX1 yX1_shipAt wsX1_shipAt) := goodIn_app (goodIn_of _ (by decide +kernel)) ggX7_hangs_X1_shipAt
set_option maxRecDepth 20000 in
theorem ggX7_hangs_X7_within : GoodIn wsX7_hangs wsX7_within := goodIn_r _ [20] (by decide +kernel) (by decide +kernel)
set_option maxRecDepth 20000 in
theorem gX7_hangs_X7_within : GoodIn wsX7_hangs (va_wsS RX7 64 yX7_within wsX7_within) := goodIn_app (goodIn_of _ (by decide +kernel)) ggX7_hangs_X7_within
set_option maxRecDepth 20000 in
theorem ggX7_hangs_X6_anchorAt : GoodIn wsX7_hangs wsX6_anchorAt := goodIn_r _ [25, 26, 27, 28, 95, 96, 97, 98, 99, 100, 101, 102, 103, 104] (by decide +kernel) (by decide +kernel)
set_option maxRecDepth 20000 in
theorem gX7_hangs_X6_anchorAt : GoodIn wsX7_hangs (wsV RX7 85 RX6 yX6_anchorAt wsX6_anchorAt) := goodIn_app (goodIn_of _ (by decide +kernel)) ggX7_hangs_X6_anchorAt
set_option maxRecDepth 20000 in
theorem ggX7_hangs_X1_chainOf : GoodIn wsX7_hangs wsX1_chainOf := goodIn_r _ [32, 33, 34, 35, 36, 37, 38, 13, 39, 40, 41, 42, 43, 44, 45, 46, 47, 48, 49, 120, 121, 122, 123, 124, 125, 95, 96, 97, 98, 99, 100, 101, 102, 103, 104, 105, 106, 107, 108, 109, 110, 111, 112, 113, 114, 115, 116, 117, 118, 119] (by decide +kernel) (by decide +kernel)
set_option maxRecDepth 20000 in
theorem gX7_hangs_X1_chainOf : GoodIn wsX7_hangs (wsV RX7 167 RX1 yX1_chainOf wsX1_chainOf) := goodIn_app (goodIn_of _ (by decide +kernel)) ggX7_hangs_X1_chainOf
set_option maxRecDepth 20000 in
theorem ggX7_hangs_X2_findLie : GoodIn wsX7_hangs wsX2_findLie := goodIn_r _ [53, 54, 55, 56, 57, 58, 49, 48, 59, 60, 61, 62, 63, 64, 44, 65, 46, 47, 66, 67, 68, 69, 70, 71, 72, 73, 74, 75, 76, 77, 78, 79, 80, 108, 109, 110, 111, 112, 113, 114, 115, 116, 117, 118, 119] (by decide +kernel) (by decide +kernel)
set_option maxRecDepth 20000 in
theorem gX7_hangs_X2_findLie : GoodIn wsX7_hangs (wsV RX7 171 RX2 yX2_findLie wsX2_findLie) := goodIn_app (goodIn_of _ (by decide +kernel)) ggX7_hangs_X2_findLie
set_option maxRecDepth 20000 in
theorem ggX7_hangs_X2_holding : GoodIn wsX7_hangs wsX2_holding := goodIn_r _ [84, 57, 56, 85, 86, 79, 87, 108, 109, 110, 111, 112, 113, 114, 115, 116, 117, 118, 119] (by decide +kernel) (by decide +kernel)
set_option maxRecDepth 20000 in
theorem gX7_hangs_X2_holding : GoodIn wsX7_hangs (wsV RX7 188 RX2 yX2_holding wsX2_holding) := goodIn_app (goodIn_of _ (by decide +kernel)) ggX7_hangs_X2_holding
set_option maxRecDepth 20000 in
theorem ggX7_hangs_X7_oneIf : GoodIn wsX7_hangs wsX7_oneIf := goodIn_r _ [90] (by decide +kernel) (by decide +kernel)
set_option maxRecDepth 20000 in
theorem gX7_hangs_X7_oneIf : GoodIn wsX7_hangs (va_wsS RX7 160 yX7_oneIf wsX7_oneIf) := goodIn_app (goodIn_of _ (by decide +kernel)) ggX7_hangs_X7_oneIf
theorem dX7_hangs_0 : decode cX7_hangs 0 = .ok (.aload_n 0, 1) := by decide +kernel
theorem dX7_hangs_1 : decode cX7_hangs 1 = .ok (.getfield 26, 3) := by decide +kernel
theorem dX7_hangs_4 : decode cX7_hangs 4 = .ok (.iload_n 1, 1) := by decide +kernel
theorem dX7_hangs_5 : decode cX7_hangs 5 = .ok (.invokevirtual 81, 3) := by decide +kernel
theorem dX7_hangs_8 : decode cX7_hangs 8 = .ok (.astore 5, 2) := by decide +kernel
theorem dX7_hangs_10 : decode cX7_hangs 10 = .ok (.aload 5, 2) := by decide +kernel
theorem dX7_hangs_12 : decode cX7_hangs 12 = .ok (.ifnull 33, 3) := by decide +kernel
theorem dX7_hangs_15 : decode cX7_hangs 15 = .ok (.iload_n 2, 1) := by decide +kernel
theorem dX7_hangs_16 : decode cX7_hangs 16 = .ok (.iconst 0, 1) := by decide +kernel
theorem dX7_hangs_17 : decode cX7_hangs 17 = .ok (.iconst 1, 1) := by decide +kernel
theorem dX7_hangs_18 : decode cX7_hangs 18 = .ok (.invokestatic 64, 3) := by decide +kernel
theorem dX7_hangs_21 : decode cX7_hangs 21 = .ok (.ifCond .eq 24, 3) := by decide +kernel
theorem dX7_hangs_24 : decode cX7_hangs 24 = .ok (.iload_n 3, 1) := by decide +kernel
theorem dX7_hangs_25 : decode cX7_hangs 25 = .ok (.iconst 0, 1) := by decide +kernel
theorem dX7_hangs_26 : decode cX7_hangs 26 = .ok (.sipush 9999, 3) := by decide +kernel
theorem dX7_hangs_29 : decode cX7_hangs 29 = .ok (.invokestatic 64, 3) := by decide +kernel
theorem dX7_hangs_32 : decode cX7_hangs 32 = .ok (.ifCond .eq 13, 3) := by decide +kernel
theorem dX7_hangs_35 : decode cX7_hangs 35 = .ok (.iload 4, 2) := by decide +kernel
theorem dX7_hangs_37 : decode cX7_hangs 37 = .ok (.iconst 0, 1) := by decide +kernel
theorem dX7_hangs_38 : decode cX7_hangs 38 = .ok (.iconst 5, 1) := by decide +kernel
theorem dX7_hangs_39 : decode cX7_hangs 39 = .ok (.invokestatic 64, 3) := by decide +kernel
theorem dX7_hangs_42 : decode cX7_hangs 42 = .ok (.ifCond .ne 5, 3) := by decide +kernel
theorem dX7_hangs_45 : decode cX7_hangs 45 = .ok (.iconst (-1), 1) := by decide +kernel
theorem dX7_hangs_46 : decode cX7_hangs 46 = .ok (.ireturn, 1) := by decide +kernel
theorem dX7_hangs_47 : decode cX7_hangs 47 = .ok (.aload 5, 2) := by decide +kernel
theorem dX7_hangs_49 : decode cX7_hangs 49 = .ok (.getfield 91, 3) := by decide +kernel
theorem dX7_hangs_52 : decode cX7_hangs 52 = .ok (.ifCond .eq 6, 3) := by decide +kernel
theorem dX7_hangs_55 : decode cX7_hangs 55 = .ok (.bipush (-2), 2) := by decide +kernel
theorem dX7_hangs_57 : decode cX7_hangs 57 = .ok (.ireturn, 1) := by decide +kernel
theorem dX7_hangs_58 : decode cX7_hangs 58 = .ok (.aload 5, 2) := by decide +kernel
theorem dX7_hangs_60 : decode cX7_hangs 60 = .ok (.iload_n 2, 1) := by decide +kernel
theorem dX7_hangs_61 : decode cX7_hangs 61 = .ok (.invokevirtual 85, 3) := by decide +kernel
theorem dX7_hangs_64 : decode cX7_hangs 64 = .ok (.astore 6, 2) := by decide +kernel
theorem dX7_hangs_66 : decode cX7_hangs 66 = .ok (.aload 6, 2) := by decide +kernel
theorem dX7_hangs_68 : decode cX7_hangs 68 = .ok (.ifnonnull 6, 3) := by decide +kernel
theorem dX7_hangs_71 : decode cX7_hangs 71 = .ok (.bipush (-4), 2) := by decide +kernel
theorem dX7_hangs_73 : decode cX7_hangs 73 = .ok (.ireturn, 1) := by decide +kernel
theorem dX7_hangs_74 : decode cX7_hangs 74 = .ok (.aload_n 0, 1) := by decide +kernel
theorem dX7_hangs_75 : decode cX7_hangs 75 = .ok (.getfield 26, 3) := by decide +kernel
theorem dX7_hangs_78 : decode cX7_hangs 78 = .ok (.aload 5, 2) := by decide +kernel
theorem dX7_hangs_80 : decode cX7_hangs 80 = .ok (.aload 6, 2) := by decide +kernel
theorem dX7_hangs_82 : decode cX7_hangs 82 = .ok (.aload 6, 2) := by decide +kernel
theorem dX7_hangs_84 : decode cX7_hangs 84 = .ok (.getfield 98, 3) := by decide +kernel
theorem dX7_hangs_87 : decode cX7_hangs 87 = .ok (.iload_n 3, 1) := by decide +kernel
theorem dX7_hangs_88 : decode cX7_hangs 88 = .ok (.invokevirtual 167, 3) := by decide +kernel
theorem dX7_hangs_91 : decode cX7_hangs 91 = .ok (.astore 7, 2) := by decide +kernel
theorem dX7_hangs_93 : decode cX7_hangs 93 = .ok (.aload 7, 2) := by decide +kernel
theorem dX7_hangs_95 : decode cX7_hangs 95 = .ok (.invokevirtual 171, 3) := by decide +kernel
theorem dX7_hangs_98 : decode cX7_hangs 98 = .ok (.iload 4, 2) := by decide +kernel
theorem dX7_hangs_100 : decode cX7_hangs 100 = .ok (.tableswitch 71 0 4 #[36, 42, 48, 54, 60], 36) := by decide +kernel
theorem dX7_hangs_136 : decode cX7_hangs 136 = .ok (.aload 7, 2) := by decide +kernel
theorem dX7_hangs_138 : decode cX7_hangs 138 = .ok (.getfield 176, 3) := by decide +kernel
theorem dX7_hangs_141 : decode cX7_hangs 141 = .ok (.ireturn, 1) := by decide +kernel
theorem dX7_hangs_142 : decode cX7_hangs 142 = .ok (.aload 7, 2) := by decide +kernel
theorem dX7_hangs_144 : decode cX7_hangs 144 = .ok (.getfield 179, 3) := by decide +kernel
theorem dX7_hangs_147 : decode cX7_hangs 147 = .ok (.ireturn, 1) := by decide +kernel
theorem dX7_hangs_148 : decode cX7_hangs 148 = .ok (.aload 7, 2) := by decide +kernel
theorem dX7_hangs_150 : decode cX7_hangs 150 = .ok (.getfield 182, 3) := by decide +kernel
theorem dX7_hangs_153 : decode cX7_hangs 153 = .ok (.ireturn, 1) := by decide +kernel
theorem dX7_hangs_154 : decode cX7_hangs 154 = .ok (.aload 7, 2) := by decide +kernel
theorem dX7_hangs_156 : decode cX7_hangs 156 = .ok (.getfield 185, 3) := by decide +kernel
theorem dX7_hangs_159 : decode cX7_hangs 159 = .ok (.ireturn, 1) := by decide +kernel
theorem dX7_hangs_160 : decode cX7_hangs 160 = .ok (.aload 7, 2) := by decide +kernel
theorem dX7_hangs_162 : decode cX7_hangs 162 = .ok (.aload 5, 2) := by decide +kernel
theorem dX7_hangs_164 : decode cX7_hangs 164 = .ok (.getfield 157, 3) := by decide +kernel
theorem dX7_hangs_167 : decode cX7_hangs 167 = .ok (.invokevirtual 188, 3) := by decide +kernel
theorem dX7_hangs_170 : decode cX7_hangs 170 = .ok (.ireturn, 1) := by decide +kernel
theorem dX7_hangs_171 : decode cX7_hangs 171 = .ok (.aload 7, 2) := by decide +kernel
theorem dX7_hangs_173 : decode cX7_hangs 173 = .ok (.getfield 191, 3) := by decide +kernel
theorem dX7_hangs_176 : decode cX7_hangs 176 = .ok (.invokestatic 160, 3) := by decide +kernel
theorem dX7_hangs_179 : decode cX7_hangs 179 = .ok (.ireturn, 1) := by decide +kernel
set_option maxRecDepth 20000 in
theorem ggX7_wind_X1_shipAt : GoodIn wsX7_wind wsX1_shipAt := goodIn_r _ [10, 11, 12, 127, 128, 129, 130, 131, 132] (by decide +kernel) (by decide +kernel)
set_option maxRecDepth 20000 in
theorem gX7_wind_X1_shipAt : GoodIn wsX7_wind (wsV RX7 81 RX1 yX1_shipAt wsX1_shipAt) := goodIn_app (goodIn_of _ (by decide +kernel)) ggX7_wind_X1_shipAt
set_option maxRecDepth 20000 in
theorem ggX7_wind_X7_isWind : GoodIn wsX7_wind wsX7_isWind := goodIn_r _ [16, 17, 18, 15, 19] (by decide +kernel) (by decide +kernel)
set_option maxRecDepth 20000 in
theorem gX7_wind_X7_isWind : GoodIn wsX7_wind (va_wsS RX7 122 yX7_isWind wsX7_isWind) := goodIn_app (goodIn_of _ (by decide +kernel)) ggX7_wind_X7_isWind
set_option maxRecDepth 20000 in
theorem ggX7_wind_X7_within : GoodIn wsX7_wind wsX7_within := goodIn_r _ [19] (by decide +kernel) (by decide +kernel)
set_option maxRecDepth 20000 in
theorem gX7_wind_X7_within : GoodIn wsX7_wind (va_wsS RX7 64 yX7_within wsX7_within) := goodIn_app (goodIn_of _ (by decide +kernel)) ggX7_wind_X7_within
set_option maxRecDepth 20000 in
theorem ggX7_wind_X6_pullBy : GoodIn wsX7_wind wsX6_pullBy := goodIn_r _ [24, 25, 114, 115, 116, 117, 118, 119, 120, 121, 122, 123] (by decide +kernel) (by decide +kernel)
set_option maxRecDepth 20000 in
theorem gX7_wind_X6_pullBy : GoodIn wsX7_wind (wsV RX7 194 RX6 yX6_pullBy wsX6_pullBy) := goodIn_app (goodIn_of _ (by decide +kernel)) ggX7_wind_X6_pullBy
set_option maxRecDepth 20000 in
theorem ggX7_wind_X1_holdsBy : GoodIn wsX7_wind wsX1_holdsBy := goodIn_r _ [29, 30, 31, 21, 22, 23, 24, 25, 32, 33, 34, 9, 35, 36, 37, 38, 39, 40, 41, 42, 43, 44, 45, 46, 47, 48, 49, 50, 51, 52, 53, 54, 55, 56, 57, 58, 59, 60, 61, 62, 63, 64, 65, 66, 67, 68, 69, 70, 71, 72, 73, 74, 75, 76, 77, 78, 79, 80, 81, 82, 114, 115, 116, 117, 118, 119, 120, 121, 122, 123, 127, 128, 129, 130, 131, 132, 124, 125, 126, 133, 134, 135, 136, 137, 138, 139, 140, 141, 142, 143, 144] (by decide +kernel) (by decide +kernel)
set_option maxRecDepth 20000 in
theorem gX7_wind_X1_holdsBy : GoodIn wsX7_wind (wsV RX7 200 RX1 yX1_holdsBy wsX1_holdsBy) := goodIn_app (goodIn_of _ (by decide +kernel)) ggX7_wind_X1_holdsBy
set_option maxRecDepth 20000 in
theorem ggX7_wind_X7_oneIf : GoodIn wsX7_wind wsX7_oneIf := goodIn_r _ [85] (by decide +kernel) (by decide +kernel)
set_option maxRecDepth 20000 in
theorem gX7_wind_X7_oneIf : GoodIn wsX7_wind (va_wsS RX7 160 yX7_oneIf wsX7_oneIf) := goodIn_app (goodIn_of _ (by decide +kernel)) ggX7_wind_X7_oneIf
set_option maxRecDepth 20000 in
theorem ggX7_wind_X1_measureSwing : GoodIn wsX7_wind wsX1_measureSwing := goodIn_r _ [89, 36, 42, 90, 91, 92, 31, 21, 22, 23, 24, 25, 38, 39, 40, 9, 41, 43, 44, 45, 46, 47, 48, 49, 50, 51, 52, 53, 54, 55, 56, 57, 58, 93, 94, 95, 96, 68, 97, 98, 99, 63, 100, 69, 101, 64, 65, 66, 67, 70, 71, 72, 73, 74, 75, 76, 102, 103, 104, 105, 106, 107, 108, 109, 114, 115, 116, 117, 118, 119, 120, 121, 122, 123, 127, 128, 129, 130, 131, 132, 133, 134, 135, 136, 137, 138, 139, 140, 141, 142, 143, 144, 124, 125, 126] (by decide +kernel) (by decide +kernel)
set_option maxRecDepth 20000 in
theorem gX7_wind_X1_measureSwing : GoodIn wsX7_wind (wsV RX7 204 RX1 yX1_measureSwing wsX1_measureSwing) := goodIn_app (goodIn_of _ (by decide +kernel)) ggX7_wind_X1_measureSwing
theorem dX7_wind_0 : decode cX7_wind 0 = .ok (.aload_n 0, 1) := by decide +kernel
theorem dX7_wind_1 : decode cX7_wind 1 = .ok (.getfield 26, 3) := by decide +kernel
theorem dX7_wind_4 : decode cX7_wind 4 = .ok (.iload_n 1, 1) := by decide +kernel
theorem dX7_wind_5 : decode cX7_wind 5 = .ok (.invokevirtual 81, 3) := by decide +kernel
theorem dX7_wind_8 : decode cX7_wind 8 = .ok (.astore 4, 2) := by decide +kernel
theorem dX7_wind_10 : decode cX7_wind 10 = .ok (.aload 4, 2) := by decide +kernel
theorem dX7_wind_12 : decode cX7_wind 12 = .ok (.ifnull 19, 3) := by decide +kernel
theorem dX7_wind_15 : decode cX7_wind 15 = .ok (.iload_n 2, 1) := by decide +kernel
theorem dX7_wind_16 : decode cX7_wind 16 = .ok (.invokestatic 122, 3) := by decide +kernel
theorem dX7_wind_19 : decode cX7_wind 19 = .ok (.ifCond .eq 12, 3) := by decide +kernel
theorem dX7_wind_22 : decode cX7_wind 22 = .ok (.iload_n 3, 1) := by decide +kernel
theorem dX7_wind_23 : decode cX7_wind 23 = .ok (.iconst 0, 1) := by decide +kernel
theorem dX7_wind_24 : decode cX7_wind 24 = .ok (.iconst 2, 1) := by decide +kernel
theorem dX7_wind_25 : decode cX7_wind 25 = .ok (.invokestatic 64, 3) := by decide +kernel
theorem dX7_wind_28 : decode cX7_wind 28 = .ok (.ifCond .ne 5, 3) := by decide +kernel
theorem dX7_wind_31 : decode cX7_wind 31 = .ok (.iconst (-1), 1) := by decide +kernel
theorem dX7_wind_32 : decode cX7_wind 32 = .ok (.ireturn, 1) := by decide +kernel
theorem dX7_wind_33 : decode cX7_wind 33 = .ok (.aload 4, 2) := by decide +kernel
theorem dX7_wind_35 : decode cX7_wind 35 = .ok (.getfield 91, 3) := by decide +kernel
theorem dX7_wind_38 : decode cX7_wind 38 = .ok (.ifCond .eq 6, 3) := by decide +kernel
theorem dX7_wind_41 : decode cX7_wind 41 = .ok (.bipush (-2), 2) := by decide +kernel
theorem dX7_wind_43 : decode cX7_wind 43 = .ok (.ireturn, 1) := by decide +kernel
theorem dX7_wind_44 : decode cX7_wind 44 = .ok (.iload_n 3, 1) := by decide +kernel
theorem dX7_wind_45 : decode cX7_wind 45 = .ok (.lookupswitch 56 #[(0, 27), (1, 34)], 27) := by decide +kernel
theorem dX7_wind_72 : decode cX7_wind 72 = .ok (.aload 4, 2) := by decide +kernel
theorem dX7_wind_74 : decode cX7_wind 74 = .ok (.iload_n 2, 1) := by decide +kernel
theorem dX7_wind_75 : decode cX7_wind 75 = .ok (.invokevirtual 194, 3) := by decide +kernel
theorem dX7_wind_78 : decode cX7_wind 78 = .ok (.ireturn, 1) := by decide +kernel
theorem dX7_wind_79 : decode cX7_wind 79 = .ok (.aload_n 0, 1) := by decide +kernel
theorem dX7_wind_80 : decode cX7_wind 80 = .ok (.getfield 26, 3) := by decide +kernel
theorem dX7_wind_83 : decode cX7_wind 83 = .ok (.aload 4, 2) := by decide +kernel
theorem dX7_wind_85 : decode cX7_wind 85 = .ok (.aload 4, 2) := by decide +kernel
theorem dX7_wind_87 : decode cX7_wind 87 = .ok (.getfield 197, 3) := by decide +kernel
theorem dX7_wind_90 : decode cX7_wind 90 = .ok (.getfield 98, 3) := by decide +kernel
theorem dX7_wind_93 : decode cX7_wind 93 = .ok (.iload_n 2, 1) := by decide +kernel
theorem dX7_wind_94 : decode cX7_wind 94 = .ok (.invokevirtual 200, 3) := by decide +kernel
theorem dX7_wind_97 : decode cX7_wind 97 = .ok (.invokestatic 160, 3) := by decide +kernel
theorem dX7_wind_100 : decode cX7_wind 100 = .ok (.ireturn, 1) := by decide +kernel
theorem dX7_wind_101 : decode cX7_wind 101 = .ok (.aload_n 0, 1) := by decide +kernel
theorem dX7_wind_102 : decode cX7_wind 102 = .ok (.getfield 26, 3) := by decide +kernel
theorem dX7_wind_105 : decode cX7_wind 105 = .ok (.aload 4, 2) := by decide +kernel
theorem dX7_wind_107 : decode cX7_wind 107 = .ok (.aload 4, 2) := by decide +kernel
theorem dX7_wind_109 : decode cX7_wind 109 = .ok (.getfield 197, 3) := by decide +kernel
theorem dX7_wind_112 : decode cX7_wind 112 = .ok (.getfield 98, 3) := by decide +kernel
theorem dX7_wind_115 : decode cX7_wind 115 = .ok (.iload_n 2, 1) := by decide +kernel
theorem dX7_wind_116 : decode cX7_wind 116 = .ok (.invokevirtual 204, 3) := by decide +kernel
theorem dX7_wind_119 : decode cX7_wind 119 = .ok (.aload 4, 2) := by decide +kernel
theorem dX7_wind_121 : decode cX7_wind 121 = .ok (.getfield 208, 3) := by decide +kernel
theorem dX7_wind_124 : decode cX7_wind 124 = .ok (.ireturn, 1) := by decide +kernel
set_option maxRecDepth 20000 in
theorem ggX7_apart_X1_shipAt : GoodIn wsX7_apart wsX1_shipAt := goodIn_r _ [8, 9, 10, 113, 114, 115, 116, 117, 118] (by decide +kernel) (by decide +kernel)
set_option maxRecDepth 20000 in
theorem gX7_apart_X1_shipAt : GoodIn wsX7_apart (wsV RX7 81 RX1 yX1_shipAt wsX1_shipAt) := goodIn_app (goodIn_of _ (by decide +kernel)) ggX7_apart_X1_shipAt
set_option maxRecDepth 20000 in
theorem ggX7_apart_X7_isWind : GoodIn wsX7_apart wsX7_isWind := goodIn_r _ [14, 15, 16, 13, 17] (by decide +kernel) (by decide +kernel)
set_option maxRecDepth 20000 in
theorem gX7_apart_X7_isWind : GoodIn wsX7_apart (va_wsS RX7 122 yX7_isWind wsX7_isWind) := goodIn_app (goodIn_of _ (by decide +kernel)) ggX7_apart_X7_isWind
set_option maxRecDepth 20000 in
theorem ggX7_apart_X1_measureSwing : GoodIn wsX7_apart wsX1_measureSwing := goodIn_r _ [21, 22, 23, 24, 25, 26, 27, 28, 29, 30, 31, 32, 33, 34, 35, 7, 36, 37, 38, 39, 40, 41, 42, 43, 44, 45, 46, 47, 48, 49, 50, 51, 52, 53, 54, 55, 56, 57, 58, 59, 60, 61, 62, 63, 64, 65, 66, 67, 68, 69, 70, 71, 72, 73, 74, 75, 76, 77, 78, 79, 80, 81, 82, 83, 100, 101, 102, 103, 104, 105, 106, 107, 108, 109, 113, 114, 115, 116, 117, 118, 119, 120, 121, 122, 123, 124, 125, 126, 127, 128, 129, 130, 110, 111, 112] (by decide +kernel) (by decide +kernel)
set_option maxRecDepth 20000 in
theorem gX7_apart_X1_measureSwing : GoodIn wsX7_apart (wsV RX7 204 RX1 yX1_measureSwing wsX1_measureSwing) := goodIn_app (goodIn_of _ (by decide +kernel)) ggX7_apart_X1_measureSwing
set_option maxRecDepth 20000 in
theorem ggX7_apart_X6_isClearOf : GoodIn wsX7_apart wsX6_isClearOf := goodIn_r _ [87, 88, 89, 90, 91, 92, 100, 101, 102, 103, 104, 105, 106, 107, 108, 109, 110, 111, 112] (by decide +kernel) (by decide +kernel)
set_option maxRecDepth 20000 in
theorem gX7_apart_X6_isClearOf : GoodIn wsX7_apart (wsV RX7 211 RX6 yX6_isClearOf wsX6_isClearOf) := goodIn_app (goodIn_of _ (by decide +kernel)) ggX7_apart_X6_isClearOf
set_option maxRecDepth 20000 in
theorem ggX7_apart_X7_oneIf : GoodIn wsX7_apart wsX7_oneIf := goodIn_r _ [95] (by decide +kernel) (by decide +kernel)
set_option maxRecDepth 20000 in
theorem gX7_apart_X7_oneIf : GoodIn wsX7_apart (va_wsS RX7 160 yX7_oneIf wsX7_oneIf) := goodIn_app (goodIn_of _ (by decide +kernel)) ggX7_apart_X7_oneIf
theorem dX7_apart_0 : decode cX7_apart 0 = .ok (.aload_n 0, 1) := by decide +kernel
theorem dX7_apart_1 : decode cX7_apart 1 = .ok (.getfield 26, 3) := by decide +kernel
theorem dX7_apart_4 : decode cX7_apart 4 = .ok (.iload_n 1, 1) := by decide +kernel
theorem dX7_apart_5 : decode cX7_apart 5 = .ok (.invokevirtual 81, 3) := by decide +kernel
theorem dX7_apart_8 : decode cX7_apart 8 = .ok (.astore 4, 2) := by decide +kernel
theorem dX7_apart_10 : decode cX7_apart 10 = .ok (.aload_n 0, 1) := by decide +kernel
theorem dX7_apart_11 : decode cX7_apart 11 = .ok (.getfield 26, 3) := by decide +kernel
theorem dX7_apart_14 : decode cX7_apart 14 = .ok (.iload_n 2, 1) := by decide +kernel
theorem dX7_apart_15 : decode cX7_apart 15 = .ok (.invokevirtual 81, 3) := by decide +kernel
theorem dX7_apart_18 : decode cX7_apart 18 = .ok (.astore 5, 2) := by decide +kernel
theorem dX7_apart_20 : decode cX7_apart 20 = .ok (.aload 4, 2) := by decide +kernel
theorem dX7_apart_22 : decode cX7_apart 22 = .ok (.ifnull 20, 3) := by decide +kernel
theorem dX7_apart_25 : decode cX7_apart 25 = .ok (.aload 5, 2) := by decide +kernel
theorem dX7_apart_27 : decode cX7_apart 27 = .ok (.ifnull 15, 3) := by decide +kernel
theorem dX7_apart_30 : decode cX7_apart 30 = .ok (.iload_n 1, 1) := by decide +kernel
theorem dX7_apart_31 : decode cX7_apart 31 = .ok (.iload_n 2, 1) := by decide +kernel
theorem dX7_apart_32 : decode cX7_apart 32 = .ok (.if_icmp .eq 10, 3) := by decide +kernel
theorem dX7_apart_35 : decode cX7_apart 35 = .ok (.iload_n 3, 1) := by decide +kernel
theorem dX7_apart_36 : decode cX7_apart 36 = .ok (.invokestatic 122, 3) := by decide +kernel
theorem dX7_apart_39 : decode cX7_apart 39 = .ok (.ifCond .ne 5, 3) := by decide +kernel
theorem dX7_apart_42 : decode cX7_apart 42 = .ok (.iconst (-1), 1) := by decide +kernel
theorem dX7_apart_43 : decode cX7_apart 43 = .ok (.ireturn, 1) := by decide +kernel
theorem dX7_apart_44 : decode cX7_apart 44 = .ok (.aload_n 0, 1) := by decide +kernel
theorem dX7_apart_45 : decode cX7_apart 45 = .ok (.getfield 26, 3) := by decide +kernel
theorem dX7_apart_48 : decode cX7_apart 48 = .ok (.aload 4, 2) := by decide +kernel
theorem dX7_apart_50 : decode cX7_apart 50 = .ok (.aload 4, 2) := by decide +kernel
theorem dX7_apart_52 : decode cX7_apart 52 = .ok (.getfield 197, 3) := by decide +kernel
theorem dX7_apart_55 : decode cX7_apart 55 = .ok (.getfield 98, 3) := by decide +kernel
theorem dX7_apart_58 : decode cX7_apart 58 = .ok (.iload_n 3, 1) := by decide +kernel
theorem dX7_apart_59 : decode cX7_apart 59 = .ok (.invokevirtual 204, 3) := by decide +kernel
theorem dX7_apart_62 : decode cX7_apart 62 = .ok (.aload_n 0, 1) := by decide +kernel
theorem dX7_apart_63 : decode cX7_apart 63 = .ok (.getfield 26, 3) := by decide +kernel
theorem dX7_apart_66 : decode cX7_apart 66 = .ok (.aload 5, 2) := by decide +kernel
theorem dX7_apart_68 : decode cX7_apart 68 = .ok (.aload 5, 2) := by decide +kernel
theorem dX7_apart_70 : decode cX7_apart 70 = .ok (.getfield 197, 3) := by decide +kernel
theorem dX7_apart_73 : decode cX7_apart 73 = .ok (.getfield 98, 3) := by decide +kernel
theorem dX7_apart_76 : decode cX7_apart 76 = .ok (.iload_n 3, 1) := by decide +kernel
theorem dX7_apart_77 : decode cX7_apart 77 = .ok (.invokevirtual 204, 3) := by decide +kernel
theorem dX7_apart_80 : decode cX7_apart 80 = .ok (.aload 4, 2) := by decide +kernel
theorem dX7_apart_82 : decode cX7_apart 82 = .ok (.aload 5, 2) := by decide +kernel
theorem dX7_apart_84 : decode cX7_apart 84 = .ok (.invokevirtual 211, 3) := by decide +kernel
theorem dX7_apart_87 : decode cX7_apart 87 = .ok (.invokestatic 160, 3) := by decide +kernel
theorem dX7_apart_90 : decode cX7_apart 90 = .ok (.ireturn, 1) := by decide +kernel
set_option maxRecDepth 20000 in
theorem ggX7_fewest_X1_shipAt : GoodIn wsX7_fewest wsX1_shipAt := goodIn_r _ [7, 8, 9, 93, 94, 95, 96, 97, 98] (by decide +kernel) (by decide +kernel)
set_option maxRecDepth 20000 in
theorem gX7_fewest_X1_shipAt : GoodIn wsX7_fewest (wsV RX7 81 RX1 yX1_shipAt wsX1_shipAt) := goodIn_app (goodIn_of _ (by decide +kernel)) ggX7_fewest_X1_shipAt
set_option maxRecDepth 20000 in
theorem ggX7_fewest_X7_isWind : GoodIn wsX7_fewest wsX7_isWind := goodIn_r _ [13, 14, 15, 12, 16] (by decide +kernel) (by decide +kernel)
set_option maxRecDepth 20000 in
theorem gX7_fewest_X7_isWind : GoodIn wsX7_fewest (va_wsS RX7 122 yX7_isWind wsX7_isWind) := goodIn_app (goodIn_of _ (by decide +kernel)) ggX7_fewest_X7_isWind
set_option maxRecDepth 20000 in
theorem ggX7_fewest_X1_holdsBy : GoodIn wsX7_fewest wsX1_holdsBy := goodIn_r _ [20, 21, 22, 23, 24, 25, 26, 27, 28, 29, 30, 6, 31, 32, 33, 34, 35, 36, 37, 38, 39, 40, 41, 42, 43, 44, 45, 46, 47, 48, 49, 50, 51, 52, 53, 54, 55, 56, 57, 58, 59, 60, 61, 62, 63, 64, 65, 66, 67, 68, 69, 70, 71, 72, 73, 74, 75, 76, 77, 78, 83, 84, 85, 86, 87, 88, 89, 90, 91, 92, 93, 94, 95, 96, 97, 98, 99, 100, 101, 102, 103, 104, 105, 106, 107, 108, 109, 110, 111, 112, 113] (by decide +kernel) (by decide +kernel)
set_option maxRecDepth 20000 in
theorem gX7_fewest_X1_holdsBy : GoodIn wsX7_fewest (wsV RX7 200 RX1 yX1_holdsBy wsX1_holdsBy) := goodIn_app (goodIn_of _ (by decide +kernel)) ggX7_fewest_X1_holdsBy
theorem dX7_fewest_0 : decode cX7_fewest 0 = .ok (.aload_n 0, 1) := by decide +kernel
theorem dX7_fewest_1 : decode cX7_fewest 1 = .ok (.getfield 26, 3) := by decide +kernel
theorem dX7_fewest_4 : decode cX7_fewest 4 = .ok (.iload_n 1, 1) := by decide +kernel
theorem dX7_fewest_5 : decode cX7_fewest 5 = .ok (.invokevirtual 81, 3) := by decide +kernel
theorem dX7_fewest_8 : decode cX7_fewest 8 = .ok (.astore_n 3, 1) := by decide +kernel
theorem dX7_fewest_9 : decode cX7_fewest 9 = .ok (.aload_n 3, 1) := by decide +kernel
theorem dX7_fewest_10 : decode cX7_fewest 10 = .ok (.ifnull 10, 3) := by decide +kernel
theorem dX7_fewest_13 : decode cX7_fewest 13 = .ok (.iload_n 2, 1) := by decide +kernel
theorem dX7_fewest_14 : decode cX7_fewest 14 = .ok (.invokestatic 122, 3) := by decide +kernel
theorem dX7_fewest_17 : decode cX7_fewest 17 = .ok (.ifCond .ne 5, 3) := by decide +kernel
theorem dX7_fewest_20 : decode cX7_fewest 20 = .ok (.iconst (-1), 1) := by decide +kernel
theorem dX7_fewest_21 : decode cX7_fewest 21 = .ok (.ireturn, 1) := by decide +kernel
theorem dX7_fewest_22 : decode cX7_fewest 22 = .ok (.aload_n 3, 1) := by decide +kernel
theorem dX7_fewest_23 : decode cX7_fewest 23 = .ok (.getfield 91, 3) := by decide +kernel
theorem dX7_fewest_26 : decode cX7_fewest 26 = .ok (.ifCond .eq 6, 3) := by decide +kernel
theorem dX7_fewest_29 : decode cX7_fewest 29 = .ok (.bipush (-2), 2) := by decide +kernel
theorem dX7_fewest_31 : decode cX7_fewest 31 = .ok (.ireturn, 1) := by decide +kernel
theorem dX7_fewest_32 : decode cX7_fewest 32 = .ok (.iconst 1, 1) := by decide +kernel
theorem dX7_fewest_33 : decode cX7_fewest 33 = .ok (.istore 4, 2) := by decide +kernel
theorem dX7_fewest_35 : decode cX7_fewest 35 = .ok (.iload 4, 2) := by decide +kernel
theorem dX7_fewest_37 : decode cX7_fewest 37 = .ok (.bipush 60, 2) := by decide +kernel
theorem dX7_fewest_39 : decode cX7_fewest 39 = .ok (.if_icmp .gt 26, 3) := by decide +kernel
theorem dX7_fewest_42 : decode cX7_fewest 42 = .ok (.aload_n 0, 1) := by decide +kernel
theorem dX7_fewest_43 : decode cX7_fewest 43 = .ok (.getfield 26, 3) := by decide +kernel
theorem dX7_fewest_46 : decode cX7_fewest 46 = .ok (.aload_n 3, 1) := by decide +kernel
theorem dX7_fewest_47 : decode cX7_fewest 47 = .ok (.iload 4, 2) := by decide +kernel
theorem dX7_fewest_49 : decode cX7_fewest 49 = .ok (.iload_n 2, 1) := by decide +kernel
theorem dX7_fewest_50 : decode cX7_fewest 50 = .ok (.invokevirtual 200, 3) := by decide +kernel
theorem dX7_fewest_53 : decode cX7_fewest 53 = .ok (.ifCond .eq 6, 3) := by decide +kernel
theorem dX7_fewest_56 : decode cX7_fewest 56 = .ok (.iload 4, 2) := by decide +kernel
theorem dX7_fewest_58 : decode cX7_fewest 58 = .ok (.ireturn, 1) := by decide +kernel
theorem dX7_fewest_59 : decode cX7_fewest 59 = .ok (.iinc 4 1, 3) := by decide +kernel
theorem dX7_fewest_62 : decode cX7_fewest 62 = .ok (.goto (-27), 3) := by decide +kernel
theorem dX7_fewest_65 : decode cX7_fewest 65 = .ok (.bipush (-4), 2) := by decide +kernel
theorem dX7_fewest_67 : decode cX7_fewest 67 = .ok (.ireturn, 1) := by decide +kernel
set_option maxRecDepth 20000 in
theorem ggX7_tooMuch_X1_shipAt : GoodIn wsX7_tooMuch wsX1_shipAt := goodIn_r _ [9, 10, 11, 91, 92, 93, 94, 95, 96] (by decide +kernel) (by decide +kernel)
set_option maxRecDepth 20000 in
theorem gX7_tooMuch_X1_shipAt : GoodIn wsX7_tooMuch (wsV RX7 81 RX1 yX1_shipAt wsX1_shipAt) := goodIn_app (goodIn_of _ (by decide +kernel)) ggX7_tooMuch_X1_shipAt
set_option maxRecDepth 20000 in
theorem ggX7_tooMuch_X1_holdsBy : GoodIn wsX7_tooMuch wsX1_holdsBy := goodIn_r _ [15, 16, 17, 18, 19, 20, 21, 22, 23, 24, 25, 8, 26, 27, 28, 29, 30, 31, 32, 33, 34, 35, 36, 37, 38, 39, 40, 41, 42, 43, 44, 45, 46, 47, 48, 49, 50, 51, 52, 53, 54, 55, 56, 57, 58, 59, 60, 61, 62, 63, 64, 65, 66, 67, 68, 69, 70, 71, 72, 73, 78, 79, 80, 81, 82, 83, 84, 85, 86, 87, 91, 92, 93, 94, 95, 96, 88, 89, 90, 97, 98, 99, 100, 101, 102, 103, 104, 105, 106, 107, 108] (by decide +kernel) (by decide +kernel)
set_option maxRecDepth 20000 in
theorem gX7_tooMuch_X1_holdsBy : GoodIn wsX7_tooMuch (wsV RX7 200 RX1 yX1_holdsBy wsX1_holdsBy) := goodIn_app (goodIn_of _ (by decide +kernel)) ggX7_tooMuch_X1_holdsBy
theorem dX7_tooMuch_0 : decode cX7_tooMuch 0 = .ok (.aload_n 0, 1) := by decide +kernel
theorem dX7_tooMuch_1 : decode cX7_tooMuch 1 = .ok (.getfield 26, 3) := by decide +kernel
theorem dX7_tooMuch_4 : decode cX7_tooMuch 4 = .ok (.iload_n 1, 1) := by decide +kernel
theorem dX7_tooMuch_5 : decode cX7_tooMuch 5 = .ok (.invokevirtual 81, 3) := by decide +kernel
theorem dX7_tooMuch_8 : decode cX7_tooMuch 8 = .ok (.astore_n 2, 1) := by decide +kernel
theorem dX7_tooMuch_9 : decode cX7_tooMuch 9 = .ok (.aload_n 2, 1) := by decide +kernel
theorem dX7_tooMuch_10 : decode cX7_tooMuch 10 = .ok (.ifnonnull 5, 3) := by decide +kernel
theorem dX7_tooMuch_13 : decode cX7_tooMuch 13 = .ok (.iconst (-1), 1) := by decide +kernel
theorem dX7_tooMuch_14 : decode cX7_tooMuch 14 = .ok (.ireturn, 1) := by decide +kernel
theorem dX7_tooMuch_15 : decode cX7_tooMuch 15 = .ok (.aload_n 2, 1) := by decide +kernel
theorem dX7_tooMuch_16 : decode cX7_tooMuch 16 = .ok (.getfield 91, 3) := by decide +kernel
theorem dX7_tooMuch_19 : decode cX7_tooMuch 19 = .ok (.ifCond .eq 6, 3) := by decide +kernel
theorem dX7_tooMuch_22 : decode cX7_tooMuch 22 = .ok (.bipush (-2), 2) := by decide +kernel
theorem dX7_tooMuch_24 : decode cX7_tooMuch 24 = .ok (.ireturn, 1) := by decide +kernel
theorem dX7_tooMuch_25 : decode cX7_tooMuch 25 = .ok (.iconst 0, 1) := by decide +kernel
theorem dX7_tooMuch_26 : decode cX7_tooMuch 26 = .ok (.istore_n 3, 1) := by decide +kernel
theorem dX7_tooMuch_27 : decode cX7_tooMuch 27 = .ok (.iload_n 3, 1) := by decide +kernel
theorem dX7_tooMuch_28 : decode cX7_tooMuch 28 = .ok (.bipush 20, 2) := by decide +kernel
theorem dX7_tooMuch_30 : decode cX7_tooMuch 30 = .ok (.if_icmp .gt 30, 3) := by decide +kernel
theorem dX7_tooMuch_33 : decode cX7_tooMuch 33 = .ok (.aload_n 0, 1) := by decide +kernel
theorem dX7_tooMuch_34 : decode cX7_tooMuch 34 = .ok (.getfield 26, 3) := by decide +kernel
theorem dX7_tooMuch_37 : decode cX7_tooMuch 37 = .ok (.aload_n 2, 1) := by decide +kernel
theorem dX7_tooMuch_38 : decode cX7_tooMuch 38 = .ok (.aload_n 2, 1) := by decide +kernel
theorem dX7_tooMuch_39 : decode cX7_tooMuch 39 = .ok (.getfield 197, 3) := by decide +kernel
theorem dX7_tooMuch_42 : decode cX7_tooMuch 42 = .ok (.getfield 98, 3) := by decide +kernel
theorem dX7_tooMuch_45 : decode cX7_tooMuch 45 = .ok (.iload_n 3, 1) := by decide +kernel
theorem dX7_tooMuch_46 : decode cX7_tooMuch 46 = .ok (.invokevirtual 200, 3) := by decide +kernel
theorem dX7_tooMuch_49 : decode cX7_tooMuch 49 = .ok (.ifCond .ne 5, 3) := by decide +kernel
theorem dX7_tooMuch_52 : decode cX7_tooMuch 52 = .ok (.iload_n 3, 1) := by decide +kernel
theorem dX7_tooMuch_53 : decode cX7_tooMuch 53 = .ok (.ireturn, 1) := by decide +kernel
theorem dX7_tooMuch_54 : decode cX7_tooMuch 54 = .ok (.iinc 3 1, 3) := by decide +kernel
theorem dX7_tooMuch_57 : decode cX7_tooMuch 57 = .ok (.goto (-30), 3) := by decide +kernel
theorem dX7_tooMuch_60 : decode cX7_tooMuch 60 = .ok (.bipush (-4), 2) := by decide +kernel
theorem dX7_tooMuch_62 : decode cX7_tooMuch 62 = .ok (.ireturn, 1) := by decide +kernel
set_option maxRecDepth 20000 in
theorem ggX7_close_X1_shipAt : GoodIn wsX7_close wsX1_shipAt := goodIn_r _ [7, 8, 9, 134, 135, 136, 137, 138, 139] (by decide +kernel) (by decide +kernel)
set_option maxRecDepth 20000 in
theorem gX7_close_X1_shipAt : GoodIn wsX7_close (wsV RX7 81 RX1 yX1_shipAt wsX1_shipAt) := goodIn_app (goodIn_of _ (by decide +kernel)) ggX7_close_X1_shipAt
set_option maxRecDepth 20000 in
theorem ggX7_close_X7_isWind : GoodIn wsX7_close wsX7_isWind := goodIn_r _ [13, 14, 15, 12, 16] (by decide +kernel) (by decide +kernel)
set_option maxRecDepth 20000 in
theorem gX7_close_X7_isWind : GoodIn wsX7_close (va_wsS RX7 122 yX7_isWind wsX7_isWind) := goodIn_app (goodIn_of _ (by decide +kernel)) ggX7_close_X7_isWind
set_option maxRecDepth 20000 in
theorem ggX7_close_X1_measureSwings : GoodIn wsX7_close wsX1_measureSwings := goodIn_r _ [20, 8, 9, 21, 22, 23, 24, 25, 6, 26, 27, 28, 29, 30, 31, 32, 33, 34, 35, 36, 37, 38, 39, 40, 41, 42, 43, 44, 45, 46, 47, 48, 49, 50, 51, 52, 53, 54, 55, 56, 57, 58, 59, 60, 61, 62, 63, 64, 65, 66, 67, 68, 69, 70, 71, 72, 73, 74, 75, 76, 77, 78, 79, 80, 81, 82, 83, 84, 85, 86, 87, 134, 135, 136, 137, 138, 139, 124, 125, 126, 127, 128, 129, 130, 131, 132, 133, 140, 141, 142, 143, 144, 145, 146, 147, 148, 149, 150, 151, 152, 153, 154] (by decide +kernel) (by decide +kernel)
set_option maxRecDepth 20000 in
theorem gX7_close_X1_measureSwings : GoodIn wsX7_close (wsV RX7 215 RX1 yX1_measureSwings wsX1_measureSwings) := goodIn_app (goodIn_of _ (by decide +kernel)) ggX7_close_X1_measureSwings
set_option maxRecDepth 20000 in
theorem ggX7_close_X1_holdsBy : GoodIn wsX7_close wsX1_holdsBy := goodIn_r _ [91, 92, 31, 32, 33, 34, 35, 36, 93, 94, 95, 6, 96, 21, 97, 37, 38, 39, 40, 27, 41, 42, 43, 44, 45, 46, 47, 48, 49, 50, 51, 52, 53, 54, 55, 56, 98, 99, 100, 101, 65, 69, 70, 71, 72, 61, 67, 73, 74, 75, 76, 77, 78, 79, 102, 103, 104, 105, 106, 22, 124, 125, 126, 127, 128, 129, 130, 131, 132, 133, 134, 135, 136, 137, 138, 139, 140, 141, 142, 143, 144, 145, 146, 147, 148, 149, 150, 151, 152, 153, 154] (by decide +kernel) (by decide +kernel)
set_option maxRecDepth 20000 in
theorem gX7_close_X1_holdsBy : GoodIn wsX7_close (wsV RX7 200 RX1 yX1_holdsBy wsX1_holdsBy) := goodIn_app (goodIn_of _ (by decide +kernel)) ggX7_close_X1_holdsBy
set_option maxRecDepth 20000 in
theorem ggX7_close_X1_isClearOfAll : GoodIn wsX7_close wsX1_isClearOfAll := goodIn_r _ [110, 8, 9, 23, 24, 25, 6, 26, 21, 27, 28, 29, 30, 31, 32, 33, 34, 35, 36, 37, 38, 39, 40, 41, 42, 43, 44, 45, 46, 47, 48, 49, 50, 51, 52, 53, 54, 55, 56, 57, 58, 59, 60, 61, 62, 63, 64, 65, 66, 67, 68, 69, 70, 71, 72, 73, 74, 75, 76, 77, 78, 79, 80, 81, 82, 83, 84, 85, 86, 87, 111, 112, 113, 114, 115, 116, 117, 118, 119, 134, 135, 136, 137, 138, 139, 124, 125, 126, 127, 128, 129, 130, 131, 132, 133, 143, 144, 145, 146, 147, 148, 149, 150, 151, 152, 153, 154, 140, 141, 142] (by decide +kernel) (by decide +kernel)
set_option maxRecDepth 20000 in
theorem gX7_close_X1_isClearOfAll : GoodIn wsX7_close (wsV RX7 219 RX1 yX1_isClearOfAll wsX1_isClearOfAll) := goodIn_app (goodIn_of _ (by decide +kernel)) ggX7_close_X1_isClearOfAll
theorem dX7_close_0 : decode cX7_close 0 = .ok (.aload_n 0, 1) := by decide +kernel
theorem dX7_close_1 : decode cX7_close 1 = .ok (.getfield 26, 3) := by decide +kernel
theorem dX7_close_4 : decode cX7_close 4 = .ok (.iload_n 1, 1) := by decide +kernel
theorem dX7_close_5 : decode cX7_close 5 = .ok (.invokevirtual 81, 3) := by decide +kernel
theorem dX7_close_8 : decode cX7_close 8 = .ok (.astore_n 3, 1) := by decide +kernel
theorem dX7_close_9 : decode cX7_close 9 = .ok (.aload_n 3, 1) := by decide +kernel
theorem dX7_close_10 : decode cX7_close 10 = .ok (.ifnull 10, 3) := by decide +kernel
theorem dX7_close_13 : decode cX7_close 13 = .ok (.iload_n 2, 1) := by decide +kernel
theorem dX7_close_14 : decode cX7_close 14 = .ok (.invokestatic 122, 3) := by decide +kernel
theorem dX7_close_17 : decode cX7_close 17 = .ok (.ifCond .ne 5, 3) := by decide +kernel
theorem dX7_close_20 : decode cX7_close 20 = .ok (.iconst (-1), 1) := by decide +kernel
theorem dX7_close_21 : decode cX7_close 21 = .ok (.ireturn, 1) := by decide +kernel
theorem dX7_close_22 : decode cX7_close 22 = .ok (.aload_n 3, 1) := by decide +kernel
theorem dX7_close_23 : decode cX7_close 23 = .ok (.getfield 91, 3) := by decide +kernel
theorem dX7_close_26 : decode cX7_close 26 = .ok (.ifCond .eq 6, 3) := by decide +kernel
theorem dX7_close_29 : decode cX7_close 29 = .ok (.bipush (-2), 2) := by decide +kernel
theorem dX7_close_31 : decode cX7_close 31 = .ok (.ireturn, 1) := by decide +kernel
theorem dX7_close_32 : decode cX7_close 32 = .ok (.aload_n 0, 1) := by decide +kernel
theorem dX7_close_33 : decode cX7_close 33 = .ok (.getfield 26, 3) := by decide +kernel
theorem dX7_close_36 : decode cX7_close 36 = .ok (.iload_n 2, 1) := by decide +kernel
theorem dX7_close_37 : decode cX7_close 37 = .ok (.invokevirtual 215, 3) := by decide +kernel
theorem dX7_close_40 : decode cX7_close 40 = .ok (.bipush 60, 2) := by decide +kernel
theorem dX7_close_42 : decode cX7_close 42 = .ok (.istore 4, 2) := by decide +kernel
theorem dX7_close_44 : decode cX7_close 44 = .ok (.iload 4, 2) := by decide +kernel
theorem dX7_close_46 : decode cX7_close 46 = .ok (.iconst 1, 1) := by decide +kernel
theorem dX7_close_47 : decode cX7_close 47 = .ok (.if_icmp .lt 40, 3) := by decide +kernel
theorem dX7_close_50 : decode cX7_close 50 = .ok (.aload_n 0, 1) := by decide +kernel
theorem dX7_close_51 : decode cX7_close 51 = .ok (.getfield 26, 3) := by decide +kernel
theorem dX7_close_54 : decode cX7_close 54 = .ok (.aload_n 3, 1) := by decide +kernel
theorem dX7_close_55 : decode cX7_close 55 = .ok (.iload 4, 2) := by decide +kernel
theorem dX7_close_57 : decode cX7_close 57 = .ok (.iload_n 2, 1) := by decide +kernel
theorem dX7_close_58 : decode cX7_close 58 = .ok (.invokevirtual 200, 3) := by decide +kernel
theorem dX7_close_61 : decode cX7_close 61 = .ok (.ifCond .eq 20, 3) := by decide +kernel
theorem dX7_close_64 : decode cX7_close 64 = .ok (.aload_n 0, 1) := by decide +kernel
theorem dX7_close_65 : decode cX7_close 65 = .ok (.getfield 26, 3) := by decide +kernel
theorem dX7_close_68 : decode cX7_close 68 = .ok (.aload_n 3, 1) := by decide +kernel
theorem dX7_close_69 : decode cX7_close 69 = .ok (.iload 4, 2) := by decide +kernel
theorem dX7_close_71 : decode cX7_close 71 = .ok (.iload_n 2, 1) := by decide +kernel
theorem dX7_close_72 : decode cX7_close 72 = .ok (.invokevirtual 219, 3) := by decide +kernel
theorem dX7_close_75 : decode cX7_close 75 = .ok (.ifCond .eq 6, 3) := by decide +kernel
theorem dX7_close_78 : decode cX7_close 78 = .ok (.iload 4, 2) := by decide +kernel
theorem dX7_close_80 : decode cX7_close 80 = .ok (.ireturn, 1) := by decide +kernel
theorem dX7_close_81 : decode cX7_close 81 = .ok (.iinc 4 (-1), 3) := by decide +kernel
theorem dX7_close_84 : decode cX7_close 84 = .ok (.goto (-40), 3) := by decide +kernel
theorem dX7_close_87 : decode cX7_close 87 = .ok (.bipush (-4), 2) := by decide +kernel
theorem dX7_close_89 : decode cX7_close 89 = .ok (.ireturn, 1) := by decide +kernel
set_option maxRecDepth 20000 in
theorem ggX7_all_X7_isWind : GoodIn wsX7_all wsX7_isWind := goodIn_r _ [5, 6, 7, 4, 8] (by decide +kernel) (by decide +kernel)
set_option maxRecDepth 20000 in
theorem gX7_all_X7_isWind : GoodIn wsX7_all (va_wsS RX7 122 yX7_isWind wsX7_isWind) := goodIn_app (goodIn_of _ (by decide +kernel)) ggX7_all_X7_isWind
set_option maxRecDepth 20000 in
theorem ggX7_all_X7_within : GoodIn wsX7_all wsX7_within := goodIn_r _ [8] (by decide +kernel) (by decide +kernel)
set_option maxRecDepth 20000 in
theorem gX7_all_X7_within : GoodIn wsX7_all (va_wsS RX7 64 yX7_within wsX7_within) := goodIn_app (goodIn_of _ (by decide +kernel)) ggX7_all_X7_within
set_option maxRecDepth 20000 in
theorem ggX7_all_X1_countHolding : GoodIn wsX7_all wsX1_countHolding := goodIn_r _ [13, 14, 15, 16, 17, 18, 19, 20, 21, 12, 22, 23, 24, 25, 26, 27, 28, 29, 30, 31, 32, 33, 34, 35, 36, 37, 38, 39, 40, 41, 42, 43, 44, 45, 46, 47, 48, 49, 50, 51, 52, 53, 54, 55, 56, 57, 58, 59, 60, 61, 62, 63, 64, 65, 66, 67, 68, 69, 70, 71, 72, 73, 74, 75, 76, 77, 78, 79, 4, 80, 126, 127, 128, 129, 130, 131, 132, 133, 134, 135, 136, 137, 138, 139, 140, 141, 142, 143, 144, 145, 146, 147, 148, 149, 150, 151, 152, 153, 154, 155, 156] (by decide +kernel) (by decide +kernel)
set_option maxRecDepth 20000 in
theorem gX7_all_X1_countHolding : GoodIn wsX7_all (wsV RX7 222 RX1 yX1_countHolding wsX1_countHolding) := goodIn_app (goodIn_of _ (by decide +kernel)) ggX7_all_X1_countHolding
set_option maxRecDepth 20000 in
theorem ggX7_all_X1_measureSwings : GoodIn wsX7_all wsX1_measureSwings := goodIn_r _ [84, 14, 15, 17, 18, 85, 86, 87, 12, 88, 39, 89, 90, 91, 24, 25, 26, 27, 28, 29, 35, 36, 37, 38, 40, 41, 42, 43, 44, 45, 46, 47, 48, 49, 50, 51, 52, 53, 54, 55, 92, 93, 94, 95, 65, 96, 97, 98, 60, 99, 66, 100, 61, 62, 63, 64, 67, 68, 69, 70, 71, 72, 73, 101, 102, 103, 104, 105, 106, 107, 108, 126, 127, 128, 129, 130, 131, 132, 133, 134, 135, 136, 137, 138, 139, 140, 141, 142, 143, 144, 145, 146, 147, 148, 149, 150, 151, 152, 153, 154, 155, 156] (by decide +kernel) (by decide +kernel)
set_option maxRecDepth 20000 in
theorem gX7_all_X1_measureSwings : GoodIn wsX7_all (wsV RX7 215 RX1 yX1_measureSwings wsX1_measureSwings) := goodIn_app (goodIn_of _ (by decide +kernel)) ggX7_all_X1_measureSwings
set_option maxRecDepth 20000 in
theorem ggX7_all_X1_countMeeting : GoodIn wsX7_all wsX1_countMeeting := goodIn_r _ [112, 14, 15, 113, 114, 115, 27, 116, 117, 118, 119, 120, 121, 79, 4, 80, 126, 127, 128, 129, 130, 131, 132, 133, 134, 135, 136, 137, 138, 139, 140, 141, 142, 143, 144] (by decide +kernel) (by decide +kernel)
set_option maxRecDepth 20000 in
theorem gX7_all_X1_countMeeting : GoodIn wsX7_all (wsV RX7 225 RX1 yX1_countMeeting wsX1_countMeeting) := goodIn_app (goodIn_of _ (by decide +kernel)) ggX7_all_X1_countMeeting
theorem dX7_all_0 : decode cX7_all 0 = .ok (.iload_n 1, 1) := by decide +kernel
theorem dX7_all_1 : decode cX7_all 1 = .ok (.invokestatic 122, 3) := by decide +kernel
theorem dX7_all_4 : decode cX7_all 4 = .ok (.ifCond .eq 12, 3) := by decide +kernel
theorem dX7_all_7 : decode cX7_all 7 = .ok (.iload_n 2, 1) := by decide +kernel
theorem dX7_all_8 : decode cX7_all 8 = .ok (.iconst 0, 1) := by decide +kernel
theorem dX7_all_9 : decode cX7_all 9 = .ok (.iconst 1, 1) := by decide +kernel
theorem dX7_all_10 : decode cX7_all 10 = .ok (.invokestatic 64, 3) := by decide +kernel
theorem dX7_all_13 : decode cX7_all 13 = .ok (.ifCond .ne 5, 3) := by decide +kernel
theorem dX7_all_16 : decode cX7_all 16 = .ok (.iconst (-1), 1) := by decide +kernel
theorem dX7_all_17 : decode cX7_all 17 = .ok (.ireturn, 1) := by decide +kernel
theorem dX7_all_18 : decode cX7_all 18 = .ok (.iload_n 2, 1) := by decide +kernel
theorem dX7_all_19 : decode cX7_all 19 = .ok (.ifCond .ne 12, 3) := by decide +kernel
theorem dX7_all_22 : decode cX7_all 22 = .ok (.aload_n 0, 1) := by decide +kernel
theorem dX7_all_23 : decode cX7_all 23 = .ok (.getfield 26, 3) := by decide +kernel
theorem dX7_all_26 : decode cX7_all 26 = .ok (.iload_n 1, 1) := by decide +kernel
theorem dX7_all_27 : decode cX7_all 27 = .ok (.invokevirtual 222, 3) := by decide +kernel
theorem dX7_all_30 : decode cX7_all 30 = .ok (.ireturn, 1) := by decide +kernel
theorem dX7_all_31 : decode cX7_all 31 = .ok (.aload_n 0, 1) := by decide +kernel
theorem dX7_all_32 : decode cX7_all 32 = .ok (.getfield 26, 3) := by decide +kernel
theorem dX7_all_35 : decode cX7_all 35 = .ok (.iload_n 1, 1) := by decide +kernel
theorem dX7_all_36 : decode cX7_all 36 = .ok (.invokevirtual 215, 3) := by decide +kernel
theorem dX7_all_39 : decode cX7_all 39 = .ok (.aload_n 0, 1) := by decide +kernel
theorem dX7_all_40 : decode cX7_all 40 = .ok (.getfield 26, 3) := by decide +kernel
theorem dX7_all_43 : decode cX7_all 43 = .ok (.invokevirtual 225, 3) := by decide +kernel
theorem dX7_all_46 : decode cX7_all 46 = .ok (.ireturn, 1) := by decide +kernel
set_option maxRecDepth 20000 in
theorem ggX7_count_X1_countAshore : GoodIn wsX7_count wsX1_countAshore := goodIn_r _ [13, 14, 15, 16, 17, 18, 19, 36, 37, 38, 39, 40, 41, 47, 48, 49, 50, 51, 52, 53, 54, 55, 56] (by decide +kernel) (by decide +kernel)
set_option maxRecDepth 20000 in
theorem gX7_count_X1_countAshore : GoodIn wsX7_count (wsV RX7 229 RX1 yX1_countAshore wsX1_countAshore) := goodIn_app (goodIn_of _ (by decide +kernel)) ggX7_count_X1_countAshore
