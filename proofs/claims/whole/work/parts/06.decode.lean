set_option maxRecDepth 20000 in
theorem gX8_links_X8_of : GoodIn wsX8_links (wsV RX8 106 RX8 yX8_of wsX8_of) := goodIn_app (goodIn_of _ (by decide +kernel)) ggX8_links_X8_of
set_option maxRecDepth 20000 in
theorem ggX8_links_X8_push : GoodIn wsX8_links wsX8_push := goodIn_r _ [17, 18, 19, 6, 24, 25, 26, 27, 28, 29, 30, 31, 32, 33, 34, 35, 36] (by decide +kernel) (by decide +kernel)
set_option maxRecDepth 20000 in
theorem gX8_links_X8_push : GoodIn wsX8_links (wsV RX8 127 RX8 yX8_push wsX8_push) := goodIn_app (goodIn_of _ (by decide +kernel)) ggX8_links_X8_push
set_option maxRecDepth 20000 in
theorem ggX8_links_X8_put : GoodIn wsX8_links wsX8_put := goodIn_r _ [23, 6, 24, 25, 26, 27, 28, 29, 30, 31, 32, 33, 34, 35, 36] (by decide +kernel) (by decide +kernel)
set_option maxRecDepth 20000 in
theorem gX8_links_X8_put : GoodIn wsX8_links (wsV RX8 130 RX8 yX8_put wsX8_put) := goodIn_app (goodIn_of _ (by decide +kernel)) ggX8_links_X8_put
theorem dX8_links_0 : decode cX8_links 0 = .ok (.aload_n 0, 1) := by decide +kernel
theorem dX8_links_1 : decode cX8_links 1 = .ok (.iload_n 1, 1) := by decide +kernel
theorem dX8_links_2 : decode cX8_links 2 = .ok (.invokevirtual 124, 3) := by decide +kernel
theorem dX8_links_5 : decode cX8_links 5 = .ok (.ifCond .eq 22, 3) := by decide +kernel
theorem dX8_links_8 : decode cX8_links 8 = .ok (.iload_n 2, 1) := by decide +kernel
theorem dX8_links_9 : decode cX8_links 9 = .ok (.iconst 0, 1) := by decide +kernel
theorem dX8_links_10 : decode cX8_links 10 = .ok (.iconst 1, 1) := by decide +kernel
theorem dX8_links_11 : decode cX8_links 11 = .ok (.invokestatic 40, 3) := by decide +kernel
theorem dX8_links_14 : decode cX8_links 14 = .ok (.ifCond .eq 13, 3) := by decide +kernel
theorem dX8_links_17 : decode cX8_links 17 = .ok (.iload_n 3, 1) := by decide +kernel
theorem dX8_links_18 : decode cX8_links 18 = .ok (.iconst 1, 1) := by decide +kernel
theorem dX8_links_19 : decode cX8_links 19 = .ok (.bipush 60, 2) := by decide +kernel
theorem dX8_links_21 : decode cX8_links 21 = .ok (.invokestatic 40, 3) := by decide +kernel
theorem dX8_links_24 : decode cX8_links 24 = .ok (.ifCond .ne 5, 3) := by decide +kernel
theorem dX8_links_27 : decode cX8_links 27 = .ok (.iconst (-1), 1) := by decide +kernel
theorem dX8_links_28 : decode cX8_links 28 = .ok (.ireturn, 1) := by decide +kernel
theorem dX8_links_29 : decode cX8_links 29 = .ok (.aload_n 0, 1) := by decide +kernel
theorem dX8_links_30 : decode cX8_links 30 = .ok (.iload_n 1, 1) := by decide +kernel
theorem dX8_links_31 : decode cX8_links 31 = .ok (.bipush 7, 2) := by decide +kernel
theorem dX8_links_33 : decode cX8_links 33 = .ok (.invokevirtual 106, 3) := by decide +kernel
theorem dX8_links_36 : decode cX8_links 36 = .ok (.iconst 1, 1) := by decide +kernel
theorem dX8_links_37 : decode cX8_links 37 = .ok (.if_icmp .eq 18, 3) := by decide +kernel
theorem dX8_links_40 : decode cX8_links 40 = .ok (.iload_n 2, 1) := by decide +kernel
theorem dX8_links_41 : decode cX8_links 41 = .ok (.iconst 1, 1) := by decide +kernel
theorem dX8_links_42 : decode cX8_links 42 = .ok (.if_icmp .ne 16, 3) := by decide +kernel
theorem dX8_links_45 : decode cX8_links 45 = .ok (.aload_n 0, 1) := by decide +kernel
theorem dX8_links_46 : decode cX8_links 46 = .ok (.iload_n 1, 1) := by decide +kernel
theorem dX8_links_47 : decode cX8_links 47 = .ok (.bipush 9, 2) := by decide +kernel
theorem dX8_links_49 : decode cX8_links 49 = .ok (.invokevirtual 106, 3) := by decide +kernel
theorem dX8_links_52 : decode cX8_links 52 = .ok (.ifCond .ne 6, 3) := by decide +kernel
theorem dX8_links_55 : decode cX8_links 55 = .ok (.bipush (-2), 2) := by decide +kernel
theorem dX8_links_57 : decode cX8_links 57 = .ok (.ireturn, 1) := by decide +kernel
theorem dX8_links_58 : decode cX8_links 58 = .ok (.aload_n 0, 1) := by decide +kernel
theorem dX8_links_59 : decode cX8_links 59 = .ok (.invokevirtual 127, 3) := by decide +kernel
theorem dX8_links_62 : decode cX8_links 62 = .ok (.iload_n 2, 1) := by decide +kernel
theorem dX8_links_63 : decode cX8_links 63 = .ok (.ifCond .ne 7, 3) := by decide +kernel
theorem dX8_links_66 : decode cX8_links 66 = .ok (.iconst 2, 1) := by decide +kernel
theorem dX8_links_67 : decode cX8_links 67 = .ok (.goto 5, 3) := by decide +kernel
theorem dX8_links_70 : decode cX8_links 70 = .ok (.bipush 12, 2) := by decide +kernel
theorem dX8_links_72 : decode cX8_links 72 = .ok (.istore 4, 2) := by decide +kernel
theorem dX8_links_74 : decode cX8_links 74 = .ok (.aload_n 0, 1) := by decide +kernel
theorem dX8_links_75 : decode cX8_links 75 = .ok (.iload_n 1, 1) := by decide +kernel
theorem dX8_links_76 : decode cX8_links 76 = .ok (.iload 4, 2) := by decide +kernel
theorem dX8_links_78 : decode cX8_links 78 = .ok (.invokevirtual 106, 3) := by decide +kernel
theorem dX8_links_81 : decode cX8_links 81 = .ok (.istore 5, 2) := by decide +kernel
theorem dX8_links_83 : decode cX8_links 83 = .ok (.aload_n 0, 1) := by decide +kernel
theorem dX8_links_84 : decode cX8_links 84 = .ok (.iload_n 1, 1) := by decide +kernel
theorem dX8_links_85 : decode cX8_links 85 = .ok (.iload 4, 2) := by decide +kernel
theorem dX8_links_87 : decode cX8_links 87 = .ok (.iload_n 3, 1) := by decide +kernel
theorem dX8_links_88 : decode cX8_links 88 = .ok (.invokevirtual 130, 3) := by decide +kernel
theorem dX8_links_91 : decode cX8_links 91 = .ok (.iload 5, 2) := by decide +kernel
theorem dX8_links_93 : decode cX8_links 93 = .ok (.ireturn, 1) := by decide +kernel
set_option maxRecDepth 20000 in
theorem ggX8_moor_X8_isShip : GoodIn wsX8_moor wsX8_isShip := goodIn_r _ [6, 1, 7, 8, 5, 9, 28, 29, 30, 31, 32, 33, 34, 35, 36, 37, 38, 39, 40] (by decide +kernel) (by decide +kernel)
set_option maxRecDepth 20000 in
theorem gX8_moor_X8_isShip : GoodIn wsX8_moor (wsV RX8 124 RX8 yX8_isShip wsX8_isShip) := goodIn_app (goodIn_of _ (by decide +kernel)) ggX8_moor_X8_isShip
set_option maxRecDepth 20000 in
theorem ggX8_moor_X8_isColumn : GoodIn wsX8_moor wsX8_isColumn := goodIn_r _ [13, 1, 7, 8, 5, 9, 28, 29, 30, 31, 32, 33, 34, 35, 36, 37, 38, 39, 40] (by decide +kernel) (by decide +kernel)
set_option maxRecDepth 20000 in
theorem gX8_moor_X8_isColumn : GoodIn wsX8_moor (wsV RX8 133 RX8 yX8_isColumn wsX8_isColumn) := goodIn_app (goodIn_of _ (by decide +kernel)) ggX8_moor_X8_isColumn
set_option maxRecDepth 20000 in
theorem ggX8_moor_X8_in : GoodIn wsX8_moor wsX8_in := goodIn_r _ [9] (by decide +kernel) (by decide +kernel)
set_option maxRecDepth 20000 in
theorem gX8_moor_X8_in : GoodIn wsX8_moor (va_wsS RX8 40 yX8_in wsX8_in) := goodIn_app (goodIn_of _ (by decide +kernel)) ggX8_moor_X8_in
set_option maxRecDepth 20000 in
theorem ggX8_moor_X8_of : GoodIn wsX8_moor wsX8_of := goodIn_r _ [17, 1, 28, 29, 30, 31, 32, 33, 34, 35, 36, 37, 38, 39, 40] (by decide +kernel) (by decide +kernel)
set_option maxRecDepth 20000 in
theorem gX8_moor_X8_of : GoodIn wsX8_moor (wsV RX8 106 RX8 yX8_of wsX8_of) := goodIn_app (goodIn_of _ (by decide +kernel)) ggX8_moor_X8_of
set_option maxRecDepth 20000 in
theorem ggX8_moor_X8_push : GoodIn wsX8_moor wsX8_push := goodIn_r _ [21, 22, 23, 1, 28, 29, 30, 31, 32, 33, 34, 35, 36, 37, 38, 39, 40] (by decide +kernel) (by decide +kernel)
set_option maxRecDepth 20000 in
theorem gX8_moor_X8_push : GoodIn wsX8_moor (wsV RX8 127 RX8 yX8_push wsX8_push) := goodIn_app (goodIn_of _ (by decide +kernel)) ggX8_moor_X8_push
set_option maxRecDepth 20000 in
theorem ggX8_moor_X8_put : GoodIn wsX8_moor wsX8_put := goodIn_r _ [27, 1, 28, 29, 30, 31, 32, 33, 34, 35, 36, 37, 38, 39, 40] (by decide +kernel) (by decide +kernel)
set_option maxRecDepth 20000 in
theorem gX8_moor_X8_put : GoodIn wsX8_moor (wsV RX8 130 RX8 yX8_put wsX8_put) := goodIn_app (goodIn_of _ (by decide +kernel)) ggX8_moor_X8_put
theorem dX8_moor_0 : decode cX8_moor 0 = .ok (.aload_n 0, 1) := by decide +kernel
theorem dX8_moor_1 : decode cX8_moor 1 = .ok (.iload_n 1, 1) := by decide +kernel
theorem dX8_moor_2 : decode cX8_moor 2 = .ok (.invokevirtual 124, 3) := by decide +kernel
theorem dX8_moor_5 : decode cX8_moor 5 = .ok (.ifCond .eq 32, 3) := by decide +kernel
theorem dX8_moor_8 : decode cX8_moor 8 = .ok (.aload_n 0, 1) := by decide +kernel
theorem dX8_moor_9 : decode cX8_moor 9 = .ok (.iload_n 2, 1) := by decide +kernel
theorem dX8_moor_10 : decode cX8_moor 10 = .ok (.invokevirtual 133, 3) := by decide +kernel
theorem dX8_moor_13 : decode cX8_moor 13 = .ok (.ifCond .eq 24, 3) := by decide +kernel
theorem dX8_moor_16 : decode cX8_moor 16 = .ok (.iload_n 3, 1) := by decide +kernel
theorem dX8_moor_17 : decode cX8_moor 17 = .ok (.iconst 0, 1) := by decide +kernel
theorem dX8_moor_18 : decode cX8_moor 18 = .ok (.bipush 19, 2) := by decide +kernel
theorem dX8_moor_20 : decode cX8_moor 20 = .ok (.invokestatic 40, 3) := by decide +kernel
theorem dX8_moor_23 : decode cX8_moor 23 = .ok (.ifCond .eq 14, 3) := by decide +kernel
theorem dX8_moor_26 : decode cX8_moor 26 = .ok (.iload 4, 2) := by decide +kernel
theorem dX8_moor_28 : decode cX8_moor 28 = .ok (.iconst 1, 1) := by decide +kernel
theorem dX8_moor_29 : decode cX8_moor 29 = .ok (.bipush 60, 2) := by decide +kernel
theorem dX8_moor_31 : decode cX8_moor 31 = .ok (.invokestatic 40, 3) := by decide +kernel
theorem dX8_moor_34 : decode cX8_moor 34 = .ok (.ifCond .ne 5, 3) := by decide +kernel
theorem dX8_moor_37 : decode cX8_moor 37 = .ok (.iconst (-1), 1) := by decide +kernel
theorem dX8_moor_38 : decode cX8_moor 38 = .ok (.ireturn, 1) := by decide +kernel
theorem dX8_moor_39 : decode cX8_moor 39 = .ok (.aload_n 0, 1) := by decide +kernel
theorem dX8_moor_40 : decode cX8_moor 40 = .ok (.iload_n 1, 1) := by decide +kernel
theorem dX8_moor_41 : decode cX8_moor 41 = .ok (.bipush 7, 2) := by decide +kernel
theorem dX8_moor_43 : decode cX8_moor 43 = .ok (.invokevirtual 106, 3) := by decide +kernel
theorem dX8_moor_46 : decode cX8_moor 46 = .ok (.iconst 1, 1) := by decide +kernel
theorem dX8_moor_47 : decode cX8_moor 47 = .ok (.if_icmp .eq 14, 3) := by decide +kernel
theorem dX8_moor_50 : decode cX8_moor 50 = .ok (.aload_n 0, 1) := by decide +kernel
theorem dX8_moor_51 : decode cX8_moor 51 = .ok (.iload_n 1, 1) := by decide +kernel
theorem dX8_moor_52 : decode cX8_moor 52 = .ok (.bipush 9, 2) := by decide +kernel
theorem dX8_moor_54 : decode cX8_moor 54 = .ok (.invokevirtual 106, 3) := by decide +kernel
theorem dX8_moor_57 : decode cX8_moor 57 = .ok (.iconst 1, 1) := by decide +kernel
theorem dX8_moor_58 : decode cX8_moor 58 = .ok (.if_icmp .ne 6, 3) := by decide +kernel
theorem dX8_moor_61 : decode cX8_moor 61 = .ok (.bipush (-2), 2) := by decide +kernel
theorem dX8_moor_63 : decode cX8_moor 63 = .ok (.ireturn, 1) := by decide +kernel
theorem dX8_moor_64 : decode cX8_moor 64 = .ok (.aload_n 0, 1) := by decide +kernel
theorem dX8_moor_65 : decode cX8_moor 65 = .ok (.invokevirtual 127, 3) := by decide +kernel
theorem dX8_moor_68 : decode cX8_moor 68 = .ok (.aload_n 0, 1) := by decide +kernel
theorem dX8_moor_69 : decode cX8_moor 69 = .ok (.iload_n 1, 1) := by decide +kernel
theorem dX8_moor_70 : decode cX8_moor 70 = .ok (.bipush 9, 2) := by decide +kernel
theorem dX8_moor_72 : decode cX8_moor 72 = .ok (.iconst 1, 1) := by decide +kernel
theorem dX8_moor_73 : decode cX8_moor 73 = .ok (.invokevirtual 130, 3) := by decide +kernel
theorem dX8_moor_76 : decode cX8_moor 76 = .ok (.aload_n 0, 1) := by decide +kernel
theorem dX8_moor_77 : decode cX8_moor 77 = .ok (.iload_n 1, 1) := by decide +kernel
theorem dX8_moor_78 : decode cX8_moor 78 = .ok (.bipush 10, 2) := by decide +kernel
theorem dX8_moor_80 : decode cX8_moor 80 = .ok (.iload_n 2, 1) := by decide +kernel
theorem dX8_moor_81 : decode cX8_moor 81 = .ok (.invokevirtual 130, 3) := by decide +kernel
theorem dX8_moor_84 : decode cX8_moor 84 = .ok (.aload_n 0, 1) := by decide +kernel
theorem dX8_moor_85 : decode cX8_moor 85 = .ok (.iload_n 1, 1) := by decide +kernel
theorem dX8_moor_86 : decode cX8_moor 86 = .ok (.bipush 11, 2) := by decide +kernel
theorem dX8_moor_88 : decode cX8_moor 88 = .ok (.iload_n 3, 1) := by decide +kernel
theorem dX8_moor_89 : decode cX8_moor 89 = .ok (.invokevirtual 130, 3) := by decide +kernel
theorem dX8_moor_92 : decode cX8_moor 92 = .ok (.aload_n 0, 1) := by decide +kernel
theorem dX8_moor_93 : decode cX8_moor 93 = .ok (.iload_n 1, 1) := by decide +kernel
theorem dX8_moor_94 : decode cX8_moor 94 = .ok (.bipush 12, 2) := by decide +kernel
theorem dX8_moor_96 : decode cX8_moor 96 = .ok (.iload 4, 2) := by decide +kernel
theorem dX8_moor_98 : decode cX8_moor 98 = .ok (.invokevirtual 130, 3) := by decide +kernel
theorem dX8_moor_101 : decode cX8_moor 101 = .ok (.aload_n 0, 1) := by decide +kernel
theorem dX8_moor_102 : decode cX8_moor 102 = .ok (.getfield 7, 3) := by decide +kernel
theorem dX8_moor_105 : decode cX8_moor 105 = .ok (.iconst 3, 1) := by decide +kernel
theorem dX8_moor_106 : decode cX8_moor 106 = .ok (.iload_n 2, 1) := by decide +kernel
theorem dX8_moor_107 : decode cX8_moor 107 = .ok (.iadd, 1) := by decide +kernel
theorem dX8_moor_108 : decode cX8_moor 108 = .ok (.iaload, 1) := by decide +kernel
theorem dX8_moor_109 : decode cX8_moor 109 = .ok (.ireturn, 1) := by decide +kernel
set_option maxRecDepth 20000 in
theorem ggX8_weigh_X8_isShip : GoodIn wsX8_weigh wsX8_isShip := goodIn_r _ [5, 6, 7, 8, 4, 9, 24, 25, 26, 27, 28, 29, 30, 31, 32, 33, 34, 35, 36] (by decide +kernel) (by decide +kernel)
set_option maxRecDepth 20000 in
theorem gX8_weigh_X8_isShip : GoodIn wsX8_weigh (wsV RX8 124 RX8 yX8_isShip wsX8_isShip) := goodIn_app (goodIn_of _ (by decide +kernel)) ggX8_weigh_X8_isShip
set_option maxRecDepth 20000 in
theorem ggX8_weigh_X8_of : GoodIn wsX8_weigh wsX8_of := goodIn_r _ [13, 6, 24, 25, 26, 27, 28, 29, 30, 31, 32, 33, 34, 35, 36] (by decide +kernel) (by decide +kernel)
set_option maxRecDepth 20000 in
theorem gX8_weigh_X8_of : GoodIn wsX8_weigh (wsV RX8 106 RX8 yX8_of wsX8_of) := goodIn_app (goodIn_of _ (by decide +kernel)) ggX8_weigh_X8_of
set_option maxRecDepth 20000 in
theorem ggX8_weigh_X8_push : GoodIn wsX8_weigh wsX8_push := goodIn_r _ [17, 18, 19, 6, 24, 25, 26, 27, 28, 29, 30, 31, 32, 33, 34, 35, 36] (by decide +kernel) (by decide +kernel)
set_option maxRecDepth 20000 in
theorem gX8_weigh_X8_push : GoodIn wsX8_weigh (wsV RX8 127 RX8 yX8_push wsX8_push) := goodIn_app (goodIn_of _ (by decide +kernel)) ggX8_weigh_X8_push
set_option maxRecDepth 20000 in
theorem ggX8_weigh_X8_put : GoodIn wsX8_weigh wsX8_put := goodIn_r _ [23, 6, 24, 25, 26, 27, 28, 29, 30, 31, 32, 33, 34, 35, 36] (by decide +kernel) (by decide +kernel)
set_option maxRecDepth 20000 in
theorem gX8_weigh_X8_put : GoodIn wsX8_weigh (wsV RX8 130 RX8 yX8_put wsX8_put) := goodIn_app (goodIn_of _ (by decide +kernel)) ggX8_weigh_X8_put
theorem dX8_weigh_0 : decode cX8_weigh 0 = .ok (.aload_n 0, 1) := by decide +kernel
theorem dX8_weigh_1 : decode cX8_weigh 1 = .ok (.iload_n 1, 1) := by decide +kernel
theorem dX8_weigh_2 : decode cX8_weigh 2 = .ok (.invokevirtual 124, 3) := by decide +kernel
theorem dX8_weigh_5 : decode cX8_weigh 5 = .ok (.ifCond .ne 5, 3) := by decide +kernel
theorem dX8_weigh_8 : decode cX8_weigh 8 = .ok (.iconst (-1), 1) := by decide +kernel
theorem dX8_weigh_9 : decode cX8_weigh 9 = .ok (.ireturn, 1) := by decide +kernel
theorem dX8_weigh_10 : decode cX8_weigh 10 = .ok (.aload_n 0, 1) := by decide +kernel
theorem dX8_weigh_11 : decode cX8_weigh 11 = .ok (.iload_n 1, 1) := by decide +kernel
theorem dX8_weigh_12 : decode cX8_weigh 12 = .ok (.bipush 7, 2) := by decide +kernel
theorem dX8_weigh_14 : decode cX8_weigh 14 = .ok (.invokevirtual 106, 3) := by decide +kernel
theorem dX8_weigh_17 : decode cX8_weigh 17 = .ok (.iconst 1, 1) := by decide +kernel
theorem dX8_weigh_18 : decode cX8_weigh 18 = .ok (.if_icmp .eq 13, 3) := by decide +kernel
theorem dX8_weigh_21 : decode cX8_weigh 21 = .ok (.aload_n 0, 1) := by decide +kernel
theorem dX8_weigh_22 : decode cX8_weigh 22 = .ok (.iload_n 1, 1) := by decide +kernel
theorem dX8_weigh_23 : decode cX8_weigh 23 = .ok (.bipush 9, 2) := by decide +kernel
theorem dX8_weigh_25 : decode cX8_weigh 25 = .ok (.invokevirtual 106, 3) := by decide +kernel
theorem dX8_weigh_28 : decode cX8_weigh 28 = .ok (.ifCond .ne 6, 3) := by decide +kernel
theorem dX8_weigh_31 : decode cX8_weigh 31 = .ok (.bipush (-2), 2) := by decide +kernel
theorem dX8_weigh_33 : decode cX8_weigh 33 = .ok (.ireturn, 1) := by decide +kernel
theorem dX8_weigh_34 : decode cX8_weigh 34 = .ok (.aload_n 0, 1) := by decide +kernel
theorem dX8_weigh_35 : decode cX8_weigh 35 = .ok (.invokevirtual 127, 3) := by decide +kernel
theorem dX8_weigh_38 : decode cX8_weigh 38 = .ok (.aload_n 0, 1) := by decide +kernel
theorem dX8_weigh_39 : decode cX8_weigh 39 = .ok (.iload_n 1, 1) := by decide +kernel
theorem dX8_weigh_40 : decode cX8_weigh 40 = .ok (.bipush 12, 2) := by decide +kernel
theorem dX8_weigh_42 : decode cX8_weigh 42 = .ok (.invokevirtual 106, 3) := by decide +kernel
theorem dX8_weigh_45 : decode cX8_weigh 45 = .ok (.istore_n 2, 1) := by decide +kernel
theorem dX8_weigh_46 : decode cX8_weigh 46 = .ok (.aload_n 0, 1) := by decide +kernel
theorem dX8_weigh_47 : decode cX8_weigh 47 = .ok (.iload_n 1, 1) := by decide +kernel
theorem dX8_weigh_48 : decode cX8_weigh 48 = .ok (.bipush 9, 2) := by decide +kernel
theorem dX8_weigh_50 : decode cX8_weigh 50 = .ok (.iconst 0, 1) := by decide +kernel
theorem dX8_weigh_51 : decode cX8_weigh 51 = .ok (.invokevirtual 130, 3) := by decide +kernel
theorem dX8_weigh_54 : decode cX8_weigh 54 = .ok (.aload_n 0, 1) := by decide +kernel
theorem dX8_weigh_55 : decode cX8_weigh 55 = .ok (.iload_n 1, 1) := by decide +kernel
theorem dX8_weigh_56 : decode cX8_weigh 56 = .ok (.bipush 10, 2) := by decide +kernel
theorem dX8_weigh_58 : decode cX8_weigh 58 = .ok (.iconst 0, 1) := by decide +kernel
theorem dX8_weigh_59 : decode cX8_weigh 59 = .ok (.invokevirtual 130, 3) := by decide +kernel
theorem dX8_weigh_62 : decode cX8_weigh 62 = .ok (.aload_n 0, 1) := by decide +kernel
theorem dX8_weigh_63 : decode cX8_weigh 63 = .ok (.iload_n 1, 1) := by decide +kernel
theorem dX8_weigh_64 : decode cX8_weigh 64 = .ok (.bipush 11, 2) := by decide +kernel
theorem dX8_weigh_66 : decode cX8_weigh 66 = .ok (.iconst 0, 1) := by decide +kernel
theorem dX8_weigh_67 : decode cX8_weigh 67 = .ok (.invokevirtual 130, 3) := by decide +kernel
theorem dX8_weigh_70 : decode cX8_weigh 70 = .ok (.aload_n 0, 1) := by decide +kernel
theorem dX8_weigh_71 : decode cX8_weigh 71 = .ok (.iload_n 1, 1) := by decide +kernel
theorem dX8_weigh_72 : decode cX8_weigh 72 = .ok (.bipush 12, 2) := by decide +kernel
theorem dX8_weigh_74 : decode cX8_weigh 74 = .ok (.iconst 0, 1) := by decide +kernel
theorem dX8_weigh_75 : decode cX8_weigh 75 = .ok (.invokevirtual 130, 3) := by decide +kernel
theorem dX8_weigh_78 : decode cX8_weigh 78 = .ok (.iload_n 2, 1) := by decide +kernel
theorem dX8_weigh_79 : decode cX8_weigh 79 = .ok (.ireturn, 1) := by decide +kernel
set_option maxRecDepth 20000 in
theorem ggX8_isField_X8_isColumn : GoodIn wsX8_isField wsX8_isColumn := goodIn_r _ [5, 6, 7, 8, 4, 9, 10, 11, 12, 13, 14, 15, 16, 17, 18, 19, 20, 21, 22] (by decide +kernel) (by decide +kernel)
set_option maxRecDepth 20000 in
theorem gX8_isField_X8_isColumn : GoodIn wsX8_isField (wsV RX8 133 RX8 yX8_isColumn wsX8_isColumn) := goodIn_app (goodIn_of _ (by decide +kernel)) ggX8_isField_X8_isColumn
set_option maxRecDepth 20000 in
theorem ggX8_isField_X8_in : GoodIn wsX8_isField wsX8_in := goodIn_r _ [9] (by decide +kernel) (by decide +kernel)
set_option maxRecDepth 20000 in
theorem gX8_isField_X8_in : GoodIn wsX8_isField (va_wsS RX8 40 yX8_in wsX8_in) := goodIn_app (goodIn_of _ (by decide +kernel)) ggX8_isField_X8_in
theorem dX8_isField_0 : decode cX8_isField 0 = .ok (.aload_n 0, 1) := by decide +kernel
theorem dX8_isField_1 : decode cX8_isField 1 = .ok (.iload_n 1, 1) := by decide +kernel
theorem dX8_isField_2 : decode cX8_isField 2 = .ok (.invokevirtual 133, 3) := by decide +kernel
theorem dX8_isField_5 : decode cX8_isField 5 = .ok (.ifCond .eq 17, 3) := by decide +kernel
theorem dX8_isField_8 : decode cX8_isField 8 = .ok (.iload_n 2, 1) := by decide +kernel
theorem dX8_isField_9 : decode cX8_isField 9 = .ok (.iconst 0, 1) := by decide +kernel
theorem dX8_isField_10 : decode cX8_isField 10 = .ok (.bipush 19, 2) := by decide +kernel
theorem dX8_isField_12 : decode cX8_isField 12 = .ok (.invokestatic 40, 3) := by decide +kernel
theorem dX8_isField_15 : decode cX8_isField 15 = .ok (.ifCond .eq 7, 3) := by decide +kernel
theorem dX8_isField_18 : decode cX8_isField 18 = .ok (.iconst 1, 1) := by decide +kernel
theorem dX8_isField_19 : decode cX8_isField 19 = .ok (.goto 4, 3) := by decide +kernel
theorem dX8_isField_22 : decode cX8_isField 22 = .ok (.iconst 0, 1) := by decide +kernel
theorem dX8_isField_23 : decode cX8_isField 23 = .ok (.ireturn, 1) := by decide +kernel
set_option maxRecDepth 20000 in
theorem ggX8_drag_X8_of : GoodIn wsX8_drag wsX8_of := goodIn_r _ [5, 6, 22, 23, 24, 25, 26, 27, 28, 29, 30, 31, 32, 33, 34] (by decide +kernel) (by decide +kernel)
set_option maxRecDepth 20000 in
theorem gX8_drag_X8_of : GoodIn wsX8_drag (wsV RX8 106 RX8 yX8_of wsX8_of) := goodIn_app (goodIn_of _ (by decide +kernel)) ggX8_drag_X8_of
set_option maxRecDepth 20000 in
theorem ggX8_drag_X8_isField : GoodIn wsX8_drag wsX8_isField := goodIn_r _ [10, 11, 12, 13, 4, 14, 6, 15, 16, 17, 22, 23, 24, 25, 26, 27, 28, 29, 30, 31, 32, 33, 34] (by decide +kernel) (by decide +kernel)
set_option maxRecDepth 20000 in
theorem gX8_drag_X8_isField : GoodIn wsX8_drag (wsV RX8 136 RX8 yX8_isField wsX8_isField) := goodIn_app (goodIn_of _ (by decide +kernel)) ggX8_drag_X8_isField
set_option maxRecDepth 20000 in
theorem ggX8_drag_X8_put : GoodIn wsX8_drag wsX8_put := goodIn_r _ [21, 6, 22, 23, 24, 25, 26, 27, 28, 29, 30, 31, 32, 33, 34] (by decide +kernel) (by decide +kernel)
set_option maxRecDepth 20000 in
theorem gX8_drag_X8_put : GoodIn wsX8_drag (wsV RX8 130 RX8 yX8_put wsX8_put) := goodIn_app (goodIn_of _ (by decide +kernel)) ggX8_drag_X8_put
theorem dX8_drag_0 : decode cX8_drag 0 = .ok (.iload_n 2, 1) := by decide +kernel
theorem dX8_drag_1 : decode cX8_drag 1 = .ok (.iconst 1, 1) := by decide +kernel
theorem dX8_drag_2 : decode cX8_drag 2 = .ok (.if_icmp .ne 7, 3) := by decide +kernel
theorem dX8_drag_5 : decode cX8_drag 5 = .ok (.iconst 1, 1) := by decide +kernel
theorem dX8_drag_6 : decode cX8_drag 6 = .ok (.goto 13, 3) := by decide +kernel
theorem dX8_drag_9 : decode cX8_drag 9 = .ok (.iload_n 2, 1) := by decide +kernel
theorem dX8_drag_10 : decode cX8_drag 10 = .ok (.iconst 3, 1) := by decide +kernel
theorem dX8_drag_11 : decode cX8_drag 11 = .ok (.if_icmp .ne 7, 3) := by decide +kernel
theorem dX8_drag_14 : decode cX8_drag 14 = .ok (.iconst (-1), 1) := by decide +kernel
theorem dX8_drag_15 : decode cX8_drag 15 = .ok (.goto 4, 3) := by decide +kernel
theorem dX8_drag_18 : decode cX8_drag 18 = .ok (.iconst 0, 1) := by decide +kernel
theorem dX8_drag_19 : decode cX8_drag 19 = .ok (.istore_n 3, 1) := by decide +kernel
theorem dX8_drag_20 : decode cX8_drag 20 = .ok (.iload_n 2, 1) := by decide +kernel
theorem dX8_drag_21 : decode cX8_drag 21 = .ok (.ifCond .ne 7, 3) := by decide +kernel
theorem dX8_drag_24 : decode cX8_drag 24 = .ok (.iconst (-1), 1) := by decide +kernel
theorem dX8_drag_25 : decode cX8_drag 25 = .ok (.goto 13, 3) := by decide +kernel
theorem dX8_drag_28 : decode cX8_drag 28 = .ok (.iload_n 2, 1) := by decide +kernel
theorem dX8_drag_29 : decode cX8_drag 29 = .ok (.iconst 2, 1) := by decide +kernel
theorem dX8_drag_30 : decode cX8_drag 30 = .ok (.if_icmp .ne 7, 3) := by decide +kernel
theorem dX8_drag_33 : decode cX8_drag 33 = .ok (.iconst 1, 1) := by decide +kernel
theorem dX8_drag_34 : decode cX8_drag 34 = .ok (.goto 4, 3) := by decide +kernel
theorem dX8_drag_37 : decode cX8_drag 37 = .ok (.iconst 0, 1) := by decide +kernel
theorem dX8_drag_38 : decode cX8_drag 38 = .ok (.istore 4, 2) := by decide +kernel
theorem dX8_drag_40 : decode cX8_drag 40 = .ok (.aload_n 0, 1) := by decide +kernel
theorem dX8_drag_41 : decode cX8_drag 41 = .ok (.aload_n 0, 1) := by decide +kernel
theorem dX8_drag_42 : decode cX8_drag 42 = .ok (.iload_n 1, 1) := by decide +kernel
theorem dX8_drag_43 : decode cX8_drag 43 = .ok (.iconst 0, 1) := by decide +kernel
theorem dX8_drag_44 : decode cX8_drag 44 = .ok (.invokevirtual 106, 3) := by decide +kernel
theorem dX8_drag_47 : decode cX8_drag 47 = .ok (.iload_n 3, 1) := by decide +kernel
theorem dX8_drag_48 : decode cX8_drag 48 = .ok (.iadd, 1) := by decide +kernel
theorem dX8_drag_49 : decode cX8_drag 49 = .ok (.aload_n 0, 1) := by decide +kernel
theorem dX8_drag_50 : decode cX8_drag 50 = .ok (.iload_n 1, 1) := by decide +kernel
theorem dX8_drag_51 : decode cX8_drag 51 = .ok (.iconst 1, 1) := by decide +kernel
theorem dX8_drag_52 : decode cX8_drag 52 = .ok (.invokevirtual 106, 3) := by decide +kernel
theorem dX8_drag_55 : decode cX8_drag 55 = .ok (.iload 4, 2) := by decide +kernel
theorem dX8_drag_57 : decode cX8_drag 57 = .ok (.iadd, 1) := by decide +kernel
theorem dX8_drag_58 : decode cX8_drag 58 = .ok (.invokevirtual 136, 3) := by decide +kernel
theorem dX8_drag_61 : decode cX8_drag 61 = .ok (.ifCond .eq 43, 3) := by decide +kernel
theorem dX8_drag_64 : decode cX8_drag 64 = .ok (.aload_n 0, 1) := by decide +kernel
theorem dX8_drag_65 : decode cX8_drag 65 = .ok (.iload_n 1, 1) := by decide +kernel
theorem dX8_drag_66 : decode cX8_drag 66 = .ok (.bipush 9, 2) := by decide +kernel
theorem dX8_drag_68 : decode cX8_drag 68 = .ok (.invokevirtual 106, 3) := by decide +kernel
theorem dX8_drag_71 : decode cX8_drag 71 = .ok (.ifCond .eq 29, 3) := by decide +kernel
theorem dX8_drag_74 : decode cX8_drag 74 = .ok (.aload_n 0, 1) := by decide +kernel
theorem dX8_drag_75 : decode cX8_drag 75 = .ok (.aload_n 0, 1) := by decide +kernel
theorem dX8_drag_76 : decode cX8_drag 76 = .ok (.iload_n 1, 1) := by decide +kernel
theorem dX8_drag_77 : decode cX8_drag 77 = .ok (.bipush 10, 2) := by decide +kernel
theorem dX8_drag_79 : decode cX8_drag 79 = .ok (.invokevirtual 106, 3) := by decide +kernel
theorem dX8_drag_82 : decode cX8_drag 82 = .ok (.iload_n 3, 1) := by decide +kernel
theorem dX8_drag_83 : decode cX8_drag 83 = .ok (.iadd, 1) := by decide +kernel
theorem dX8_drag_84 : decode cX8_drag 84 = .ok (.aload_n 0, 1) := by decide +kernel
theorem dX8_drag_85 : decode cX8_drag 85 = .ok (.iload_n 1, 1) := by decide +kernel
theorem dX8_drag_86 : decode cX8_drag 86 = .ok (.bipush 11, 2) := by decide +kernel
theorem dX8_drag_88 : decode cX8_drag 88 = .ok (.invokevirtual 106, 3) := by decide +kernel
theorem dX8_drag_91 : decode cX8_drag 91 = .ok (.iload 4, 2) := by decide +kernel
theorem dX8_drag_93 : decode cX8_drag 93 = .ok (.iadd, 1) := by decide +kernel
theorem dX8_drag_94 : decode cX8_drag 94 = .ok (.invokevirtual 136, 3) := by decide +kernel
theorem dX8_drag_97 : decode cX8_drag 97 = .ok (.ifCond .eq 7, 3) := by decide +kernel
theorem dX8_drag_100 : decode cX8_drag 100 = .ok (.iconst 1, 1) := by decide +kernel
theorem dX8_drag_101 : decode cX8_drag 101 = .ok (.goto 4, 3) := by decide +kernel
theorem dX8_drag_104 : decode cX8_drag 104 = .ok (.iconst 0, 1) := by decide +kernel
theorem dX8_drag_105 : decode cX8_drag 105 = .ok (.istore 5, 2) := by decide +kernel
theorem dX8_drag_107 : decode cX8_drag 107 = .ok (.iload 5, 2) := by decide +kernel
theorem dX8_drag_109 : decode cX8_drag 109 = .ok (.ifCond .ne 13, 3) := by decide +kernel
theorem dX8_drag_112 : decode cX8_drag 112 = .ok (.aload_n 0, 1) := by decide +kernel
theorem dX8_drag_113 : decode cX8_drag 113 = .ok (.iload_n 1, 1) := by decide +kernel
theorem dX8_drag_114 : decode cX8_drag 114 = .ok (.bipush 7, 2) := by decide +kernel
theorem dX8_drag_116 : decode cX8_drag 116 = .ok (.iconst 1, 1) := by decide +kernel
theorem dX8_drag_117 : decode cX8_drag 117 = .ok (.invokevirtual 130, 3) := by decide +kernel
theorem dX8_drag_120 : decode cX8_drag 120 = .ok (.iconst 1, 1) := by decide +kernel
theorem dX8_drag_121 : decode cX8_drag 121 = .ok (.ireturn, 1) := by decide +kernel
theorem dX8_drag_122 : decode cX8_drag 122 = .ok (.aload_n 0, 1) := by decide +kernel
theorem dX8_drag_123 : decode cX8_drag 123 = .ok (.iload_n 1, 1) := by decide +kernel
theorem dX8_drag_124 : decode cX8_drag 124 = .ok (.iconst 0, 1) := by decide +kernel
theorem dX8_drag_125 : decode cX8_drag 125 = .ok (.aload_n 0, 1) := by decide +kernel
theorem dX8_drag_126 : decode cX8_drag 126 = .ok (.iload_n 1, 1) := by decide +kernel
theorem dX8_drag_127 : decode cX8_drag 127 = .ok (.iconst 0, 1) := by decide +kernel
theorem dX8_drag_128 : decode cX8_drag 128 = .ok (.invokevirtual 106, 3) := by decide +kernel
theorem dX8_drag_131 : decode cX8_drag 131 = .ok (.iload_n 3, 1) := by decide +kernel
theorem dX8_drag_132 : decode cX8_drag 132 = .ok (.iadd, 1) := by decide +kernel
theorem dX8_drag_133 : decode cX8_drag 133 = .ok (.invokevirtual 130, 3) := by decide +kernel
theorem dX8_drag_136 : decode cX8_drag 136 = .ok (.aload_n 0, 1) := by decide +kernel
theorem dX8_drag_137 : decode cX8_drag 137 = .ok (.iload_n 1, 1) := by decide +kernel
theorem dX8_drag_138 : decode cX8_drag 138 = .ok (.iconst 1, 1) := by decide +kernel
theorem dX8_drag_139 : decode cX8_drag 139 = .ok (.aload_n 0, 1) := by decide +kernel
theorem dX8_drag_140 : decode cX8_drag 140 = .ok (.iload_n 1, 1) := by decide +kernel
theorem dX8_drag_141 : decode cX8_drag 141 = .ok (.iconst 1, 1) := by decide +kernel
theorem dX8_drag_142 : decode cX8_drag 142 = .ok (.invokevirtual 106, 3) := by decide +kernel
theorem dX8_drag_145 : decode cX8_drag 145 = .ok (.iload 4, 2) := by decide +kernel
theorem dX8_drag_147 : decode cX8_drag 147 = .ok (.iadd, 1) := by decide +kernel
theorem dX8_drag_148 : decode cX8_drag 148 = .ok (.invokevirtual 130, 3) := by decide +kernel
theorem dX8_drag_151 : decode cX8_drag 151 = .ok (.aload_n 0, 1) := by decide +kernel
theorem dX8_drag_152 : decode cX8_drag 152 = .ok (.iload_n 1, 1) := by decide +kernel
theorem dX8_drag_153 : decode cX8_drag 153 = .ok (.bipush 9, 2) := by decide +kernel
theorem dX8_drag_155 : decode cX8_drag 155 = .ok (.invokevirtual 106, 3) := by decide +kernel
theorem dX8_drag_158 : decode cX8_drag 158 = .ok (.iconst 1, 1) := by decide +kernel
theorem dX8_drag_159 : decode cX8_drag 159 = .ok (.if_icmp .ne 36, 3) := by decide +kernel
theorem dX8_drag_162 : decode cX8_drag 162 = .ok (.aload_n 0, 1) := by decide +kernel
theorem dX8_drag_163 : decode cX8_drag 163 = .ok (.iload_n 1, 1) := by decide +kernel
theorem dX8_drag_164 : decode cX8_drag 164 = .ok (.bipush 10, 2) := by decide +kernel
theorem dX8_drag_166 : decode cX8_drag 166 = .ok (.aload_n 0, 1) := by decide +kernel
theorem dX8_drag_167 : decode cX8_drag 167 = .ok (.iload_n 1, 1) := by decide +kernel
theorem dX8_drag_168 : decode cX8_drag 168 = .ok (.bipush 10, 2) := by decide +kernel
theorem dX8_drag_170 : decode cX8_drag 170 = .ok (.invokevirtual 106, 3) := by decide +kernel
theorem dX8_drag_173 : decode cX8_drag 173 = .ok (.iload_n 3, 1) := by decide +kernel
theorem dX8_drag_174 : decode cX8_drag 174 = .ok (.iadd, 1) := by decide +kernel
theorem dX8_drag_175 : decode cX8_drag 175 = .ok (.invokevirtual 130, 3) := by decide +kernel
theorem dX8_drag_178 : decode cX8_drag 178 = .ok (.aload_n 0, 1) := by decide +kernel
theorem dX8_drag_179 : decode cX8_drag 179 = .ok (.iload_n 1, 1) := by decide +kernel
theorem dX8_drag_180 : decode cX8_drag 180 = .ok (.bipush 11, 2) := by decide +kernel
theorem dX8_drag_182 : decode cX8_drag 182 = .ok (.aload_n 0, 1) := by decide +kernel
theorem dX8_drag_183 : decode cX8_drag 183 = .ok (.iload_n 1, 1) := by decide +kernel
theorem dX8_drag_184 : decode cX8_drag 184 = .ok (.bipush 11, 2) := by decide +kernel
theorem dX8_drag_186 : decode cX8_drag 186 = .ok (.invokevirtual 106, 3) := by decide +kernel
theorem dX8_drag_189 : decode cX8_drag 189 = .ok (.iload 4, 2) := by decide +kernel
theorem dX8_drag_191 : decode cX8_drag 191 = .ok (.iadd, 1) := by decide +kernel
theorem dX8_drag_192 : decode cX8_drag 192 = .ok (.invokevirtual 130, 3) := by decide +kernel
theorem dX8_drag_195 : decode cX8_drag 195 = .ok (.aload_n 0, 1) := by decide +kernel
theorem dX8_drag_196 : decode cX8_drag 196 = .ok (.iload_n 1, 1) := by decide +kernel
theorem dX8_drag_197 : decode cX8_drag 197 = .ok (.bipush 8, 2) := by decide +kernel
theorem dX8_drag_199 : decode cX8_drag 199 = .ok (.aload_n 0, 1) := by decide +kernel
theorem dX8_drag_200 : decode cX8_drag 200 = .ok (.iload_n 1, 1) := by decide +kernel
theorem dX8_drag_201 : decode cX8_drag 201 = .ok (.bipush 8, 2) := by decide +kernel
theorem dX8_drag_203 : decode cX8_drag 203 = .ok (.invokevirtual 106, 3) := by decide +kernel
theorem dX8_drag_206 : decode cX8_drag 206 = .ok (.iconst 1, 1) := by decide +kernel
theorem dX8_drag_207 : decode cX8_drag 207 = .ok (.iadd, 1) := by decide +kernel
theorem dX8_drag_208 : decode cX8_drag 208 = .ok (.invokevirtual 130, 3) := by decide +kernel
theorem dX8_drag_211 : decode cX8_drag 211 = .ok (.iconst 0, 1) := by decide +kernel
theorem dX8_drag_212 : decode cX8_drag 212 = .ok (.ireturn, 1) := by decide +kernel
set_option maxRecDepth 20000 in
theorem ggX8_hours_X8_in : GoodIn wsX8_hours wsX8_in := goodIn_r _ [5] (by decide +kernel) (by decide +kernel)
set_option maxRecDepth 20000 in
theorem gX8_hours_X8_in : GoodIn wsX8_hours (va_wsS RX8 40 yX8_in wsX8_in) := goodIn_app (goodIn_of _ (by decide +kernel)) ggX8_hours_X8_in
set_option maxRecDepth 20000 in
theorem ggX8_hours_X8_isWind : GoodIn wsX8_hours wsX8_isWind := goodIn_r _ [8, 2, 3, 4, 5] (by decide +kernel) (by decide +kernel)
set_option maxRecDepth 20000 in
theorem gX8_hours_X8_isWind : GoodIn wsX8_hours (va_wsS RX8 140 yX8_isWind wsX8_isWind) := goodIn_app (goodIn_of _ (by decide +kernel)) ggX8_hours_X8_isWind
set_option maxRecDepth 20000 in
theorem ggX8_hours_X8_push : GoodIn wsX8_hours wsX8_push := goodIn_r _ [12, 13, 14, 1, 76, 77, 78, 79, 80, 81, 82, 83, 84, 85, 86, 87, 88] (by decide +kernel) (by decide +kernel)
set_option maxRecDepth 20000 in
theorem gX8_hours_X8_push : GoodIn wsX8_hours (wsV RX8 127 RX8 yX8_push wsX8_push) := goodIn_app (goodIn_of _ (by decide +kernel)) ggX8_hours_X8_push
set_option maxRecDepth 20000 in
theorem ggX8_hours_X8_of : GoodIn wsX8_hours wsX8_of := goodIn_r _ [18, 1, 76, 77, 78, 79, 80, 81, 82, 83, 84, 85, 86, 87, 88] (by decide +kernel) (by decide +kernel)
set_option maxRecDepth 20000 in
theorem gX8_hours_X8_of : GoodIn wsX8_hours (wsV RX8 106 RX8 yX8_of wsX8_of) := goodIn_app (goodIn_of _ (by decide +kernel)) ggX8_hours_X8_of
set_option maxRecDepth 20000 in
theorem ggX8_hours_X8_holds : GoodIn wsX8_hours wsX8_holds := goodIn_r _ [22, 23, 24, 25, 4, 26, 15, 16, 17, 18, 1, 27, 28, 29, 30, 31, 32, 33, 34, 35, 36, 37, 38, 39, 40, 41, 42, 43, 44, 45, 46, 47, 48, 49, 50, 51, 52, 53, 54, 55, 56, 57, 58, 59, 76, 77, 78, 79, 80, 81, 82, 83, 84, 85, 86, 87, 88] (by decide +kernel) (by decide +kernel)
set_option maxRecDepth 20000 in
theorem gX8_hours_X8_holds : GoodIn wsX8_hours (wsV RX8 143 RX8 yX8_holds wsX8_holds) := goodIn_app (goodIn_of _ (by decide +kernel)) ggX8_hours_X8_holds
set_option maxRecDepth 20000 in
theorem ggX8_hours_X8_drag : GoodIn wsX8_hours wsX8_drag := goodIn_r _ [63, 15, 16, 17, 4, 18, 1, 64, 65, 66, 67, 68, 69, 70, 71, 2, 3, 5, 72, 73, 74, 75, 76, 77, 78, 79, 80, 81, 82, 83, 84, 85, 86, 87, 88] (by decide +kernel) (by decide +kernel)
set_option maxRecDepth 20000 in
theorem gX8_hours_X8_drag : GoodIn wsX8_hours (wsV RX8 146 RX8 yX8_drag wsX8_drag) := goodIn_app (goodIn_of _ (by decide +kernel)) ggX8_hours_X8_drag
theorem dX8_hours_0 : decode cX8_hours 0 = .ok (.iload_n 1, 1) := by decide +kernel
theorem dX8_hours_1 : decode cX8_hours 1 = .ok (.iconst 1, 1) := by decide +kernel
theorem dX8_hours_2 : decode cX8_hours 2 = .ok (.bipush 24, 2) := by decide +kernel
theorem dX8_hours_4 : decode cX8_hours 4 = .ok (.invokestatic 40, 3) := by decide +kernel
theorem dX8_hours_7 : decode cX8_hours 7 = .ok (.ifCond .eq 19, 3) := by decide +kernel
theorem dX8_hours_10 : decode cX8_hours 10 = .ok (.iload_n 2, 1) := by decide +kernel
theorem dX8_hours_11 : decode cX8_hours 11 = .ok (.invokestatic 140, 3) := by decide +kernel
theorem dX8_hours_14 : decode cX8_hours 14 = .ok (.ifCond .eq 12, 3) := by decide +kernel
theorem dX8_hours_17 : decode cX8_hours 17 = .ok (.iload_n 3, 1) := by decide +kernel
theorem dX8_hours_18 : decode cX8_hours 18 = .ok (.iconst 0, 1) := by decide +kernel
theorem dX8_hours_19 : decode cX8_hours 19 = .ok (.iconst 3, 1) := by decide +kernel
theorem dX8_hours_20 : decode cX8_hours 20 = .ok (.invokestatic 40, 3) := by decide +kernel
theorem dX8_hours_23 : decode cX8_hours 23 = .ok (.ifCond .ne 5, 3) := by decide +kernel
theorem dX8_hours_26 : decode cX8_hours 26 = .ok (.iconst (-1), 1) := by decide +kernel
theorem dX8_hours_27 : decode cX8_hours 27 = .ok (.ireturn, 1) := by decide +kernel
theorem dX8_hours_28 : decode cX8_hours 28 = .ok (.aload_n 0, 1) := by decide +kernel
theorem dX8_hours_29 : decode cX8_hours 29 = .ok (.getfield 7, 3) := by decide +kernel
theorem dX8_hours_32 : decode cX8_hours 32 = .ok (.iconst 2, 1) := by decide +kernel
theorem dX8_hours_33 : decode cX8_hours 33 = .ok (.iaload, 1) := by decide +kernel
theorem dX8_hours_34 : decode cX8_hours 34 = .ok (.iload_n 1, 1) := by decide +kernel
theorem dX8_hours_35 : decode cX8_hours 35 = .ok (.iadd, 1) := by decide +kernel
theorem dX8_hours_36 : decode cX8_hours 36 = .ok (.sipush 999, 3) := by decide +kernel
theorem dX8_hours_39 : decode cX8_hours 39 = .ok (.if_icmp .le 6, 3) := by decide +kernel
theorem dX8_hours_42 : decode cX8_hours 42 = .ok (.bipush (-2), 2) := by decide +kernel
theorem dX8_hours_44 : decode cX8_hours 44 = .ok (.ireturn, 1) := by decide +kernel
theorem dX8_hours_45 : decode cX8_hours 45 = .ok (.aload_n 0, 1) := by decide +kernel
theorem dX8_hours_46 : decode cX8_hours 46 = .ok (.invokevirtual 127, 3) := by decide +kernel
theorem dX8_hours_49 : decode cX8_hours 49 = .ok (.iconst 0, 1) := by decide +kernel
theorem dX8_hours_50 : decode cX8_hours 50 = .ok (.istore 4, 2) := by decide +kernel
theorem dX8_hours_52 : decode cX8_hours 52 = .ok (.iconst 0, 1) := by decide +kernel
theorem dX8_hours_53 : decode cX8_hours 53 = .ok (.istore 5, 2) := by decide +kernel
theorem dX8_hours_55 : decode cX8_hours 55 = .ok (.iload 5, 2) := by decide +kernel
theorem dX8_hours_57 : decode cX8_hours 57 = .ok (.iload_n 1, 1) := by decide +kernel
theorem dX8_hours_58 : decode cX8_hours 58 = .ok (.if_icmp .ge 76, 3) := by decide +kernel
theorem dX8_hours_61 : decode cX8_hours 61 = .ok (.iconst 0, 1) := by decide +kernel
theorem dX8_hours_62 : decode cX8_hours 62 = .ok (.istore 6, 2) := by decide +kernel
theorem dX8_hours_64 : decode cX8_hours 64 = .ok (.iload 6, 2) := by decide +kernel
theorem dX8_hours_66 : decode cX8_hours 66 = .ok (.aload_n 0, 1) := by decide +kernel
theorem dX8_hours_67 : decode cX8_hours 67 = .ok (.getfield 7, 3) := by decide +kernel
theorem dX8_hours_70 : decode cX8_hours 70 = .ok (.iconst 1, 1) := by decide +kernel
theorem dX8_hours_71 : decode cX8_hours 71 = .ok (.iaload, 1) := by decide +kernel
theorem dX8_hours_72 : decode cX8_hours 72 = .ok (.if_icmp .ge 46, 3) := by decide +kernel
theorem dX8_hours_75 : decode cX8_hours 75 = .ok (.iload 4, 2) := by decide +kernel
theorem dX8_hours_77 : decode cX8_hours 77 = .ok (.aload_n 0, 1) := by decide +kernel
theorem dX8_hours_78 : decode cX8_hours 78 = .ok (.iload 6, 2) := by decide +kernel
theorem dX8_hours_80 : decode cX8_hours 80 = .ok (.bipush 7, 2) := by decide +kernel
theorem dX8_hours_82 : decode cX8_hours 82 = .ok (.invokevirtual 106, 3) := by decide +kernel
theorem dX8_hours_85 : decode cX8_hours 85 = .ok (.ifCond .ne 23, 3) := by decide +kernel
theorem dX8_hours_88 : decode cX8_hours 88 = .ok (.aload_n 0, 1) := by decide +kernel
theorem dX8_hours_89 : decode cX8_hours 89 = .ok (.iload 6, 2) := by decide +kernel
theorem dX8_hours_91 : decode cX8_hours 91 = .ok (.iload_n 2, 1) := by decide +kernel
theorem dX8_hours_92 : decode cX8_hours 92 = .ok (.invokevirtual 143, 3) := by decide +kernel
theorem dX8_hours_95 : decode cX8_hours 95 = .ok (.ifCond .ne 13, 3) := by decide +kernel
theorem dX8_hours_98 : decode cX8_hours 98 = .ok (.aload_n 0, 1) := by decide +kernel
theorem dX8_hours_99 : decode cX8_hours 99 = .ok (.iload 6, 2) := by decide +kernel
theorem dX8_hours_101 : decode cX8_hours 101 = .ok (.iload_n 3, 1) := by decide +kernel
theorem dX8_hours_102 : decode cX8_hours 102 = .ok (.invokevirtual 146, 3) := by decide +kernel
theorem dX8_hours_105 : decode cX8_hours 105 = .ok (.goto 4, 3) := by decide +kernel
theorem dX8_hours_108 : decode cX8_hours 108 = .ok (.iconst 0, 1) := by decide +kernel
theorem dX8_hours_109 : decode cX8_hours 109 = .ok (.iadd, 1) := by decide +kernel
theorem dX8_hours_110 : decode cX8_hours 110 = .ok (.istore 4, 2) := by decide +kernel
theorem dX8_hours_112 : decode cX8_hours 112 = .ok (.iinc 6 1, 3) := by decide +kernel
theorem dX8_hours_115 : decode cX8_hours 115 = .ok (.goto (-51), 3) := by decide +kernel
theorem dX8_hours_118 : decode cX8_hours 118 = .ok (.aload_n 0, 1) := by decide +kernel
theorem dX8_hours_119 : decode cX8_hours 119 = .ok (.getfield 7, 3) := by decide +kernel
theorem dX8_hours_122 : decode cX8_hours 122 = .ok (.iconst 2, 1) := by decide +kernel
theorem dX8_hours_123 : decode cX8_hours 123 = .ok (.dup2, 1) := by decide +kernel
theorem dX8_hours_124 : decode cX8_hours 124 = .ok (.iaload, 1) := by decide +kernel
theorem dX8_hours_125 : decode cX8_hours 125 = .ok (.iconst 1, 1) := by decide +kernel
theorem dX8_hours_126 : decode cX8_hours 126 = .ok (.iadd, 1) := by decide +kernel
theorem dX8_hours_127 : decode cX8_hours 127 = .ok (.iastore, 1) := by decide +kernel
theorem dX8_hours_128 : decode cX8_hours 128 = .ok (.iinc 5 1, 3) := by decide +kernel
theorem dX8_hours_131 : decode cX8_hours 131 = .ok (.goto (-76), 3) := by decide +kernel
theorem dX8_hours_134 : decode cX8_hours 134 = .ok (.iload 4, 2) := by decide +kernel
theorem dX8_hours_136 : decode cX8_hours 136 = .ok (.ireturn, 1) := by decide +kernel
set_option maxRecDepth 20000 in
theorem ggX8_anchor_X8_isShip : GoodIn wsX8_anchor wsX8_isShip := goodIn_r _ [5, 6, 7, 8, 4, 9, 14, 15, 16, 17, 18, 19, 20, 21, 22, 23, 24, 25, 26] (by decide +kernel) (by decide +kernel)
set_option maxRecDepth 20000 in
theorem gX8_anchor_X8_isShip : GoodIn wsX8_anchor (wsV RX8 124 RX8 yX8_isShip wsX8_isShip) := goodIn_app (goodIn_of _ (by decide +kernel)) ggX8_anchor_X8_isShip
set_option maxRecDepth 20000 in
theorem ggX8_anchor_X8_in : GoodIn wsX8_anchor wsX8_in := goodIn_r _ [9] (by decide +kernel) (by decide +kernel)
set_option maxRecDepth 20000 in
theorem gX8_anchor_X8_in : GoodIn wsX8_anchor (va_wsS RX8 40 yX8_in wsX8_in) := goodIn_app (goodIn_of _ (by decide +kernel)) ggX8_anchor_X8_in
set_option maxRecDepth 20000 in
theorem ggX8_anchor_X8_of : GoodIn wsX8_anchor wsX8_of := goodIn_r _ [13, 6, 14, 15, 16, 17, 18, 19, 20, 21, 22, 23, 24, 25, 26] (by decide +kernel) (by decide +kernel)
set_option maxRecDepth 20000 in
theorem gX8_anchor_X8_of : GoodIn wsX8_anchor (wsV RX8 106 RX8 yX8_of wsX8_of) := goodIn_app (goodIn_of _ (by decide +kernel)) ggX8_anchor_X8_of
theorem dX8_anchor_0 : decode cX8_anchor 0 = .ok (.aload_n 0, 1) := by decide +kernel
theorem dX8_anchor_1 : decode cX8_anchor 1 = .ok (.iload_n 1, 1) := by decide +kernel
theorem dX8_anchor_2 : decode cX8_anchor 2 = .ok (.invokevirtual 124, 3) := by decide +kernel
theorem dX8_anchor_5 : decode cX8_anchor 5 = .ok (.ifCond .eq 21, 3) := by decide +kernel
theorem dX8_anchor_8 : decode cX8_anchor 8 = .ok (.iload_n 2, 1) := by decide +kernel
theorem dX8_anchor_9 : decode cX8_anchor 9 = .ok (.iconst 0, 1) := by decide +kernel
theorem dX8_anchor_10 : decode cX8_anchor 10 = .ok (.iconst 1, 1) := by decide +kernel
theorem dX8_anchor_11 : decode cX8_anchor 11 = .ok (.invokestatic 40, 3) := by decide +kernel
theorem dX8_anchor_14 : decode cX8_anchor 14 = .ok (.ifCond .eq 12, 3) := by decide +kernel
theorem dX8_anchor_17 : decode cX8_anchor 17 = .ok (.iload_n 3, 1) := by decide +kernel
theorem dX8_anchor_18 : decode cX8_anchor 18 = .ok (.iconst 0, 1) := by decide +kernel
theorem dX8_anchor_19 : decode cX8_anchor 19 = .ok (.iconst 2, 1) := by decide +kernel
theorem dX8_anchor_20 : decode cX8_anchor 20 = .ok (.invokestatic 40, 3) := by decide +kernel
theorem dX8_anchor_23 : decode cX8_anchor 23 = .ok (.ifCond .ne 5, 3) := by decide +kernel
theorem dX8_anchor_26 : decode cX8_anchor 26 = .ok (.iconst (-1), 1) := by decide +kernel
theorem dX8_anchor_27 : decode cX8_anchor 27 = .ok (.ireturn, 1) := by decide +kernel
theorem dX8_anchor_28 : decode cX8_anchor 28 = .ok (.iload_n 2, 1) := by decide +kernel
theorem dX8_anchor_29 : decode cX8_anchor 29 = .ok (.ifCond .ne 12, 3) := by decide +kernel
theorem dX8_anchor_32 : decode cX8_anchor 32 = .ok (.aload_n 0, 1) := by decide +kernel
theorem dX8_anchor_33 : decode cX8_anchor 33 = .ok (.iload_n 1, 1) := by decide +kernel
theorem dX8_anchor_34 : decode cX8_anchor 34 = .ok (.iload_n 3, 1) := by decide +kernel
theorem dX8_anchor_35 : decode cX8_anchor 35 = .ok (.invokevirtual 106, 3) := by decide +kernel
theorem dX8_anchor_38 : decode cX8_anchor 38 = .ok (.goto 27, 3) := by decide +kernel
theorem dX8_anchor_41 : decode cX8_anchor 41 = .ok (.aload_n 0, 1) := by decide +kernel
theorem dX8_anchor_42 : decode cX8_anchor 42 = .ok (.iload_n 1, 1) := by decide +kernel
theorem dX8_anchor_43 : decode cX8_anchor 43 = .ok (.bipush 9, 2) := by decide +kernel
theorem dX8_anchor_45 : decode cX8_anchor 45 = .ok (.invokevirtual 106, 3) := by decide +kernel
theorem dX8_anchor_48 : decode cX8_anchor 48 = .ok (.ifCond .ne 8, 3) := by decide +kernel
theorem dX8_anchor_51 : decode cX8_anchor 51 = .ok (.bipush (-4), 2) := by decide +kernel
theorem dX8_anchor_53 : decode cX8_anchor 53 = .ok (.goto 12, 3) := by decide +kernel
theorem dX8_anchor_56 : decode cX8_anchor 56 = .ok (.aload_n 0, 1) := by decide +kernel
theorem dX8_anchor_57 : decode cX8_anchor 57 = .ok (.iload_n 1, 1) := by decide +kernel
theorem dX8_anchor_58 : decode cX8_anchor 58 = .ok (.bipush 10, 2) := by decide +kernel
theorem dX8_anchor_60 : decode cX8_anchor 60 = .ok (.iload_n 3, 1) := by decide +kernel
theorem dX8_anchor_61 : decode cX8_anchor 61 = .ok (.iadd, 1) := by decide +kernel
theorem dX8_anchor_62 : decode cX8_anchor 62 = .ok (.invokevirtual 106, 3) := by decide +kernel
theorem dX8_anchor_65 : decode cX8_anchor 65 = .ok (.ireturn, 1) := by decide +kernel
set_option maxRecDepth 20000 in
theorem ggX8_ship_X8_isShip : GoodIn wsX8_ship wsX8_isShip := goodIn_r _ [5, 6, 7, 8, 4, 9, 14, 15, 16, 17, 18, 19, 20, 21, 22, 23, 24, 25, 26] (by decide +kernel) (by decide +kernel)
set_option maxRecDepth 20000 in
theorem gX8_ship_X8_isShip : GoodIn wsX8_ship (wsV RX8 124 RX8 yX8_isShip wsX8_isShip) := goodIn_app (goodIn_of _ (by decide +kernel)) ggX8_ship_X8_isShip
set_option maxRecDepth 20000 in
theorem ggX8_ship_X8_in : GoodIn wsX8_ship wsX8_in := goodIn_r _ [9] (by decide +kernel) (by decide +kernel)
set_option maxRecDepth 20000 in
theorem gX8_ship_X8_in : GoodIn wsX8_ship (va_wsS RX8 40 yX8_in wsX8_in) := goodIn_app (goodIn_of _ (by decide +kernel)) ggX8_ship_X8_in
set_option maxRecDepth 20000 in
theorem ggX8_ship_X8_of : GoodIn wsX8_ship wsX8_of := goodIn_r _ [13, 6, 14, 15, 16, 17, 18, 19, 20, 21, 22, 23, 24, 25, 26] (by decide +kernel) (by decide +kernel)
set_option maxRecDepth 20000 in
theorem gX8_ship_X8_of : GoodIn wsX8_ship (wsV RX8 106 RX8 yX8_of wsX8_of) := goodIn_app (goodIn_of _ (by decide +kernel)) ggX8_ship_X8_of
theorem dX8_ship_0 : decode cX8_ship 0 = .ok (.aload_n 0, 1) := by decide +kernel
theorem dX8_ship_1 : decode cX8_ship 1 = .ok (.iload_n 1, 1) := by decide +kernel
theorem dX8_ship_2 : decode cX8_ship 2 = .ok (.invokevirtual 124, 3) := by decide +kernel
theorem dX8_ship_5 : decode cX8_ship 5 = .ok (.ifCond .eq 23, 3) := by decide +kernel
theorem dX8_ship_8 : decode cX8_ship 8 = .ok (.iload_n 2, 1) := by decide +kernel
theorem dX8_ship_9 : decode cX8_ship 9 = .ok (.iconst 0, 1) := by decide +kernel
theorem dX8_ship_10 : decode cX8_ship 10 = .ok (.iconst 5, 1) := by decide +kernel
theorem dX8_ship_11 : decode cX8_ship 11 = .ok (.invokestatic 40, 3) := by decide +kernel
theorem dX8_ship_14 : decode cX8_ship 14 = .ok (.ifCond .eq 14, 3) := by decide +kernel
theorem dX8_ship_17 : decode cX8_ship 17 = .ok (.aload_n 0, 1) := by decide +kernel
theorem dX8_ship_18 : decode cX8_ship 18 = .ok (.iload_n 1, 1) := by decide +kernel
theorem dX8_ship_19 : decode cX8_ship 19 = .ok (.iconst 3, 1) := by decide +kernel
theorem dX8_ship_20 : decode cX8_ship 20 = .ok (.iload_n 2, 1) := by decide +kernel
theorem dX8_ship_21 : decode cX8_ship 21 = .ok (.iadd, 1) := by decide +kernel
theorem dX8_ship_22 : decode cX8_ship 22 = .ok (.invokevirtual 106, 3) := by decide +kernel
theorem dX8_ship_25 : decode cX8_ship 25 = .ok (.goto 4, 3) := by decide +kernel
theorem dX8_ship_28 : decode cX8_ship 28 = .ok (.iconst (-1), 1) := by decide +kernel
theorem dX8_ship_29 : decode cX8_ship 29 = .ok (.ireturn, 1) := by decide +kernel
set_option maxRecDepth 20000 in
theorem ggX8_hangs_X8_isShip : GoodIn wsX8_hangs wsX8_isShip := goodIn_r _ [10, 11, 12, 13, 9, 14, 43, 44, 45, 46, 47, 48, 49, 50, 51, 52, 53, 54, 55] (by decide +kernel) (by decide +kernel)
set_option maxRecDepth 20000 in
theorem gX8_hangs_X8_isShip : GoodIn wsX8_hangs (wsV RX8 124 RX8 yX8_isShip wsX8_isShip) := goodIn_app (goodIn_of _ (by decide +kernel)) ggX8_hangs_X8_isShip
set_option maxRecDepth 20000 in
theorem ggX8_hangs_X8_in : GoodIn wsX8_hangs wsX8_in := goodIn_r _ [14] (by decide +kernel) (by decide +kernel)
set_option maxRecDepth 20000 in
theorem gX8_hangs_X8_in : GoodIn wsX8_hangs (va_wsS RX8 40 yX8_in wsX8_in) := goodIn_app (goodIn_of _ (by decide +kernel)) ggX8_hangs_X8_in
set_option maxRecDepth 20000 in
theorem ggX8_hangs_X8_of : GoodIn wsX8_hangs wsX8_of := goodIn_r _ [18, 11, 43, 44, 45, 46, 47, 48, 49, 50, 51, 52, 53, 54, 55] (by decide +kernel) (by decide +kernel)
set_option maxRecDepth 20000 in
theorem gX8_hangs_X8_of : GoodIn wsX8_hangs (wsV RX8 106 RX8 yX8_of wsX8_of) := goodIn_app (goodIn_of _ (by decide +kernel)) ggX8_hangs_X8_of
set_option maxRecDepth 20000 in
theorem ggX8_hangs_X8_chainOf : GoodIn wsX8_hangs wsX8_chainOf := goodIn_r _ [22, 15, 16, 17, 9, 18, 11, 23, 24, 25, 26, 1, 2, 4, 5, 3, 27, 28, 29, 30, 31, 32, 33, 34, 35, 36, 37, 38, 43, 44, 45, 46, 47, 48, 49, 50, 51, 52, 53, 54, 55] (by decide +kernel) (by decide +kernel)
set_option maxRecDepth 20000 in
theorem gX8_hangs_X8_chainOf : GoodIn wsX8_hangs (wsV RX8 112 RX8 yX8_chainOf wsX8_chainOf) := goodIn_app (goodIn_of _ (by decide +kernel)) ggX8_hangs_X8_chainOf
set_option maxRecDepth 20000 in
theorem ggX8_hangs_X8_holding : GoodIn wsX8_hangs wsX8_holding := goodIn_r _ [42, 4, 5, 43, 44, 45, 46, 47, 48, 49, 50, 51, 52, 53, 54, 55] (by decide +kernel) (by decide +kernel)
set_option maxRecDepth 20000 in
theorem gX8_hangs_X8_holding : GoodIn wsX8_hangs (wsV RX8 115 RX8 yX8_holding wsX8_holding) := goodIn_app (goodIn_of _ (by decide +kernel)) ggX8_hangs_X8_holding
theorem dX8_hangs_0 : decode cX8_hangs 0 = .ok (.aload_n 0, 1) := by decide +kernel
theorem dX8_hangs_1 : decode cX8_hangs 1 = .ok (.iload_n 1, 1) := by decide +kernel
theorem dX8_hangs_2 : decode cX8_hangs 2 = .ok (.invokevirtual 124, 3) := by decide +kernel
theorem dX8_hangs_5 : decode cX8_hangs 5 = .ok (.ifCond .eq 33, 3) := by decide +kernel
theorem dX8_hangs_8 : decode cX8_hangs 8 = .ok (.iload_n 2, 1) := by decide +kernel
theorem dX8_hangs_9 : decode cX8_hangs 9 = .ok (.iconst 0, 1) := by decide +kernel
theorem dX8_hangs_10 : decode cX8_hangs 10 = .ok (.iconst 1, 1) := by decide +kernel
theorem dX8_hangs_11 : decode cX8_hangs 11 = .ok (.invokestatic 40, 3) := by decide +kernel
theorem dX8_hangs_14 : decode cX8_hangs 14 = .ok (.ifCond .eq 24, 3) := by decide +kernel
theorem dX8_hangs_17 : decode cX8_hangs 17 = .ok (.iload_n 3, 1) := by decide +kernel
theorem dX8_hangs_18 : decode cX8_hangs 18 = .ok (.iconst 0, 1) := by decide +kernel
theorem dX8_hangs_19 : decode cX8_hangs 19 = .ok (.sipush 9999, 3) := by decide +kernel
theorem dX8_hangs_22 : decode cX8_hangs 22 = .ok (.invokestatic 40, 3) := by decide +kernel
theorem dX8_hangs_25 : decode cX8_hangs 25 = .ok (.ifCond .eq 13, 3) := by decide +kernel
theorem dX8_hangs_28 : decode cX8_hangs 28 = .ok (.iload 4, 2) := by decide +kernel
theorem dX8_hangs_30 : decode cX8_hangs 30 = .ok (.iconst 0, 1) := by decide +kernel
theorem dX8_hangs_31 : decode cX8_hangs 31 = .ok (.iconst 5, 1) := by decide +kernel
theorem dX8_hangs_32 : decode cX8_hangs 32 = .ok (.invokestatic 40, 3) := by decide +kernel
theorem dX8_hangs_35 : decode cX8_hangs 35 = .ok (.ifCond .ne 5, 3) := by decide +kernel
theorem dX8_hangs_38 : decode cX8_hangs 38 = .ok (.iconst (-1), 1) := by decide +kernel
theorem dX8_hangs_39 : decode cX8_hangs 39 = .ok (.ireturn, 1) := by decide +kernel
theorem dX8_hangs_40 : decode cX8_hangs 40 = .ok (.aload_n 0, 1) := by decide +kernel
theorem dX8_hangs_41 : decode cX8_hangs 41 = .ok (.iload_n 1, 1) := by decide +kernel
theorem dX8_hangs_42 : decode cX8_hangs 42 = .ok (.bipush 7, 2) := by decide +kernel
theorem dX8_hangs_44 : decode cX8_hangs 44 = .ok (.invokevirtual 106, 3) := by decide +kernel
theorem dX8_hangs_47 : decode cX8_hangs 47 = .ok (.iconst 1, 1) := by decide +kernel
theorem dX8_hangs_48 : decode cX8_hangs 48 = .ok (.if_icmp .ne 6, 3) := by decide +kernel
theorem dX8_hangs_51 : decode cX8_hangs 51 = .ok (.bipush (-2), 2) := by decide +kernel
theorem dX8_hangs_53 : decode cX8_hangs 53 = .ok (.ireturn, 1) := by decide +kernel
theorem dX8_hangs_54 : decode cX8_hangs 54 = .ok (.iload_n 2, 1) := by decide +kernel
theorem dX8_hangs_55 : decode cX8_hangs 55 = .ok (.iconst 1, 1) := by decide +kernel
theorem dX8_hangs_56 : decode cX8_hangs 56 = .ok (.if_icmp .ne 16, 3) := by decide +kernel
theorem dX8_hangs_59 : decode cX8_hangs 59 = .ok (.aload_n 0, 1) := by decide +kernel
theorem dX8_hangs_60 : decode cX8_hangs 60 = .ok (.iload_n 1, 1) := by decide +kernel
theorem dX8_hangs_61 : decode cX8_hangs 61 = .ok (.bipush 9, 2) := by decide +kernel
theorem dX8_hangs_63 : decode cX8_hangs 63 = .ok (.invokevirtual 106, 3) := by decide +kernel
theorem dX8_hangs_66 : decode cX8_hangs 66 = .ok (.ifCond .ne 6, 3) := by decide +kernel
theorem dX8_hangs_69 : decode cX8_hangs 69 = .ok (.bipush (-4), 2) := by decide +kernel
theorem dX8_hangs_71 : decode cX8_hangs 71 = .ok (.ireturn, 1) := by decide +kernel
theorem dX8_hangs_72 : decode cX8_hangs 72 = .ok (.aload_n 0, 1) := by decide +kernel
theorem dX8_hangs_73 : decode cX8_hangs 73 = .ok (.iload_n 1, 1) := by decide +kernel
theorem dX8_hangs_74 : decode cX8_hangs 74 = .ok (.iload_n 2, 1) := by decide +kernel
theorem dX8_hangs_75 : decode cX8_hangs 75 = .ok (.iload_n 3, 1) := by decide +kernel
theorem dX8_hangs_76 : decode cX8_hangs 76 = .ok (.invokevirtual 112, 3) := by decide +kernel
theorem dX8_hangs_79 : decode cX8_hangs 79 = .ok (.iload 4, 2) := by decide +kernel
theorem dX8_hangs_81 : decode cX8_hangs 81 = .ok (.tableswitch 67 0 4 #[35, 40, 45, 50, 55], 35) := by decide +kernel
theorem dX8_hangs_116 : decode cX8_hangs 116 = .ok (.aload_n 0, 1) := by decide +kernel
theorem dX8_hangs_117 : decode cX8_hangs 117 = .ok (.getfield 83, 3) := by decide +kernel
theorem dX8_hangs_120 : decode cX8_hangs 120 = .ok (.ireturn, 1) := by decide +kernel
theorem dX8_hangs_121 : decode cX8_hangs 121 = .ok (.aload_n 0, 1) := by decide +kernel
theorem dX8_hangs_122 : decode cX8_hangs 122 = .ok (.getfield 86, 3) := by decide +kernel
theorem dX8_hangs_125 : decode cX8_hangs 125 = .ok (.ireturn, 1) := by decide +kernel
theorem dX8_hangs_126 : decode cX8_hangs 126 = .ok (.aload_n 0, 1) := by decide +kernel
theorem dX8_hangs_127 : decode cX8_hangs 127 = .ok (.getfield 100, 3) := by decide +kernel
theorem dX8_hangs_130 : decode cX8_hangs 130 = .ok (.ireturn, 1) := by decide +kernel
theorem dX8_hangs_131 : decode cX8_hangs 131 = .ok (.aload_n 0, 1) := by decide +kernel
theorem dX8_hangs_132 : decode cX8_hangs 132 = .ok (.getfield 89, 3) := by decide +kernel
theorem dX8_hangs_135 : decode cX8_hangs 135 = .ok (.ireturn, 1) := by decide +kernel
theorem dX8_hangs_136 : decode cX8_hangs 136 = .ok (.aload_n 0, 1) := by decide +kernel
theorem dX8_hangs_137 : decode cX8_hangs 137 = .ok (.aload_n 0, 1) := by decide +kernel
theorem dX8_hangs_138 : decode cX8_hangs 138 = .ok (.iload_n 1, 1) := by decide +kernel
theorem dX8_hangs_139 : decode cX8_hangs 139 = .ok (.bipush 6, 2) := by decide +kernel
theorem dX8_hangs_141 : decode cX8_hangs 141 = .ok (.invokevirtual 106, 3) := by decide +kernel
theorem dX8_hangs_144 : decode cX8_hangs 144 = .ok (.invokevirtual 115, 3) := by decide +kernel
theorem dX8_hangs_147 : decode cX8_hangs 147 = .ok (.ireturn, 1) := by decide +kernel
theorem dX8_hangs_148 : decode cX8_hangs 148 = .ok (.aload_n 0, 1) := by decide +kernel
theorem dX8_hangs_149 : decode cX8_hangs 149 = .ok (.getfield 92, 3) := by decide +kernel
theorem dX8_hangs_152 : decode cX8_hangs 152 = .ok (.ifCond .eq 7, 3) := by decide +kernel
theorem dX8_hangs_155 : decode cX8_hangs 155 = .ok (.iconst 1, 1) := by decide +kernel
theorem dX8_hangs_156 : decode cX8_hangs 156 = .ok (.goto 4, 3) := by decide +kernel
theorem dX8_hangs_159 : decode cX8_hangs 159 = .ok (.iconst 0, 1) := by decide +kernel
theorem dX8_hangs_160 : decode cX8_hangs 160 = .ok (.ireturn, 1) := by decide +kernel
set_option maxRecDepth 20000 in
theorem ggX8_wind_X8_isShip : GoodIn wsX8_wind wsX8_isShip := goodIn_r _ [5, 6, 7, 8, 4, 9, 62, 63, 64, 65, 66, 67, 68, 69, 70, 71, 72, 73, 74] (by decide +kernel) (by decide +kernel)
set_option maxRecDepth 20000 in
theorem gX8_wind_X8_isShip : GoodIn wsX8_wind (wsV RX8 124 RX8 yX8_isShip wsX8_isShip) := goodIn_app (goodIn_of _ (by decide +kernel)) ggX8_wind_X8_isShip
set_option maxRecDepth 20000 in
theorem ggX8_wind_X8_isWind : GoodIn wsX8_wind wsX8_isWind := goodIn_r _ [12, 7, 8, 4, 9] (by decide +kernel) (by decide +kernel)
set_option maxRecDepth 20000 in
theorem gX8_wind_X8_isWind : GoodIn wsX8_wind (va_wsS RX8 140 yX8_isWind wsX8_isWind) := goodIn_app (goodIn_of _ (by decide +kernel)) ggX8_wind_X8_isWind
set_option maxRecDepth 20000 in
theorem ggX8_wind_X8_in : GoodIn wsX8_wind wsX8_in := goodIn_r _ [9] (by decide +kernel) (by decide +kernel)
set_option maxRecDepth 20000 in
theorem gX8_wind_X8_in : GoodIn wsX8_wind (va_wsS RX8 40 yX8_in wsX8_in) := goodIn_app (goodIn_of _ (by decide +kernel)) ggX8_wind_X8_in
set_option maxRecDepth 20000 in
theorem ggX8_wind_X8_of : GoodIn wsX8_wind wsX8_of := goodIn_r _ [16, 6, 62, 63, 64, 65, 66, 67, 68, 69, 70, 71, 72, 73, 74] (by decide +kernel) (by decide +kernel)
set_option maxRecDepth 20000 in
theorem gX8_wind_X8_of : GoodIn wsX8_wind (wsV RX8 106 RX8 yX8_of wsX8_of) := goodIn_app (goodIn_of _ (by decide +kernel)) ggX8_wind_X8_of
set_option maxRecDepth 20000 in
theorem ggX8_wind_X8_pull : GoodIn wsX8_wind wsX8_pull := goodIn_r _ [20, 13, 14, 15, 4, 16, 6, 62, 63, 64, 65, 66, 67, 68, 69, 70, 71, 72, 73, 74] (by decide +kernel) (by decide +kernel)
set_option maxRecDepth 20000 in
theorem gX8_wind_X8_pull : GoodIn wsX8_wind (wsV RX8 118 RX8 yX8_pull wsX8_pull) := goodIn_app (goodIn_of _ (by decide +kernel)) ggX8_wind_X8_pull
set_option maxRecDepth 20000 in
theorem ggX8_wind_X8_holds : GoodIn wsX8_wind wsX8_holds := goodIn_r _ [24, 17, 18, 19, 4, 20, 13, 14, 15, 16, 6, 25, 26, 27, 28, 29, 30, 31, 32, 33, 34, 35, 36, 37, 38, 39, 40, 41, 42, 43, 44, 45, 46, 47, 48, 49, 50, 51, 52, 53, 54, 55, 56, 57, 62, 63, 64, 65, 66, 67, 68, 69, 70, 71, 72, 73, 74] (by decide +kernel) (by decide +kernel)
set_option maxRecDepth 20000 in
theorem gX8_wind_X8_holds : GoodIn wsX8_wind (wsV RX8 143 RX8 yX8_holds wsX8_holds) := goodIn_app (goodIn_of _ (by decide +kernel)) ggX8_wind_X8_holds
set_option maxRecDepth 20000 in
theorem ggX8_wind_X8_swing : GoodIn wsX8_wind wsX8_swing := goodIn_r _ [61, 41, 17, 18, 19, 4, 20, 13, 14, 15, 16, 6, 29, 30, 31, 32, 33, 34, 35, 36, 37, 38, 39, 40, 42, 43, 44, 45, 46, 47, 48, 49, 50, 51, 52, 53, 62, 63, 64, 65, 66, 67, 68, 69, 70, 71, 72, 73, 74] (by decide +kernel) (by decide +kernel)
set_option maxRecDepth 20000 in
theorem gX8_wind_X8_swing : GoodIn wsX8_wind (wsV RX8 149 RX8 yX8_swing wsX8_swing) := goodIn_app (goodIn_of _ (by decide +kernel)) ggX8_wind_X8_swing
theorem dX8_wind_0 : decode cX8_wind 0 = .ok (.aload_n 0, 1) := by decide +kernel
theorem dX8_wind_1 : decode cX8_wind 1 = .ok (.iload_n 1, 1) := by decide +kernel
theorem dX8_wind_2 : decode cX8_wind 2 = .ok (.invokevirtual 124, 3) := by decide +kernel
theorem dX8_wind_5 : decode cX8_wind 5 = .ok (.ifCond .eq 19, 3) := by decide +kernel
theorem dX8_wind_8 : decode cX8_wind 8 = .ok (.iload_n 2, 1) := by decide +kernel
theorem dX8_wind_9 : decode cX8_wind 9 = .ok (.invokestatic 140, 3) := by decide +kernel
theorem dX8_wind_12 : decode cX8_wind 12 = .ok (.ifCond .eq 12, 3) := by decide +kernel
theorem dX8_wind_15 : decode cX8_wind 15 = .ok (.iload_n 3, 1) := by decide +kernel
theorem dX8_wind_16 : decode cX8_wind 16 = .ok (.iconst 0, 1) := by decide +kernel
theorem dX8_wind_17 : decode cX8_wind 17 = .ok (.iconst 2, 1) := by decide +kernel
theorem dX8_wind_18 : decode cX8_wind 18 = .ok (.invokestatic 40, 3) := by decide +kernel
theorem dX8_wind_21 : decode cX8_wind 21 = .ok (.ifCond .ne 5, 3) := by decide +kernel
theorem dX8_wind_24 : decode cX8_wind 24 = .ok (.iconst (-1), 1) := by decide +kernel
theorem dX8_wind_25 : decode cX8_wind 25 = .ok (.ireturn, 1) := by decide +kernel
theorem dX8_wind_26 : decode cX8_wind 26 = .ok (.aload_n 0, 1) := by decide +kernel
theorem dX8_wind_27 : decode cX8_wind 27 = .ok (.iload_n 1, 1) := by decide +kernel
theorem dX8_wind_28 : decode cX8_wind 28 = .ok (.bipush 7, 2) := by decide +kernel
theorem dX8_wind_30 : decode cX8_wind 30 = .ok (.invokevirtual 106, 3) := by decide +kernel
theorem dX8_wind_33 : decode cX8_wind 33 = .ok (.iconst 1, 1) := by decide +kernel
theorem dX8_wind_34 : decode cX8_wind 34 = .ok (.if_icmp .ne 6, 3) := by decide +kernel
theorem dX8_wind_37 : decode cX8_wind 37 = .ok (.bipush (-2), 2) := by decide +kernel
theorem dX8_wind_39 : decode cX8_wind 39 = .ok (.ireturn, 1) := by decide +kernel
theorem dX8_wind_40 : decode cX8_wind 40 = .ok (.iload_n 3, 1) := by decide +kernel
theorem dX8_wind_41 : decode cX8_wind 41 = .ok (.ifCond .ne 12, 3) := by decide +kernel
theorem dX8_wind_44 : decode cX8_wind 44 = .ok (.aload_n 0, 1) := by decide +kernel
theorem dX8_wind_45 : decode cX8_wind 45 = .ok (.iload_n 1, 1) := by decide +kernel
theorem dX8_wind_46 : decode cX8_wind 46 = .ok (.iload_n 2, 1) := by decide +kernel
theorem dX8_wind_47 : decode cX8_wind 47 = .ok (.invokevirtual 118, 3) := by decide +kernel
theorem dX8_wind_50 : decode cX8_wind 50 = .ok (.goto 31, 3) := by decide +kernel
theorem dX8_wind_53 : decode cX8_wind 53 = .ok (.iload_n 3, 1) := by decide +kernel
theorem dX8_wind_54 : decode cX8_wind 54 = .ok (.iconst 1, 1) := by decide +kernel
theorem dX8_wind_55 : decode cX8_wind 55 = .ok (.if_icmp .ne 20, 3) := by decide +kernel
theorem dX8_wind_58 : decode cX8_wind 58 = .ok (.aload_n 0, 1) := by decide +kernel
theorem dX8_wind_59 : decode cX8_wind 59 = .ok (.iload_n 1, 1) := by decide +kernel
theorem dX8_wind_60 : decode cX8_wind 60 = .ok (.iload_n 2, 1) := by decide +kernel
theorem dX8_wind_61 : decode cX8_wind 61 = .ok (.invokevirtual 143, 3) := by decide +kernel
theorem dX8_wind_64 : decode cX8_wind 64 = .ok (.ifCond .eq 7, 3) := by decide +kernel
theorem dX8_wind_67 : decode cX8_wind 67 = .ok (.iconst 1, 1) := by decide +kernel
theorem dX8_wind_68 : decode cX8_wind 68 = .ok (.goto 13, 3) := by decide +kernel
theorem dX8_wind_71 : decode cX8_wind 71 = .ok (.iconst 0, 1) := by decide +kernel
theorem dX8_wind_72 : decode cX8_wind 72 = .ok (.goto 9, 3) := by decide +kernel
theorem dX8_wind_75 : decode cX8_wind 75 = .ok (.aload_n 0, 1) := by decide +kernel
theorem dX8_wind_76 : decode cX8_wind 76 = .ok (.iload_n 1, 1) := by decide +kernel
theorem dX8_wind_77 : decode cX8_wind 77 = .ok (.iload_n 2, 1) := by decide +kernel
theorem dX8_wind_78 : decode cX8_wind 78 = .ok (.invokevirtual 149, 3) := by decide +kernel
theorem dX8_wind_81 : decode cX8_wind 81 = .ok (.ireturn, 1) := by decide +kernel
set_option maxRecDepth 20000 in
theorem ggX8_areApart_X8_of : GoodIn wsX8_areApart wsX8_of := goodIn_r _ [5, 6, 40, 41, 42, 43, 44, 45, 46, 47, 48, 49, 50, 51, 52] (by decide +kernel) (by decide +kernel)
set_option maxRecDepth 20000 in
theorem gX8_areApart_X8_of : GoodIn wsX8_areApart (wsV RX8 106 RX8 yX8_of wsX8_of) := goodIn_app (goodIn_of _ (by decide +kernel)) ggX8_areApart_X8_of
set_option maxRecDepth 20000 in
theorem ggX8_areApart_X8_swing : GoodIn wsX8_areApart wsX8_swing := goodIn_r _ [10, 11, 12, 13, 14, 4, 15, 1, 2, 3, 5, 6, 16, 17, 18, 19, 20, 21, 22, 23, 24, 25, 26, 27, 28, 29, 30, 31, 32, 33, 34, 35, 36, 37, 38, 39, 40, 41, 42, 43, 44, 45, 46, 47, 48, 49, 50, 51, 52] (by decide +kernel) (by decide +kernel)
set_option maxRecDepth 20000 in
theorem gX8_areApart_X8_swing : GoodIn wsX8_areApart (wsV RX8 149 RX8 yX8_swing wsX8_swing) := goodIn_app (goodIn_of _ (by decide +kernel)) ggX8_areApart_X8_swing
theorem dX8_areApart_0 : decode cX8_areApart 0 = .ok (.aload_n 0, 1) := by decide +kernel
theorem dX8_areApart_1 : decode cX8_areApart 1 = .ok (.iload_n 1, 1) := by decide +kernel
theorem dX8_areApart_2 : decode cX8_areApart 2 = .ok (.bipush 7, 2) := by decide +kernel
theorem dX8_areApart_4 : decode cX8_areApart 4 = .ok (.invokevirtual 106, 3) := by decide +kernel
theorem dX8_areApart_7 : decode cX8_areApart 7 = .ok (.iconst 1, 1) := by decide +kernel
theorem dX8_areApart_8 : decode cX8_areApart 8 = .ok (.if_icmp .eq 14, 3) := by decide +kernel
theorem dX8_areApart_11 : decode cX8_areApart 11 = .ok (.aload_n 0, 1) := by decide +kernel
theorem dX8_areApart_12 : decode cX8_areApart 12 = .ok (.iload_n 2, 1) := by decide +kernel
theorem dX8_areApart_13 : decode cX8_areApart 13 = .ok (.bipush 7, 2) := by decide +kernel
theorem dX8_areApart_15 : decode cX8_areApart 15 = .ok (.invokevirtual 106, 3) := by decide +kernel
theorem dX8_areApart_18 : decode cX8_areApart 18 = .ok (.iconst 1, 1) := by decide +kernel
theorem dX8_areApart_19 : decode cX8_areApart 19 = .ok (.if_icmp .ne 5, 3) := by decide +kernel
theorem dX8_areApart_22 : decode cX8_areApart 22 = .ok (.iconst 1, 1) := by decide +kernel
theorem dX8_areApart_23 : decode cX8_areApart 23 = .ok (.ireturn, 1) := by decide +kernel
theorem dX8_areApart_24 : decode cX8_areApart 24 = .ok (.aload_n 0, 1) := by decide +kernel
theorem dX8_areApart_25 : decode cX8_areApart 25 = .ok (.iload_n 1, 1) := by decide +kernel
theorem dX8_areApart_26 : decode cX8_areApart 26 = .ok (.iload_n 3, 1) := by decide +kernel
theorem dX8_areApart_27 : decode cX8_areApart 27 = .ok (.invokevirtual 149, 3) := by decide +kernel
theorem dX8_areApart_30 : decode cX8_areApart 30 = .ok (.aload_n 0, 1) := by decide +kernel
theorem dX8_areApart_31 : decode cX8_areApart 31 = .ok (.iload_n 2, 1) := by decide +kernel
theorem dX8_areApart_32 : decode cX8_areApart 32 = .ok (.iload_n 3, 1) := by decide +kernel
theorem dX8_areApart_33 : decode cX8_areApart 33 = .ok (.invokevirtual 149, 3) := by decide +kernel
theorem dX8_areApart_36 : decode cX8_areApart 36 = .ok (.iadd, 1) := by decide +kernel
theorem dX8_areApart_37 : decode cX8_areApart 37 = .ok (.istore 4, 2) := by decide +kernel
theorem dX8_areApart_39 : decode cX8_areApart 39 = .ok (.bipush 10, 2) := by decide +kernel
theorem dX8_areApart_41 : decode cX8_areApart 41 = .ok (.aload_n 0, 1) := by decide +kernel
theorem dX8_areApart_42 : decode cX8_areApart 42 = .ok (.iload_n 1, 1) := by decide +kernel
theorem dX8_areApart_43 : decode cX8_areApart 43 = .ok (.iconst 0, 1) := by decide +kernel
theorem dX8_areApart_44 : decode cX8_areApart 44 = .ok (.invokevirtual 106, 3) := by decide +kernel
theorem dX8_areApart_47 : decode cX8_areApart 47 = .ok (.aload_n 0, 1) := by decide +kernel
theorem dX8_areApart_48 : decode cX8_areApart 48 = .ok (.iload_n 2, 1) := by decide +kernel
theorem dX8_areApart_49 : decode cX8_areApart 49 = .ok (.iconst 0, 1) := by decide +kernel
theorem dX8_areApart_50 : decode cX8_areApart 50 = .ok (.invokevirtual 106, 3) := by decide +kernel
theorem dX8_areApart_53 : decode cX8_areApart 53 = .ok (.isub, 1) := by decide +kernel
theorem dX8_areApart_54 : decode cX8_areApart 54 = .ok (.imul, 1) := by decide +kernel
theorem dX8_areApart_55 : decode cX8_areApart 55 = .ok (.istore 5, 2) := by decide +kernel
theorem dX8_areApart_57 : decode cX8_areApart 57 = .ok (.bipush 10, 2) := by decide +kernel
theorem dX8_areApart_59 : decode cX8_areApart 59 = .ok (.aload_n 0, 1) := by decide +kernel
theorem dX8_areApart_60 : decode cX8_areApart 60 = .ok (.iload_n 1, 1) := by decide +kernel
theorem dX8_areApart_61 : decode cX8_areApart 61 = .ok (.iconst 1, 1) := by decide +kernel
theorem dX8_areApart_62 : decode cX8_areApart 62 = .ok (.invokevirtual 106, 3) := by decide +kernel
theorem dX8_areApart_65 : decode cX8_areApart 65 = .ok (.aload_n 0, 1) := by decide +kernel
theorem dX8_areApart_66 : decode cX8_areApart 66 = .ok (.iload_n 2, 1) := by decide +kernel
theorem dX8_areApart_67 : decode cX8_areApart 67 = .ok (.iconst 1, 1) := by decide +kernel
theorem dX8_areApart_68 : decode cX8_areApart 68 = .ok (.invokevirtual 106, 3) := by decide +kernel
theorem dX8_areApart_71 : decode cX8_areApart 71 = .ok (.isub, 1) := by decide +kernel
theorem dX8_areApart_72 : decode cX8_areApart 72 = .ok (.imul, 1) := by decide +kernel
theorem dX8_areApart_73 : decode cX8_areApart 73 = .ok (.istore 6, 2) := by decide +kernel
theorem dX8_areApart_75 : decode cX8_areApart 75 = .ok (.iload 5, 2) := by decide +kernel
theorem dX8_areApart_77 : decode cX8_areApart 77 = .ok (.iload 5, 2) := by decide +kernel
theorem dX8_areApart_79 : decode cX8_areApart 79 = .ok (.imul, 1) := by decide +kernel
theorem dX8_areApart_80 : decode cX8_areApart 80 = .ok (.iload 6, 2) := by decide +kernel
theorem dX8_areApart_82 : decode cX8_areApart 82 = .ok (.iload 6, 2) := by decide +kernel
theorem dX8_areApart_84 : decode cX8_areApart 84 = .ok (.imul, 1) := by decide +kernel
theorem dX8_areApart_85 : decode cX8_areApart 85 = .ok (.iadd, 1) := by decide +kernel
theorem dX8_areApart_86 : decode cX8_areApart 86 = .ok (.iload 4, 2) := by decide +kernel
theorem dX8_areApart_88 : decode cX8_areApart 88 = .ok (.iload 4, 2) := by decide +kernel
theorem dX8_areApart_90 : decode cX8_areApart 90 = .ok (.imul, 1) := by decide +kernel
theorem dX8_areApart_91 : decode cX8_areApart 91 = .ok (.if_icmp .lt 7, 3) := by decide +kernel
theorem dX8_areApart_94 : decode cX8_areApart 94 = .ok (.iconst 1, 1) := by decide +kernel
theorem dX8_areApart_95 : decode cX8_areApart 95 = .ok (.goto 4, 3) := by decide +kernel
theorem dX8_areApart_98 : decode cX8_areApart 98 = .ok (.iconst 0, 1) := by decide +kernel
theorem dX8_areApart_99 : decode cX8_areApart 99 = .ok (.ireturn, 1) := by decide +kernel
set_option maxRecDepth 20000 in
theorem ggX8_apart_X8_isShip : GoodIn wsX8_apart wsX8_isShip := goodIn_r _ [5, 6, 7, 8, 4, 9, 54, 55, 56, 57, 58, 59, 60, 61, 62, 63, 64, 65, 66] (by decide +kernel) (by decide +kernel)
set_option maxRecDepth 20000 in
theorem gX8_apart_X8_isShip : GoodIn wsX8_apart (wsV RX8 124 RX8 yX8_isShip wsX8_isShip) := goodIn_app (goodIn_of _ (by decide +kernel)) ggX8_apart_X8_isShip
set_option maxRecDepth 20000 in
theorem ggX8_apart_X8_isWind : GoodIn wsX8_apart wsX8_isWind := goodIn_r _ [12, 7, 8, 4, 9] (by decide +kernel) (by decide +kernel)
set_option maxRecDepth 20000 in
theorem gX8_apart_X8_isWind : GoodIn wsX8_apart (va_wsS RX8 140 yX8_isWind wsX8_isWind) := goodIn_app (goodIn_of _ (by decide +kernel)) ggX8_apart_X8_isWind
set_option maxRecDepth 20000 in
theorem ggX8_apart_X8_areApart : GoodIn wsX8_apart wsX8_areApart := goodIn_r _ [16, 17, 18, 19, 4, 20, 6, 21, 22, 23, 24, 25, 26, 27, 28, 29, 30, 31, 32, 33, 34, 35, 36, 37, 38, 39, 40, 41, 42, 43, 44, 45, 46, 47, 48, 49, 50, 51, 52, 53, 54, 55, 56, 57, 58, 59, 60, 61, 62, 63, 64, 65, 66] (by decide +kernel) (by decide +kernel)
set_option maxRecDepth 20000 in
theorem gX8_apart_X8_areApart : GoodIn wsX8_apart (wsV RX8 152 RX8 yX8_areApart wsX8_areApart) := goodIn_app (goodIn_of _ (by decide +kernel)) ggX8_apart_X8_areApart
theorem dX8_apart_0 : decode cX8_apart 0 = .ok (.aload_n 0, 1) := by decide +kernel
theorem dX8_apart_1 : decode cX8_apart 1 = .ok (.iload_n 1, 1) := by decide +kernel
theorem dX8_apart_2 : decode cX8_apart 2 = .ok (.invokevirtual 124, 3) := by decide +kernel
theorem dX8_apart_5 : decode cX8_apart 5 = .ok (.ifCond .eq 23, 3) := by decide +kernel
theorem dX8_apart_8 : decode cX8_apart 8 = .ok (.aload_n 0, 1) := by decide +kernel
theorem dX8_apart_9 : decode cX8_apart 9 = .ok (.iload_n 2, 1) := by decide +kernel
theorem dX8_apart_10 : decode cX8_apart 10 = .ok (.invokevirtual 124, 3) := by decide +kernel
theorem dX8_apart_13 : decode cX8_apart 13 = .ok (.ifCond .eq 15, 3) := by decide +kernel
theorem dX8_apart_16 : decode cX8_apart 16 = .ok (.iload_n 1, 1) := by decide +kernel
theorem dX8_apart_17 : decode cX8_apart 17 = .ok (.iload_n 2, 1) := by decide +kernel
theorem dX8_apart_18 : decode cX8_apart 18 = .ok (.if_icmp .eq 10, 3) := by decide +kernel
theorem dX8_apart_21 : decode cX8_apart 21 = .ok (.iload_n 3, 1) := by decide +kernel
theorem dX8_apart_22 : decode cX8_apart 22 = .ok (.invokestatic 140, 3) := by decide +kernel
theorem dX8_apart_25 : decode cX8_apart 25 = .ok (.ifCond .ne 5, 3) := by decide +kernel
theorem dX8_apart_28 : decode cX8_apart 28 = .ok (.iconst (-1), 1) := by decide +kernel
theorem dX8_apart_29 : decode cX8_apart 29 = .ok (.ireturn, 1) := by decide +kernel
theorem dX8_apart_30 : decode cX8_apart 30 = .ok (.aload_n 0, 1) := by decide +kernel
theorem dX8_apart_31 : decode cX8_apart 31 = .ok (.iload_n 1, 1) := by decide +kernel
theorem dX8_apart_32 : decode cX8_apart 32 = .ok (.iload_n 2, 1) := by decide +kernel
theorem dX8_apart_33 : decode cX8_apart 33 = .ok (.iload_n 3, 1) := by decide +kernel
theorem dX8_apart_34 : decode cX8_apart 34 = .ok (.invokevirtual 152, 3) := by decide +kernel
theorem dX8_apart_37 : decode cX8_apart 37 = .ok (.ifCond .eq 7, 3) := by decide +kernel
theorem dX8_apart_40 : decode cX8_apart 40 = .ok (.iconst 1, 1) := by decide +kernel
theorem dX8_apart_41 : decode cX8_apart 41 = .ok (.goto 4, 3) := by decide +kernel
theorem dX8_apart_44 : decode cX8_apart 44 = .ok (.iconst 0, 1) := by decide +kernel
theorem dX8_apart_45 : decode cX8_apart 45 = .ok (.ireturn, 1) := by decide +kernel
set_option maxRecDepth 20000 in
theorem ggX8_fewest_X8_isShip : GoodIn wsX8_fewest wsX8_isShip := goodIn_r _ [5, 6, 7, 8, 4, 9, 62, 63, 64, 65, 66, 67, 68, 69, 70, 71, 72, 73, 74] (by decide +kernel) (by decide +kernel)
set_option maxRecDepth 20000 in
theorem gX8_fewest_X8_isShip : GoodIn wsX8_fewest (wsV RX8 124 RX8 yX8_isShip wsX8_isShip) := goodIn_app (goodIn_of _ (by decide +kernel)) ggX8_fewest_X8_isShip
set_option maxRecDepth 20000 in
theorem ggX8_fewest_X8_isWind : GoodIn wsX8_fewest wsX8_isWind := goodIn_r _ [12, 7, 8, 4, 9] (by decide +kernel) (by decide +kernel)
set_option maxRecDepth 20000 in
theorem gX8_fewest_X8_isWind : GoodIn wsX8_fewest (va_wsS RX8 140 yX8_isWind wsX8_isWind) := goodIn_app (goodIn_of _ (by decide +kernel)) ggX8_fewest_X8_isWind
set_option maxRecDepth 20000 in
theorem ggX8_fewest_X8_of : GoodIn wsX8_fewest wsX8_of := goodIn_r _ [16, 6, 62, 63, 64, 65, 66, 67, 68, 69, 70, 71, 72, 73, 74] (by decide +kernel) (by decide +kernel)
set_option maxRecDepth 20000 in
theorem gX8_fewest_X8_of : GoodIn wsX8_fewest (wsV RX8 106 RX8 yX8_of wsX8_of) := goodIn_app (goodIn_of _ (by decide +kernel)) ggX8_fewest_X8_of
set_option maxRecDepth 20000 in
theorem ggX8_fewest_X8_put : GoodIn wsX8_fewest wsX8_put := goodIn_r _ [20, 6, 62, 63, 64, 65, 66, 67, 68, 69, 70, 71, 72, 73, 74] (by decide +kernel) (by decide +kernel)
set_option maxRecDepth 20000 in
theorem gX8_fewest_X8_put : GoodIn wsX8_fewest (wsV RX8 130 RX8 yX8_put wsX8_put) := goodIn_app (goodIn_of _ (by decide +kernel)) ggX8_fewest_X8_put
set_option maxRecDepth 20000 in
theorem ggX8_fewest_X8_holds : GoodIn wsX8_fewest wsX8_holds := goodIn_r _ [24, 25, 26, 27, 4, 28, 13, 14, 15, 16, 6, 29, 30, 31, 32, 33, 34, 35, 36, 37, 38, 39, 40, 41, 42, 43, 44, 45, 46, 47, 48, 49, 50, 51, 52, 53, 54, 55, 56, 57, 58, 59, 60, 61, 62, 63, 64, 65, 66, 67, 68, 69, 70, 71, 72, 73, 74] (by decide +kernel) (by decide +kernel)
set_option maxRecDepth 20000 in
theorem gX8_fewest_X8_holds : GoodIn wsX8_fewest (wsV RX8 143 RX8 yX8_holds wsX8_holds) := goodIn_app (goodIn_of _ (by decide +kernel)) ggX8_fewest_X8_holds
theorem dX8_fewest_0 : decode cX8_fewest 0 = .ok (.aload_n 0, 1) := by decide +kernel
theorem dX8_fewest_1 : decode cX8_fewest 1 = .ok (.iload_n 1, 1) := by decide +kernel
theorem dX8_fewest_2 : decode cX8_fewest 2 = .ok (.invokevirtual 124, 3) := by decide +kernel
theorem dX8_fewest_5 : decode cX8_fewest 5 = .ok (.ifCond .eq 10, 3) := by decide +kernel
theorem dX8_fewest_8 : decode cX8_fewest 8 = .ok (.iload_n 2, 1) := by decide +kernel
theorem dX8_fewest_9 : decode cX8_fewest 9 = .ok (.invokestatic 140, 3) := by decide +kernel
theorem dX8_fewest_12 : decode cX8_fewest 12 = .ok (.ifCond .ne 5, 3) := by decide +kernel
theorem dX8_fewest_15 : decode cX8_fewest 15 = .ok (.iconst (-1), 1) := by decide +kernel
theorem dX8_fewest_16 : decode cX8_fewest 16 = .ok (.ireturn, 1) := by decide +kernel
theorem dX8_fewest_17 : decode cX8_fewest 17 = .ok (.aload_n 0, 1) := by decide +kernel
theorem dX8_fewest_18 : decode cX8_fewest 18 = .ok (.iload_n 1, 1) := by decide +kernel
theorem dX8_fewest_19 : decode cX8_fewest 19 = .ok (.bipush 7, 2) := by decide +kernel
theorem dX8_fewest_21 : decode cX8_fewest 21 = .ok (.invokevirtual 106, 3) := by decide +kernel
theorem dX8_fewest_24 : decode cX8_fewest 24 = .ok (.iconst 1, 1) := by decide +kernel
theorem dX8_fewest_25 : decode cX8_fewest 25 = .ok (.if_icmp .ne 6, 3) := by decide +kernel
theorem dX8_fewest_28 : decode cX8_fewest 28 = .ok (.bipush (-2), 2) := by decide +kernel
theorem dX8_fewest_30 : decode cX8_fewest 30 = .ok (.ireturn, 1) := by decide +kernel
theorem dX8_fewest_31 : decode cX8_fewest 31 = .ok (.aload_n 0, 1) := by decide +kernel
theorem dX8_fewest_32 : decode cX8_fewest 32 = .ok (.iload_n 1, 1) := by decide +kernel
theorem dX8_fewest_33 : decode cX8_fewest 33 = .ok (.iconst 2, 1) := by decide +kernel
theorem dX8_fewest_34 : decode cX8_fewest 34 = .ok (.invokevirtual 106, 3) := by decide +kernel
theorem dX8_fewest_37 : decode cX8_fewest 37 = .ok (.istore_n 3, 1) := by decide +kernel
theorem dX8_fewest_38 : decode cX8_fewest 38 = .ok (.bipush (-4), 2) := by decide +kernel
theorem dX8_fewest_40 : decode cX8_fewest 40 = .ok (.istore 4, 2) := by decide +kernel
theorem dX8_fewest_42 : decode cX8_fewest 42 = .ok (.iconst 1, 1) := by decide +kernel
theorem dX8_fewest_43 : decode cX8_fewest 43 = .ok (.istore 5, 2) := by decide +kernel
theorem dX8_fewest_45 : decode cX8_fewest 45 = .ok (.iload 5, 2) := by decide +kernel
theorem dX8_fewest_47 : decode cX8_fewest 47 = .ok (.bipush 60, 2) := by decide +kernel
theorem dX8_fewest_49 : decode cX8_fewest 49 = .ok (.if_icmp .gt 42, 3) := by decide +kernel
theorem dX8_fewest_52 : decode cX8_fewest 52 = .ok (.iload 4, 2) := by decide +kernel
theorem dX8_fewest_54 : decode cX8_fewest 54 = .ok (.bipush (-4), 2) := by decide +kernel
theorem dX8_fewest_56 : decode cX8_fewest 56 = .ok (.if_icmp .ne 35, 3) := by decide +kernel
theorem dX8_fewest_59 : decode cX8_fewest 59 = .ok (.aload_n 0, 1) := by decide +kernel
theorem dX8_fewest_60 : decode cX8_fewest 60 = .ok (.iload_n 1, 1) := by decide +kernel
theorem dX8_fewest_61 : decode cX8_fewest 61 = .ok (.iconst 2, 1) := by decide +kernel
theorem dX8_fewest_62 : decode cX8_fewest 62 = .ok (.iload 5, 2) := by decide +kernel
theorem dX8_fewest_64 : decode cX8_fewest 64 = .ok (.invokevirtual 130, 3) := by decide +kernel
theorem dX8_fewest_67 : decode cX8_fewest 67 = .ok (.aload_n 0, 1) := by decide +kernel
theorem dX8_fewest_68 : decode cX8_fewest 68 = .ok (.iload_n 1, 1) := by decide +kernel
theorem dX8_fewest_69 : decode cX8_fewest 69 = .ok (.iload_n 2, 1) := by decide +kernel
theorem dX8_fewest_70 : decode cX8_fewest 70 = .ok (.invokevirtual 143, 3) := by decide +kernel
theorem dX8_fewest_73 : decode cX8_fewest 73 = .ok (.ifCond .eq 8, 3) := by decide +kernel
theorem dX8_fewest_76 : decode cX8_fewest 76 = .ok (.iload 5, 2) := by decide +kernel
theorem dX8_fewest_78 : decode cX8_fewest 78 = .ok (.goto 5, 3) := by decide +kernel
theorem dX8_fewest_81 : decode cX8_fewest 81 = .ok (.bipush (-4), 2) := by decide +kernel
theorem dX8_fewest_83 : decode cX8_fewest 83 = .ok (.istore 4, 2) := by decide +kernel
theorem dX8_fewest_85 : decode cX8_fewest 85 = .ok (.iinc 5 1, 3) := by decide +kernel
theorem dX8_fewest_88 : decode cX8_fewest 88 = .ok (.goto (-43), 3) := by decide +kernel
theorem dX8_fewest_91 : decode cX8_fewest 91 = .ok (.aload_n 0, 1) := by decide +kernel
theorem dX8_fewest_92 : decode cX8_fewest 92 = .ok (.iload_n 1, 1) := by decide +kernel
theorem dX8_fewest_93 : decode cX8_fewest 93 = .ok (.iconst 2, 1) := by decide +kernel
theorem dX8_fewest_94 : decode cX8_fewest 94 = .ok (.iload_n 3, 1) := by decide +kernel
theorem dX8_fewest_95 : decode cX8_fewest 95 = .ok (.invokevirtual 130, 3) := by decide +kernel
theorem dX8_fewest_98 : decode cX8_fewest 98 = .ok (.iload 4, 2) := by decide +kernel
theorem dX8_fewest_100 : decode cX8_fewest 100 = .ok (.ireturn, 1) := by decide +kernel
set_option maxRecDepth 20000 in
theorem ggX8_tooMuch_X8_isShip : GoodIn wsX8_tooMuch wsX8_isShip := goodIn_r _ [5, 6, 7, 8, 4, 9, 55, 56, 57, 58, 59, 60, 61, 62, 63, 64, 65, 66, 67] (by decide +kernel) (by decide +kernel)
set_option maxRecDepth 20000 in
theorem gX8_tooMuch_X8_isShip : GoodIn wsX8_tooMuch (wsV RX8 124 RX8 yX8_isShip wsX8_isShip) := goodIn_app (goodIn_of _ (by decide +kernel)) ggX8_tooMuch_X8_isShip
set_option maxRecDepth 20000 in
theorem ggX8_tooMuch_X8_of : GoodIn wsX8_tooMuch wsX8_of := goodIn_r _ [13, 6, 55, 56, 57, 58, 59, 60, 61, 62, 63, 64, 65, 66, 67] (by decide +kernel) (by decide +kernel)
set_option maxRecDepth 20000 in
theorem gX8_tooMuch_X8_of : GoodIn wsX8_tooMuch (wsV RX8 106 RX8 yX8_of wsX8_of) := goodIn_app (goodIn_of _ (by decide +kernel)) ggX8_tooMuch_X8_of
set_option maxRecDepth 20000 in
theorem ggX8_tooMuch_X8_holds : GoodIn wsX8_tooMuch wsX8_holds := goodIn_r _ [17, 18, 19, 20, 4, 21, 10, 11, 12, 13, 6, 22, 23, 24, 25, 26, 27, 28, 29, 30, 31, 32, 33, 34, 35, 36, 37, 38, 39, 40, 41, 42, 43, 44, 45, 46, 47, 48, 49, 50, 51, 52, 53, 54, 55, 56, 57, 58, 59, 60, 61, 62, 63, 64, 65, 66, 67] (by decide +kernel) (by decide +kernel)
set_option maxRecDepth 20000 in
theorem gX8_tooMuch_X8_holds : GoodIn wsX8_tooMuch (wsV RX8 143 RX8 yX8_holds wsX8_holds) := goodIn_app (goodIn_of _ (by decide +kernel)) ggX8_tooMuch_X8_holds
theorem dX8_tooMuch_0 : decode cX8_tooMuch 0 = .ok (.aload_n 0, 1) := by decide +kernel
theorem dX8_tooMuch_1 : decode cX8_tooMuch 1 = .ok (.iload_n 1, 1) := by decide +kernel
theorem dX8_tooMuch_2 : decode cX8_tooMuch 2 = .ok (.invokevirtual 124, 3) := by decide +kernel
theorem dX8_tooMuch_5 : decode cX8_tooMuch 5 = .ok (.ifCond .ne 5, 3) := by decide +kernel
theorem dX8_tooMuch_8 : decode cX8_tooMuch 8 = .ok (.iconst (-1), 1) := by decide +kernel
theorem dX8_tooMuch_9 : decode cX8_tooMuch 9 = .ok (.ireturn, 1) := by decide +kernel
theorem dX8_tooMuch_10 : decode cX8_tooMuch 10 = .ok (.aload_n 0, 1) := by decide +kernel
theorem dX8_tooMuch_11 : decode cX8_tooMuch 11 = .ok (.iload_n 1, 1) := by decide +kernel
theorem dX8_tooMuch_12 : decode cX8_tooMuch 12 = .ok (.bipush 7, 2) := by decide +kernel
theorem dX8_tooMuch_14 : decode cX8_tooMuch 14 = .ok (.invokevirtual 106, 3) := by decide +kernel
theorem dX8_tooMuch_17 : decode cX8_tooMuch 17 = .ok (.iconst 1, 1) := by decide +kernel
theorem dX8_tooMuch_18 : decode cX8_tooMuch 18 = .ok (.if_icmp .ne 6, 3) := by decide +kernel
theorem dX8_tooMuch_21 : decode cX8_tooMuch 21 = .ok (.bipush (-2), 2) := by decide +kernel
theorem dX8_tooMuch_23 : decode cX8_tooMuch 23 = .ok (.ireturn, 1) := by decide +kernel
theorem dX8_tooMuch_24 : decode cX8_tooMuch 24 = .ok (.iconst 0, 1) := by decide +kernel
theorem dX8_tooMuch_25 : decode cX8_tooMuch 25 = .ok (.istore_n 2, 1) := by decide +kernel
theorem dX8_tooMuch_26 : decode cX8_tooMuch 26 = .ok (.iload_n 2, 1) := by decide +kernel
theorem dX8_tooMuch_27 : decode cX8_tooMuch 27 = .ok (.bipush 20, 2) := by decide +kernel
theorem dX8_tooMuch_29 : decode cX8_tooMuch 29 = .ok (.if_icmp .gt 20, 3) := by decide +kernel
theorem dX8_tooMuch_32 : decode cX8_tooMuch 32 = .ok (.aload_n 0, 1) := by decide +kernel
theorem dX8_tooMuch_33 : decode cX8_tooMuch 33 = .ok (.iload_n 1, 1) := by decide +kernel
theorem dX8_tooMuch_34 : decode cX8_tooMuch 34 = .ok (.iload_n 2, 1) := by decide +kernel
theorem dX8_tooMuch_35 : decode cX8_tooMuch 35 = .ok (.invokevirtual 143, 3) := by decide +kernel
theorem dX8_tooMuch_38 : decode cX8_tooMuch 38 = .ok (.ifCond .ne 5, 3) := by decide +kernel
theorem dX8_tooMuch_41 : decode cX8_tooMuch 41 = .ok (.iload_n 2, 1) := by decide +kernel
theorem dX8_tooMuch_42 : decode cX8_tooMuch 42 = .ok (.ireturn, 1) := by decide +kernel
theorem dX8_tooMuch_43 : decode cX8_tooMuch 43 = .ok (.iinc 2 1, 3) := by decide +kernel
theorem dX8_tooMuch_46 : decode cX8_tooMuch 46 = .ok (.goto (-20), 3) := by decide +kernel
theorem dX8_tooMuch_49 : decode cX8_tooMuch 49 = .ok (.bipush (-4), 2) := by decide +kernel
theorem dX8_tooMuch_51 : decode cX8_tooMuch 51 = .ok (.ireturn, 1) := by decide +kernel
set_option maxRecDepth 20000 in
theorem ggX8_isClose_X8_holds : GoodIn wsX8_isClose wsX8_holds := goodIn_r _ [6, 7, 8, 9, 5, 10, 11, 12, 13, 14, 1, 15, 16, 17, 18, 19, 20, 21, 22, 23, 24, 25, 26, 27, 28, 29, 30, 31, 32, 33, 34, 35, 36, 37, 38, 39, 40, 41, 42, 43, 44, 45, 46, 47, 56, 57, 58, 59, 60, 61, 62, 63, 64, 65, 66, 67, 68] (by decide +kernel) (by decide +kernel)
set_option maxRecDepth 20000 in
theorem gX8_isClose_X8_holds : GoodIn wsX8_isClose (wsV RX8 143 RX8 yX8_holds wsX8_holds) := goodIn_app (goodIn_of _ (by decide +kernel)) ggX8_isClose_X8_holds
set_option maxRecDepth 20000 in
theorem ggX8_isClose_X8_areApart : GoodIn wsX8_isClose wsX8_areApart := goodIn_r _ [51, 11, 12, 13, 5, 14, 1, 52, 53, 54, 55, 31, 7, 8, 9, 10, 19, 20, 21, 22, 23, 24, 25, 26, 27, 28, 29, 30, 32, 33, 34, 35, 36, 37, 38, 39, 40, 41, 42, 43, 56, 57, 58, 59, 60, 61, 62, 63, 64, 65, 66, 67, 68] (by decide +kernel) (by decide +kernel)
set_option maxRecDepth 20000 in
theorem gX8_isClose_X8_areApart : GoodIn wsX8_isClose (wsV RX8 152 RX8 yX8_areApart wsX8_areApart) := goodIn_app (goodIn_of _ (by decide +kernel)) ggX8_isClose_X8_areApart
theorem dX8_isClose_0 : decode cX8_isClose 0 = .ok (.aload_n 0, 1) := by decide +kernel
theorem dX8_isClose_1 : decode cX8_isClose 1 = .ok (.iload_n 1, 1) := by decide +kernel
theorem dX8_isClose_2 : decode cX8_isClose 2 = .ok (.iload_n 2, 1) := by decide +kernel
theorem dX8_isClose_3 : decode cX8_isClose 3 = .ok (.invokevirtual 143, 3) := by decide +kernel
theorem dX8_isClose_6 : decode cX8_isClose 6 = .ok (.istore_n 3, 1) := by decide +kernel
theorem dX8_isClose_7 : decode cX8_isClose 7 = .ok (.iconst 0, 1) := by decide +kernel
theorem dX8_isClose_8 : decode cX8_isClose 8 = .ok (.istore 4, 2) := by decide +kernel
theorem dX8_isClose_10 : decode cX8_isClose 10 = .ok (.iload 4, 2) := by decide +kernel
theorem dX8_isClose_12 : decode cX8_isClose 12 = .ok (.aload_n 0, 1) := by decide +kernel
theorem dX8_isClose_13 : decode cX8_isClose 13 = .ok (.getfield 7, 3) := by decide +kernel
theorem dX8_isClose_16 : decode cX8_isClose 16 = .ok (.iconst 1, 1) := by decide +kernel
theorem dX8_isClose_17 : decode cX8_isClose 17 = .ok (.iaload, 1) := by decide +kernel
theorem dX8_isClose_18 : decode cX8_isClose 18 = .ok (.if_icmp .ge 36, 3) := by decide +kernel
theorem dX8_isClose_21 : decode cX8_isClose 21 = .ok (.iload_n 3, 1) := by decide +kernel
theorem dX8_isClose_22 : decode cX8_isClose 22 = .ok (.ifCond .eq 32, 3) := by decide +kernel
theorem dX8_isClose_25 : decode cX8_isClose 25 = .ok (.iload 4, 2) := by decide +kernel
theorem dX8_isClose_27 : decode cX8_isClose 27 = .ok (.iload_n 1, 1) := by decide +kernel
theorem dX8_isClose_28 : decode cX8_isClose 28 = .ok (.if_icmp .eq 14, 3) := by decide +kernel
theorem dX8_isClose_31 : decode cX8_isClose 31 = .ok (.aload_n 0, 1) := by decide +kernel
theorem dX8_isClose_32 : decode cX8_isClose 32 = .ok (.iload_n 1, 1) := by decide +kernel
theorem dX8_isClose_33 : decode cX8_isClose 33 = .ok (.iload 4, 2) := by decide +kernel
theorem dX8_isClose_35 : decode cX8_isClose 35 = .ok (.iload_n 2, 1) := by decide +kernel
theorem dX8_isClose_36 : decode cX8_isClose 36 = .ok (.invokevirtual 152, 3) := by decide +kernel
theorem dX8_isClose_39 : decode cX8_isClose 39 = .ok (.ifCond .eq 7, 3) := by decide +kernel
theorem dX8_isClose_42 : decode cX8_isClose 42 = .ok (.iconst 1, 1) := by decide +kernel
theorem dX8_isClose_43 : decode cX8_isClose 43 = .ok (.goto 4, 3) := by decide +kernel
theorem dX8_isClose_46 : decode cX8_isClose 46 = .ok (.iconst 0, 1) := by decide +kernel
theorem dX8_isClose_47 : decode cX8_isClose 47 = .ok (.istore_n 3, 1) := by decide +kernel
theorem dX8_isClose_48 : decode cX8_isClose 48 = .ok (.iinc 4 1, 3) := by decide +kernel
theorem dX8_isClose_51 : decode cX8_isClose 51 = .ok (.goto (-41), 3) := by decide +kernel
theorem dX8_isClose_54 : decode cX8_isClose 54 = .ok (.iload_n 3, 1) := by decide +kernel
theorem dX8_isClose_55 : decode cX8_isClose 55 = .ok (.ireturn, 1) := by decide +kernel
set_option maxRecDepth 20000 in
theorem ggX8_close_X8_isShip : GoodIn wsX8_close wsX8_isShip := goodIn_r _ [5, 6, 7, 8, 4, 9, 74, 75, 76, 77, 78, 79, 80, 81, 82, 83, 84, 85, 86] (by decide +kernel) (by decide +kernel)
set_option maxRecDepth 20000 in
theorem gX8_close_X8_isShip : GoodIn wsX8_close (wsV RX8 124 RX8 yX8_isShip wsX8_isShip) := goodIn_app (goodIn_of _ (by decide +kernel)) ggX8_close_X8_isShip
set_option maxRecDepth 20000 in
theorem ggX8_close_X8_isWind : GoodIn wsX8_close wsX8_isWind := goodIn_r _ [12, 7, 8, 4, 9] (by decide +kernel) (by decide +kernel)
set_option maxRecDepth 20000 in
theorem gX8_close_X8_isWind : GoodIn wsX8_close (va_wsS RX8 140 yX8_isWind wsX8_isWind) := goodIn_app (goodIn_of _ (by decide +kernel)) ggX8_close_X8_isWind
set_option maxRecDepth 20000 in
theorem ggX8_close_X8_of : GoodIn wsX8_close wsX8_of := goodIn_r _ [16, 6, 74, 75, 76, 77, 78, 79, 80, 81, 82, 83, 84, 85, 86] (by decide +kernel) (by decide +kernel)
set_option maxRecDepth 20000 in
theorem gX8_close_X8_of : GoodIn wsX8_close (wsV RX8 106 RX8 yX8_of wsX8_of) := goodIn_app (goodIn_of _ (by decide +kernel)) ggX8_close_X8_of
set_option maxRecDepth 20000 in
theorem ggX8_close_X8_put : GoodIn wsX8_close wsX8_put := goodIn_r _ [20, 6, 74, 75, 76, 77, 78, 79, 80, 81, 82, 83, 84, 85, 86] (by decide +kernel) (by decide +kernel)
set_option maxRecDepth 20000 in
theorem gX8_close_X8_put : GoodIn wsX8_close (wsV RX8 130 RX8 yX8_put wsX8_put) := goodIn_app (goodIn_of _ (by decide +kernel)) ggX8_close_X8_put
set_option maxRecDepth 20000 in
theorem ggX8_close_X8_isClose : GoodIn wsX8_close wsX8_isClose := goodIn_r _ [24, 6, 25, 26, 27, 4, 28, 29, 30, 31, 32, 13, 14, 15, 16, 33, 34, 35, 36, 37, 38, 39, 40, 41, 42, 43, 44, 45, 46, 47, 48, 49, 50, 51, 52, 53, 54, 55, 56, 57, 58, 59, 60, 61, 62, 63, 64, 65, 66, 67, 68, 69, 70, 71, 72, 73, 74, 75, 76, 77, 78, 79, 80, 81, 82, 83, 84, 85, 86] (by decide +kernel) (by decide +kernel)
set_option maxRecDepth 20000 in
theorem gX8_close_X8_isClose : GoodIn wsX8_close (wsV RX8 155 RX8 yX8_isClose wsX8_isClose) := goodIn_app (goodIn_of _ (by decide +kernel)) ggX8_close_X8_isClose
theorem dX8_close_0 : decode cX8_close 0 = .ok (.aload_n 0, 1) := by decide +kernel
theorem dX8_close_1 : decode cX8_close 1 = .ok (.iload_n 1, 1) := by decide +kernel
theorem dX8_close_2 : decode cX8_close 2 = .ok (.invokevirtual 124, 3) := by decide +kernel
theorem dX8_close_5 : decode cX8_close 5 = .ok (.ifCond .eq 10, 3) := by decide +kernel
theorem dX8_close_8 : decode cX8_close 8 = .ok (.iload_n 2, 1) := by decide +kernel
theorem dX8_close_9 : decode cX8_close 9 = .ok (.invokestatic 140, 3) := by decide +kernel
theorem dX8_close_12 : decode cX8_close 12 = .ok (.ifCond .ne 5, 3) := by decide +kernel
theorem dX8_close_15 : decode cX8_close 15 = .ok (.iconst (-1), 1) := by decide +kernel
theorem dX8_close_16 : decode cX8_close 16 = .ok (.ireturn, 1) := by decide +kernel
theorem dX8_close_17 : decode cX8_close 17 = .ok (.aload_n 0, 1) := by decide +kernel
theorem dX8_close_18 : decode cX8_close 18 = .ok (.iload_n 1, 1) := by decide +kernel
theorem dX8_close_19 : decode cX8_close 19 = .ok (.bipush 7, 2) := by decide +kernel
theorem dX8_close_21 : decode cX8_close 21 = .ok (.invokevirtual 106, 3) := by decide +kernel
theorem dX8_close_24 : decode cX8_close 24 = .ok (.iconst 1, 1) := by decide +kernel
theorem dX8_close_25 : decode cX8_close 25 = .ok (.if_icmp .ne 6, 3) := by decide +kernel
theorem dX8_close_28 : decode cX8_close 28 = .ok (.bipush (-2), 2) := by decide +kernel
theorem dX8_close_30 : decode cX8_close 30 = .ok (.ireturn, 1) := by decide +kernel
theorem dX8_close_31 : decode cX8_close 31 = .ok (.aload_n 0, 1) := by decide +kernel
theorem dX8_close_32 : decode cX8_close 32 = .ok (.iload_n 1, 1) := by decide +kernel
theorem dX8_close_33 : decode cX8_close 33 = .ok (.iconst 2, 1) := by decide +kernel
theorem dX8_close_34 : decode cX8_close 34 = .ok (.invokevirtual 106, 3) := by decide +kernel
theorem dX8_close_37 : decode cX8_close 37 = .ok (.istore_n 3, 1) := by decide +kernel
theorem dX8_close_38 : decode cX8_close 38 = .ok (.bipush (-4), 2) := by decide +kernel
theorem dX8_close_40 : decode cX8_close 40 = .ok (.istore 4, 2) := by decide +kernel
theorem dX8_close_42 : decode cX8_close 42 = .ok (.bipush 60, 2) := by decide +kernel
theorem dX8_close_44 : decode cX8_close 44 = .ok (.istore 5, 2) := by decide +kernel
theorem dX8_close_46 : decode cX8_close 46 = .ok (.iload 5, 2) := by decide +kernel
theorem dX8_close_48 : decode cX8_close 48 = .ok (.ifCond .le 42, 3) := by decide +kernel
theorem dX8_close_51 : decode cX8_close 51 = .ok (.iload 4, 2) := by decide +kernel
theorem dX8_close_53 : decode cX8_close 53 = .ok (.bipush (-4), 2) := by decide +kernel
theorem dX8_close_55 : decode cX8_close 55 = .ok (.if_icmp .ne 35, 3) := by decide +kernel
theorem dX8_close_58 : decode cX8_close 58 = .ok (.aload_n 0, 1) := by decide +kernel
theorem dX8_close_59 : decode cX8_close 59 = .ok (.iload_n 1, 1) := by decide +kernel
theorem dX8_close_60 : decode cX8_close 60 = .ok (.iconst 2, 1) := by decide +kernel
theorem dX8_close_61 : decode cX8_close 61 = .ok (.iload 5, 2) := by decide +kernel
theorem dX8_close_63 : decode cX8_close 63 = .ok (.invokevirtual 130, 3) := by decide +kernel
theorem dX8_close_66 : decode cX8_close 66 = .ok (.aload_n 0, 1) := by decide +kernel
theorem dX8_close_67 : decode cX8_close 67 = .ok (.iload_n 1, 1) := by decide +kernel
theorem dX8_close_68 : decode cX8_close 68 = .ok (.iload_n 2, 1) := by decide +kernel
theorem dX8_close_69 : decode cX8_close 69 = .ok (.invokevirtual 155, 3) := by decide +kernel
theorem dX8_close_72 : decode cX8_close 72 = .ok (.ifCond .eq 8, 3) := by decide +kernel
theorem dX8_close_75 : decode cX8_close 75 = .ok (.iload 5, 2) := by decide +kernel
theorem dX8_close_77 : decode cX8_close 77 = .ok (.goto 5, 3) := by decide +kernel
theorem dX8_close_80 : decode cX8_close 80 = .ok (.bipush (-4), 2) := by decide +kernel
theorem dX8_close_82 : decode cX8_close 82 = .ok (.istore 4, 2) := by decide +kernel
theorem dX8_close_84 : decode cX8_close 84 = .ok (.iinc 5 (-1), 3) := by decide +kernel
theorem dX8_close_87 : decode cX8_close 87 = .ok (.goto (-41), 3) := by decide +kernel
theorem dX8_close_90 : decode cX8_close 90 = .ok (.aload_n 0, 1) := by decide +kernel
theorem dX8_close_91 : decode cX8_close 91 = .ok (.iload_n 1, 1) := by decide +kernel
theorem dX8_close_92 : decode cX8_close 92 = .ok (.iconst 2, 1) := by decide +kernel
theorem dX8_close_93 : decode cX8_close 93 = .ok (.iload_n 3, 1) := by decide +kernel
theorem dX8_close_94 : decode cX8_close 94 = .ok (.invokevirtual 130, 3) := by decide +kernel
theorem dX8_close_97 : decode cX8_close 97 = .ok (.iload 4, 2) := by decide +kernel
theorem dX8_close_99 : decode cX8_close 99 = .ok (.ireturn, 1) := by decide +kernel
set_option maxRecDepth 20000 in
theorem ggX8_all_X8_isWind : GoodIn wsX8_all wsX8_isWind := goodIn_r _ [5, 6, 7, 4, 8] (by decide +kernel) (by decide +kernel)
set_option maxRecDepth 20000 in
theorem gX8_all_X8_isWind : GoodIn wsX8_all (va_wsS RX8 140 yX8_isWind wsX8_isWind) := goodIn_app (goodIn_of _ (by decide +kernel)) ggX8_all_X8_isWind
set_option maxRecDepth 20000 in
theorem ggX8_all_X8_in : GoodIn wsX8_all wsX8_in := goodIn_r _ [8] (by decide +kernel) (by decide +kernel)
set_option maxRecDepth 20000 in
theorem gX8_all_X8_in : GoodIn wsX8_all (va_wsS RX8 40 yX8_in wsX8_in) := goodIn_app (goodIn_of _ (by decide +kernel)) ggX8_all_X8_in
set_option maxRecDepth 20000 in
theorem ggX8_all_X8_holds : GoodIn wsX8_all wsX8_holds := goodIn_r _ [12, 13, 14, 15, 4, 16, 17, 18, 19, 20, 1, 21, 22, 23, 24, 25, 26, 27, 28, 29, 30, 31, 32, 33, 34, 35, 36, 37, 38, 39, 40, 41, 42, 43, 44, 45, 46, 47, 48, 49, 50, 51, 52, 53, 62, 63, 64, 65, 66, 67, 68, 69, 70, 71, 72, 73, 74] (by decide +kernel) (by decide +kernel)
set_option maxRecDepth 20000 in
theorem gX8_all_X8_holds : GoodIn wsX8_all (wsV RX8 143 RX8 yX8_holds wsX8_holds) := goodIn_app (goodIn_of _ (by decide +kernel)) ggX8_all_X8_holds
set_option maxRecDepth 20000 in
theorem ggX8_all_X8_areApart : GoodIn wsX8_all wsX8_areApart := goodIn_r _ [57, 17, 18, 19, 4, 20, 1, 58, 59, 60, 61, 37, 13, 14, 15, 16, 25, 26, 27, 28, 29, 30, 31, 32, 33, 34, 35, 36, 38, 39, 40, 41, 42, 43, 44, 45, 46, 47, 48, 49, 62, 63, 64, 65, 66, 67, 68, 69, 70, 71, 72, 73, 74] (by decide +kernel) (by decide +kernel)
set_option maxRecDepth 20000 in
theorem gX8_all_X8_areApart : GoodIn wsX8_all (wsV RX8 152 RX8 yX8_areApart wsX8_areApart) := goodIn_app (goodIn_of _ (by decide +kernel)) ggX8_all_X8_areApart
theorem dX8_all_0 : decode cX8_all 0 = .ok (.iload_n 1, 1) := by decide +kernel
theorem dX8_all_1 : decode cX8_all 1 = .ok (.invokestatic 140, 3) := by decide +kernel
theorem dX8_all_4 : decode cX8_all 4 = .ok (.ifCond .eq 12, 3) := by decide +kernel
theorem dX8_all_7 : decode cX8_all 7 = .ok (.iload_n 2, 1) := by decide +kernel
theorem dX8_all_8 : decode cX8_all 8 = .ok (.iconst 0, 1) := by decide +kernel
theorem dX8_all_9 : decode cX8_all 9 = .ok (.iconst 1, 1) := by decide +kernel
theorem dX8_all_10 : decode cX8_all 10 = .ok (.invokestatic 40, 3) := by decide +kernel
theorem dX8_all_13 : decode cX8_all 13 = .ok (.ifCond .ne 5, 3) := by decide +kernel
theorem dX8_all_16 : decode cX8_all 16 = .ok (.iconst (-1), 1) := by decide +kernel
theorem dX8_all_17 : decode cX8_all 17 = .ok (.ireturn, 1) := by decide +kernel
theorem dX8_all_18 : decode cX8_all 18 = .ok (.iconst 0, 1) := by decide +kernel
theorem dX8_all_19 : decode cX8_all 19 = .ok (.istore_n 3, 1) := by decide +kernel
theorem dX8_all_20 : decode cX8_all 20 = .ok (.iconst 0, 1) := by decide +kernel
theorem dX8_all_21 : decode cX8_all 21 = .ok (.istore 4, 2) := by decide +kernel
theorem dX8_all_23 : decode cX8_all 23 = .ok (.iconst 0, 1) := by decide +kernel
theorem dX8_all_24 : decode cX8_all 24 = .ok (.istore 5, 2) := by decide +kernel
theorem dX8_all_26 : decode cX8_all 26 = .ok (.iload 5, 2) := by decide +kernel
theorem dX8_all_28 : decode cX8_all 28 = .ok (.aload_n 0, 1) := by decide +kernel
theorem dX8_all_29 : decode cX8_all 29 = .ok (.getfield 7, 3) := by decide +kernel
theorem dX8_all_32 : decode cX8_all 32 = .ok (.iconst 1, 1) := by decide +kernel
theorem dX8_all_33 : decode cX8_all 33 = .ok (.iaload, 1) := by decide +kernel
theorem dX8_all_34 : decode cX8_all 34 = .ok (.if_icmp .ge 77, 3) := by decide +kernel
theorem dX8_all_37 : decode cX8_all 37 = .ok (.iload_n 3, 1) := by decide +kernel
theorem dX8_all_38 : decode cX8_all 38 = .ok (.aload_n 0, 1) := by decide +kernel
theorem dX8_all_39 : decode cX8_all 39 = .ok (.iload 5, 2) := by decide +kernel
theorem dX8_all_41 : decode cX8_all 41 = .ok (.iload_n 1, 1) := by decide +kernel
theorem dX8_all_42 : decode cX8_all 42 = .ok (.invokevirtual 143, 3) := by decide +kernel
theorem dX8_all_45 : decode cX8_all 45 = .ok (.ifCond .eq 7, 3) := by decide +kernel
theorem dX8_all_48 : decode cX8_all 48 = .ok (.iconst 1, 1) := by decide +kernel
theorem dX8_all_49 : decode cX8_all 49 = .ok (.goto 4, 3) := by decide +kernel
theorem dX8_all_52 : decode cX8_all 52 = .ok (.iconst 0, 1) := by decide +kernel
theorem dX8_all_53 : decode cX8_all 53 = .ok (.iadd, 1) := by decide +kernel
theorem dX8_all_54 : decode cX8_all 54 = .ok (.istore_n 3, 1) := by decide +kernel
theorem dX8_all_55 : decode cX8_all 55 = .ok (.iload 5, 2) := by decide +kernel
theorem dX8_all_57 : decode cX8_all 57 = .ok (.iconst 1, 1) := by decide +kernel
theorem dX8_all_58 : decode cX8_all 58 = .ok (.iadd, 1) := by decide +kernel
theorem dX8_all_59 : decode cX8_all 59 = .ok (.istore 6, 2) := by decide +kernel
theorem dX8_all_61 : decode cX8_all 61 = .ok (.iload 6, 2) := by decide +kernel
theorem dX8_all_63 : decode cX8_all 63 = .ok (.aload_n 0, 1) := by decide +kernel
theorem dX8_all_64 : decode cX8_all 64 = .ok (.getfield 7, 3) := by decide +kernel
theorem dX8_all_67 : decode cX8_all 67 = .ok (.iconst 1, 1) := by decide +kernel
theorem dX8_all_68 : decode cX8_all 68 = .ok (.iaload, 1) := by decide +kernel
theorem dX8_all_69 : decode cX8_all 69 = .ok (.if_icmp .ge 36, 3) := by decide +kernel
theorem dX8_all_72 : decode cX8_all 72 = .ok (.iload_n 2, 1) := by decide +kernel
theorem dX8_all_73 : decode cX8_all 73 = .ok (.iconst 1, 1) := by decide +kernel
theorem dX8_all_74 : decode cX8_all 74 = .ok (.if_icmp .ne 31, 3) := by decide +kernel
theorem dX8_all_77 : decode cX8_all 77 = .ok (.iload 4, 2) := by decide +kernel
theorem dX8_all_79 : decode cX8_all 79 = .ok (.aload_n 0, 1) := by decide +kernel
theorem dX8_all_80 : decode cX8_all 80 = .ok (.iload 5, 2) := by decide +kernel
theorem dX8_all_82 : decode cX8_all 82 = .ok (.iload 6, 2) := by decide +kernel
theorem dX8_all_84 : decode cX8_all 84 = .ok (.iload_n 1, 1) := by decide +kernel
theorem dX8_all_85 : decode cX8_all 85 = .ok (.invokevirtual 152, 3) := by decide +kernel
theorem dX8_all_88 : decode cX8_all 88 = .ok (.ifCond .eq 7, 3) := by decide +kernel
theorem dX8_all_91 : decode cX8_all 91 = .ok (.iconst 0, 1) := by decide +kernel
theorem dX8_all_92 : decode cX8_all 92 = .ok (.goto 4, 3) := by decide +kernel
theorem dX8_all_95 : decode cX8_all 95 = .ok (.iconst 1, 1) := by decide +kernel
theorem dX8_all_96 : decode cX8_all 96 = .ok (.iadd, 1) := by decide +kernel
theorem dX8_all_97 : decode cX8_all 97 = .ok (.istore 4, 2) := by decide +kernel
theorem dX8_all_99 : decode cX8_all 99 = .ok (.iinc 6 1, 3) := by decide +kernel
theorem dX8_all_102 : decode cX8_all 102 = .ok (.goto (-41), 3) := by decide +kernel
theorem dX8_all_105 : decode cX8_all 105 = .ok (.iinc 5 1, 3) := by decide +kernel
theorem dX8_all_108 : decode cX8_all 108 = .ok (.goto (-82), 3) := by decide +kernel
theorem dX8_all_111 : decode cX8_all 111 = .ok (.iload_n 2, 1) := by decide +kernel
theorem dX8_all_112 : decode cX8_all 112 = .ok (.ifCond .ne 7, 3) := by decide +kernel
theorem dX8_all_115 : decode cX8_all 115 = .ok (.iload_n 3, 1) := by decide +kernel
theorem dX8_all_116 : decode cX8_all 116 = .ok (.goto 5, 3) := by decide +kernel
theorem dX8_all_119 : decode cX8_all 119 = .ok (.iload 4, 2) := by decide +kernel
theorem dX8_all_121 : decode cX8_all 121 = .ok (.ireturn, 1) := by decide +kernel
set_option maxRecDepth 20000 in
theorem ggX8_count_X8_of : GoodIn wsX8_count wsX8_of := goodIn_r _ [8, 1, 9, 10, 11, 12, 13, 14, 15, 16, 17, 18, 19, 20, 21] (by decide +kernel) (by decide +kernel)
set_option maxRecDepth 20000 in
theorem gX8_count_X8_of : GoodIn wsX8_count (wsV RX8 106 RX8 yX8_of wsX8_of) := goodIn_app (goodIn_of _ (by decide +kernel)) ggX8_count_X8_of
theorem dX8_count_0 : decode cX8_count 0 = .ok (.iconst 0, 1) := by decide +kernel
theorem dX8_count_1 : decode cX8_count 1 = .ok (.istore_n 2, 1) := by decide +kernel
theorem dX8_count_2 : decode cX8_count 2 = .ok (.iconst 0, 1) := by decide +kernel
theorem dX8_count_3 : decode cX8_count 3 = .ok (.istore_n 3, 1) := by decide +kernel
theorem dX8_count_4 : decode cX8_count 4 = .ok (.iconst 0, 1) := by decide +kernel
theorem dX8_count_5 : decode cX8_count 5 = .ok (.istore 4, 2) := by decide +kernel
theorem dX8_count_7 : decode cX8_count 7 = .ok (.iconst 0, 1) := by decide +kernel
theorem dX8_count_8 : decode cX8_count 8 = .ok (.istore 5, 2) := by decide +kernel
theorem dX8_count_10 : decode cX8_count 10 = .ok (.iload 5, 2) := by decide +kernel
theorem dX8_count_12 : decode cX8_count 12 = .ok (.aload_n 0, 1) := by decide +kernel
theorem dX8_count_13 : decode cX8_count 13 = .ok (.getfield 7, 3) := by decide +kernel
theorem dX8_count_16 : decode cX8_count 16 = .ok (.iconst 1, 1) := by decide +kernel
theorem dX8_count_17 : decode cX8_count 17 = .ok (.iaload, 1) := by decide +kernel
theorem dX8_count_18 : decode cX8_count 18 = .ok (.if_icmp .ge 68, 3) := by decide +kernel
theorem dX8_count_21 : decode cX8_count 21 = .ok (.iload_n 2, 1) := by decide +kernel
theorem dX8_count_22 : decode cX8_count 22 = .ok (.aload_n 0, 1) := by decide +kernel
theorem dX8_count_23 : decode cX8_count 23 = .ok (.iload 5, 2) := by decide +kernel
theorem dX8_count_25 : decode cX8_count 25 = .ok (.bipush 7, 2) := by decide +kernel
theorem dX8_count_27 : decode cX8_count 27 = .ok (.invokevirtual 106, 3) := by decide +kernel
theorem dX8_count_30 : decode cX8_count 30 = .ok (.iadd, 1) := by decide +kernel
theorem dX8_count_31 : decode cX8_count 31 = .ok (.istore_n 2, 1) := by decide +kernel
theorem dX8_count_32 : decode cX8_count 32 = .ok (.iload_n 3, 1) := by decide +kernel
theorem dX8_count_33 : decode cX8_count 33 = .ok (.aload_n 0, 1) := by decide +kernel
theorem dX8_count_34 : decode cX8_count 34 = .ok (.iload 5, 2) := by decide +kernel
theorem dX8_count_36 : decode cX8_count 36 = .ok (.bipush 9, 2) := by decide +kernel
theorem dX8_count_38 : decode cX8_count 38 = .ok (.invokevirtual 106, 3) := by decide +kernel
theorem dX8_count_41 : decode cX8_count 41 = .ok (.iadd, 1) := by decide +kernel
theorem dX8_count_42 : decode cX8_count 42 = .ok (.istore_n 3, 1) := by decide +kernel
theorem dX8_count_43 : decode cX8_count 43 = .ok (.iload 4, 2) := by decide +kernel
theorem dX8_count_45 : decode cX8_count 45 = .ok (.aload_n 0, 1) := by decide +kernel
theorem dX8_count_46 : decode cX8_count 46 = .ok (.iload 5, 2) := by decide +kernel
theorem dX8_count_48 : decode cX8_count 48 = .ok (.bipush 7, 2) := by decide +kernel
theorem dX8_count_50 : decode cX8_count 50 = .ok (.invokevirtual 106, 3) := by decide +kernel
theorem dX8_count_53 : decode cX8_count 53 = .ok (.iconst 1, 1) := by decide +kernel
theorem dX8_count_54 : decode cX8_count 54 = .ok (.if_icmp .ne 7, 3) := by decide +kernel
theorem dX8_count_57 : decode cX8_count 57 = .ok (.iconst 0, 1) := by decide +kernel
theorem dX8_count_58 : decode cX8_count 58 = .ok (.goto 19, 3) := by decide +kernel
theorem dX8_count_61 : decode cX8_count 61 = .ok (.aload_n 0, 1) := by decide +kernel
theorem dX8_count_62 : decode cX8_count 62 = .ok (.iload 5, 2) := by decide +kernel
theorem dX8_count_64 : decode cX8_count 64 = .ok (.iconst 2, 1) := by decide +kernel
theorem dX8_count_65 : decode cX8_count 65 = .ok (.invokevirtual 106, 3) := by decide +kernel
theorem dX8_count_68 : decode cX8_count 68 = .ok (.aload_n 0, 1) := by decide +kernel
theorem dX8_count_69 : decode cX8_count 69 = .ok (.iload 5, 2) := by decide +kernel
theorem dX8_count_71 : decode cX8_count 71 = .ok (.bipush 12, 2) := by decide +kernel
theorem dX8_count_73 : decode cX8_count 73 = .ok (.invokevirtual 106, 3) := by decide +kernel
theorem dX8_count_76 : decode cX8_count 76 = .ok (.iadd, 1) := by decide +kernel
theorem dX8_count_77 : decode cX8_count 77 = .ok (.iadd, 1) := by decide +kernel
theorem dX8_count_78 : decode cX8_count 78 = .ok (.istore 4, 2) := by decide +kernel
theorem dX8_count_80 : decode cX8_count 80 = .ok (.iinc 5 1, 3) := by decide +kernel
theorem dX8_count_83 : decode cX8_count 83 = .ok (.goto (-73), 3) := by decide +kernel
theorem dX8_count_86 : decode cX8_count 86 = .ok (.iload_n 1, 1) := by decide +kernel
theorem dX8_count_87 : decode cX8_count 87 = .ok (.tableswitch 83 0 7 #[45, 52, 59, 66, 68, 70, 73, 78], 45) := by decide +kernel
theorem dX8_count_132 : decode cX8_count 132 = .ok (.aload_n 0, 1) := by decide +kernel
theorem dX8_count_133 : decode cX8_count 133 = .ok (.getfield 7, 3) := by decide +kernel
theorem dX8_count_136 : decode cX8_count 136 = .ok (.iconst 0, 1) := by decide +kernel
theorem dX8_count_137 : decode cX8_count 137 = .ok (.iaload, 1) := by decide +kernel
theorem dX8_count_138 : decode cX8_count 138 = .ok (.ireturn, 1) := by decide +kernel
theorem dX8_count_139 : decode cX8_count 139 = .ok (.aload_n 0, 1) := by decide +kernel
theorem dX8_count_140 : decode cX8_count 140 = .ok (.getfield 7, 3) := by decide +kernel
theorem dX8_count_143 : decode cX8_count 143 = .ok (.iconst 1, 1) := by decide +kernel
theorem dX8_count_144 : decode cX8_count 144 = .ok (.iaload, 1) := by decide +kernel
theorem dX8_count_145 : decode cX8_count 145 = .ok (.ireturn, 1) := by decide +kernel
theorem dX8_count_146 : decode cX8_count 146 = .ok (.aload_n 0, 1) := by decide +kernel
theorem dX8_count_147 : decode cX8_count 147 = .ok (.getfield 7, 3) := by decide +kernel
theorem dX8_count_150 : decode cX8_count 150 = .ok (.iconst 2, 1) := by decide +kernel
theorem dX8_count_151 : decode cX8_count 151 = .ok (.iaload, 1) := by decide +kernel
theorem dX8_count_152 : decode cX8_count 152 = .ok (.ireturn, 1) := by decide +kernel
theorem dX8_count_153 : decode cX8_count 153 = .ok (.iload_n 2, 1) := by decide +kernel
theorem dX8_count_154 : decode cX8_count 154 = .ok (.ireturn, 1) := by decide +kernel
theorem dX8_count_155 : decode cX8_count 155 = .ok (.iload_n 3, 1) := by decide +kernel
theorem dX8_count_156 : decode cX8_count 156 = .ok (.ireturn, 1) := by decide +kernel
theorem dX8_count_157 : decode cX8_count 157 = .ok (.iload 4, 2) := by decide +kernel
theorem dX8_count_159 : decode cX8_count 159 = .ok (.ireturn, 1) := by decide +kernel
theorem dX8_count_160 : decode cX8_count 160 = .ok (.aload_n 0, 1) := by decide +kernel
theorem dX8_count_161 : decode cX8_count 161 = .ok (.getfield 72, 3) := by decide +kernel
theorem dX8_count_164 : decode cX8_count 164 = .ok (.ireturn, 1) := by decide +kernel
theorem dX8_count_165 : decode cX8_count 165 = .ok (.aload_n 0, 1) := by decide +kernel
theorem dX8_count_166 : decode cX8_count 166 = .ok (.getfield 44, 3) := by decide +kernel
theorem dX8_count_169 : decode cX8_count 169 = .ok (.ireturn, 1) := by decide +kernel
theorem dX8_count_170 : decode cX8_count 170 = .ok (.iconst (-1), 1) := by decide +kernel
theorem dX8_count_171 : decode cX8_count 171 = .ok (.ireturn, 1) := by decide +kernel
theorem dJ9_max_7cf53_0 : decode cJ9_max_7cf53 0 = .ok (.iload_n 0, 1) := by decide +kernel
theorem dJ9_max_7cf53_1 : decode cJ9_max_7cf53 1 = .ok (.iload_n 1, 1) := by decide +kernel
theorem dJ9_max_7cf53_2 : decode cJ9_max_7cf53 2 = .ok (.if_icmp .lt 7, 3) := by decide +kernel
theorem dJ9_max_7cf53_5 : decode cJ9_max_7cf53 5 = .ok (.iload_n 0, 1) := by decide +kernel
theorem dJ9_max_7cf53_6 : decode cJ9_max_7cf53 6 = .ok (.goto 4, 3) := by decide +kernel
theorem dJ9_max_7cf53_9 : decode cJ9_max_7cf53 9 = .ok (.iload_n 1, 1) := by decide +kernel
theorem dJ9_max_7cf53_10 : decode cJ9_max_7cf53 10 = .ok (.ireturn, 1) := by decide +kernel
theorem dJ9_min_7cf53_0 : decode cJ9_min_7cf53 0 = .ok (.iload_n 0, 1) := by decide +kernel
theorem dJ9_min_7cf53_1 : decode cJ9_min_7cf53 1 = .ok (.iload_n 1, 1) := by decide +kernel
theorem dJ9_min_7cf53_2 : decode cJ9_min_7cf53 2 = .ok (.if_icmp .gt 7, 3) := by decide +kernel
theorem dJ9_min_7cf53_5 : decode cJ9_min_7cf53 5 = .ok (.iload_n 0, 1) := by decide +kernel
theorem dJ9_min_7cf53_6 : decode cJ9_min_7cf53 6 = .ok (.goto 4, 3) := by decide +kernel
theorem dJ9_min_7cf53_9 : decode cJ9_min_7cf53 9 = .ok (.iload_n 1, 1) := by decide +kernel
theorem dJ9_min_7cf53_10 : decode cJ9_min_7cf53 10 = .ok (.ireturn, 1) := by decide +kernel
set_option maxRecDepth 20000 in
theorem ggJ0_length_8abf5_J0_coder_7d493 : GoodIn wsJ0_length_8abf5 wsJ0_coder_7d493 := goodIn_r _ [6, 7, 8] (by decide +kernel) (by decide +kernel)
set_option maxRecDepth 20000 in
theorem gJ0_length_8abf5_J0_coder_7d493 : GoodIn wsJ0_length_8abf5 (wsV RJ0 335 RJ0 yJ0_coder_7d493 wsJ0_coder_7d493) := goodIn_app (goodIn_of _ (by decide +kernel)) ggJ0_length_8abf5_J0_coder_7d493
theorem dJ0_length_8abf5_0 : decode cJ0_length_8abf5 0 = .ok (.aload_n 0, 1) := by decide +kernel
theorem dJ0_length_8abf5_1 : decode cJ0_length_8abf5 1 = .ok (.getfield 9, 3) := by decide +kernel
theorem dJ0_length_8abf5_4 : decode cJ0_length_8abf5 4 = .ok (.arraylength, 1) := by decide +kernel
theorem dJ0_length_8abf5_5 : decode cJ0_length_8abf5 5 = .ok (.aload_n 0, 1) := by decide +kernel
theorem dJ0_length_8abf5_6 : decode cJ0_length_8abf5 6 = .ok (.invokevirtual 335, 3) := by decide +kernel
theorem dJ0_length_8abf5_9 : decode cJ0_length_8abf5 9 = .ok (.ishr, 1) := by decide +kernel
theorem dJ0_length_8abf5_10 : decode cJ0_length_8abf5 10 = .ok (.ireturn, 1) := by decide +kernel
set_option maxRecDepth 20000 in
theorem ggJ0_charAt_5068e_J0_isLatin1_aae02 : GoodIn wsJ0_charAt_5068e wsJ0_isLatin1_aae02 := goodIn_r _ [6, 7, 8] (by decide +kernel) (by decide +kernel)
set_option maxRecDepth 20000 in
theorem gJ0_charAt_5068e_J0_isLatin1_aae02 : GoodIn wsJ0_charAt_5068e (wsV RJ0 492 RJ0 yJ0_isLatin1_aae02 wsJ0_isLatin1_aae02) := goodIn_app (goodIn_of _ (by decide +kernel)) ggJ0_charAt_5068e_J0_isLatin1_aae02
set_option maxRecDepth 20000 in
theorem ggJ0_charAt_5068e_J1_charAt_3b067 : GoodIn wsJ0_charAt_5068e wsJ1_charAt_3b067 := goodIn_r _ [12, 13, 14, 5, 15, 16, 17, 18, 19, 20] (by decide +kernel) (by decide +kernel)
set_option maxRecDepth 20000 in
theorem gJ0_charAt_5068e_J1_charAt_3b067 : GoodIn wsJ0_charAt_5068e (va_wsS RJ0 495 yJ1_charAt_3b067 wsJ1_charAt_3b067) := goodIn_app (goodIn_of _ (by decide +kernel)) ggJ0_charAt_5068e_J1_charAt_3b067
set_option maxRecDepth 20000 in
theorem ggJ0_charAt_5068e_J2_charAt_3b067 : GoodIn wsJ0_charAt_5068e wsJ2_charAt_3b067 := goodIn_r _ [24, 25, 26, 23, 27, 28, 29, 30, 31, 14, 5, 15, 16, 17, 18, 19, 20, 32, 33, 34, 35, 36, 37] (by decide +kernel) (by decide +kernel)
set_option maxRecDepth 20000 in
theorem gJ0_charAt_5068e_J2_charAt_3b067 : GoodIn wsJ0_charAt_5068e (va_wsS RJ0 498 yJ2_charAt_3b067 wsJ2_charAt_3b067) := goodIn_app (goodIn_of _ (by decide +kernel)) ggJ0_charAt_5068e_J2_charAt_3b067
theorem dJ0_charAt_5068e_0 : decode cJ0_charAt_5068e 0 = .ok (.aload_n 0, 1) := by decide +kernel
theorem dJ0_charAt_5068e_1 : decode cJ0_charAt_5068e 1 = .ok (.invokevirtual 492, 3) := by decide +kernel
theorem dJ0_charAt_5068e_4 : decode cJ0_charAt_5068e 4 = .ok (.ifCond .eq 12, 3) := by decide +kernel
theorem dJ0_charAt_5068e_7 : decode cJ0_charAt_5068e 7 = .ok (.aload_n 0, 1) := by decide +kernel
theorem dJ0_charAt_5068e_8 : decode cJ0_charAt_5068e 8 = .ok (.getfield 9, 3) := by decide +kernel
theorem dJ0_charAt_5068e_11 : decode cJ0_charAt_5068e 11 = .ok (.iload_n 1, 1) := by decide +kernel
theorem dJ0_charAt_5068e_12 : decode cJ0_charAt_5068e 12 = .ok (.invokestatic 495, 3) := by decide +kernel
theorem dJ0_charAt_5068e_15 : decode cJ0_charAt_5068e 15 = .ok (.ireturn, 1) := by decide +kernel
theorem dJ0_charAt_5068e_16 : decode cJ0_charAt_5068e 16 = .ok (.aload_n 0, 1) := by decide +kernel
theorem dJ0_charAt_5068e_17 : decode cJ0_charAt_5068e 17 = .ok (.getfield 9, 3) := by decide +kernel
theorem dJ0_charAt_5068e_20 : decode cJ0_charAt_5068e 20 = .ok (.iload_n 1, 1) := by decide +kernel
theorem dJ0_charAt_5068e_21 : decode cJ0_charAt_5068e 21 = .ok (.invokestatic 498, 3) := by decide +kernel
theorem dJ0_charAt_5068e_24 : decode cJ0_charAt_5068e 24 = .ok (.ireturn, 1) := by decide +kernel
theorem dJ0_coder_7d493_0 : decode cJ0_coder_7d493 0 = .ok (.getstatic 38, 3) := by decide +kernel
theorem dJ0_coder_7d493_3 : decode cJ0_coder_7d493 3 = .ok (.ifCond .eq 10, 3) := by decide +kernel
theorem dJ0_coder_7d493_6 : decode cJ0_coder_7d493 6 = .ok (.aload_n 0, 1) := by decide +kernel
theorem dJ0_coder_7d493_7 : decode cJ0_coder_7d493 7 = .ok (.getfield 15, 3) := by decide +kernel
theorem dJ0_coder_7d493_10 : decode cJ0_coder_7d493 10 = .ok (.goto 4, 3) := by decide +kernel
theorem dJ0_coder_7d493_13 : decode cJ0_coder_7d493 13 = .ok (.iconst 1, 1) := by decide +kernel
theorem dJ0_coder_7d493_14 : decode cJ0_coder_7d493 14 = .ok (.ireturn, 1) := by decide +kernel
theorem dJ0_isLatin1_aae02_0 : decode cJ0_isLatin1_aae02 0 = .ok (.getstatic 38, 3) := by decide +kernel
theorem dJ0_isLatin1_aae02_3 : decode cJ0_isLatin1_aae02 3 = .ok (.ifCond .eq 14, 3) := by decide +kernel
theorem dJ0_isLatin1_aae02_6 : decode cJ0_isLatin1_aae02 6 = .ok (.aload_n 0, 1) := by decide +kernel
theorem dJ0_isLatin1_aae02_7 : decode cJ0_isLatin1_aae02 7 = .ok (.getfield 15, 3) := by decide +kernel
theorem dJ0_isLatin1_aae02_10 : decode cJ0_isLatin1_aae02 10 = .ok (.ifCond .ne 7, 3) := by decide +kernel
theorem dJ0_isLatin1_aae02_13 : decode cJ0_isLatin1_aae02 13 = .ok (.iconst 1, 1) := by decide +kernel
theorem dJ0_isLatin1_aae02_14 : decode cJ0_isLatin1_aae02 14 = .ok (.goto 4, 3) := by decide +kernel
theorem dJ0_isLatin1_aae02_17 : decode cJ0_isLatin1_aae02 17 = .ok (.iconst 0, 1) := by decide +kernel
theorem dJ0_isLatin1_aae02_18 : decode cJ0_isLatin1_aae02 18 = .ok (.ireturn, 1) := by decide +kernel
set_option maxRecDepth 20000 in
theorem ggJ0_checkIndex_df160_J3_checkIndex_8e157 : GoodIn wsJ0_checkIndex_df160 wsJ3_checkIndex_8e157 := goodIn_r _ [5] (by decide +kernel) (by decide +kernel)
set_option maxRecDepth 20000 in
theorem gJ0_checkIndex_df160_J3_checkIndex_8e157 : GoodIn wsJ0_checkIndex_df160 (va_wsS RJ0 1059 yJ3_checkIndex_8e157 wsJ3_checkIndex_8e157) := goodIn_app (goodIn_of _ (by decide +kernel)) ggJ0_checkIndex_df160_J3_checkIndex_8e157
theorem dJ0_checkIndex_df160_0 : decode cJ0_checkIndex_df160 0 = .ok (.iload_n 0, 1) := by decide +kernel
theorem dJ0_checkIndex_df160_1 : decode cJ0_checkIndex_df160 1 = .ok (.iload_n 1, 1) := by decide +kernel
theorem dJ0_checkIndex_df160_2 : decode cJ0_checkIndex_df160 2 = .ok (.getstatic 1053, 3) := by decide +kernel
theorem dJ0_checkIndex_df160_5 : decode cJ0_checkIndex_df160 5 = .ok (.invokestatic 1059, 3) := by decide +kernel
theorem dJ0_checkIndex_df160_8 : decode cJ0_checkIndex_df160 8 = .ok (.pop, 1) := by decide +kernel
theorem dJ0_checkIndex_df160_9 : decode cJ0_checkIndex_df160 9 = .ok (.return_, 1) := by decide +kernel
set_option maxRecDepth 20000 in
theorem ggJ1_charAt_3b067_J0_checkIndex_df160 : GoodIn wsJ1_charAt_3b067 wsJ0_checkIndex_df160 := goodIn_r _ [4, 5, 6, 7, 8, 9] (by decide +kernel) (by decide +kernel)
set_option maxRecDepth 20000 in
theorem gJ1_charAt_3b067_J0_checkIndex_df160 : GoodIn wsJ1_charAt_3b067 (va_wsS RJ1 9 yJ0_checkIndex_df160 wsJ0_checkIndex_df160) := goodIn_app (goodIn_of _ (by decide +kernel)) ggJ1_charAt_3b067_J0_checkIndex_df160
theorem dJ1_charAt_3b067_0 : decode cJ1_charAt_3b067 0 = .ok (.iload_n 1, 1) := by decide +kernel
theorem dJ1_charAt_3b067_1 : decode cJ1_charAt_3b067 1 = .ok (.aload_n 0, 1) := by decide +kernel
theorem dJ1_charAt_3b067_2 : decode cJ1_charAt_3b067 2 = .ok (.arraylength, 1) := by decide +kernel
theorem dJ1_charAt_3b067_3 : decode cJ1_charAt_3b067 3 = .ok (.invokestatic 9, 3) := by decide +kernel
theorem dJ1_charAt_3b067_6 : decode cJ1_charAt_3b067 6 = .ok (.aload_n 0, 1) := by decide +kernel
theorem dJ1_charAt_3b067_7 : decode cJ1_charAt_3b067 7 = .ok (.iload_n 1, 1) := by decide +kernel
theorem dJ1_charAt_3b067_8 : decode cJ1_charAt_3b067 8 = .ok (.baload, 1) := by decide +kernel
theorem dJ1_charAt_3b067_9 : decode cJ1_charAt_3b067 9 = .ok (.sipush 255, 3) := by decide +kernel
theorem dJ1_charAt_3b067_12 : decode cJ1_charAt_3b067 12 = .ok (.iand, 1) := by decide +kernel
theorem dJ1_charAt_3b067_13 : decode cJ1_charAt_3b067 13 = .ok (.i2c, 1) := by decide +kernel
theorem dJ1_charAt_3b067_14 : decode cJ1_charAt_3b067 14 = .ok (.ireturn, 1) := by decide +kernel
set_option maxRecDepth 20000 in
theorem ggJ2_getChar_3b067_J2_length_9d52b : GoodIn wsJ2_getChar_3b067 wsJ2_length_9d52b := goodIn_r _ [7] (by decide +kernel) (by decide +kernel)
set_option maxRecDepth 20000 in
theorem gJ2_getChar_3b067_J2_length_9d52b : GoodIn wsJ2_getChar_3b067 (va_wsS RJ2 48 yJ2_length_9d52b wsJ2_length_9d52b) := goodIn_app (goodIn_of _ (by decide +kernel)) ggJ2_getChar_3b067_J2_length_9d52b
theorem dJ2_getChar_3b067_0 : decode cJ2_getChar_3b067 0 = .ok (.getstatic 44, 3) := by decide +kernel
theorem dJ2_getChar_3b067_3 : decode cJ2_getChar_3b067 3 = .ok (.ifCond .ne 25, 3) := by decide +kernel
theorem dJ2_getChar_3b067_6 : decode cJ2_getChar_3b067 6 = .ok (.iload_n 1, 1) := by decide +kernel
theorem dJ2_getChar_3b067_7 : decode cJ2_getChar_3b067 7 = .ok (.ifCond .lt 11, 3) := by decide +kernel
theorem dJ2_getChar_3b067_10 : decode cJ2_getChar_3b067 10 = .ok (.iload_n 1, 1) := by decide +kernel
theorem dJ2_getChar_3b067_11 : decode cJ2_getChar_3b067 11 = .ok (.aload_n 0, 1) := by decide +kernel
theorem dJ2_getChar_3b067_12 : decode cJ2_getChar_3b067 12 = .ok (.invokestatic 48, 3) := by decide +kernel
theorem dJ2_getChar_3b067_15 : decode cJ2_getChar_3b067 15 = .ok (.if_icmp .lt 13, 3) := by decide +kernel
theorem dJ2_getChar_3b067_18 : decode cJ2_getChar_3b067 18 = .ok (.new 52, 3) := by decide +kernel
theorem dJ2_getChar_3b067_21 : decode cJ2_getChar_3b067 21 = .ok (.dup, 1) := by decide +kernel
theorem dJ2_getChar_3b067_22 : decode cJ2_getChar_3b067 22 = .ok (.ldc 54, 2) := by decide +kernel
theorem dJ2_getChar_3b067_24 : decode cJ2_getChar_3b067 24 = .ok (.invokespecial 56, 3) := by decide +kernel
theorem dJ2_getChar_3b067_27 : decode cJ2_getChar_3b067 27 = .ok (.athrow, 1) := by decide +kernel
theorem dJ2_getChar_3b067_28 : decode cJ2_getChar_3b067 28 = .ok (.iload_n 1, 1) := by decide +kernel
theorem dJ2_getChar_3b067_29 : decode cJ2_getChar_3b067 29 = .ok (.iconst 1, 1) := by decide +kernel
theorem dJ2_getChar_3b067_30 : decode cJ2_getChar_3b067 30 = .ok (.ishl, 1) := by decide +kernel
theorem dJ2_getChar_3b067_31 : decode cJ2_getChar_3b067 31 = .ok (.istore_n 1, 1) := by decide +kernel
theorem dJ2_getChar_3b067_32 : decode cJ2_getChar_3b067 32 = .ok (.aload_n 0, 1) := by decide +kernel
theorem dJ2_getChar_3b067_33 : decode cJ2_getChar_3b067 33 = .ok (.iload_n 1, 1) := by decide +kernel
theorem dJ2_getChar_3b067_34 : decode cJ2_getChar_3b067 34 = .ok (.iinc 1 1, 3) := by decide +kernel
theorem dJ2_getChar_3b067_37 : decode cJ2_getChar_3b067 37 = .ok (.baload, 1) := by decide +kernel
theorem dJ2_getChar_3b067_38 : decode cJ2_getChar_3b067 38 = .ok (.sipush 255, 3) := by decide +kernel
theorem dJ2_getChar_3b067_41 : decode cJ2_getChar_3b067 41 = .ok (.iand, 1) := by decide +kernel
theorem dJ2_getChar_3b067_42 : decode cJ2_getChar_3b067 42 = .ok (.getstatic 59, 3) := by decide +kernel
theorem dJ2_getChar_3b067_45 : decode cJ2_getChar_3b067 45 = .ok (.ishl, 1) := by decide +kernel
theorem dJ2_getChar_3b067_46 : decode cJ2_getChar_3b067 46 = .ok (.aload_n 0, 1) := by decide +kernel
theorem dJ2_getChar_3b067_47 : decode cJ2_getChar_3b067 47 = .ok (.iload_n 1, 1) := by decide +kernel
theorem dJ2_getChar_3b067_48 : decode cJ2_getChar_3b067 48 = .ok (.baload, 1) := by decide +kernel
theorem dJ2_getChar_3b067_49 : decode cJ2_getChar_3b067 49 = .ok (.sipush 255, 3) := by decide +kernel
theorem dJ2_getChar_3b067_52 : decode cJ2_getChar_3b067 52 = .ok (.iand, 1) := by decide +kernel
theorem dJ2_getChar_3b067_53 : decode cJ2_getChar_3b067 53 = .ok (.getstatic 63, 3) := by decide +kernel
theorem dJ2_getChar_3b067_56 : decode cJ2_getChar_3b067 56 = .ok (.ishl, 1) := by decide +kernel
theorem dJ2_getChar_3b067_57 : decode cJ2_getChar_3b067 57 = .ok (.ior, 1) := by decide +kernel
theorem dJ2_getChar_3b067_58 : decode cJ2_getChar_3b067 58 = .ok (.i2c, 1) := by decide +kernel
theorem dJ2_getChar_3b067_59 : decode cJ2_getChar_3b067 59 = .ok (.ireturn, 1) := by decide +kernel
theorem dJ2_length_9d52b_0 : decode cJ2_length_9d52b 0 = .ok (.aload_n 0, 1) := by decide +kernel
theorem dJ2_length_9d52b_1 : decode cJ2_length_9d52b 1 = .ok (.arraylength, 1) := by decide +kernel
theorem dJ2_length_9d52b_2 : decode cJ2_length_9d52b 2 = .ok (.iconst 1, 1) := by decide +kernel
theorem dJ2_length_9d52b_3 : decode cJ2_length_9d52b 3 = .ok (.ishr, 1) := by decide +kernel
theorem dJ2_length_9d52b_4 : decode cJ2_length_9d52b 4 = .ok (.ireturn, 1) := by decide +kernel
set_option maxRecDepth 20000 in
theorem ggJ2_charAt_3b067_J2_checkIndex_2214a : GoodIn wsJ2_charAt_3b067 wsJ2_checkIndex_2214a := goodIn_r _ [4, 5, 6, 3, 7, 8, 9, 10, 11, 12, 13, 14, 15, 16] (by decide +kernel) (by decide +kernel)
set_option maxRecDepth 20000 in
theorem gJ2_charAt_3b067_J2_checkIndex_2214a : GoodIn wsJ2_charAt_3b067 (va_wsS RJ2 67 yJ2_checkIndex_2214a wsJ2_checkIndex_2214a) := goodIn_app (goodIn_of _ (by decide +kernel)) ggJ2_charAt_3b067_J2_checkIndex_2214a
set_option maxRecDepth 20000 in
theorem ggJ2_charAt_3b067_J2_getChar_3b067 : GoodIn wsJ2_charAt_3b067 wsJ2_getChar_3b067 := goodIn_r _ [19, 20, 21, 22, 5, 6, 3, 7] (by decide +kernel) (by decide +kernel)
set_option maxRecDepth 20000 in
theorem gJ2_charAt_3b067_J2_getChar_3b067 : GoodIn wsJ2_charAt_3b067 (va_wsS RJ2 71 yJ2_getChar_3b067 wsJ2_getChar_3b067) := goodIn_app (goodIn_of _ (by decide +kernel)) ggJ2_charAt_3b067_J2_getChar_3b067
theorem dJ2_charAt_3b067_0 : decode cJ2_charAt_3b067 0 = .ok (.iload_n 1, 1) := by decide +kernel
theorem dJ2_charAt_3b067_1 : decode cJ2_charAt_3b067 1 = .ok (.aload_n 0, 1) := by decide +kernel
theorem dJ2_charAt_3b067_2 : decode cJ2_charAt_3b067 2 = .ok (.invokestatic 67, 3) := by decide +kernel
theorem dJ2_charAt_3b067_5 : decode cJ2_charAt_3b067 5 = .ok (.aload_n 0, 1) := by decide +kernel
theorem dJ2_charAt_3b067_6 : decode cJ2_charAt_3b067 6 = .ok (.iload_n 1, 1) := by decide +kernel
theorem dJ2_charAt_3b067_7 : decode cJ2_charAt_3b067 7 = .ok (.invokestatic 71, 3) := by decide +kernel
theorem dJ2_charAt_3b067_10 : decode cJ2_charAt_3b067 10 = .ok (.ireturn, 1) := by decide +kernel
set_option maxRecDepth 20000 in
theorem ggJ2_checkIndex_2214a_J2_length_9d52b : GoodIn wsJ2_checkIndex_2214a wsJ2_length_9d52b := goodIn_r _ [4] (by decide +kernel) (by decide +kernel)
set_option maxRecDepth 20000 in
theorem gJ2_checkIndex_2214a_J2_length_9d52b : GoodIn wsJ2_checkIndex_2214a (va_wsS RJ2 48 yJ2_length_9d52b wsJ2_length_9d52b) := goodIn_app (goodIn_of _ (by decide +kernel)) ggJ2_checkIndex_2214a_J2_length_9d52b
set_option maxRecDepth 20000 in
theorem ggJ2_checkIndex_2214a_J0_checkIndex_df160 : GoodIn wsJ2_checkIndex_2214a wsJ0_checkIndex_df160 := goodIn_r _ [8, 9, 10, 11, 12, 13] (by decide +kernel) (by decide +kernel)
set_option maxRecDepth 20000 in
theorem gJ2_checkIndex_2214a_J0_checkIndex_df160 : GoodIn wsJ2_checkIndex_2214a (va_wsS RJ2 414 yJ0_checkIndex_df160 wsJ0_checkIndex_df160) := goodIn_app (goodIn_of _ (by decide +kernel)) ggJ2_checkIndex_2214a_J0_checkIndex_df160
theorem dJ2_checkIndex_2214a_0 : decode cJ2_checkIndex_2214a 0 = .ok (.iload_n 0, 1) := by decide +kernel
theorem dJ2_checkIndex_2214a_1 : decode cJ2_checkIndex_2214a 1 = .ok (.aload_n 1, 1) := by decide +kernel
theorem dJ2_checkIndex_2214a_2 : decode cJ2_checkIndex_2214a 2 = .ok (.invokestatic 48, 3) := by decide +kernel
theorem dJ2_checkIndex_2214a_5 : decode cJ2_checkIndex_2214a 5 = .ok (.invokestatic 414, 3) := by decide +kernel
theorem dJ2_checkIndex_2214a_8 : decode cJ2_checkIndex_2214a 8 = .ok (.return_, 1) := by decide +kernel
theorem dJ3_checkIndex_8e157_0 : decode cJ3_checkIndex_8e157 0 = .ok (.iload_n 0, 1) := by decide +kernel
theorem dJ3_checkIndex_8e157_1 : decode cJ3_checkIndex_8e157 1 = .ok (.ifCond .lt 8, 3) := by decide +kernel
theorem dJ3_checkIndex_8e157_4 : decode cJ3_checkIndex_8e157 4 = .ok (.iload_n 0, 1) := by decide +kernel
theorem dJ3_checkIndex_8e157_5 : decode cJ3_checkIndex_8e157 5 = .ok (.iload_n 1, 1) := by decide +kernel
theorem dJ3_checkIndex_8e157_6 : decode cJ3_checkIndex_8e157 6 = .ok (.if_icmp .lt 10, 3) := by decide +kernel
theorem dJ3_checkIndex_8e157_9 : decode cJ3_checkIndex_8e157 9 = .ok (.aload_n 2, 1) := by decide +kernel
theorem dJ3_checkIndex_8e157_10 : decode cJ3_checkIndex_8e157 10 = .ok (.iload_n 0, 1) := by decide +kernel
theorem dJ3_checkIndex_8e157_11 : decode cJ3_checkIndex_8e157 11 = .ok (.iload_n 1, 1) := by decide +kernel
theorem dJ3_checkIndex_8e157_12 : decode cJ3_checkIndex_8e157 12 = .ok (.invokestatic 95, 3) := by decide +kernel
theorem dJ3_checkIndex_8e157_15 : decode cJ3_checkIndex_8e157 15 = .ok (.athrow, 1) := by decide +kernel
theorem dJ3_checkIndex_8e157_16 : decode cJ3_checkIndex_8e157 16 = .ok (.iload_n 0, 1) := by decide +kernel
theorem dJ3_checkIndex_8e157_17 : decode cJ3_checkIndex_8e157 17 = .ok (.ireturn, 1) := by decide +kernel
