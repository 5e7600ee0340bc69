theorem dX0_init_0 : decode cX0_init 0 = .ok (.aload_n 0, 1) := by decide +kernel
theorem dX0_init_1 : decode cX0_init 1 = .ok (.invokespecial 1, 3) := by decide +kernel
theorem dX0_init_4 : decode cX0_init 4 = .ok (.return_, 1) := by decide +kernel
theorem dX0_put_0 : decode cX0_put 0 = .ok (.aload_n 0, 1) := by decide +kernel
theorem dX0_put_1 : decode cX0_put 1 = .ok (.iload_n 1, 1) := by decide +kernel
theorem dX0_put_2 : decode cX0_put 2 = .ok (.putfield 7, 3) := by decide +kernel
theorem dX0_put_5 : decode cX0_put 5 = .ok (.aload_n 0, 1) := by decide +kernel
theorem dX0_put_6 : decode cX0_put 6 = .ok (.iload_n 2, 1) := by decide +kernel
theorem dX0_put_7 : decode cX0_put 7 = .ok (.putfield 13, 3) := by decide +kernel
theorem dX0_put_10 : decode cX0_put 10 = .ok (.aload_n 0, 1) := by decide +kernel
theorem dX0_put_11 : decode cX0_put 11 = .ok (.iload_n 3, 1) := by decide +kernel
theorem dX0_put_12 : decode cX0_put 12 = .ok (.putfield 16, 3) := by decide +kernel
theorem dX0_put_15 : decode cX0_put 15 = .ok (.return_, 1) := by decide +kernel
theorem dX0_save_0 : decode cX0_save 0 = .ok (.iload_n 2, 1) := by decide +kernel
theorem dX0_save_1 : decode cX0_save 1 = .ok (.ifCond .lt 11, 3) := by decide +kernel
theorem dX0_save_4 : decode cX0_save 4 = .ok (.iload_n 2, 1) := by decide +kernel
theorem dX0_save_5 : decode cX0_save 5 = .ok (.aload_n 1, 1) := by decide +kernel
theorem dX0_save_6 : decode cX0_save 6 = .ok (.arraylength, 1) := by decide +kernel
theorem dX0_save_7 : decode cX0_save 7 = .ok (.iconst 3, 1) := by decide +kernel
theorem dX0_save_8 : decode cX0_save 8 = .ok (.isub, 1) := by decide +kernel
theorem dX0_save_9 : decode cX0_save 9 = .ok (.if_icmp .le 4, 3) := by decide +kernel
theorem dX0_save_12 : decode cX0_save 12 = .ok (.return_, 1) := by decide +kernel
theorem dX0_save_13 : decode cX0_save 13 = .ok (.aload_n 1, 1) := by decide +kernel
theorem dX0_save_14 : decode cX0_save 14 = .ok (.iload_n 2, 1) := by decide +kernel
theorem dX0_save_15 : decode cX0_save 15 = .ok (.aload_n 0, 1) := by decide +kernel
theorem dX0_save_16 : decode cX0_save 16 = .ok (.getfield 7, 3) := by decide +kernel
theorem dX0_save_19 : decode cX0_save 19 = .ok (.iastore, 1) := by decide +kernel
theorem dX0_save_20 : decode cX0_save 20 = .ok (.aload_n 1, 1) := by decide +kernel
theorem dX0_save_21 : decode cX0_save 21 = .ok (.iload_n 2, 1) := by decide +kernel
theorem dX0_save_22 : decode cX0_save 22 = .ok (.iconst 1, 1) := by decide +kernel
theorem dX0_save_23 : decode cX0_save 23 = .ok (.iadd, 1) := by decide +kernel
theorem dX0_save_24 : decode cX0_save 24 = .ok (.aload_n 0, 1) := by decide +kernel
theorem dX0_save_25 : decode cX0_save 25 = .ok (.getfield 13, 3) := by decide +kernel
theorem dX0_save_28 : decode cX0_save 28 = .ok (.iastore, 1) := by decide +kernel
theorem dX0_save_29 : decode cX0_save 29 = .ok (.aload_n 1, 1) := by decide +kernel
theorem dX0_save_30 : decode cX0_save 30 = .ok (.iload_n 2, 1) := by decide +kernel
theorem dX0_save_31 : decode cX0_save 31 = .ok (.iconst 2, 1) := by decide +kernel
theorem dX0_save_32 : decode cX0_save 32 = .ok (.iadd, 1) := by decide +kernel
theorem dX0_save_33 : decode cX0_save 33 = .ok (.aload_n 0, 1) := by decide +kernel
theorem dX0_save_34 : decode cX0_save 34 = .ok (.getfield 16, 3) := by decide +kernel
theorem dX0_save_37 : decode cX0_save 37 = .ok (.iastore, 1) := by decide +kernel
theorem dX0_save_38 : decode cX0_save 38 = .ok (.return_, 1) := by decide +kernel
set_option maxRecDepth 20000 in
theorem ggX0_restore_X0_put : GoodIn wsX0_restore wsX0_put := goodIn_r _ [5, 6, 7, 8, 9, 10, 11] (by decide +kernel) (by decide +kernel)
set_option maxRecDepth 20000 in
theorem gX0_restore_X0_put : GoodIn wsX0_restore (wsV RX0 19 RX0 yX0_put wsX0_put) := goodIn_app (goodIn_of _ (by decide +kernel)) ggX0_restore_X0_put
theorem dX0_restore_0 : decode cX0_restore 0 = .ok (.iload_n 2, 1) := by decide +kernel
theorem dX0_restore_1 : decode cX0_restore 1 = .ok (.ifCond .lt 11, 3) := by decide +kernel
theorem dX0_restore_4 : decode cX0_restore 4 = .ok (.iload_n 2, 1) := by decide +kernel
theorem dX0_restore_5 : decode cX0_restore 5 = .ok (.aload_n 1, 1) := by decide +kernel
theorem dX0_restore_6 : decode cX0_restore 6 = .ok (.arraylength, 1) := by decide +kernel
theorem dX0_restore_7 : decode cX0_restore 7 = .ok (.iconst 3, 1) := by decide +kernel
theorem dX0_restore_8 : decode cX0_restore 8 = .ok (.isub, 1) := by decide +kernel
theorem dX0_restore_9 : decode cX0_restore 9 = .ok (.if_icmp .le 4, 3) := by decide +kernel
theorem dX0_restore_12 : decode cX0_restore 12 = .ok (.return_, 1) := by decide +kernel
theorem dX0_restore_13 : decode cX0_restore 13 = .ok (.aload_n 0, 1) := by decide +kernel
theorem dX0_restore_14 : decode cX0_restore 14 = .ok (.aload_n 1, 1) := by decide +kernel
theorem dX0_restore_15 : decode cX0_restore 15 = .ok (.iload_n 2, 1) := by decide +kernel
theorem dX0_restore_16 : decode cX0_restore 16 = .ok (.iaload, 1) := by decide +kernel
theorem dX0_restore_17 : decode cX0_restore 17 = .ok (.aload_n 1, 1) := by decide +kernel
theorem dX0_restore_18 : decode cX0_restore 18 = .ok (.iload_n 2, 1) := by decide +kernel
theorem dX0_restore_19 : decode cX0_restore 19 = .ok (.iconst 1, 1) := by decide +kernel
theorem dX0_restore_20 : decode cX0_restore 20 = .ok (.iadd, 1) := by decide +kernel
theorem dX0_restore_21 : decode cX0_restore 21 = .ok (.iaload, 1) := by decide +kernel
theorem dX0_restore_22 : decode cX0_restore 22 = .ok (.aload_n 1, 1) := by decide +kernel
theorem dX0_restore_23 : decode cX0_restore 23 = .ok (.iload_n 2, 1) := by decide +kernel
theorem dX0_restore_24 : decode cX0_restore 24 = .ok (.iconst 2, 1) := by decide +kernel
theorem dX0_restore_25 : decode cX0_restore 25 = .ok (.iadd, 1) := by decide +kernel
theorem dX0_restore_26 : decode cX0_restore 26 = .ok (.iaload, 1) := by decide +kernel
theorem dX0_restore_27 : decode cX0_restore 27 = .ok (.invokevirtual 19, 3) := by decide +kernel
theorem dX0_restore_30 : decode cX0_restore 30 = .ok (.return_, 1) := by decide +kernel
set_option maxRecDepth 20000 in
theorem ggX1_init_X2_init : GoodIn wsX1_init wsX2_init := goodIn_r _ [15, 16, 2, 3] (by decide +kernel) (by decide +kernel)
set_option maxRecDepth 20000 in
theorem gX1_init_X2_init_n23 : GoodIn wsX1_init (wsX2_init) := ggX1_init_X2_init
set_option maxRecDepth 20000 in
theorem ggX1_init_X6_init : GoodIn wsX1_init wsX6_init := goodIn_r _ [18, 19, 2, 3, 20, 21, 22, 23, 24, 25, 26, 27, 56, 57, 58, 46, 47, 48, 49, 50, 51, 52, 53, 54, 55] (by decide +kernel) (by decide +kernel)
set_option maxRecDepth 20000 in
theorem gX1_init_X6_init_n28 : GoodIn wsX1_init (wsX6_init) := ggX1_init_X6_init
theorem dX1_init_0 : decode cX1_init 0 = .ok (.aload_n 0, 1) := by decide +kernel
theorem dX1_init_1 : decode cX1_init 1 = .ok (.invokespecial 5, 3) := by decide +kernel
theorem dX1_init_4 : decode cX1_init 4 = .ok (.aload_n 0, 1) := by decide +kernel
theorem dX1_init_5 : decode cX1_init 5 = .ok (.bipush 20, 2) := by decide +kernel
theorem dX1_init_7 : decode cX1_init 7 = .ok (.newarray .int, 2) := by decide +kernel
theorem dX1_init_9 : decode cX1_init 9 = .ok (.putfield 11, 3) := by decide +kernel
theorem dX1_init_12 : decode cX1_init 12 = .ok (.aload_n 0, 1) := by decide +kernel
theorem dX1_init_13 : decode cX1_init 13 = .ok (.iconst 5, 1) := by decide +kernel
theorem dX1_init_14 : decode cX1_init 14 = .ok (.anewarray 1, 3) := by decide +kernel
theorem dX1_init_17 : decode cX1_init 17 = .ok (.putfield 17, 3) := by decide +kernel
theorem dX1_init_20 : decode cX1_init 20 = .ok (.aload_n 0, 1) := by decide +kernel
theorem dX1_init_21 : decode cX1_init 21 = .ok (.new 21, 3) := by decide +kernel
theorem dX1_init_24 : decode cX1_init 24 = .ok (.dup, 1) := by decide +kernel
theorem dX1_init_25 : decode cX1_init 25 = .ok (.invokespecial 23, 3) := by decide +kernel
theorem dX1_init_28 : decode cX1_init 28 = .ok (.putfield 24, 3) := by decide +kernel
theorem dX1_init_31 : decode cX1_init 31 = .ok (.iconst 0, 1) := by decide +kernel
theorem dX1_init_32 : decode cX1_init 32 = .ok (.istore_n 1, 1) := by decide +kernel
theorem dX1_init_33 : decode cX1_init 33 = .ok (.iload_n 1, 1) := by decide +kernel
theorem dX1_init_34 : decode cX1_init 34 = .ok (.aload_n 0, 1) := by decide +kernel
theorem dX1_init_35 : decode cX1_init 35 = .ok (.getfield 17, 3) := by decide +kernel
theorem dX1_init_38 : decode cX1_init 38 = .ok (.arraylength, 1) := by decide +kernel
theorem dX1_init_39 : decode cX1_init 39 = .ok (.if_icmp .ge 22, 3) := by decide +kernel
theorem dX1_init_42 : decode cX1_init 42 = .ok (.aload_n 0, 1) := by decide +kernel
theorem dX1_init_43 : decode cX1_init 43 = .ok (.getfield 17, 3) := by decide +kernel
theorem dX1_init_46 : decode cX1_init 46 = .ok (.iload_n 1, 1) := by decide +kernel
theorem dX1_init_47 : decode cX1_init 47 = .ok (.new 1, 3) := by decide +kernel
theorem dX1_init_50 : decode cX1_init 50 = .ok (.dup, 1) := by decide +kernel
theorem dX1_init_51 : decode cX1_init 51 = .ok (.invokespecial 28, 3) := by decide +kernel
theorem dX1_init_54 : decode cX1_init 54 = .ok (.aastore, 1) := by decide +kernel
theorem dX1_init_55 : decode cX1_init 55 = .ok (.iinc 1 1, 3) := by decide +kernel
theorem dX1_init_58 : decode cX1_init 58 = .ok (.goto (-25), 3) := by decide +kernel
theorem dX1_init_61 : decode cX1_init 61 = .ok (.return_, 1) := by decide +kernel
set_option maxRecDepth 20000 in
theorem ggX1_layOut_X6_layOut : GoodIn wsX1_layOut wsX6_layOut := goodIn_r _ [22, 23, 24, 25, 26, 27, 28, 29, 30, 31, 32, 33, 34, 35, 36, 37, 38, 50, 51, 52, 53, 54, 55, 56, 57, 58, 59, 60, 61, 62] (by decide +kernel) (by decide +kernel)
set_option maxRecDepth 20000 in
theorem gX1_layOut_X6_layOut : GoodIn wsX1_layOut (wsV RX1 58 RX6 yX6_layOut wsX6_layOut) := goodIn_app (goodIn_of _ (by decide +kernel)) ggX1_layOut_X6_layOut
theorem dX1_layOut_0 : decode cX1_layOut 0 = .ok (.aload_n 0, 1) := by decide +kernel
theorem dX1_layOut_1 : decode cX1_layOut 1 = .ok (.aload_n 1, 1) := by decide +kernel
theorem dX1_layOut_2 : decode cX1_layOut 2 = .ok (.getfield 29, 3) := by decide +kernel
theorem dX1_layOut_5 : decode cX1_layOut 5 = .ok (.putfield 35, 3) := by decide +kernel
theorem dX1_layOut_8 : decode cX1_layOut 8 = .ok (.aload_n 1, 1) := by decide +kernel
theorem dX1_layOut_9 : decode cX1_layOut 9 = .ok (.getfield 36, 3) := by decide +kernel
theorem dX1_layOut_12 : decode cX1_layOut 12 = .ok (.iconst 0, 1) := by decide +kernel
theorem dX1_layOut_13 : decode cX1_layOut 13 = .ok (.aload_n 0, 1) := by decide +kernel
theorem dX1_layOut_14 : decode cX1_layOut 14 = .ok (.getfield 11, 3) := by decide +kernel
theorem dX1_layOut_17 : decode cX1_layOut 17 = .ok (.iconst 0, 1) := by decide +kernel
theorem dX1_layOut_18 : decode cX1_layOut 18 = .ok (.bipush 20, 2) := by decide +kernel
theorem dX1_layOut_20 : decode cX1_layOut 20 = .ok (.invokestatic 37, 3) := by decide +kernel
theorem dX1_layOut_23 : decode cX1_layOut 23 = .ok (.aload_n 0, 1) := by decide +kernel
theorem dX1_layOut_24 : decode cX1_layOut 24 = .ok (.aload_n 1, 1) := by decide +kernel
theorem dX1_layOut_25 : decode cX1_layOut 25 = .ok (.getfield 43, 3) := by decide +kernel
theorem dX1_layOut_28 : decode cX1_layOut 28 = .ok (.iconst 5, 1) := by decide +kernel
theorem dX1_layOut_29 : decode cX1_layOut 29 = .ok (.invokestatic 45, 3) := by decide +kernel
theorem dX1_layOut_32 : decode cX1_layOut 32 = .ok (.putfield 51, 3) := by decide +kernel
theorem dX1_layOut_35 : decode cX1_layOut 35 = .ok (.iconst 0, 1) := by decide +kernel
theorem dX1_layOut_36 : decode cX1_layOut 36 = .ok (.istore_n 2, 1) := by decide +kernel
theorem dX1_layOut_37 : decode cX1_layOut 37 = .ok (.iload_n 2, 1) := by decide +kernel
theorem dX1_layOut_38 : decode cX1_layOut 38 = .ok (.aload_n 0, 1) := by decide +kernel
theorem dX1_layOut_39 : decode cX1_layOut 39 = .ok (.getfield 51, 3) := by decide +kernel
theorem dX1_layOut_42 : decode cX1_layOut 42 = .ok (.if_icmp .ge 24, 3) := by decide +kernel
theorem dX1_layOut_45 : decode cX1_layOut 45 = .ok (.aload_n 0, 1) := by decide +kernel
theorem dX1_layOut_46 : decode cX1_layOut 46 = .ok (.getfield 17, 3) := by decide +kernel
theorem dX1_layOut_49 : decode cX1_layOut 49 = .ok (.iload_n 2, 1) := by decide +kernel
theorem dX1_layOut_50 : decode cX1_layOut 50 = .ok (.aaload, 1) := by decide +kernel
theorem dX1_layOut_51 : decode cX1_layOut 51 = .ok (.aload_n 1, 1) := by decide +kernel
theorem dX1_layOut_52 : decode cX1_layOut 52 = .ok (.getfield 54, 3) := by decide +kernel
theorem dX1_layOut_55 : decode cX1_layOut 55 = .ok (.iload_n 2, 1) := by decide +kernel
theorem dX1_layOut_56 : decode cX1_layOut 56 = .ok (.aaload, 1) := by decide +kernel
theorem dX1_layOut_57 : decode cX1_layOut 57 = .ok (.invokevirtual 58, 3) := by decide +kernel
theorem dX1_layOut_60 : decode cX1_layOut 60 = .ok (.iinc 2 1, 3) := by decide +kernel
theorem dX1_layOut_63 : decode cX1_layOut 63 = .ok (.goto (-26), 3) := by decide +kernel
theorem dX1_layOut_66 : decode cX1_layOut 66 = .ok (.aload_n 0, 1) := by decide +kernel
theorem dX1_layOut_67 : decode cX1_layOut 67 = .ok (.iconst 0, 1) := by decide +kernel
theorem dX1_layOut_68 : decode cX1_layOut 68 = .ok (.putfield 62, 3) := by decide +kernel
theorem dX1_layOut_71 : decode cX1_layOut 71 = .ok (.return_, 1) := by decide +kernel
theorem dX1_shipAt_0 : decode cX1_shipAt 0 = .ok (.iload_n 1, 1) := by decide +kernel
theorem dX1_shipAt_1 : decode cX1_shipAt 1 = .ok (.ifCond .lt 29, 3) := by decide +kernel
theorem dX1_shipAt_4 : decode cX1_shipAt 4 = .ok (.iload_n 1, 1) := by decide +kernel
theorem dX1_shipAt_5 : decode cX1_shipAt 5 = .ok (.aload_n 0, 1) := by decide +kernel
theorem dX1_shipAt_6 : decode cX1_shipAt 6 = .ok (.getfield 51, 3) := by decide +kernel
theorem dX1_shipAt_9 : decode cX1_shipAt 9 = .ok (.if_icmp .ge 21, 3) := by decide +kernel
theorem dX1_shipAt_12 : decode cX1_shipAt 12 = .ok (.iload_n 1, 1) := by decide +kernel
theorem dX1_shipAt_13 : decode cX1_shipAt 13 = .ok (.aload_n 0, 1) := by decide +kernel
theorem dX1_shipAt_14 : decode cX1_shipAt 14 = .ok (.getfield 17, 3) := by decide +kernel
theorem dX1_shipAt_17 : decode cX1_shipAt 17 = .ok (.arraylength, 1) := by decide +kernel
theorem dX1_shipAt_18 : decode cX1_shipAt 18 = .ok (.if_icmp .ge 12, 3) := by decide +kernel
theorem dX1_shipAt_21 : decode cX1_shipAt 21 = .ok (.aload_n 0, 1) := by decide +kernel
theorem dX1_shipAt_22 : decode cX1_shipAt 22 = .ok (.getfield 17, 3) := by decide +kernel
theorem dX1_shipAt_25 : decode cX1_shipAt 25 = .ok (.iload_n 1, 1) := by decide +kernel
theorem dX1_shipAt_26 : decode cX1_shipAt 26 = .ok (.aaload, 1) := by decide +kernel
theorem dX1_shipAt_27 : decode cX1_shipAt 27 = .ok (.goto 4, 3) := by decide +kernel
theorem dX1_shipAt_30 : decode cX1_shipAt 30 = .ok (.aconst_null, 1) := by decide +kernel
theorem dX1_shipAt_31 : decode cX1_shipAt 31 = .ok (.areturn, 1) := by decide +kernel
set_option maxRecDepth 20000 in
theorem ggX1_isCell_X7_within : GoodIn wsX1_isCell wsX7_within := goodIn_r _ [4] (by decide +kernel) (by decide +kernel)
set_option maxRecDepth 20000 in
theorem gX1_isCell_X7_within_n65 : GoodIn wsX1_isCell (wsX7_within) := ggX1_isCell_X7_within
theorem dX1_isCell_0 : decode cX1_isCell 0 = .ok (.iload_n 1, 1) := by decide +kernel
theorem dX1_isCell_1 : decode cX1_isCell 1 = .ok (.iconst 0, 1) := by decide +kernel
theorem dX1_isCell_2 : decode cX1_isCell 2 = .ok (.aload_n 0, 1) := by decide +kernel
theorem dX1_isCell_3 : decode cX1_isCell 3 = .ok (.getfield 35, 3) := by decide +kernel
theorem dX1_isCell_6 : decode cX1_isCell 6 = .ok (.iconst 1, 1) := by decide +kernel
theorem dX1_isCell_7 : decode cX1_isCell 7 = .ok (.isub, 1) := by decide +kernel
theorem dX1_isCell_8 : decode cX1_isCell 8 = .ok (.invokestatic 65, 3) := by decide +kernel
theorem dX1_isCell_11 : decode cX1_isCell 11 = .ok (.ifCond .eq 17, 3) := by decide +kernel
theorem dX1_isCell_14 : decode cX1_isCell 14 = .ok (.iload_n 2, 1) := by decide +kernel
theorem dX1_isCell_15 : decode cX1_isCell 15 = .ok (.iconst 0, 1) := by decide +kernel
theorem dX1_isCell_16 : decode cX1_isCell 16 = .ok (.bipush 19, 2) := by decide +kernel
theorem dX1_isCell_18 : decode cX1_isCell 18 = .ok (.invokestatic 65, 3) := by decide +kernel
theorem dX1_isCell_21 : decode cX1_isCell 21 = .ok (.ifCond .eq 7, 3) := by decide +kernel
theorem dX1_isCell_24 : decode cX1_isCell 24 = .ok (.iconst 1, 1) := by decide +kernel
theorem dX1_isCell_25 : decode cX1_isCell 25 = .ok (.goto 4, 3) := by decide +kernel
theorem dX1_isCell_28 : decode cX1_isCell 28 = .ok (.iconst 0, 1) := by decide +kernel
theorem dX1_isCell_29 : decode cX1_isCell 29 = .ok (.ireturn, 1) := by decide +kernel
theorem dX1_depthAt_0 : decode cX1_depthAt 0 = .ok (.iload_n 1, 1) := by decide +kernel
theorem dX1_depthAt_1 : decode cX1_depthAt 1 = .ok (.ifCond .lt 21, 3) := by decide +kernel
theorem dX1_depthAt_4 : decode cX1_depthAt 4 = .ok (.iload_n 1, 1) := by decide +kernel
theorem dX1_depthAt_5 : decode cX1_depthAt 5 = .ok (.aload_n 0, 1) := by decide +kernel
theorem dX1_depthAt_6 : decode cX1_depthAt 6 = .ok (.getfield 11, 3) := by decide +kernel
theorem dX1_depthAt_9 : decode cX1_depthAt 9 = .ok (.arraylength, 1) := by decide +kernel
theorem dX1_depthAt_10 : decode cX1_depthAt 10 = .ok (.if_icmp .ge 12, 3) := by decide +kernel
theorem dX1_depthAt_13 : decode cX1_depthAt 13 = .ok (.aload_n 0, 1) := by decide +kernel
theorem dX1_depthAt_14 : decode cX1_depthAt 14 = .ok (.getfield 11, 3) := by decide +kernel
theorem dX1_depthAt_17 : decode cX1_depthAt 17 = .ok (.iload_n 1, 1) := by decide +kernel
theorem dX1_depthAt_18 : decode cX1_depthAt 18 = .ok (.iaload, 1) := by decide +kernel
theorem dX1_depthAt_19 : decode cX1_depthAt 19 = .ok (.goto 4, 3) := by decide +kernel
theorem dX1_depthAt_22 : decode cX1_depthAt 22 = .ok (.iconst 0, 1) := by decide +kernel
theorem dX1_depthAt_23 : decode cX1_depthAt 23 = .ok (.ireturn, 1) := by decide +kernel
set_option maxRecDepth 20000 in
theorem ggX1_chainOf_X1_depthAt : GoodIn wsX1_chainOf wsX1_depthAt := goodIn_r _ [8, 9, 19, 20, 21, 22, 23, 24] (by decide +kernel) (by decide +kernel)
set_option maxRecDepth 20000 in
theorem gX1_chainOf_X1_depthAt : GoodIn wsX1_chainOf (wsV RX1 77 RX1 yX1_depthAt wsX1_depthAt) := goodIn_app (goodIn_of _ (by decide +kernel)) ggX1_chainOf_X1_depthAt
set_option maxRecDepth 20000 in
theorem ggX1_chainOf_X2_take : GoodIn wsX1_chainOf wsX2_take := goodIn_r _ [14, 15, 16, 17, 18, 38, 39, 40, 41, 42, 43, 44, 45, 46, 47, 48, 49] (by decide +kernel) (by decide +kernel)
set_option maxRecDepth 20000 in
theorem gX1_chainOf_X2_take : GoodIn wsX1_chainOf (wsV RX1 81 RX2 yX2_take wsX2_take) := goodIn_app (goodIn_of _ (by decide +kernel)) ggX1_chainOf_X2_take
theorem dX1_chainOf_0 : decode cX1_chainOf 0 = .ok (.aload_n 0, 1) := by decide +kernel
theorem dX1_chainOf_1 : decode cX1_chainOf 1 = .ok (.getfield 24, 3) := by decide +kernel
theorem dX1_chainOf_4 : decode cX1_chainOf 4 = .ok (.iload 4, 2) := by decide +kernel
theorem dX1_chainOf_6 : decode cX1_chainOf 6 = .ok (.aload_n 1, 1) := by decide +kernel
theorem dX1_chainOf_7 : decode cX1_chainOf 7 = .ok (.getfield 69, 3) := by decide +kernel
theorem dX1_chainOf_10 : decode cX1_chainOf 10 = .ok (.iload_n 3, 1) := by decide +kernel
theorem dX1_chainOf_11 : decode cX1_chainOf 11 = .ok (.bipush 10, 2) := by decide +kernel
theorem dX1_chainOf_13 : decode cX1_chainOf 13 = .ok (.aload_n 0, 1) := by decide +kernel
theorem dX1_chainOf_14 : decode cX1_chainOf 14 = .ok (.aload_n 2, 1) := by decide +kernel
theorem dX1_chainOf_15 : decode cX1_chainOf 15 = .ok (.getfield 72, 3) := by decide +kernel
theorem dX1_chainOf_18 : decode cX1_chainOf 18 = .ok (.invokevirtual 77, 3) := by decide +kernel
theorem dX1_chainOf_21 : decode cX1_chainOf 21 = .ok (.imul, 1) := by decide +kernel
theorem dX1_chainOf_22 : decode cX1_chainOf 22 = .ok (.invokevirtual 81, 3) := by decide +kernel
theorem dX1_chainOf_25 : decode cX1_chainOf 25 = .ok (.aload_n 0, 1) := by decide +kernel
theorem dX1_chainOf_26 : decode cX1_chainOf 26 = .ok (.getfield 24, 3) := by decide +kernel
theorem dX1_chainOf_29 : decode cX1_chainOf 29 = .ok (.areturn, 1) := by decide +kernel
set_option maxRecDepth 20000 in
theorem ggX1_holdsBy_X6_pullBy : GoodIn wsX1_holdsBy wsX6_pullBy := goodIn_r _ [6, 7, 60, 61, 62, 63, 64, 65, 66, 67, 68, 69] (by decide +kernel) (by decide +kernel)
set_option maxRecDepth 20000 in
theorem gX1_holdsBy_X6_pullBy : GoodIn wsX1_holdsBy (wsV RX1 85 RX6 yX6_pullBy wsX6_pullBy) := goodIn_app (goodIn_of _ (by decide +kernel)) ggX1_holdsBy_X6_pullBy
set_option maxRecDepth 20000 in
theorem ggX1_holdsBy_X1_firstHolds : GoodIn wsX1_holdsBy wsX1_firstHolds := goodIn_r _ [12, 13, 14, 15, 16, 17, 11, 18, 19, 20, 21, 22, 23, 24, 25, 26, 27, 28, 29, 30, 31, 32, 33, 34, 35, 36, 37, 38, 39, 40, 41, 42, 43, 44, 45, 46, 47, 48, 49, 50, 51, 52, 53, 60, 61, 62, 63, 64, 65, 66, 67, 68, 69, 70, 71, 72, 73, 74, 75, 76, 77, 78, 79, 80, 81, 82, 83, 84, 85, 86, 87, 88, 89, 90] (by decide +kernel) (by decide +kernel)
set_option maxRecDepth 20000 in
theorem gX1_holdsBy_X1_firstHolds : GoodIn wsX1_holdsBy (wsV RX1 92 RX1 yX1_firstHolds wsX1_firstHolds) := goodIn_app (goodIn_of _ (by decide +kernel)) ggX1_holdsBy_X1_firstHolds
set_option maxRecDepth 20000 in
theorem ggX1_holdsBy_X1_secondHolds : GoodIn wsX1_holdsBy wsX1_secondHolds := goodIn_r _ [57, 58, 59, 14, 15, 16, 17, 11, 18, 19, 20, 21, 22, 23, 24, 25, 26, 27, 28, 29, 30, 31, 32, 33, 34, 35, 36, 37, 38, 39, 40, 41, 42, 43, 44, 45, 46, 47, 48, 49, 50, 51, 52, 53, 60, 61, 62, 63, 64, 65, 66, 67, 68, 69, 76, 77, 78, 70, 71, 72, 73, 74, 75, 79, 80, 81, 82, 83, 84, 85, 86, 87, 88, 89, 90] (by decide +kernel) (by decide +kernel)
set_option maxRecDepth 20000 in
theorem gX1_holdsBy_X1_secondHolds : GoodIn wsX1_holdsBy (wsV RX1 96 RX1 yX1_secondHolds wsX1_secondHolds) := goodIn_app (goodIn_of _ (by decide +kernel)) ggX1_holdsBy_X1_secondHolds
theorem dX1_holdsBy_0 : decode cX1_holdsBy 0 = .ok (.aload_n 1, 1) := by decide +kernel
theorem dX1_holdsBy_1 : decode cX1_holdsBy 1 = .ok (.iload_n 3, 1) := by decide +kernel
theorem dX1_holdsBy_2 : decode cX1_holdsBy 2 = .ok (.invokevirtual 85, 3) := by decide +kernel
theorem dX1_holdsBy_5 : decode cX1_holdsBy 5 = .ok (.istore 4, 2) := by decide +kernel
theorem dX1_holdsBy_7 : decode cX1_holdsBy 7 = .ok (.aload_n 1, 1) := by decide +kernel
theorem dX1_holdsBy_8 : decode cX1_holdsBy 8 = .ok (.getfield 88, 3) := by decide +kernel
theorem dX1_holdsBy_11 : decode cX1_holdsBy 11 = .ok (.ifCond .ne 12, 3) := by decide +kernel
theorem dX1_holdsBy_14 : decode cX1_holdsBy 14 = .ok (.aload_n 0, 1) := by decide +kernel
theorem dX1_holdsBy_15 : decode cX1_holdsBy 15 = .ok (.aload_n 1, 1) := by decide +kernel
theorem dX1_holdsBy_16 : decode cX1_holdsBy 16 = .ok (.iload_n 2, 1) := by decide +kernel
theorem dX1_holdsBy_17 : decode cX1_holdsBy 17 = .ok (.iload 4, 2) := by decide +kernel
theorem dX1_holdsBy_19 : decode cX1_holdsBy 19 = .ok (.invokevirtual 92, 3) := by decide +kernel
theorem dX1_holdsBy_22 : decode cX1_holdsBy 22 = .ok (.ireturn, 1) := by decide +kernel
theorem dX1_holdsBy_23 : decode cX1_holdsBy 23 = .ok (.iload 4, 2) := by decide +kernel
theorem dX1_holdsBy_25 : decode cX1_holdsBy 25 = .ok (.iconst 1, 1) := by decide +kernel
theorem dX1_holdsBy_26 : decode cX1_holdsBy 26 = .ok (.iadd, 1) := by decide +kernel
theorem dX1_holdsBy_27 : decode cX1_holdsBy 27 = .ok (.iconst 2, 1) := by decide +kernel
theorem dX1_holdsBy_28 : decode cX1_holdsBy 28 = .ok (.idiv, 1) := by decide +kernel
theorem dX1_holdsBy_29 : decode cX1_holdsBy 29 = .ok (.istore 5, 2) := by decide +kernel
theorem dX1_holdsBy_31 : decode cX1_holdsBy 31 = .ok (.aload_n 0, 1) := by decide +kernel
theorem dX1_holdsBy_32 : decode cX1_holdsBy 32 = .ok (.aload_n 1, 1) := by decide +kernel
theorem dX1_holdsBy_33 : decode cX1_holdsBy 33 = .ok (.iload_n 2, 1) := by decide +kernel
theorem dX1_holdsBy_34 : decode cX1_holdsBy 34 = .ok (.iload 5, 2) := by decide +kernel
theorem dX1_holdsBy_36 : decode cX1_holdsBy 36 = .ok (.invokevirtual 92, 3) := by decide +kernel
theorem dX1_holdsBy_39 : decode cX1_holdsBy 39 = .ok (.ifCond .eq 13, 3) := by decide +kernel
theorem dX1_holdsBy_42 : decode cX1_holdsBy 42 = .ok (.aload_n 0, 1) := by decide +kernel
theorem dX1_holdsBy_43 : decode cX1_holdsBy 43 = .ok (.aload_n 1, 1) := by decide +kernel
theorem dX1_holdsBy_44 : decode cX1_holdsBy 44 = .ok (.iload 5, 2) := by decide +kernel
theorem dX1_holdsBy_46 : decode cX1_holdsBy 46 = .ok (.invokevirtual 96, 3) := by decide +kernel
theorem dX1_holdsBy_49 : decode cX1_holdsBy 49 = .ok (.ifCond .ne 24, 3) := by decide +kernel
theorem dX1_holdsBy_52 : decode cX1_holdsBy 52 = .ok (.aload_n 0, 1) := by decide +kernel
theorem dX1_holdsBy_53 : decode cX1_holdsBy 53 = .ok (.aload_n 1, 1) := by decide +kernel
theorem dX1_holdsBy_54 : decode cX1_holdsBy 54 = .ok (.iload_n 2, 1) := by decide +kernel
theorem dX1_holdsBy_55 : decode cX1_holdsBy 55 = .ok (.iload 4, 2) := by decide +kernel
theorem dX1_holdsBy_57 : decode cX1_holdsBy 57 = .ok (.invokevirtual 92, 3) := by decide +kernel
theorem dX1_holdsBy_60 : decode cX1_holdsBy 60 = .ok (.ifCond .ne 13, 3) := by decide +kernel
theorem dX1_holdsBy_63 : decode cX1_holdsBy 63 = .ok (.aload_n 0, 1) := by decide +kernel
theorem dX1_holdsBy_64 : decode cX1_holdsBy 64 = .ok (.aload_n 1, 1) := by decide +kernel
theorem dX1_holdsBy_65 : decode cX1_holdsBy 65 = .ok (.iload 4, 2) := by decide +kernel
theorem dX1_holdsBy_67 : decode cX1_holdsBy 67 = .ok (.invokevirtual 96, 3) := by decide +kernel
theorem dX1_holdsBy_70 : decode cX1_holdsBy 70 = .ok (.ifCond .eq 7, 3) := by decide +kernel
theorem dX1_holdsBy_73 : decode cX1_holdsBy 73 = .ok (.iconst 1, 1) := by decide +kernel
theorem dX1_holdsBy_74 : decode cX1_holdsBy 74 = .ok (.goto 4, 3) := by decide +kernel
theorem dX1_holdsBy_77 : decode cX1_holdsBy 77 = .ok (.iconst 0, 1) := by decide +kernel
theorem dX1_holdsBy_78 : decode cX1_holdsBy 78 = .ok (.ireturn, 1) := by decide +kernel
set_option maxRecDepth 20000 in
theorem ggX1_firstHolds_X1_chainOf : GoodIn wsX1_firstHolds wsX1_chainOf := goodIn_r _ [7, 8, 9, 10, 11, 12, 13, 6, 14, 15, 16, 17, 18, 19, 20, 21, 22, 23, 24, 53, 54, 55, 56, 57, 58, 43, 44, 45, 46, 47, 48, 49, 50, 51, 52, 59, 60, 61, 62, 63, 64, 65, 66, 67, 68, 69, 70, 71, 72, 73] (by decide +kernel) (by decide +kernel)
set_option maxRecDepth 20000 in
theorem gX1_firstHolds_X1_chainOf : GoodIn wsX1_firstHolds (wsV RX1 104 RX1 yX1_chainOf wsX1_chainOf) := goodIn_app (goodIn_of _ (by decide +kernel)) ggX1_firstHolds_X1_chainOf
set_option maxRecDepth 20000 in
theorem ggX1_firstHolds_X2_holds : GoodIn wsX1_firstHolds wsX2_holds := goodIn_r _ [28, 21, 29, 24, 30, 31, 32, 19, 33, 34, 35, 23, 22, 36, 37, 38, 39, 40, 41, 42, 62, 63, 64, 65, 66, 67, 68, 69, 70, 71, 72, 73] (by decide +kernel) (by decide +kernel)
set_option maxRecDepth 20000 in
theorem gX1_firstHolds_X2_holds : GoodIn wsX1_firstHolds (wsV RX1 111 RX2 yX2_holds wsX2_holds) := goodIn_app (goodIn_of _ (by decide +kernel)) ggX1_firstHolds_X2_holds
theorem dX1_firstHolds_0 : decode cX1_firstHolds 0 = .ok (.aload_n 0, 1) := by decide +kernel
theorem dX1_firstHolds_1 : decode cX1_firstHolds 1 = .ok (.aload_n 1, 1) := by decide +kernel
theorem dX1_firstHolds_2 : decode cX1_firstHolds 2 = .ok (.aload_n 1, 1) := by decide +kernel
theorem dX1_firstHolds_3 : decode cX1_firstHolds 3 = .ok (.getfield 100, 3) := by decide +kernel
theorem dX1_firstHolds_6 : decode cX1_firstHolds 6 = .ok (.iload_n 2, 1) := by decide +kernel
theorem dX1_firstHolds_7 : decode cX1_firstHolds 7 = .ok (.iload_n 3, 1) := by decide +kernel
theorem dX1_firstHolds_8 : decode cX1_firstHolds 8 = .ok (.invokevirtual 104, 3) := by decide +kernel
theorem dX1_firstHolds_11 : decode cX1_firstHolds 11 = .ok (.aload_n 1, 1) := by decide +kernel
theorem dX1_firstHolds_12 : decode cX1_firstHolds 12 = .ok (.getfield 108, 3) := by decide +kernel
theorem dX1_firstHolds_15 : decode cX1_firstHolds 15 = .ok (.invokevirtual 111, 3) := by decide +kernel
theorem dX1_firstHolds_18 : decode cX1_firstHolds 18 = .ok (.ireturn, 1) := by decide +kernel
set_option maxRecDepth 20000 in
theorem ggX1_secondHolds_X1_chainOf : GoodIn wsX1_secondHolds wsX1_chainOf := goodIn_r _ [8, 9, 10, 11, 12, 13, 14, 7, 15, 16, 17, 18, 19, 20, 21, 22, 23, 24, 25, 57, 58, 59, 60, 61, 62, 44, 45, 46, 47, 48, 49, 50, 51, 52, 53, 54, 55, 56, 63, 64, 65, 66, 67, 68, 69, 70, 71, 72, 73, 74] (by decide +kernel) (by decide +kernel)
set_option maxRecDepth 20000 in
theorem gX1_secondHolds_X1_chainOf : GoodIn wsX1_secondHolds (wsV RX1 104 RX1 yX1_chainOf wsX1_chainOf) := goodIn_app (goodIn_of _ (by decide +kernel)) ggX1_secondHolds_X1_chainOf
set_option maxRecDepth 20000 in
theorem ggX1_secondHolds_X2_holds : GoodIn wsX1_secondHolds wsX2_holds := goodIn_r _ [29, 22, 30, 25, 31, 32, 33, 20, 34, 35, 36, 24, 23, 37, 38, 39, 40, 41, 42, 43, 63, 64, 65, 66, 67, 68, 69, 70, 71, 72, 73, 74] (by decide +kernel) (by decide +kernel)
set_option maxRecDepth 20000 in
theorem gX1_secondHolds_X2_holds : GoodIn wsX1_secondHolds (wsV RX1 111 RX2 yX2_holds wsX2_holds) := goodIn_app (goodIn_of _ (by decide +kernel)) ggX1_secondHolds_X2_holds
theorem dX1_secondHolds_0 : decode cX1_secondHolds 0 = .ok (.aload_n 0, 1) := by decide +kernel
theorem dX1_secondHolds_1 : decode cX1_secondHolds 1 = .ok (.aload_n 1, 1) := by decide +kernel
theorem dX1_secondHolds_2 : decode cX1_secondHolds 2 = .ok (.aload_n 1, 1) := by decide +kernel
theorem dX1_secondHolds_3 : decode cX1_secondHolds 3 = .ok (.getfield 115, 3) := by decide +kernel
theorem dX1_secondHolds_6 : decode cX1_secondHolds 6 = .ok (.aload_n 1, 1) := by decide +kernel
theorem dX1_secondHolds_7 : decode cX1_secondHolds 7 = .ok (.getfield 115, 3) := by decide +kernel
theorem dX1_secondHolds_10 : decode cX1_secondHolds 10 = .ok (.getfield 118, 3) := by decide +kernel
theorem dX1_secondHolds_13 : decode cX1_secondHolds 13 = .ok (.iload_n 2, 1) := by decide +kernel
theorem dX1_secondHolds_14 : decode cX1_secondHolds 14 = .ok (.invokevirtual 104, 3) := by decide +kernel
theorem dX1_secondHolds_17 : decode cX1_secondHolds 17 = .ok (.aload_n 1, 1) := by decide +kernel
theorem dX1_secondHolds_18 : decode cX1_secondHolds 18 = .ok (.getfield 108, 3) := by decide +kernel
theorem dX1_secondHolds_21 : decode cX1_secondHolds 21 = .ok (.invokevirtual 111, 3) := by decide +kernel
theorem dX1_secondHolds_24 : decode cX1_secondHolds 24 = .ok (.ireturn, 1) := by decide +kernel
set_option maxRecDepth 20000 in
theorem ggX1_measureSwing_X6_pullBy : GoodIn wsX1_measureSwing wsX6_pullBy := goodIn_r _ [10, 11, 64, 65, 66, 67, 68, 69, 70, 71, 72, 73] (by decide +kernel) (by decide +kernel)
set_option maxRecDepth 20000 in
theorem gX1_measureSwing_X6_pullBy : GoodIn wsX1_measureSwing (wsV RX1 85 RX6 yX6_pullBy wsX6_pullBy) := goodIn_app (goodIn_of _ (by decide +kernel)) ggX1_measureSwing_X6_pullBy
set_option maxRecDepth 20000 in
theorem ggX1_measureSwing_X1_chainOf : GoodIn wsX1_measureSwing wsX1_chainOf := goodIn_r _ [16, 2, 17, 18, 19, 20, 21, 15, 22, 23, 24, 25, 26, 27, 28, 29, 30, 31, 32, 74, 75, 76, 77, 78, 79, 64, 65, 66, 67, 68, 69, 70, 71, 72, 73, 92, 93, 94, 80, 81, 82, 83, 84, 85, 86, 87, 88, 89, 90, 91] (by decide +kernel) (by decide +kernel)
set_option maxRecDepth 20000 in
theorem gX1_measureSwing_X1_chainOf : GoodIn wsX1_measureSwing (wsV RX1 104 RX1 yX1_chainOf wsX1_chainOf) := goodIn_app (goodIn_of _ (by decide +kernel)) ggX1_measureSwing_X1_chainOf
set_option maxRecDepth 20000 in
theorem ggX1_measureSwing_X2_findLie : GoodIn wsX1_measureSwing wsX2_findLie := goodIn_r _ [36, 37, 38, 39, 40, 41, 32, 31, 42, 43, 44, 45, 46, 47, 27, 48, 29, 30, 49, 50, 51, 52, 53, 54, 55, 56, 57, 58, 59, 60, 61, 62, 63, 80, 81, 82, 83, 84, 85, 86, 87, 88, 89, 90, 91] (by decide +kernel) (by decide +kernel)
set_option maxRecDepth 20000 in
theorem gX1_measureSwing_X2_findLie : GoodIn wsX1_measureSwing (wsV RX1 121 RX2 yX2_findLie wsX2_findLie) := goodIn_app (goodIn_of _ (by decide +kernel)) ggX1_measureSwing_X2_findLie
theorem dX1_measureSwing_0 : decode cX1_measureSwing 0 = .ok (.aload_n 0, 1) := by decide +kernel
theorem dX1_measureSwing_1 : decode cX1_measureSwing 1 = .ok (.aload_n 1, 1) := by decide +kernel
theorem dX1_measureSwing_2 : decode cX1_measureSwing 2 = .ok (.aload_n 1, 1) := by decide +kernel
theorem dX1_measureSwing_3 : decode cX1_measureSwing 3 = .ok (.getfield 100, 3) := by decide +kernel
theorem dX1_measureSwing_6 : decode cX1_measureSwing 6 = .ok (.iload_n 2, 1) := by decide +kernel
theorem dX1_measureSwing_7 : decode cX1_measureSwing 7 = .ok (.aload_n 1, 1) := by decide +kernel
theorem dX1_measureSwing_8 : decode cX1_measureSwing 8 = .ok (.iload_n 3, 1) := by decide +kernel
theorem dX1_measureSwing_9 : decode cX1_measureSwing 9 = .ok (.invokevirtual 85, 3) := by decide +kernel
theorem dX1_measureSwing_12 : decode cX1_measureSwing 12 = .ok (.invokevirtual 104, 3) := by decide +kernel
theorem dX1_measureSwing_15 : decode cX1_measureSwing 15 = .ok (.invokevirtual 121, 3) := by decide +kernel
theorem dX1_measureSwing_18 : decode cX1_measureSwing 18 = .ok (.aload_n 1, 1) := by decide +kernel
theorem dX1_measureSwing_19 : decode cX1_measureSwing 19 = .ok (.aload_n 0, 1) := by decide +kernel
theorem dX1_measureSwing_20 : decode cX1_measureSwing 20 = .ok (.getfield 24, 3) := by decide +kernel
theorem dX1_measureSwing_23 : decode cX1_measureSwing 23 = .ok (.getfield 124, 3) := by decide +kernel
theorem dX1_measureSwing_26 : decode cX1_measureSwing 26 = .ok (.bipush 10, 2) := by decide +kernel
theorem dX1_measureSwing_28 : decode cX1_measureSwing 28 = .ok (.aload_n 1, 1) := by decide +kernel
theorem dX1_measureSwing_29 : decode cX1_measureSwing 29 = .ok (.getfield 127, 3) := by decide +kernel
theorem dX1_measureSwing_32 : decode cX1_measureSwing 32 = .ok (.imul, 1) := by decide +kernel
theorem dX1_measureSwing_33 : decode cX1_measureSwing 33 = .ok (.iadd, 1) := by decide +kernel
theorem dX1_measureSwing_34 : decode cX1_measureSwing 34 = .ok (.putfield 130, 3) := by decide +kernel
theorem dX1_measureSwing_37 : decode cX1_measureSwing 37 = .ok (.return_, 1) := by decide +kernel
set_option maxRecDepth 20000 in
theorem ggX1_measureSwings_X1_measureSwing : GoodIn wsX1_measureSwings wsX1_measureSwing := goodIn_r _ [9, 3, 10, 11, 12, 13, 14, 15, 16, 17, 18, 19, 20, 21, 22, 8, 23, 24, 25, 26, 27, 28, 29, 30, 31, 32, 33, 34, 35, 36, 37, 38, 39, 40, 41, 42, 43, 44, 45, 46, 47, 48, 49, 50, 51, 52, 53, 54, 55, 56, 57, 58, 59, 60, 61, 62, 63, 64, 65, 66, 67, 68, 69, 70, 77, 78, 79, 80, 81, 82, 83, 84, 85, 86, 71, 72, 73, 74, 75, 76, 90, 91, 92, 93, 94, 95, 96, 97, 98, 99, 100, 101, 87, 88, 89] (by decide +kernel) (by decide +kernel)
set_option maxRecDepth 20000 in
theorem gX1_measureSwings_X1_measureSwing : GoodIn wsX1_measureSwings (wsV RX1 133 RX1 yX1_measureSwing wsX1_measureSwing) := goodIn_app (goodIn_of _ (by decide +kernel)) ggX1_measureSwings_X1_measureSwing
theorem dX1_measureSwings_0 : decode cX1_measureSwings 0 = .ok (.iconst 0, 1) := by decide +kernel
theorem dX1_measureSwings_1 : decode cX1_measureSwings 1 = .ok (.istore_n 2, 1) := by decide +kernel
theorem dX1_measureSwings_2 : decode cX1_measureSwings 2 = .ok (.iload_n 2, 1) := by decide +kernel
theorem dX1_measureSwings_3 : decode cX1_measureSwings 3 = .ok (.aload_n 0, 1) := by decide +kernel
theorem dX1_measureSwings_4 : decode cX1_measureSwings 4 = .ok (.getfield 51, 3) := by decide +kernel
theorem dX1_measureSwings_7 : decode cX1_measureSwings 7 = .ok (.if_icmp .ge 32, 3) := by decide +kernel
theorem dX1_measureSwings_10 : decode cX1_measureSwings 10 = .ok (.aload_n 0, 1) := by decide +kernel
theorem dX1_measureSwings_11 : decode cX1_measureSwings 11 = .ok (.aload_n 0, 1) := by decide +kernel
theorem dX1_measureSwings_12 : decode cX1_measureSwings 12 = .ok (.getfield 17, 3) := by decide +kernel
theorem dX1_measureSwings_15 : decode cX1_measureSwings 15 = .ok (.iload_n 2, 1) := by decide +kernel
theorem dX1_measureSwings_16 : decode cX1_measureSwings 16 = .ok (.aaload, 1) := by decide +kernel
theorem dX1_measureSwings_17 : decode cX1_measureSwings 17 = .ok (.aload_n 0, 1) := by decide +kernel
theorem dX1_measureSwings_18 : decode cX1_measureSwings 18 = .ok (.getfield 17, 3) := by decide +kernel
theorem dX1_measureSwings_21 : decode cX1_measureSwings 21 = .ok (.iload_n 2, 1) := by decide +kernel
theorem dX1_measureSwings_22 : decode cX1_measureSwings 22 = .ok (.aaload, 1) := by decide +kernel
theorem dX1_measureSwings_23 : decode cX1_measureSwings 23 = .ok (.getfield 100, 3) := by decide +kernel
theorem dX1_measureSwings_26 : decode cX1_measureSwings 26 = .ok (.getfield 118, 3) := by decide +kernel
theorem dX1_measureSwings_29 : decode cX1_measureSwings 29 = .ok (.iload_n 1, 1) := by decide +kernel
theorem dX1_measureSwings_30 : decode cX1_measureSwings 30 = .ok (.invokevirtual 133, 3) := by decide +kernel
theorem dX1_measureSwings_33 : decode cX1_measureSwings 33 = .ok (.iinc 2 1, 3) := by decide +kernel
theorem dX1_measureSwings_36 : decode cX1_measureSwings 36 = .ok (.goto (-34), 3) := by decide +kernel
theorem dX1_measureSwings_39 : decode cX1_measureSwings 39 = .ok (.return_, 1) := by decide +kernel
set_option maxRecDepth 20000 in
theorem ggX1_isClearOfAll_X1_measureSwing : GoodIn wsX1_isClearOfAll wsX1_measureSwing := goodIn_r _ [7, 8, 9, 10, 11, 12, 13, 14, 15, 16, 17, 18, 19, 20, 21, 6, 22, 23, 24, 25, 26, 27, 28, 29, 30, 31, 32, 33, 34, 35, 36, 37, 38, 39, 40, 41, 42, 43, 44, 45, 46, 47, 48, 49, 50, 51, 52, 53, 54, 55, 56, 57, 58, 59, 60, 61, 62, 63, 64, 65, 66, 67, 68, 69, 85, 86, 87, 88, 89, 90, 91, 92, 93, 94, 79, 80, 81, 82, 83, 84, 95, 96, 97, 98, 99, 100, 101, 102, 103, 104, 105, 106, 107, 108, 109] (by decide +kernel) (by decide +kernel)
set_option maxRecDepth 20000 in
theorem gX1_isClearOfAll_X1_measureSwing : GoodIn wsX1_isClearOfAll (wsV RX1 133 RX1 yX1_measureSwing wsX1_measureSwing) := goodIn_app (goodIn_of _ (by decide +kernel)) ggX1_isClearOfAll_X1_measureSwing
set_option maxRecDepth 20000 in
theorem ggX1_isClearOfAll_X6_isClearOf : GoodIn wsX1_isClearOfAll wsX6_isClearOf := goodIn_r _ [73, 74, 75, 76, 77, 78, 85, 86, 87, 88, 89, 90, 91, 92, 93, 94, 107, 108, 109] (by decide +kernel) (by decide +kernel)
set_option maxRecDepth 20000 in
theorem gX1_isClearOfAll_X6_isClearOf : GoodIn wsX1_isClearOfAll (wsV RX1 137 RX6 yX6_isClearOf wsX6_isClearOf) := goodIn_app (goodIn_of _ (by decide +kernel)) ggX1_isClearOfAll_X6_isClearOf
theorem dX1_isClearOfAll_0 : decode cX1_isClearOfAll 0 = .ok (.aload_n 0, 1) := by decide +kernel
theorem dX1_isClearOfAll_1 : decode cX1_isClearOfAll 1 = .ok (.aload_n 1, 1) := by decide +kernel
theorem dX1_isClearOfAll_2 : decode cX1_isClearOfAll 2 = .ok (.iload_n 2, 1) := by decide +kernel
theorem dX1_isClearOfAll_3 : decode cX1_isClearOfAll 3 = .ok (.iload_n 3, 1) := by decide +kernel
theorem dX1_isClearOfAll_4 : decode cX1_isClearOfAll 4 = .ok (.invokevirtual 133, 3) := by decide +kernel
theorem dX1_isClearOfAll_7 : decode cX1_isClearOfAll 7 = .ok (.iconst 0, 1) := by decide +kernel
theorem dX1_isClearOfAll_8 : decode cX1_isClearOfAll 8 = .ok (.istore 4, 2) := by decide +kernel
theorem dX1_isClearOfAll_10 : decode cX1_isClearOfAll 10 = .ok (.iload 4, 2) := by decide +kernel
theorem dX1_isClearOfAll_12 : decode cX1_isClearOfAll 12 = .ok (.aload_n 0, 1) := by decide +kernel
theorem dX1_isClearOfAll_13 : decode cX1_isClearOfAll 13 = .ok (.getfield 51, 3) := by decide +kernel
theorem dX1_isClearOfAll_16 : decode cX1_isClearOfAll 16 = .ok (.if_icmp .ge 36, 3) := by decide +kernel
theorem dX1_isClearOfAll_19 : decode cX1_isClearOfAll 19 = .ok (.aload_n 0, 1) := by decide +kernel
theorem dX1_isClearOfAll_20 : decode cX1_isClearOfAll 20 = .ok (.getfield 17, 3) := by decide +kernel
theorem dX1_isClearOfAll_23 : decode cX1_isClearOfAll 23 = .ok (.iload 4, 2) := by decide +kernel
theorem dX1_isClearOfAll_25 : decode cX1_isClearOfAll 25 = .ok (.aaload, 1) := by decide +kernel
theorem dX1_isClearOfAll_26 : decode cX1_isClearOfAll 26 = .ok (.aload_n 1, 1) := by decide +kernel
theorem dX1_isClearOfAll_27 : decode cX1_isClearOfAll 27 = .ok (.if_acmp .eq 19, 3) := by decide +kernel
theorem dX1_isClearOfAll_30 : decode cX1_isClearOfAll 30 = .ok (.aload_n 1, 1) := by decide +kernel
theorem dX1_isClearOfAll_31 : decode cX1_isClearOfAll 31 = .ok (.aload_n 0, 1) := by decide +kernel
theorem dX1_isClearOfAll_32 : decode cX1_isClearOfAll 32 = .ok (.getfield 17, 3) := by decide +kernel
theorem dX1_isClearOfAll_35 : decode cX1_isClearOfAll 35 = .ok (.iload 4, 2) := by decide +kernel
theorem dX1_isClearOfAll_37 : decode cX1_isClearOfAll 37 = .ok (.aaload, 1) := by decide +kernel
theorem dX1_isClearOfAll_38 : decode cX1_isClearOfAll 38 = .ok (.invokevirtual 137, 3) := by decide +kernel
theorem dX1_isClearOfAll_41 : decode cX1_isClearOfAll 41 = .ok (.ifCond .ne 5, 3) := by decide +kernel
theorem dX1_isClearOfAll_44 : decode cX1_isClearOfAll 44 = .ok (.iconst 0, 1) := by decide +kernel
theorem dX1_isClearOfAll_45 : decode cX1_isClearOfAll 45 = .ok (.ireturn, 1) := by decide +kernel
theorem dX1_isClearOfAll_46 : decode cX1_isClearOfAll 46 = .ok (.iinc 4 1, 3) := by decide +kernel
theorem dX1_isClearOfAll_49 : decode cX1_isClearOfAll 49 = .ok (.goto (-39), 3) := by decide +kernel
theorem dX1_isClearOfAll_52 : decode cX1_isClearOfAll 52 = .ok (.iconst 1, 1) := by decide +kernel
theorem dX1_isClearOfAll_53 : decode cX1_isClearOfAll 53 = .ok (.ireturn, 1) := by decide +kernel
set_option maxRecDepth 20000 in
theorem ggX1_passHour_X1_holdsBy : GoodIn wsX1_passHour wsX1_holdsBy := goodIn_r _ [11, 12, 13, 14, 15, 16, 17, 18, 19, 20, 21, 10, 22, 4, 23, 24, 25, 26, 27, 28, 29, 30, 31, 32, 33, 34, 35, 36, 37, 38, 39, 40, 41, 42, 43, 44, 45, 46, 47, 48, 49, 50, 51, 52, 53, 54, 55, 56, 57, 58, 59, 60, 61, 62, 63, 64, 65, 66, 67, 5, 98, 99, 100, 101, 102, 103, 104, 105, 106, 107, 92, 93, 94, 95, 96, 97, 108, 109, 110, 111, 112, 113, 114, 115, 116, 117, 118, 119, 120, 121, 122] (by decide +kernel) (by decide +kernel)
set_option maxRecDepth 20000 in
theorem gX1_passHour_X1_holdsBy : GoodIn wsX1_passHour (wsV RX1 144 RX1 yX1_holdsBy wsX1_holdsBy) := goodIn_app (goodIn_of _ (by decide +kernel)) ggX1_passHour_X1_holdsBy
set_option maxRecDepth 20000 in
theorem ggX1_passHour_X1_drag : GoodIn wsX1_passHour wsX1_drag := goodIn_r _ [71, 4, 67, 30, 72, 12, 3, 5, 73, 74, 75, 76, 77, 78, 79, 10, 80, 81, 82, 83, 84, 85, 86, 87, 88, 89, 90, 91, 98, 99, 100, 101, 102, 103, 104, 105, 106, 107, 108, 109, 110, 92, 93, 94, 95, 96, 97] (by decide +kernel) (by decide +kernel)
set_option maxRecDepth 20000 in
theorem gX1_passHour_X1_drag : GoodIn wsX1_passHour (wsV RX1 147 RX1 yX1_drag wsX1_drag) := goodIn_app (goodIn_of _ (by decide +kernel)) ggX1_passHour_X1_drag
set_option maxRecDepth 20000 in
theorem ggX1_passHour_X7_oneIf : GoodIn wsX1_passHour wsX7_oneIf := goodIn_r _ [76] (by decide +kernel) (by decide +kernel)
set_option maxRecDepth 20000 in
theorem gX1_passHour_X7_oneIf_n151 : GoodIn wsX1_passHour (wsX7_oneIf) := ggX1_passHour_X7_oneIf
theorem dX1_passHour_0 : decode cX1_passHour 0 = .ok (.iconst 0, 1) := by decide +kernel
theorem dX1_passHour_1 : decode cX1_passHour 1 = .ok (.istore_n 3, 1) := by decide +kernel
theorem dX1_passHour_2 : decode cX1_passHour 2 = .ok (.iconst 0, 1) := by decide +kernel
theorem dX1_passHour_3 : decode cX1_passHour 3 = .ok (.istore 4, 2) := by decide +kernel
theorem dX1_passHour_5 : decode cX1_passHour 5 = .ok (.iload 4, 2) := by decide +kernel
theorem dX1_passHour_7 : decode cX1_passHour 7 = .ok (.aload_n 0, 1) := by decide +kernel
theorem dX1_passHour_8 : decode cX1_passHour 8 = .ok (.getfield 51, 3) := by decide +kernel
theorem dX1_passHour_11 : decode cX1_passHour 11 = .ok (.if_icmp .ge 62, 3) := by decide +kernel
theorem dX1_passHour_14 : decode cX1_passHour 14 = .ok (.aload_n 0, 1) := by decide +kernel
theorem dX1_passHour_15 : decode cX1_passHour 15 = .ok (.getfield 17, 3) := by decide +kernel
theorem dX1_passHour_18 : decode cX1_passHour 18 = .ok (.iload 4, 2) := by decide +kernel
theorem dX1_passHour_20 : decode cX1_passHour 20 = .ok (.aaload, 1) := by decide +kernel
theorem dX1_passHour_21 : decode cX1_passHour 21 = .ok (.astore 5, 2) := by decide +kernel
theorem dX1_passHour_23 : decode cX1_passHour 23 = .ok (.aload 5, 2) := by decide +kernel
theorem dX1_passHour_25 : decode cX1_passHour 25 = .ok (.getfield 141, 3) := by decide +kernel
theorem dX1_passHour_28 : decode cX1_passHour 28 = .ok (.ifCond .ne 39, 3) := by decide +kernel
theorem dX1_passHour_31 : decode cX1_passHour 31 = .ok (.aload_n 0, 1) := by decide +kernel
theorem dX1_passHour_32 : decode cX1_passHour 32 = .ok (.aload 5, 2) := by decide +kernel
theorem dX1_passHour_34 : decode cX1_passHour 34 = .ok (.aload 5, 2) := by decide +kernel
theorem dX1_passHour_36 : decode cX1_passHour 36 = .ok (.getfield 100, 3) := by decide +kernel
theorem dX1_passHour_39 : decode cX1_passHour 39 = .ok (.getfield 118, 3) := by decide +kernel
theorem dX1_passHour_42 : decode cX1_passHour 42 = .ok (.iload_n 1, 1) := by decide +kernel
theorem dX1_passHour_43 : decode cX1_passHour 43 = .ok (.invokevirtual 144, 3) := by decide +kernel
theorem dX1_passHour_46 : decode cX1_passHour 46 = .ok (.ifCond .ne 21, 3) := by decide +kernel
theorem dX1_passHour_49 : decode cX1_passHour 49 = .ok (.aload_n 0, 1) := by decide +kernel
theorem dX1_passHour_50 : decode cX1_passHour 50 = .ok (.aload 5, 2) := by decide +kernel
theorem dX1_passHour_52 : decode cX1_passHour 52 = .ok (.iload_n 2, 1) := by decide +kernel
theorem dX1_passHour_53 : decode cX1_passHour 53 = .ok (.invokevirtual 147, 3) := by decide +kernel
theorem dX1_passHour_56 : decode cX1_passHour 56 = .ok (.iload_n 3, 1) := by decide +kernel
theorem dX1_passHour_57 : decode cX1_passHour 57 = .ok (.aload 5, 2) := by decide +kernel
theorem dX1_passHour_59 : decode cX1_passHour 59 = .ok (.getfield 141, 3) := by decide +kernel
theorem dX1_passHour_62 : decode cX1_passHour 62 = .ok (.invokestatic 151, 3) := by decide +kernel
theorem dX1_passHour_65 : decode cX1_passHour 65 = .ok (.iadd, 1) := by decide +kernel
theorem dX1_passHour_66 : decode cX1_passHour 66 = .ok (.istore_n 3, 1) := by decide +kernel
theorem dX1_passHour_67 : decode cX1_passHour 67 = .ok (.iinc 4 1, 3) := by decide +kernel
theorem dX1_passHour_70 : decode cX1_passHour 70 = .ok (.goto (-65), 3) := by decide +kernel
theorem dX1_passHour_73 : decode cX1_passHour 73 = .ok (.aload_n 0, 1) := by decide +kernel
theorem dX1_passHour_74 : decode cX1_passHour 74 = .ok (.dup, 1) := by decide +kernel
theorem dX1_passHour_75 : decode cX1_passHour 75 = .ok (.getfield 62, 3) := by decide +kernel
theorem dX1_passHour_78 : decode cX1_passHour 78 = .ok (.iconst 1, 1) := by decide +kernel
theorem dX1_passHour_79 : decode cX1_passHour 79 = .ok (.iadd, 1) := by decide +kernel
theorem dX1_passHour_80 : decode cX1_passHour 80 = .ok (.putfield 62, 3) := by decide +kernel
theorem dX1_passHour_83 : decode cX1_passHour 83 = .ok (.iload_n 3, 1) := by decide +kernel
theorem dX1_passHour_84 : decode cX1_passHour 84 = .ok (.ireturn, 1) := by decide +kernel
set_option maxRecDepth 20000 in
theorem ggX1_drag_X7_oneIf : GoodIn wsX1_drag wsX7_oneIf := goodIn_r _ [11] (by decide +kernel) (by decide +kernel)
set_option maxRecDepth 20000 in
theorem gX1_drag_X7_oneIf_n151 : GoodIn wsX1_drag (wsX7_oneIf) := ggX1_drag_X7_oneIf
set_option maxRecDepth 20000 in
theorem ggX1_drag_X1_isCell : GoodIn wsX1_drag wsX1_isCell := goodIn_r _ [16, 17, 18, 10, 19, 41, 42, 43, 44, 45, 46] (by decide +kernel) (by decide +kernel)
set_option maxRecDepth 20000 in
theorem gX1_drag_X1_isCell : GoodIn wsX1_drag (wsV RX1 158 RX1 yX1_isCell wsX1_isCell) := goodIn_app (goodIn_of _ (by decide +kernel)) ggX1_drag_X1_isCell
set_option maxRecDepth 20000 in
theorem ggX1_drag_X0_put : GoodIn wsX1_drag wsX0_put := goodIn_r _ [24, 25, 26, 27, 38, 39, 40] (by decide +kernel) (by decide +kernel)
set_option maxRecDepth 20000 in
theorem gX1_drag_X0_put : GoodIn wsX1_drag (wsV RX1 162 RX0 yX0_put wsX0_put) := goodIn_app (goodIn_of _ (by decide +kernel)) ggX1_drag_X0_put
theorem dX1_drag_0 : decode cX1_drag 0 = .ok (.iload_n 2, 1) := by decide +kernel
theorem dX1_drag_1 : decode cX1_drag 1 = .ok (.iconst 1, 1) := by decide +kernel
theorem dX1_drag_2 : decode cX1_drag 2 = .ok (.if_icmp .ne 7, 3) := by decide +kernel
theorem dX1_drag_5 : decode cX1_drag 5 = .ok (.iconst 1, 1) := by decide +kernel
theorem dX1_drag_6 : decode cX1_drag 6 = .ok (.goto 4, 3) := by decide +kernel
theorem dX1_drag_9 : decode cX1_drag 9 = .ok (.iconst 0, 1) := by decide +kernel
theorem dX1_drag_10 : decode cX1_drag 10 = .ok (.invokestatic 151, 3) := by decide +kernel
theorem dX1_drag_13 : decode cX1_drag 13 = .ok (.iload_n 2, 1) := by decide +kernel
theorem dX1_drag_14 : decode cX1_drag 14 = .ok (.iconst 3, 1) := by decide +kernel
theorem dX1_drag_15 : decode cX1_drag 15 = .ok (.if_icmp .ne 7, 3) := by decide +kernel
theorem dX1_drag_18 : decode cX1_drag 18 = .ok (.iconst 1, 1) := by decide +kernel
theorem dX1_drag_19 : decode cX1_drag 19 = .ok (.goto 4, 3) := by decide +kernel
theorem dX1_drag_22 : decode cX1_drag 22 = .ok (.iconst 0, 1) := by decide +kernel
theorem dX1_drag_23 : decode cX1_drag 23 = .ok (.invokestatic 151, 3) := by decide +kernel
theorem dX1_drag_26 : decode cX1_drag 26 = .ok (.isub, 1) := by decide +kernel
theorem dX1_drag_27 : decode cX1_drag 27 = .ok (.istore_n 3, 1) := by decide +kernel
theorem dX1_drag_28 : decode cX1_drag 28 = .ok (.iload_n 2, 1) := by decide +kernel
theorem dX1_drag_29 : decode cX1_drag 29 = .ok (.iconst 2, 1) := by decide +kernel
theorem dX1_drag_30 : decode cX1_drag 30 = .ok (.if_icmp .ne 7, 3) := by decide +kernel
theorem dX1_drag_33 : decode cX1_drag 33 = .ok (.iconst 1, 1) := by decide +kernel
theorem dX1_drag_34 : decode cX1_drag 34 = .ok (.goto 4, 3) := by decide +kernel
theorem dX1_drag_37 : decode cX1_drag 37 = .ok (.iconst 0, 1) := by decide +kernel
theorem dX1_drag_38 : decode cX1_drag 38 = .ok (.invokestatic 151, 3) := by decide +kernel
theorem dX1_drag_41 : decode cX1_drag 41 = .ok (.iload_n 2, 1) := by decide +kernel
theorem dX1_drag_42 : decode cX1_drag 42 = .ok (.ifCond .ne 7, 3) := by decide +kernel
theorem dX1_drag_45 : decode cX1_drag 45 = .ok (.iconst 1, 1) := by decide +kernel
theorem dX1_drag_46 : decode cX1_drag 46 = .ok (.goto 4, 3) := by decide +kernel
theorem dX1_drag_49 : decode cX1_drag 49 = .ok (.iconst 0, 1) := by decide +kernel
theorem dX1_drag_50 : decode cX1_drag 50 = .ok (.invokestatic 151, 3) := by decide +kernel
theorem dX1_drag_53 : decode cX1_drag 53 = .ok (.isub, 1) := by decide +kernel
theorem dX1_drag_54 : decode cX1_drag 54 = .ok (.istore 4, 2) := by decide +kernel
theorem dX1_drag_56 : decode cX1_drag 56 = .ok (.aload_n 1, 1) := by decide +kernel
theorem dX1_drag_57 : decode cX1_drag 57 = .ok (.getfield 100, 3) := by decide +kernel
theorem dX1_drag_60 : decode cX1_drag 60 = .ok (.astore 5, 2) := by decide +kernel
theorem dX1_drag_62 : decode cX1_drag 62 = .ok (.aload_n 1, 1) := by decide +kernel
theorem dX1_drag_63 : decode cX1_drag 63 = .ok (.getfield 115, 3) := by decide +kernel
theorem dX1_drag_66 : decode cX1_drag 66 = .ok (.astore 6, 2) := by decide +kernel
theorem dX1_drag_68 : decode cX1_drag 68 = .ok (.aload_n 0, 1) := by decide +kernel
theorem dX1_drag_69 : decode cX1_drag 69 = .ok (.aload 5, 2) := by decide +kernel
theorem dX1_drag_71 : decode cX1_drag 71 = .ok (.getfield 72, 3) := by decide +kernel
theorem dX1_drag_74 : decode cX1_drag 74 = .ok (.iload_n 3, 1) := by decide +kernel
theorem dX1_drag_75 : decode cX1_drag 75 = .ok (.iadd, 1) := by decide +kernel
theorem dX1_drag_76 : decode cX1_drag 76 = .ok (.aload 5, 2) := by decide +kernel
theorem dX1_drag_78 : decode cX1_drag 78 = .ok (.getfield 155, 3) := by decide +kernel
theorem dX1_drag_81 : decode cX1_drag 81 = .ok (.iload 4, 2) := by decide +kernel
theorem dX1_drag_83 : decode cX1_drag 83 = .ok (.iadd, 1) := by decide +kernel
theorem dX1_drag_84 : decode cX1_drag 84 = .ok (.invokevirtual 158, 3) := by decide +kernel
theorem dX1_drag_87 : decode cX1_drag 87 = .ok (.ifCond .eq 36, 3) := by decide +kernel
theorem dX1_drag_90 : decode cX1_drag 90 = .ok (.aload_n 1, 1) := by decide +kernel
theorem dX1_drag_91 : decode cX1_drag 91 = .ok (.getfield 88, 3) := by decide +kernel
theorem dX1_drag_94 : decode cX1_drag 94 = .ok (.ifCond .eq 25, 3) := by decide +kernel
theorem dX1_drag_97 : decode cX1_drag 97 = .ok (.aload_n 0, 1) := by decide +kernel
theorem dX1_drag_98 : decode cX1_drag 98 = .ok (.aload 6, 2) := by decide +kernel
theorem dX1_drag_100 : decode cX1_drag 100 = .ok (.getfield 72, 3) := by decide +kernel
theorem dX1_drag_103 : decode cX1_drag 103 = .ok (.iload_n 3, 1) := by decide +kernel
theorem dX1_drag_104 : decode cX1_drag 104 = .ok (.iadd, 1) := by decide +kernel
theorem dX1_drag_105 : decode cX1_drag 105 = .ok (.aload 6, 2) := by decide +kernel
theorem dX1_drag_107 : decode cX1_drag 107 = .ok (.getfield 155, 3) := by decide +kernel
theorem dX1_drag_110 : decode cX1_drag 110 = .ok (.iload 4, 2) := by decide +kernel
theorem dX1_drag_112 : decode cX1_drag 112 = .ok (.iadd, 1) := by decide +kernel
theorem dX1_drag_113 : decode cX1_drag 113 = .ok (.invokevirtual 158, 3) := by decide +kernel
theorem dX1_drag_116 : decode cX1_drag 116 = .ok (.ifCond .eq 7, 3) := by decide +kernel
theorem dX1_drag_119 : decode cX1_drag 119 = .ok (.iconst 1, 1) := by decide +kernel
theorem dX1_drag_120 : decode cX1_drag 120 = .ok (.goto 4, 3) := by decide +kernel
theorem dX1_drag_123 : decode cX1_drag 123 = .ok (.iconst 0, 1) := by decide +kernel
theorem dX1_drag_124 : decode cX1_drag 124 = .ok (.istore 7, 2) := by decide +kernel
theorem dX1_drag_126 : decode cX1_drag 126 = .ok (.iload 7, 2) := by decide +kernel
theorem dX1_drag_128 : decode cX1_drag 128 = .ok (.ifCond .ne 9, 3) := by decide +kernel
theorem dX1_drag_131 : decode cX1_drag 131 = .ok (.aload_n 1, 1) := by decide +kernel
theorem dX1_drag_132 : decode cX1_drag 132 = .ok (.iconst 1, 1) := by decide +kernel
theorem dX1_drag_133 : decode cX1_drag 133 = .ok (.putfield 141, 3) := by decide +kernel
theorem dX1_drag_136 : decode cX1_drag 136 = .ok (.return_, 1) := by decide +kernel
theorem dX1_drag_137 : decode cX1_drag 137 = .ok (.aload 5, 2) := by decide +kernel
theorem dX1_drag_139 : decode cX1_drag 139 = .ok (.aload 5, 2) := by decide +kernel
theorem dX1_drag_141 : decode cX1_drag 141 = .ok (.getfield 72, 3) := by decide +kernel
theorem dX1_drag_144 : decode cX1_drag 144 = .ok (.iload_n 3, 1) := by decide +kernel
theorem dX1_drag_145 : decode cX1_drag 145 = .ok (.iadd, 1) := by decide +kernel
theorem dX1_drag_146 : decode cX1_drag 146 = .ok (.aload 5, 2) := by decide +kernel
theorem dX1_drag_148 : decode cX1_drag 148 = .ok (.getfield 155, 3) := by decide +kernel
theorem dX1_drag_151 : decode cX1_drag 151 = .ok (.iload 4, 2) := by decide +kernel
theorem dX1_drag_153 : decode cX1_drag 153 = .ok (.iadd, 1) := by decide +kernel
theorem dX1_drag_154 : decode cX1_drag 154 = .ok (.aload 5, 2) := by decide +kernel
theorem dX1_drag_156 : decode cX1_drag 156 = .ok (.getfield 118, 3) := by decide +kernel
theorem dX1_drag_159 : decode cX1_drag 159 = .ok (.invokevirtual 162, 3) := by decide +kernel
theorem dX1_drag_162 : decode cX1_drag 162 = .ok (.aload_n 1, 1) := by decide +kernel
theorem dX1_drag_163 : decode cX1_drag 163 = .ok (.getfield 88, 3) := by decide +kernel
theorem dX1_drag_166 : decode cX1_drag 166 = .ok (.ifCond .eq 28, 3) := by decide +kernel
theorem dX1_drag_169 : decode cX1_drag 169 = .ok (.aload 6, 2) := by decide +kernel
theorem dX1_drag_171 : decode cX1_drag 171 = .ok (.aload 6, 2) := by decide +kernel
theorem dX1_drag_173 : decode cX1_drag 173 = .ok (.getfield 72, 3) := by decide +kernel
theorem dX1_drag_176 : decode cX1_drag 176 = .ok (.iload_n 3, 1) := by decide +kernel
theorem dX1_drag_177 : decode cX1_drag 177 = .ok (.iadd, 1) := by decide +kernel
theorem dX1_drag_178 : decode cX1_drag 178 = .ok (.aload 6, 2) := by decide +kernel
theorem dX1_drag_180 : decode cX1_drag 180 = .ok (.getfield 155, 3) := by decide +kernel
theorem dX1_drag_183 : decode cX1_drag 183 = .ok (.iload 4, 2) := by decide +kernel
theorem dX1_drag_185 : decode cX1_drag 185 = .ok (.iadd, 1) := by decide +kernel
theorem dX1_drag_186 : decode cX1_drag 186 = .ok (.aload 6, 2) := by decide +kernel
theorem dX1_drag_188 : decode cX1_drag 188 = .ok (.getfield 118, 3) := by decide +kernel
theorem dX1_drag_191 : decode cX1_drag 191 = .ok (.invokevirtual 162, 3) := by decide +kernel
theorem dX1_drag_194 : decode cX1_drag 194 = .ok (.aload_n 1, 1) := by decide +kernel
theorem dX1_drag_195 : decode cX1_drag 195 = .ok (.dup, 1) := by decide +kernel
theorem dX1_drag_196 : decode cX1_drag 196 = .ok (.getfield 166, 3) := by decide +kernel
theorem dX1_drag_199 : decode cX1_drag 199 = .ok (.iconst 1, 1) := by decide +kernel
theorem dX1_drag_200 : decode cX1_drag 200 = .ok (.iadd, 1) := by decide +kernel
theorem dX1_drag_201 : decode cX1_drag 201 = .ok (.putfield 166, 3) := by decide +kernel
theorem dX1_drag_204 : decode cX1_drag 204 = .ok (.return_, 1) := by decide +kernel
set_option maxRecDepth 20000 in
theorem ggX1_countHolding_X1_holdsBy : GoodIn wsX1_countHolding wsX1_holdsBy := goodIn_r _ [10, 11, 12, 13, 14, 15, 16, 17, 18, 19, 20, 9, 21, 4, 22, 23, 24, 25, 26, 27, 28, 29, 30, 31, 32, 33, 34, 35, 36, 37, 38, 39, 40, 41, 42, 43, 44, 45, 46, 47, 48, 49, 50, 51, 52, 53, 54, 55, 56, 57, 58, 59, 60, 61, 62, 63, 64, 65, 66, 5, 76, 77, 78, 79, 80, 81, 82, 83, 84, 85, 70, 71, 72, 73, 74, 75, 86, 87, 88, 89, 90, 91, 92, 93, 94, 95, 96, 97, 98, 99, 100] (by decide +kernel) (by decide +kernel)
set_option maxRecDepth 20000 in
theorem gX1_countHolding_X1_holdsBy : GoodIn wsX1_countHolding (wsV RX1 144 RX1 yX1_holdsBy wsX1_holdsBy) := goodIn_app (goodIn_of _ (by decide +kernel)) ggX1_countHolding_X1_holdsBy
set_option maxRecDepth 20000 in
theorem ggX1_countHolding_X7_oneIf : GoodIn wsX1_countHolding wsX7_oneIf := goodIn_r _ [69] (by decide +kernel) (by decide +kernel)
set_option maxRecDepth 20000 in
theorem gX1_countHolding_X7_oneIf_n151 : GoodIn wsX1_countHolding (wsX7_oneIf) := ggX1_countHolding_X7_oneIf
theorem dX1_countHolding_0 : decode cX1_countHolding 0 = .ok (.iconst 0, 1) := by decide +kernel
theorem dX1_countHolding_1 : decode cX1_countHolding 1 = .ok (.istore_n 2, 1) := by decide +kernel
theorem dX1_countHolding_2 : decode cX1_countHolding 2 = .ok (.iconst 0, 1) := by decide +kernel
theorem dX1_countHolding_3 : decode cX1_countHolding 3 = .ok (.istore_n 3, 1) := by decide +kernel
theorem dX1_countHolding_4 : decode cX1_countHolding 4 = .ok (.iload_n 3, 1) := by decide +kernel
theorem dX1_countHolding_5 : decode cX1_countHolding 5 = .ok (.aload_n 0, 1) := by decide +kernel
theorem dX1_countHolding_6 : decode cX1_countHolding 6 = .ok (.getfield 51, 3) := by decide +kernel
theorem dX1_countHolding_9 : decode cX1_countHolding 9 = .ok (.if_icmp .ge 54, 3) := by decide +kernel
theorem dX1_countHolding_12 : decode cX1_countHolding 12 = .ok (.aload_n 0, 1) := by decide +kernel
theorem dX1_countHolding_13 : decode cX1_countHolding 13 = .ok (.getfield 17, 3) := by decide +kernel
theorem dX1_countHolding_16 : decode cX1_countHolding 16 = .ok (.iload_n 3, 1) := by decide +kernel
theorem dX1_countHolding_17 : decode cX1_countHolding 17 = .ok (.aaload, 1) := by decide +kernel
theorem dX1_countHolding_18 : decode cX1_countHolding 18 = .ok (.astore 4, 2) := by decide +kernel
theorem dX1_countHolding_20 : decode cX1_countHolding 20 = .ok (.iload_n 2, 1) := by decide +kernel
theorem dX1_countHolding_21 : decode cX1_countHolding 21 = .ok (.aload 4, 2) := by decide +kernel
theorem dX1_countHolding_23 : decode cX1_countHolding 23 = .ok (.getfield 141, 3) := by decide +kernel
theorem dX1_countHolding_26 : decode cX1_countHolding 26 = .ok (.ifCond .ne 25, 3) := by decide +kernel
theorem dX1_countHolding_29 : decode cX1_countHolding 29 = .ok (.aload_n 0, 1) := by decide +kernel
theorem dX1_countHolding_30 : decode cX1_countHolding 30 = .ok (.aload 4, 2) := by decide +kernel
theorem dX1_countHolding_32 : decode cX1_countHolding 32 = .ok (.aload 4, 2) := by decide +kernel
theorem dX1_countHolding_34 : decode cX1_countHolding 34 = .ok (.getfield 100, 3) := by decide +kernel
theorem dX1_countHolding_37 : decode cX1_countHolding 37 = .ok (.getfield 118, 3) := by decide +kernel
theorem dX1_countHolding_40 : decode cX1_countHolding 40 = .ok (.iload_n 1, 1) := by decide +kernel
theorem dX1_countHolding_41 : decode cX1_countHolding 41 = .ok (.invokevirtual 144, 3) := by decide +kernel
theorem dX1_countHolding_44 : decode cX1_countHolding 44 = .ok (.ifCond .eq 7, 3) := by decide +kernel
theorem dX1_countHolding_47 : decode cX1_countHolding 47 = .ok (.iconst 1, 1) := by decide +kernel
theorem dX1_countHolding_48 : decode cX1_countHolding 48 = .ok (.goto 4, 3) := by decide +kernel
theorem dX1_countHolding_51 : decode cX1_countHolding 51 = .ok (.iconst 0, 1) := by decide +kernel
theorem dX1_countHolding_52 : decode cX1_countHolding 52 = .ok (.invokestatic 151, 3) := by decide +kernel
theorem dX1_countHolding_55 : decode cX1_countHolding 55 = .ok (.iadd, 1) := by decide +kernel
theorem dX1_countHolding_56 : decode cX1_countHolding 56 = .ok (.istore_n 2, 1) := by decide +kernel
theorem dX1_countHolding_57 : decode cX1_countHolding 57 = .ok (.iinc 3 1, 3) := by decide +kernel
theorem dX1_countHolding_60 : decode cX1_countHolding 60 = .ok (.goto (-56), 3) := by decide +kernel
theorem dX1_countHolding_63 : decode cX1_countHolding 63 = .ok (.iload_n 2, 1) := by decide +kernel
theorem dX1_countHolding_64 : decode cX1_countHolding 64 = .ok (.ireturn, 1) := by decide +kernel
set_option maxRecDepth 20000 in
theorem ggX1_countMeeting_X6_isClearOf : GoodIn wsX1_countMeeting wsX6_isClearOf := goodIn_r _ [7, 8, 9, 10, 11, 12, 22, 23, 24, 25, 26, 27, 28, 29, 30, 31, 32, 33, 34] (by decide +kernel) (by decide +kernel)
set_option maxRecDepth 20000 in
theorem gX1_countMeeting_X6_isClearOf : GoodIn wsX1_countMeeting (wsV RX1 137 RX6 yX6_isClearOf wsX6_isClearOf) := goodIn_app (goodIn_of _ (by decide +kernel)) ggX1_countMeeting_X6_isClearOf
set_option maxRecDepth 20000 in
theorem ggX1_countMeeting_X7_oneIf : GoodIn wsX1_countMeeting wsX7_oneIf := goodIn_r _ [15] (by decide +kernel) (by decide +kernel)
set_option maxRecDepth 20000 in
theorem gX1_countMeeting_X7_oneIf_n151 : GoodIn wsX1_countMeeting (wsX7_oneIf) := ggX1_countMeeting_X7_oneIf
theorem dX1_countMeeting_0 : decode cX1_countMeeting 0 = .ok (.iconst 0, 1) := by decide +kernel
theorem dX1_countMeeting_1 : decode cX1_countMeeting 1 = .ok (.istore_n 1, 1) := by decide +kernel
theorem dX1_countMeeting_2 : decode cX1_countMeeting 2 = .ok (.iconst 0, 1) := by decide +kernel
theorem dX1_countMeeting_3 : decode cX1_countMeeting 3 = .ok (.istore_n 2, 1) := by decide +kernel
theorem dX1_countMeeting_4 : decode cX1_countMeeting 4 = .ok (.iload_n 2, 1) := by decide +kernel
theorem dX1_countMeeting_5 : decode cX1_countMeeting 5 = .ok (.aload_n 0, 1) := by decide +kernel
theorem dX1_countMeeting_6 : decode cX1_countMeeting 6 = .ok (.getfield 51, 3) := by decide +kernel
theorem dX1_countMeeting_9 : decode cX1_countMeeting 9 = .ok (.if_icmp .ge 56, 3) := by decide +kernel
theorem dX1_countMeeting_12 : decode cX1_countMeeting 12 = .ok (.iload_n 2, 1) := by decide +kernel
theorem dX1_countMeeting_13 : decode cX1_countMeeting 13 = .ok (.iconst 1, 1) := by decide +kernel
theorem dX1_countMeeting_14 : decode cX1_countMeeting 14 = .ok (.iadd, 1) := by decide +kernel
theorem dX1_countMeeting_15 : decode cX1_countMeeting 15 = .ok (.istore_n 3, 1) := by decide +kernel
theorem dX1_countMeeting_16 : decode cX1_countMeeting 16 = .ok (.iload_n 3, 1) := by decide +kernel
theorem dX1_countMeeting_17 : decode cX1_countMeeting 17 = .ok (.aload_n 0, 1) := by decide +kernel
theorem dX1_countMeeting_18 : decode cX1_countMeeting 18 = .ok (.getfield 51, 3) := by decide +kernel
theorem dX1_countMeeting_21 : decode cX1_countMeeting 21 = .ok (.if_icmp .ge 38, 3) := by decide +kernel
theorem dX1_countMeeting_24 : decode cX1_countMeeting 24 = .ok (.iload_n 1, 1) := by decide +kernel
theorem dX1_countMeeting_25 : decode cX1_countMeeting 25 = .ok (.aload_n 0, 1) := by decide +kernel
theorem dX1_countMeeting_26 : decode cX1_countMeeting 26 = .ok (.getfield 17, 3) := by decide +kernel
theorem dX1_countMeeting_29 : decode cX1_countMeeting 29 = .ok (.iload_n 2, 1) := by decide +kernel
theorem dX1_countMeeting_30 : decode cX1_countMeeting 30 = .ok (.aaload, 1) := by decide +kernel
theorem dX1_countMeeting_31 : decode cX1_countMeeting 31 = .ok (.aload_n 0, 1) := by decide +kernel
theorem dX1_countMeeting_32 : decode cX1_countMeeting 32 = .ok (.getfield 17, 3) := by decide +kernel
theorem dX1_countMeeting_35 : decode cX1_countMeeting 35 = .ok (.iload_n 3, 1) := by decide +kernel
theorem dX1_countMeeting_36 : decode cX1_countMeeting 36 = .ok (.aaload, 1) := by decide +kernel
theorem dX1_countMeeting_37 : decode cX1_countMeeting 37 = .ok (.invokevirtual 137, 3) := by decide +kernel
theorem dX1_countMeeting_40 : decode cX1_countMeeting 40 = .ok (.ifCond .ne 7, 3) := by decide +kernel
theorem dX1_countMeeting_43 : decode cX1_countMeeting 43 = .ok (.iconst 1, 1) := by decide +kernel
theorem dX1_countMeeting_44 : decode cX1_countMeeting 44 = .ok (.goto 4, 3) := by decide +kernel
theorem dX1_countMeeting_47 : decode cX1_countMeeting 47 = .ok (.iconst 0, 1) := by decide +kernel
theorem dX1_countMeeting_48 : decode cX1_countMeeting 48 = .ok (.invokestatic 151, 3) := by decide +kernel
theorem dX1_countMeeting_51 : decode cX1_countMeeting 51 = .ok (.iadd, 1) := by decide +kernel
theorem dX1_countMeeting_52 : decode cX1_countMeeting 52 = .ok (.istore_n 1, 1) := by decide +kernel
theorem dX1_countMeeting_53 : decode cX1_countMeeting 53 = .ok (.iinc 3 1, 3) := by decide +kernel
theorem dX1_countMeeting_56 : decode cX1_countMeeting 56 = .ok (.goto (-40), 3) := by decide +kernel
theorem dX1_countMeeting_59 : decode cX1_countMeeting 59 = .ok (.iinc 2 1, 3) := by decide +kernel
theorem dX1_countMeeting_62 : decode cX1_countMeeting 62 = .ok (.goto (-58), 3) := by decide +kernel
theorem dX1_countMeeting_65 : decode cX1_countMeeting 65 = .ok (.iload_n 1, 1) := by decide +kernel
theorem dX1_countMeeting_66 : decode cX1_countMeeting 66 = .ok (.ireturn, 1) := by decide +kernel
set_option maxRecDepth 20000 in
theorem ggX1_countAshore_X7_oneIf : GoodIn wsX1_countAshore wsX7_oneIf := goodIn_r _ [6] (by decide +kernel) (by decide +kernel)
set_option maxRecDepth 20000 in
theorem gX1_countAshore_X7_oneIf_n151 : GoodIn wsX1_countAshore (wsX7_oneIf) := ggX1_countAshore_X7_oneIf
theorem dX1_countAshore_0 : decode cX1_countAshore 0 = .ok (.iconst 0, 1) := by decide +kernel
theorem dX1_countAshore_1 : decode cX1_countAshore 1 = .ok (.istore_n 1, 1) := by decide +kernel
theorem dX1_countAshore_2 : decode cX1_countAshore 2 = .ok (.iconst 0, 1) := by decide +kernel
theorem dX1_countAshore_3 : decode cX1_countAshore 3 = .ok (.istore_n 2, 1) := by decide +kernel
theorem dX1_countAshore_4 : decode cX1_countAshore 4 = .ok (.iload_n 2, 1) := by decide +kernel
theorem dX1_countAshore_5 : decode cX1_countAshore 5 = .ok (.aload_n 0, 1) := by decide +kernel
theorem dX1_countAshore_6 : decode cX1_countAshore 6 = .ok (.getfield 51, 3) := by decide +kernel
theorem dX1_countAshore_9 : decode cX1_countAshore 9 = .ok (.if_icmp .ge 24, 3) := by decide +kernel
theorem dX1_countAshore_12 : decode cX1_countAshore 12 = .ok (.iload_n 1, 1) := by decide +kernel
theorem dX1_countAshore_13 : decode cX1_countAshore 13 = .ok (.aload_n 0, 1) := by decide +kernel
theorem dX1_countAshore_14 : decode cX1_countAshore 14 = .ok (.getfield 17, 3) := by decide +kernel
theorem dX1_countAshore_17 : decode cX1_countAshore 17 = .ok (.iload_n 2, 1) := by decide +kernel
theorem dX1_countAshore_18 : decode cX1_countAshore 18 = .ok (.aaload, 1) := by decide +kernel
theorem dX1_countAshore_19 : decode cX1_countAshore 19 = .ok (.getfield 141, 3) := by decide +kernel
theorem dX1_countAshore_22 : decode cX1_countAshore 22 = .ok (.invokestatic 151, 3) := by decide +kernel
theorem dX1_countAshore_25 : decode cX1_countAshore 25 = .ok (.iadd, 1) := by decide +kernel
theorem dX1_countAshore_26 : decode cX1_countAshore 26 = .ok (.istore_n 1, 1) := by decide +kernel
theorem dX1_countAshore_27 : decode cX1_countAshore 27 = .ok (.iinc 2 1, 3) := by decide +kernel
theorem dX1_countAshore_30 : decode cX1_countAshore 30 = .ok (.goto (-26), 3) := by decide +kernel
theorem dX1_countAshore_33 : decode cX1_countAshore 33 = .ok (.iload_n 1, 1) := by decide +kernel
theorem dX1_countAshore_34 : decode cX1_countAshore 34 = .ok (.ireturn, 1) := by decide +kernel
set_option maxRecDepth 20000 in
theorem ggX1_countMoored_X7_oneIf : GoodIn wsX1_countMoored wsX7_oneIf := goodIn_r _ [6] (by decide +kernel) (by decide +kernel)
set_option maxRecDepth 20000 in
theorem gX1_countMoored_X7_oneIf_n151 : GoodIn wsX1_countMoored (wsX7_oneIf) := ggX1_countMoored_X7_oneIf
theorem dX1_countMoored_0 : decode cX1_countMoored 0 = .ok (.iconst 0, 1) := by decide +kernel
theorem dX1_countMoored_1 : decode cX1_countMoored 1 = .ok (.istore_n 1, 1) := by decide +kernel
theorem dX1_countMoored_2 : decode cX1_countMoored 2 = .ok (.iconst 0, 1) := by decide +kernel
theorem dX1_countMoored_3 : decode cX1_countMoored 3 = .ok (.istore_n 2, 1) := by decide +kernel
theorem dX1_countMoored_4 : decode cX1_countMoored 4 = .ok (.iload_n 2, 1) := by decide +kernel
theorem dX1_countMoored_5 : decode cX1_countMoored 5 = .ok (.aload_n 0, 1) := by decide +kernel
theorem dX1_countMoored_6 : decode cX1_countMoored 6 = .ok (.getfield 51, 3) := by decide +kernel
theorem dX1_countMoored_9 : decode cX1_countMoored 9 = .ok (.if_icmp .ge 24, 3) := by decide +kernel
theorem dX1_countMoored_12 : decode cX1_countMoored 12 = .ok (.iload_n 1, 1) := by decide +kernel
theorem dX1_countMoored_13 : decode cX1_countMoored 13 = .ok (.aload_n 0, 1) := by decide +kernel
theorem dX1_countMoored_14 : decode cX1_countMoored 14 = .ok (.getfield 17, 3) := by decide +kernel
theorem dX1_countMoored_17 : decode cX1_countMoored 17 = .ok (.iload_n 2, 1) := by decide +kernel
theorem dX1_countMoored_18 : decode cX1_countMoored 18 = .ok (.aaload, 1) := by decide +kernel
theorem dX1_countMoored_19 : decode cX1_countMoored 19 = .ok (.getfield 88, 3) := by decide +kernel
theorem dX1_countMoored_22 : decode cX1_countMoored 22 = .ok (.invokestatic 151, 3) := by decide +kernel
theorem dX1_countMoored_25 : decode cX1_countMoored 25 = .ok (.iadd, 1) := by decide +kernel
theorem dX1_countMoored_26 : decode cX1_countMoored 26 = .ok (.istore_n 1, 1) := by decide +kernel
theorem dX1_countMoored_27 : decode cX1_countMoored 27 = .ok (.iinc 2 1, 3) := by decide +kernel
theorem dX1_countMoored_30 : decode cX1_countMoored 30 = .ok (.goto (-26), 3) := by decide +kernel
theorem dX1_countMoored_33 : decode cX1_countMoored 33 = .ok (.iload_n 1, 1) := by decide +kernel
theorem dX1_countMoored_34 : decode cX1_countMoored 34 = .ok (.ireturn, 1) := by decide +kernel
theorem dX1_countLinksOut_0 : decode cX1_countLinksOut 0 = .ok (.iconst 0, 1) := by decide +kernel
theorem dX1_countLinksOut_1 : decode cX1_countLinksOut 1 = .ok (.istore_n 1, 1) := by decide +kernel
theorem dX1_countLinksOut_2 : decode cX1_countLinksOut 2 = .ok (.iconst 0, 1) := by decide +kernel
theorem dX1_countLinksOut_3 : decode cX1_countLinksOut 3 = .ok (.istore_n 2, 1) := by decide +kernel
theorem dX1_countLinksOut_4 : decode cX1_countLinksOut 4 = .ok (.iload_n 2, 1) := by decide +kernel
theorem dX1_countLinksOut_5 : decode cX1_countLinksOut 5 = .ok (.aload_n 0, 1) := by decide +kernel
theorem dX1_countLinksOut_6 : decode cX1_countLinksOut 6 = .ok (.getfield 51, 3) := by decide +kernel
theorem dX1_countLinksOut_9 : decode cX1_countLinksOut 9 = .ok (.if_icmp .ge 52, 3) := by decide +kernel
theorem dX1_countLinksOut_12 : decode cX1_countLinksOut 12 = .ok (.aload_n 0, 1) := by decide +kernel
theorem dX1_countLinksOut_13 : decode cX1_countLinksOut 13 = .ok (.getfield 17, 3) := by decide +kernel
theorem dX1_countLinksOut_16 : decode cX1_countLinksOut 16 = .ok (.iload_n 2, 1) := by decide +kernel
theorem dX1_countLinksOut_17 : decode cX1_countLinksOut 17 = .ok (.aaload, 1) := by decide +kernel
theorem dX1_countLinksOut_18 : decode cX1_countLinksOut 18 = .ok (.astore_n 3, 1) := by decide +kernel
theorem dX1_countLinksOut_19 : decode cX1_countLinksOut 19 = .ok (.aload_n 3, 1) := by decide +kernel
theorem dX1_countLinksOut_20 : decode cX1_countLinksOut 20 = .ok (.getfield 141, 3) := by decide +kernel
theorem dX1_countLinksOut_23 : decode cX1_countLinksOut 23 = .ok (.ifCond .ne 32, 3) := by decide +kernel
theorem dX1_countLinksOut_26 : decode cX1_countLinksOut 26 = .ok (.iload_n 1, 1) := by decide +kernel
theorem dX1_countLinksOut_27 : decode cX1_countLinksOut 27 = .ok (.aload_n 3, 1) := by decide +kernel
theorem dX1_countLinksOut_28 : decode cX1_countLinksOut 28 = .ok (.getfield 100, 3) := by decide +kernel
theorem dX1_countLinksOut_31 : decode cX1_countLinksOut 31 = .ok (.getfield 118, 3) := by decide +kernel
theorem dX1_countLinksOut_34 : decode cX1_countLinksOut 34 = .ok (.aload_n 3, 1) := by decide +kernel
theorem dX1_countLinksOut_35 : decode cX1_countLinksOut 35 = .ok (.getfield 88, 3) := by decide +kernel
theorem dX1_countLinksOut_38 : decode cX1_countLinksOut 38 = .ok (.ifCond .eq 13, 3) := by decide +kernel
theorem dX1_countLinksOut_41 : decode cX1_countLinksOut 41 = .ok (.aload_n 3, 1) := by decide +kernel
theorem dX1_countLinksOut_42 : decode cX1_countLinksOut 42 = .ok (.getfield 115, 3) := by decide +kernel
theorem dX1_countLinksOut_45 : decode cX1_countLinksOut 45 = .ok (.getfield 118, 3) := by decide +kernel
theorem dX1_countLinksOut_48 : decode cX1_countLinksOut 48 = .ok (.goto 4, 3) := by decide +kernel
theorem dX1_countLinksOut_51 : decode cX1_countLinksOut 51 = .ok (.iconst 0, 1) := by decide +kernel
theorem dX1_countLinksOut_52 : decode cX1_countLinksOut 52 = .ok (.iadd, 1) := by decide +kernel
theorem dX1_countLinksOut_53 : decode cX1_countLinksOut 53 = .ok (.iadd, 1) := by decide +kernel
theorem dX1_countLinksOut_54 : decode cX1_countLinksOut 54 = .ok (.istore_n 1, 1) := by decide +kernel
theorem dX1_countLinksOut_55 : decode cX1_countLinksOut 55 = .ok (.iinc 2 1, 3) := by decide +kernel
theorem dX1_countLinksOut_58 : decode cX1_countLinksOut 58 = .ok (.goto (-54), 3) := by decide +kernel
theorem dX1_countLinksOut_61 : decode cX1_countLinksOut 61 = .ok (.iload_n 1, 1) := by decide +kernel
theorem dX1_countLinksOut_62 : decode cX1_countLinksOut 62 = .ok (.ireturn, 1) := by decide +kernel
set_option maxRecDepth 20000 in
theorem ggX1_save_X6_save : GoodIn wsX1_save wsX6_save := goodIn_r _ [8, 9, 10, 11, 12, 13, 14, 15, 16, 17, 18, 19, 20, 21, 22, 23, 24, 31, 32, 33, 34, 35, 36, 37, 38, 39, 40, 41, 42, 43] (by decide +kernel) (by decide +kernel)
set_option maxRecDepth 20000 in
theorem gX1_save_X6_save : GoodIn wsX1_save (wsV RX1 169 RX6 yX6_save wsX6_save) := goodIn_app (goodIn_of _ (by decide +kernel)) ggX1_save_X6_save
theorem dX1_save_0 : decode cX1_save 0 = .ok (.aload_n 1, 1) := by decide +kernel
theorem dX1_save_1 : decode cX1_save 1 = .ok (.arraylength, 1) := by decide +kernel
theorem dX1_save_2 : decode cX1_save 2 = .ok (.bipush 46, 2) := by decide +kernel
theorem dX1_save_4 : decode cX1_save 4 = .ok (.if_icmp .ge 4, 3) := by decide +kernel
theorem dX1_save_7 : decode cX1_save 7 = .ok (.return_, 1) := by decide +kernel
theorem dX1_save_8 : decode cX1_save 8 = .ok (.aload_n 1, 1) := by decide +kernel
theorem dX1_save_9 : decode cX1_save 9 = .ok (.iconst 0, 1) := by decide +kernel
theorem dX1_save_10 : decode cX1_save 10 = .ok (.aload_n 0, 1) := by decide +kernel
theorem dX1_save_11 : decode cX1_save 11 = .ok (.getfield 62, 3) := by decide +kernel
theorem dX1_save_14 : decode cX1_save 14 = .ok (.iastore, 1) := by decide +kernel
theorem dX1_save_15 : decode cX1_save 15 = .ok (.iconst 0, 1) := by decide +kernel
theorem dX1_save_16 : decode cX1_save 16 = .ok (.istore_n 2, 1) := by decide +kernel
theorem dX1_save_17 : decode cX1_save 17 = .ok (.iload_n 2, 1) := by decide +kernel
theorem dX1_save_18 : decode cX1_save 18 = .ok (.aload_n 0, 1) := by decide +kernel
theorem dX1_save_19 : decode cX1_save 19 = .ok (.getfield 51, 3) := by decide +kernel
theorem dX1_save_22 : decode cX1_save 22 = .ok (.if_icmp .ge 25, 3) := by decide +kernel
theorem dX1_save_25 : decode cX1_save 25 = .ok (.aload_n 0, 1) := by decide +kernel
theorem dX1_save_26 : decode cX1_save 26 = .ok (.getfield 17, 3) := by decide +kernel
theorem dX1_save_29 : decode cX1_save 29 = .ok (.iload_n 2, 1) := by decide +kernel
theorem dX1_save_30 : decode cX1_save 30 = .ok (.aaload, 1) := by decide +kernel
theorem dX1_save_31 : decode cX1_save 31 = .ok (.aload_n 1, 1) := by decide +kernel
theorem dX1_save_32 : decode cX1_save 32 = .ok (.iconst 1, 1) := by decide +kernel
theorem dX1_save_33 : decode cX1_save 33 = .ok (.iload_n 2, 1) := by decide +kernel
theorem dX1_save_34 : decode cX1_save 34 = .ok (.bipush 9, 2) := by decide +kernel
theorem dX1_save_36 : decode cX1_save 36 = .ok (.imul, 1) := by decide +kernel
theorem dX1_save_37 : decode cX1_save 37 = .ok (.iadd, 1) := by decide +kernel
theorem dX1_save_38 : decode cX1_save 38 = .ok (.invokevirtual 169, 3) := by decide +kernel
theorem dX1_save_41 : decode cX1_save 41 = .ok (.iinc 2 1, 3) := by decide +kernel
theorem dX1_save_44 : decode cX1_save 44 = .ok (.goto (-27), 3) := by decide +kernel
theorem dX1_save_47 : decode cX1_save 47 = .ok (.return_, 1) := by decide +kernel
set_option maxRecDepth 20000 in
theorem ggX1_restore_X6_restore : GoodIn wsX1_restore wsX6_restore := goodIn_r _ [8, 9, 10, 11, 12, 13, 14, 15, 16, 17, 18, 19, 20, 21, 22, 23, 24, 25, 32, 33, 34, 35, 36, 37, 38, 39, 40, 41, 42, 43, 44] (by decide +kernel) (by decide +kernel)
set_option maxRecDepth 20000 in
theorem gX1_restore_X6_restore : GoodIn wsX1_restore (wsV RX1 173 RX6 yX6_restore wsX6_restore) := goodIn_app (goodIn_of _ (by decide +kernel)) ggX1_restore_X6_restore
theorem dX1_restore_0 : decode cX1_restore 0 = .ok (.aload_n 1, 1) := by decide +kernel
theorem dX1_restore_1 : decode cX1_restore 1 = .ok (.arraylength, 1) := by decide +kernel
theorem dX1_restore_2 : decode cX1_restore 2 = .ok (.bipush 46, 2) := by decide +kernel
theorem dX1_restore_4 : decode cX1_restore 4 = .ok (.if_icmp .ge 4, 3) := by decide +kernel
theorem dX1_restore_7 : decode cX1_restore 7 = .ok (.return_, 1) := by decide +kernel
theorem dX1_restore_8 : decode cX1_restore 8 = .ok (.aload_n 0, 1) := by decide +kernel
theorem dX1_restore_9 : decode cX1_restore 9 = .ok (.aload_n 1, 1) := by decide +kernel
theorem dX1_restore_10 : decode cX1_restore 10 = .ok (.iconst 0, 1) := by decide +kernel
theorem dX1_restore_11 : decode cX1_restore 11 = .ok (.iaload, 1) := by decide +kernel
theorem dX1_restore_12 : decode cX1_restore 12 = .ok (.putfield 62, 3) := by decide +kernel
theorem dX1_restore_15 : decode cX1_restore 15 = .ok (.iconst 0, 1) := by decide +kernel
theorem dX1_restore_16 : decode cX1_restore 16 = .ok (.istore_n 2, 1) := by decide +kernel
theorem dX1_restore_17 : decode cX1_restore 17 = .ok (.iload_n 2, 1) := by decide +kernel
theorem dX1_restore_18 : decode cX1_restore 18 = .ok (.aload_n 0, 1) := by decide +kernel
theorem dX1_restore_19 : decode cX1_restore 19 = .ok (.getfield 51, 3) := by decide +kernel
theorem dX1_restore_22 : decode cX1_restore 22 = .ok (.if_icmp .ge 25, 3) := by decide +kernel
theorem dX1_restore_25 : decode cX1_restore 25 = .ok (.aload_n 0, 1) := by decide +kernel
theorem dX1_restore_26 : decode cX1_restore 26 = .ok (.getfield 17, 3) := by decide +kernel
theorem dX1_restore_29 : decode cX1_restore 29 = .ok (.iload_n 2, 1) := by decide +kernel
theorem dX1_restore_30 : decode cX1_restore 30 = .ok (.aaload, 1) := by decide +kernel
theorem dX1_restore_31 : decode cX1_restore 31 = .ok (.aload_n 1, 1) := by decide +kernel
theorem dX1_restore_32 : decode cX1_restore 32 = .ok (.iconst 1, 1) := by decide +kernel
theorem dX1_restore_33 : decode cX1_restore 33 = .ok (.iload_n 2, 1) := by decide +kernel
theorem dX1_restore_34 : decode cX1_restore 34 = .ok (.bipush 9, 2) := by decide +kernel
theorem dX1_restore_36 : decode cX1_restore 36 = .ok (.imul, 1) := by decide +kernel
theorem dX1_restore_37 : decode cX1_restore 37 = .ok (.iadd, 1) := by decide +kernel
theorem dX1_restore_38 : decode cX1_restore 38 = .ok (.invokevirtual 173, 3) := by decide +kernel
theorem dX1_restore_41 : decode cX1_restore 41 = .ok (.iinc 2 1, 3) := by decide +kernel
theorem dX1_restore_44 : decode cX1_restore 44 = .ok (.goto (-27), 3) := by decide +kernel
theorem dX1_restore_47 : decode cX1_restore 47 = .ok (.return_, 1) := by decide +kernel
theorem dX2_init_0 : decode cX2_init 0 = .ok (.aload_n 0, 1) := by decide +kernel
theorem dX2_init_1 : decode cX2_init 1 = .ok (.invokespecial 3, 3) := by decide +kernel
theorem dX2_init_4 : decode cX2_init 4 = .ok (.return_, 1) := by decide +kernel
theorem dX2_take_0 : decode cX2_take 0 = .ok (.aload_n 0, 1) := by decide +kernel
theorem dX2_take_1 : decode cX2_take 1 = .ok (.iload_n 1, 1) := by decide +kernel
theorem dX2_take_2 : decode cX2_take 2 = .ok (.putfield 9, 3) := by decide +kernel
theorem dX2_take_5 : decode cX2_take 5 = .ok (.aload_n 0, 1) := by decide +kernel
theorem dX2_take_6 : decode cX2_take 6 = .ok (.iload_n 2, 1) := by decide +kernel
theorem dX2_take_7 : decode cX2_take 7 = .ok (.putfield 15, 3) := by decide +kernel
theorem dX2_take_10 : decode cX2_take 10 = .ok (.aload_n 0, 1) := by decide +kernel
theorem dX2_take_11 : decode cX2_take 11 = .ok (.iload_n 3, 1) := by decide +kernel
theorem dX2_take_12 : decode cX2_take 12 = .ok (.putfield 18, 3) := by decide +kernel
theorem dX2_take_15 : decode cX2_take 15 = .ok (.aload_n 0, 1) := by decide +kernel
theorem dX2_take_16 : decode cX2_take 16 = .ok (.iload 4, 2) := by decide +kernel
theorem dX2_take_18 : decode cX2_take 18 = .ok (.putfield 21, 3) := by decide +kernel
theorem dX2_take_21 : decode cX2_take 21 = .ok (.return_, 1) := by decide +kernel
set_option maxRecDepth 20000 in
theorem ggX2_holds_X2_climb : GoodIn wsX2_holds wsX2_climb := goodIn_r _ [8, 9, 2, 10, 1, 11, 3, 12, 13, 14, 15, 7, 16, 17, 18, 19, 20, 21, 22, 23, 24, 25, 26, 27, 28, 29, 30, 31] (by decide +kernel) (by decide +kernel)
set_option maxRecDepth 20000 in
theorem gX2_holds_X2_climb : GoodIn wsX2_holds (wsV RX2 24 RX2 yX2_climb wsX2_climb) := goodIn_app (goodIn_of _ (by decide +kernel)) ggX2_holds_X2_climb
theorem dX2_holds_0 : decode cX2_holds 0 = .ok (.aload_n 0, 1) := by decide +kernel
theorem dX2_holds_1 : decode cX2_holds 1 = .ok (.getfield 9, 3) := by decide +kernel
theorem dX2_holds_4 : decode cX2_holds 4 = .ok (.ifCond .ne 5, 3) := by decide +kernel
theorem dX2_holds_7 : decode cX2_holds 7 = .ok (.iconst 1, 1) := by decide +kernel
theorem dX2_holds_8 : decode cX2_holds 8 = .ok (.ireturn, 1) := by decide +kernel
theorem dX2_holds_9 : decode cX2_holds 9 = .ok (.aload_n 0, 1) := by decide +kernel
theorem dX2_holds_10 : decode cX2_holds 10 = .ok (.getfield 9, 3) := by decide +kernel
theorem dX2_holds_13 : decode cX2_holds 13 = .ok (.iload_n 1, 1) := by decide +kernel
theorem dX2_holds_14 : decode cX2_holds 14 = .ok (.if_icmp .le 5, 3) := by decide +kernel
theorem dX2_holds_17 : decode cX2_holds 17 = .ok (.iconst 0, 1) := by decide +kernel
theorem dX2_holds_18 : decode cX2_holds 18 = .ok (.ireturn, 1) := by decide +kernel
theorem dX2_holds_19 : decode cX2_holds 19 = .ok (.aload_n 0, 1) := by decide +kernel
theorem dX2_holds_20 : decode cX2_holds 20 = .ok (.iload_n 1, 1) := by decide +kernel
theorem dX2_holds_21 : decode cX2_holds 21 = .ok (.aload_n 0, 1) := by decide +kernel
theorem dX2_holds_22 : decode cX2_holds 22 = .ok (.getfield 9, 3) := by decide +kernel
theorem dX2_holds_25 : decode cX2_holds 25 = .ok (.isub, 1) := by decide +kernel
theorem dX2_holds_26 : decode cX2_holds 26 = .ok (.iconst 3, 1) := by decide +kernel
theorem dX2_holds_27 : decode cX2_holds 27 = .ok (.idiv, 1) := by decide +kernel
theorem dX2_holds_28 : decode cX2_holds 28 = .ok (.invokevirtual 24, 3) := by decide +kernel
theorem dX2_holds_31 : decode cX2_holds 31 = .ok (.aload_n 0, 1) := by decide +kernel
theorem dX2_holds_32 : decode cX2_holds 32 = .ok (.getfield 28, 3) := by decide +kernel
theorem dX2_holds_35 : decode cX2_holds 35 = .ok (.aload_n 0, 1) := by decide +kernel
theorem dX2_holds_36 : decode cX2_holds 36 = .ok (.getfield 21, 3) := by decide +kernel
theorem dX2_holds_39 : decode cX2_holds 39 = .ok (.if_icmp .lt 7, 3) := by decide +kernel
theorem dX2_holds_42 : decode cX2_holds 42 = .ok (.iconst 1, 1) := by decide +kernel
theorem dX2_holds_43 : decode cX2_holds 43 = .ok (.goto 4, 3) := by decide +kernel
theorem dX2_holds_46 : decode cX2_holds 46 = .ok (.iconst 0, 1) := by decide +kernel
theorem dX2_holds_47 : decode cX2_holds 47 = .ok (.ireturn, 1) := by decide +kernel
theorem dX2_holding_0 : decode cX2_holding 0 = .ok (.aload_n 0, 1) := by decide +kernel
theorem dX2_holding_1 : decode cX2_holding 1 = .ok (.getfield 31, 3) := by decide +kernel
theorem dX2_holding_4 : decode cX2_holding 4 = .ok (.ifCond .eq 7, 3) := by decide +kernel
theorem dX2_holding_7 : decode cX2_holding 7 = .ok (.iconst 0, 1) := by decide +kernel
theorem dX2_holding_8 : decode cX2_holding 8 = .ok (.goto 15, 3) := by decide +kernel
theorem dX2_holding_11 : decode cX2_holding 11 = .ok (.iconst 0, 1) := by decide +kernel
theorem dX2_holding_12 : decode cX2_holding 12 = .ok (.iload_n 1, 1) := by decide +kernel
theorem dX2_holding_13 : decode cX2_holding 13 = .ok (.iconst 3, 1) := by decide +kernel
theorem dX2_holding_14 : decode cX2_holding 14 = .ok (.aload_n 0, 1) := by decide +kernel
theorem dX2_holding_15 : decode cX2_holding 15 = .ok (.getfield 35, 3) := by decide +kernel
theorem dX2_holding_18 : decode cX2_holding 18 = .ok (.imul, 1) := by decide +kernel
theorem dX2_holding_19 : decode cX2_holding 19 = .ok (.isub, 1) := by decide +kernel
theorem dX2_holding_20 : decode cX2_holding 20 = .ok (.invokestatic 38, 3) := by decide +kernel
theorem dX2_holding_23 : decode cX2_holding 23 = .ok (.ireturn, 1) := by decide +kernel
set_option maxRecDepth 20000 in
theorem ggX2_findLie_X2_climb : GoodIn wsX2_findLie wsX2_climb := goodIn_r _ [15, 1, 5, 9, 16, 7, 6, 17, 18, 19, 20, 14, 21, 22, 23, 24, 33, 34, 35, 36, 37, 38, 39, 40, 41, 42, 43, 44] (by decide +kernel) (by decide +kernel)
set_option maxRecDepth 20000 in
theorem gX2_findLie_X2_climb : GoodIn wsX2_findLie (wsV RX2 24 RX2 yX2_climb wsX2_climb) := goodIn_app (goodIn_of _ (by decide +kernel)) ggX2_findLie_X2_climb
set_option maxRecDepth 20000 in
theorem ggX2_findLie_X2_findLift : GoodIn wsX2_findLie wsX2_findLift := goodIn_r _ [28, 5, 6, 4, 29, 30, 31, 32, 3, 11, 12, 13, 14, 15, 1, 9, 16, 7, 17, 18, 19, 20, 21, 22, 23, 24, 33, 34, 35, 36, 37, 38, 39, 40, 41, 42, 43, 44] (by decide +kernel) (by decide +kernel)
set_option maxRecDepth 20000 in
theorem gX2_findLie_X2_findLift : GoodIn wsX2_findLie (wsV RX2 50 RX2 yX2_findLift wsX2_findLift) := goodIn_app (goodIn_of _ (by decide +kernel)) ggX2_findLie_X2_findLift
theorem dX2_findLie_0 : decode cX2_findLie 0 = .ok (.aload_n 0, 1) := by decide +kernel
theorem dX2_findLie_1 : decode cX2_findLie 1 = .ok (.iconst 0, 1) := by decide +kernel
theorem dX2_findLie_2 : decode cX2_findLie 2 = .ok (.invokevirtual 24, 3) := by decide +kernel
theorem dX2_findLie_5 : decode cX2_findLie 5 = .ok (.aload_n 0, 1) := by decide +kernel
theorem dX2_findLie_6 : decode cX2_findLie 6 = .ok (.aload_n 0, 1) := by decide +kernel
theorem dX2_findLie_7 : decode cX2_findLie 7 = .ok (.getfield 44, 3) := by decide +kernel
theorem dX2_findLie_10 : decode cX2_findLie 10 = .ok (.putfield 47, 3) := by decide +kernel
theorem dX2_findLie_13 : decode cX2_findLie 13 = .ok (.aload_n 0, 1) := by decide +kernel
theorem dX2_findLie_14 : decode cX2_findLie 14 = .ok (.iconst 0, 1) := by decide +kernel
theorem dX2_findLie_15 : decode cX2_findLie 15 = .ok (.putfield 35, 3) := by decide +kernel
theorem dX2_findLie_18 : decode cX2_findLie 18 = .ok (.aload_n 0, 1) := by decide +kernel
theorem dX2_findLie_19 : decode cX2_findLie 19 = .ok (.iconst 0, 1) := by decide +kernel
theorem dX2_findLie_20 : decode cX2_findLie 20 = .ok (.putfield 31, 3) := by decide +kernel
theorem dX2_findLie_23 : decode cX2_findLie 23 = .ok (.aload_n 0, 1) := by decide +kernel
theorem dX2_findLie_24 : decode cX2_findLie 24 = .ok (.getfield 28, 3) := by decide +kernel
theorem dX2_findLie_27 : decode cX2_findLie 27 = .ok (.aload_n 0, 1) := by decide +kernel
theorem dX2_findLie_28 : decode cX2_findLie 28 = .ok (.getfield 21, 3) := by decide +kernel
theorem dX2_findLie_31 : decode cX2_findLie 31 = .ok (.if_icmp .ge 7, 3) := by decide +kernel
theorem dX2_findLie_34 : decode cX2_findLie 34 = .ok (.aload_n 0, 1) := by decide +kernel
theorem dX2_findLie_35 : decode cX2_findLie 35 = .ok (.invokevirtual 50, 3) := by decide +kernel
theorem dX2_findLie_38 : decode cX2_findLie 38 = .ok (.aload_n 0, 1) := by decide +kernel
theorem dX2_findLie_39 : decode cX2_findLie 39 = .ok (.aload_n 0, 1) := by decide +kernel
theorem dX2_findLie_40 : decode cX2_findLie 40 = .ok (.getfield 18, 3) := by decide +kernel
theorem dX2_findLie_43 : decode cX2_findLie 43 = .ok (.aload_n 0, 1) := by decide +kernel
theorem dX2_findLie_44 : decode cX2_findLie 44 = .ok (.getfield 47, 3) := by decide +kernel
theorem dX2_findLie_47 : decode cX2_findLie 47 = .ok (.isub, 1) := by decide +kernel
theorem dX2_findLie_48 : decode cX2_findLie 48 = .ok (.putfield 53, 3) := by decide +kernel
theorem dX2_findLie_51 : decode cX2_findLie 51 = .ok (.aload_n 0, 1) := by decide +kernel
theorem dX2_findLie_52 : decode cX2_findLie 52 = .ok (.aload_n 0, 1) := by decide +kernel
theorem dX2_findLie_53 : decode cX2_findLie 53 = .ok (.getfield 31, 3) := by decide +kernel
theorem dX2_findLie_56 : decode cX2_findLie 56 = .ok (.ifCond .eq 7, 3) := by decide +kernel
theorem dX2_findLie_59 : decode cX2_findLie 59 = .ok (.iconst 0, 1) := by decide +kernel
theorem dX2_findLie_60 : decode cX2_findLie 60 = .ok (.goto 15, 3) := by decide +kernel
theorem dX2_findLie_63 : decode cX2_findLie 63 = .ok (.bipush 10, 2) := by decide +kernel
theorem dX2_findLie_65 : decode cX2_findLie 65 = .ok (.aload_n 0, 1) := by decide +kernel
theorem dX2_findLie_66 : decode cX2_findLie 66 = .ok (.getfield 53, 3) := by decide +kernel
theorem dX2_findLie_69 : decode cX2_findLie 69 = .ok (.imul, 1) := by decide +kernel
theorem dX2_findLie_70 : decode cX2_findLie 70 = .ok (.aload_n 0, 1) := by decide +kernel
theorem dX2_findLie_71 : decode cX2_findLie 71 = .ok (.getfield 56, 3) := by decide +kernel
theorem dX2_findLie_74 : decode cX2_findLie 74 = .ok (.iadd, 1) := by decide +kernel
theorem dX2_findLie_75 : decode cX2_findLie 75 = .ok (.putfield 59, 3) := by decide +kernel
theorem dX2_findLie_78 : decode cX2_findLie 78 = .ok (.return_, 1) := by decide +kernel
set_option maxRecDepth 20000 in
theorem ggX2_findLift_X2_climb : GoodIn wsX2_findLift wsX2_climb := goodIn_r _ [13, 14, 1, 15, 16, 17, 2, 18, 19, 20, 21, 12, 22, 23, 24, 25, 26, 27, 28, 29, 30, 31, 32, 33, 34, 35, 36, 37] (by decide +kernel) (by decide +kernel)
set_option maxRecDepth 20000 in
theorem gX2_findLift_X2_climb : GoodIn wsX2_findLift (wsV RX2 24 RX2 yX2_climb wsX2_climb) := goodIn_app (goodIn_of _ (by decide +kernel)) ggX2_findLift_X2_climb
theorem dX2_findLift_0 : decode cX2_findLift 0 = .ok (.iconst 0, 1) := by decide +kernel
theorem dX2_findLift_1 : decode cX2_findLift 1 = .ok (.istore_n 1, 1) := by decide +kernel
theorem dX2_findLift_2 : decode cX2_findLift 2 = .ok (.sipush 512, 3) := by decide +kernel
theorem dX2_findLift_5 : decode cX2_findLift 5 = .ok (.istore_n 2, 1) := by decide +kernel
theorem dX2_findLift_6 : decode cX2_findLift 6 = .ok (.iload_n 2, 1) := by decide +kernel
theorem dX2_findLift_7 : decode cX2_findLift 7 = .ok (.ifCond .le 43, 3) := by decide +kernel
theorem dX2_findLift_10 : decode cX2_findLift 10 = .ok (.iload_n 1, 1) := by decide +kernel
theorem dX2_findLift_11 : decode cX2_findLift 11 = .ok (.iload_n 2, 1) := by decide +kernel
theorem dX2_findLift_12 : decode cX2_findLift 12 = .ok (.iadd, 1) := by decide +kernel
theorem dX2_findLift_13 : decode cX2_findLift 13 = .ok (.istore_n 3, 1) := by decide +kernel
theorem dX2_findLift_14 : decode cX2_findLift 14 = .ok (.iload_n 3, 1) := by decide +kernel
theorem dX2_findLift_15 : decode cX2_findLift 15 = .ok (.sipush 999, 3) := by decide +kernel
theorem dX2_findLift_18 : decode cX2_findLift 18 = .ok (.if_icmp .gt 25, 3) := by decide +kernel
theorem dX2_findLift_21 : decode cX2_findLift 21 = .ok (.aload_n 0, 1) := by decide +kernel
theorem dX2_findLift_22 : decode cX2_findLift 22 = .ok (.iload_n 3, 1) := by decide +kernel
theorem dX2_findLift_23 : decode cX2_findLift 23 = .ok (.invokevirtual 24, 3) := by decide +kernel
theorem dX2_findLift_26 : decode cX2_findLift 26 = .ok (.aload_n 0, 1) := by decide +kernel
theorem dX2_findLift_27 : decode cX2_findLift 27 = .ok (.getfield 28, 3) := by decide +kernel
theorem dX2_findLift_30 : decode cX2_findLift 30 = .ok (.aload_n 0, 1) := by decide +kernel
theorem dX2_findLift_31 : decode cX2_findLift 31 = .ok (.getfield 21, 3) := by decide +kernel
theorem dX2_findLift_34 : decode cX2_findLift 34 = .ok (.if_icmp .ge 7, 3) := by decide +kernel
theorem dX2_findLift_37 : decode cX2_findLift 37 = .ok (.iload_n 3, 1) := by decide +kernel
theorem dX2_findLift_38 : decode cX2_findLift 38 = .ok (.goto 4, 3) := by decide +kernel
theorem dX2_findLift_41 : decode cX2_findLift 41 = .ok (.iload_n 1, 1) := by decide +kernel
theorem dX2_findLift_42 : decode cX2_findLift 42 = .ok (.istore_n 1, 1) := by decide +kernel
theorem dX2_findLift_43 : decode cX2_findLift 43 = .ok (.iload_n 2, 1) := by decide +kernel
theorem dX2_findLift_44 : decode cX2_findLift 44 = .ok (.iconst 1, 1) := by decide +kernel
theorem dX2_findLift_45 : decode cX2_findLift 45 = .ok (.ishr, 1) := by decide +kernel
theorem dX2_findLift_46 : decode cX2_findLift 46 = .ok (.istore_n 2, 1) := by decide +kernel
theorem dX2_findLift_47 : decode cX2_findLift 47 = .ok (.goto (-41), 3) := by decide +kernel
theorem dX2_findLift_50 : decode cX2_findLift 50 = .ok (.aload_n 0, 1) := by decide +kernel
theorem dX2_findLift_51 : decode cX2_findLift 51 = .ok (.iload_n 1, 1) := by decide +kernel
theorem dX2_findLift_52 : decode cX2_findLift 52 = .ok (.sipush 999, 3) := by decide +kernel
theorem dX2_findLift_55 : decode cX2_findLift 55 = .ok (.if_icmp .ne 7, 3) := by decide +kernel
theorem dX2_findLift_58 : decode cX2_findLift 58 = .ok (.iconst 1, 1) := by decide +kernel
theorem dX2_findLift_59 : decode cX2_findLift 59 = .ok (.goto 4, 3) := by decide +kernel
theorem dX2_findLift_62 : decode cX2_findLift 62 = .ok (.iconst 0, 1) := by decide +kernel
theorem dX2_findLift_63 : decode cX2_findLift 63 = .ok (.putfield 31, 3) := by decide +kernel
theorem dX2_findLift_66 : decode cX2_findLift 66 = .ok (.aload_n 0, 1) := by decide +kernel
theorem dX2_findLift_67 : decode cX2_findLift 67 = .ok (.iload_n 1, 1) := by decide +kernel
theorem dX2_findLift_68 : decode cX2_findLift 68 = .ok (.iconst 1, 1) := by decide +kernel
theorem dX2_findLift_69 : decode cX2_findLift 69 = .ok (.iadd, 1) := by decide +kernel
theorem dX2_findLift_70 : decode cX2_findLift 70 = .ok (.sipush 999, 3) := by decide +kernel
theorem dX2_findLift_73 : decode cX2_findLift 73 = .ok (.invokestatic 62, 3) := by decide +kernel
theorem dX2_findLift_76 : decode cX2_findLift 76 = .ok (.putfield 35, 3) := by decide +kernel
theorem dX2_findLift_79 : decode cX2_findLift 79 = .ok (.aload_n 0, 1) := by decide +kernel
theorem dX2_findLift_80 : decode cX2_findLift 80 = .ok (.aload_n 0, 1) := by decide +kernel
theorem dX2_findLift_81 : decode cX2_findLift 81 = .ok (.getfield 35, 3) := by decide +kernel
theorem dX2_findLift_84 : decode cX2_findLift 84 = .ok (.invokevirtual 24, 3) := by decide +kernel
theorem dX2_findLift_87 : decode cX2_findLift 87 = .ok (.return_, 1) := by decide +kernel
set_option maxRecDepth 20000 in
theorem ggX2_climb_X2_root : GoodIn wsX2_climb wsX2_root := goodIn_r _ [12] (by decide +kernel) (by decide +kernel)
set_option maxRecDepth 20000 in
theorem gX2_climb_X2_root : GoodIn wsX2_climb (va_wsS RX2 65 yX2_root wsX2_root) := goodIn_app (goodIn_of _ (by decide +kernel)) ggX2_climb_X2_root
set_option maxRecDepth 20000 in
theorem ggX2_climb_X2_rootFrom : GoodIn wsX2_climb wsX2_rootFrom := goodIn_r _ [15] (by decide +kernel) (by decide +kernel)
set_option maxRecDepth 20000 in
theorem gX2_climb_X2_rootFrom : GoodIn wsX2_climb (va_wsS RX2 69 yX2_rootFrom wsX2_rootFrom) := goodIn_app (goodIn_of _ (by decide +kernel)) ggX2_climb_X2_rootFrom
theorem dX2_climb_0 : decode cX2_climb 0 = .ok (.aload_n 0, 1) := by decide +kernel
theorem dX2_climb_1 : decode cX2_climb 1 = .ok (.iconst 0, 1) := by decide +kernel
theorem dX2_climb_2 : decode cX2_climb 2 = .ok (.putfield 44, 3) := by decide +kernel
theorem dX2_climb_5 : decode cX2_climb 5 = .ok (.aload_n 0, 1) := by decide +kernel
theorem dX2_climb_6 : decode cX2_climb 6 = .ok (.iconst 0, 1) := by decide +kernel
theorem dX2_climb_7 : decode cX2_climb 7 = .ok (.putfield 28, 3) := by decide +kernel
theorem dX2_climb_10 : decode cX2_climb 10 = .ok (.aload_n 0, 1) := by decide +kernel
theorem dX2_climb_11 : decode cX2_climb 11 = .ok (.iconst 0, 1) := by decide +kernel
theorem dX2_climb_12 : decode cX2_climb 12 = .ok (.putfield 56, 3) := by decide +kernel
theorem dX2_climb_15 : decode cX2_climb 15 = .ok (.iload_n 1, 1) := by decide +kernel
theorem dX2_climb_16 : decode cX2_climb 16 = .ok (.istore_n 2, 1) := by decide +kernel
theorem dX2_climb_17 : decode cX2_climb 17 = .ok (.aload_n 0, 1) := by decide +kernel
theorem dX2_climb_18 : decode cX2_climb 18 = .ok (.getfield 9, 3) := by decide +kernel
theorem dX2_climb_21 : decode cX2_climb 21 = .ok (.aload_n 0, 1) := by decide +kernel
theorem dX2_climb_22 : decode cX2_climb 22 = .ok (.getfield 9, 3) := by decide +kernel
theorem dX2_climb_25 : decode cX2_climb 25 = .ok (.imul, 1) := by decide +kernel
theorem dX2_climb_26 : decode cX2_climb 26 = .ok (.iload_n 2, 1) := by decide +kernel
theorem dX2_climb_27 : decode cX2_climb 27 = .ok (.iload_n 2, 1) := by decide +kernel
theorem dX2_climb_28 : decode cX2_climb 28 = .ok (.imul, 1) := by decide +kernel
theorem dX2_climb_29 : decode cX2_climb 29 = .ok (.iadd, 1) := by decide +kernel
theorem dX2_climb_30 : decode cX2_climb 30 = .ok (.invokestatic 65, 3) := by decide +kernel
theorem dX2_climb_33 : decode cX2_climb 33 = .ok (.istore_n 3, 1) := by decide +kernel
theorem dX2_climb_34 : decode cX2_climb 34 = .ok (.aload_n 0, 1) := by decide +kernel
theorem dX2_climb_35 : decode cX2_climb 35 = .ok (.getfield 44, 3) := by decide +kernel
theorem dX2_climb_38 : decode cX2_climb 38 = .ok (.aload_n 0, 1) := by decide +kernel
theorem dX2_climb_39 : decode cX2_climb 39 = .ok (.getfield 18, 3) := by decide +kernel
theorem dX2_climb_42 : decode cX2_climb 42 = .ok (.if_icmp .ge 116, 3) := by decide +kernel
theorem dX2_climb_45 : decode cX2_climb 45 = .ok (.aload_n 0, 1) := by decide +kernel
theorem dX2_climb_46 : decode cX2_climb 46 = .ok (.getfield 28, 3) := by decide +kernel
theorem dX2_climb_49 : decode cX2_climb 49 = .ok (.aload_n 0, 1) := by decide +kernel
theorem dX2_climb_50 : decode cX2_climb 50 = .ok (.getfield 21, 3) := by decide +kernel
theorem dX2_climb_53 : decode cX2_climb 53 = .ok (.if_icmp .ge 105, 3) := by decide +kernel
theorem dX2_climb_56 : decode cX2_climb 56 = .ok (.aload_n 0, 1) := by decide +kernel
theorem dX2_climb_57 : decode cX2_climb 57 = .ok (.dup, 1) := by decide +kernel
theorem dX2_climb_58 : decode cX2_climb 58 = .ok (.getfield 44, 3) := by decide +kernel
theorem dX2_climb_61 : decode cX2_climb 61 = .ok (.iconst 1, 1) := by decide +kernel
theorem dX2_climb_62 : decode cX2_climb 62 = .ok (.iadd, 1) := by decide +kernel
theorem dX2_climb_63 : decode cX2_climb 63 = .ok (.putfield 44, 3) := by decide +kernel
theorem dX2_climb_66 : decode cX2_climb 66 = .ok (.iload_n 2, 1) := by decide +kernel
theorem dX2_climb_67 : decode cX2_climb 67 = .ok (.aload_n 0, 1) := by decide +kernel
theorem dX2_climb_68 : decode cX2_climb 68 = .ok (.getfield 15, 3) := by decide +kernel
theorem dX2_climb_71 : decode cX2_climb 71 = .ok (.iadd, 1) := by decide +kernel
theorem dX2_climb_72 : decode cX2_climb 72 = .ok (.istore_n 2, 1) := by decide +kernel
theorem dX2_climb_73 : decode cX2_climb 73 = .ok (.iload_n 3, 1) := by decide +kernel
theorem dX2_climb_74 : decode cX2_climb 74 = .ok (.aload_n 0, 1) := by decide +kernel
theorem dX2_climb_75 : decode cX2_climb 75 = .ok (.getfield 15, 3) := by decide +kernel
theorem dX2_climb_78 : decode cX2_climb 78 = .ok (.aload_n 0, 1) := by decide +kernel
theorem dX2_climb_79 : decode cX2_climb 79 = .ok (.getfield 9, 3) := by decide +kernel
theorem dX2_climb_82 : decode cX2_climb 82 = .ok (.aload_n 0, 1) := by decide +kernel
theorem dX2_climb_83 : decode cX2_climb 83 = .ok (.getfield 9, 3) := by decide +kernel
theorem dX2_climb_86 : decode cX2_climb 86 = .ok (.imul, 1) := by decide +kernel
theorem dX2_climb_87 : decode cX2_climb 87 = .ok (.iload_n 2, 1) := by decide +kernel
theorem dX2_climb_88 : decode cX2_climb 88 = .ok (.iload_n 2, 1) := by decide +kernel
theorem dX2_climb_89 : decode cX2_climb 89 = .ok (.imul, 1) := by decide +kernel
theorem dX2_climb_90 : decode cX2_climb 90 = .ok (.iadd, 1) := by decide +kernel
theorem dX2_climb_91 : decode cX2_climb 91 = .ok (.invokestatic 69, 3) := by decide +kernel
theorem dX2_climb_94 : decode cX2_climb 94 = .ok (.istore_n 3, 1) := by decide +kernel
theorem dX2_climb_95 : decode cX2_climb 95 = .ok (.iload_n 3, 1) := by decide +kernel
theorem dX2_climb_96 : decode cX2_climb 96 = .ok (.ifCond .ne 7, 3) := by decide +kernel
theorem dX2_climb_99 : decode cX2_climb 99 = .ok (.iconst 0, 1) := by decide +kernel
theorem dX2_climb_100 : decode cX2_climb 100 = .ok (.goto 9, 3) := by decide +kernel
theorem dX2_climb_103 : decode cX2_climb 103 = .ok (.bipush 10, 2) := by decide +kernel
theorem dX2_climb_105 : decode cX2_climb 105 = .ok (.iload_n 2, 1) := by decide +kernel
theorem dX2_climb_106 : decode cX2_climb 106 = .ok (.imul, 1) := by decide +kernel
theorem dX2_climb_107 : decode cX2_climb 107 = .ok (.iload_n 3, 1) := by decide +kernel
theorem dX2_climb_108 : decode cX2_climb 108 = .ok (.idiv, 1) := by decide +kernel
theorem dX2_climb_109 : decode cX2_climb 109 = .ok (.istore 4, 2) := by decide +kernel
theorem dX2_climb_111 : decode cX2_climb 111 = .ok (.aload_n 0, 1) := by decide +kernel
theorem dX2_climb_112 : decode cX2_climb 112 = .ok (.dup, 1) := by decide +kernel
theorem dX2_climb_113 : decode cX2_climb 113 = .ok (.getfield 28, 3) := by decide +kernel
theorem dX2_climb_116 : decode cX2_climb 116 = .ok (.iload 4, 2) := by decide +kernel
theorem dX2_climb_118 : decode cX2_climb 118 = .ok (.iadd, 1) := by decide +kernel
theorem dX2_climb_119 : decode cX2_climb 119 = .ok (.putfield 28, 3) := by decide +kernel
theorem dX2_climb_122 : decode cX2_climb 122 = .ok (.aload_n 0, 1) := by decide +kernel
theorem dX2_climb_123 : decode cX2_climb 123 = .ok (.dup, 1) := by decide +kernel
theorem dX2_climb_124 : decode cX2_climb 124 = .ok (.getfield 56, 3) := by decide +kernel
theorem dX2_climb_127 : decode cX2_climb 127 = .ok (.iload 4, 2) := by decide +kernel
theorem dX2_climb_129 : decode cX2_climb 129 = .ok (.ifCond .lt 21, 3) := by decide +kernel
theorem dX2_climb_132 : decode cX2_climb 132 = .ok (.iload 4, 2) := by decide +kernel
theorem dX2_climb_134 : decode cX2_climb 134 = .ok (.getstatic 73, 3) := by decide +kernel
theorem dX2_climb_137 : decode cX2_climb 137 = .ok (.arraylength, 1) := by decide +kernel
theorem dX2_climb_138 : decode cX2_climb 138 = .ok (.if_icmp .ge 12, 3) := by decide +kernel
theorem dX2_climb_141 : decode cX2_climb 141 = .ok (.getstatic 73, 3) := by decide +kernel
theorem dX2_climb_144 : decode cX2_climb 144 = .ok (.iload 4, 2) := by decide +kernel
theorem dX2_climb_146 : decode cX2_climb 146 = .ok (.iaload, 1) := by decide +kernel
theorem dX2_climb_147 : decode cX2_climb 147 = .ok (.goto 4, 3) := by decide +kernel
theorem dX2_climb_150 : decode cX2_climb 150 = .ok (.iconst 0, 1) := by decide +kernel
theorem dX2_climb_151 : decode cX2_climb 151 = .ok (.iadd, 1) := by decide +kernel
theorem dX2_climb_152 : decode cX2_climb 152 = .ok (.putfield 56, 3) := by decide +kernel
theorem dX2_climb_155 : decode cX2_climb 155 = .ok (.goto (-121), 3) := by decide +kernel
theorem dX2_climb_158 : decode cX2_climb 158 = .ok (.return_, 1) := by decide +kernel
theorem dX2_root_0 : decode cX2_root 0 = .ok (.iconst 0, 1) := by decide +kernel
theorem dX2_root_1 : decode cX2_root 1 = .ok (.istore_n 1, 1) := by decide +kernel
theorem dX2_root_2 : decode cX2_root 2 = .ok (.sipush 8192, 3) := by decide +kernel
theorem dX2_root_5 : decode cX2_root 5 = .ok (.istore_n 2, 1) := by decide +kernel
theorem dX2_root_6 : decode cX2_root 6 = .ok (.iload_n 2, 1) := by decide +kernel
theorem dX2_root_7 : decode cX2_root 7 = .ok (.ifCond .le 23, 3) := by decide +kernel
theorem dX2_root_10 : decode cX2_root 10 = .ok (.iload_n 1, 1) := by decide +kernel
theorem dX2_root_11 : decode cX2_root 11 = .ok (.iload_n 2, 1) := by decide +kernel
theorem dX2_root_12 : decode cX2_root 12 = .ok (.iadd, 1) := by decide +kernel
theorem dX2_root_13 : decode cX2_root 13 = .ok (.istore_n 3, 1) := by decide +kernel
theorem dX2_root_14 : decode cX2_root 14 = .ok (.iload_n 3, 1) := by decide +kernel
theorem dX2_root_15 : decode cX2_root 15 = .ok (.iload_n 3, 1) := by decide +kernel
theorem dX2_root_16 : decode cX2_root 16 = .ok (.imul, 1) := by decide +kernel
theorem dX2_root_17 : decode cX2_root 17 = .ok (.iload_n 0, 1) := by decide +kernel
theorem dX2_root_18 : decode cX2_root 18 = .ok (.if_icmp .gt 5, 3) := by decide +kernel
theorem dX2_root_21 : decode cX2_root 21 = .ok (.iload_n 3, 1) := by decide +kernel
theorem dX2_root_22 : decode cX2_root 22 = .ok (.istore_n 1, 1) := by decide +kernel
theorem dX2_root_23 : decode cX2_root 23 = .ok (.iload_n 2, 1) := by decide +kernel
theorem dX2_root_24 : decode cX2_root 24 = .ok (.iconst 1, 1) := by decide +kernel
theorem dX2_root_25 : decode cX2_root 25 = .ok (.ishr, 1) := by decide +kernel
theorem dX2_root_26 : decode cX2_root 26 = .ok (.istore_n 2, 1) := by decide +kernel
theorem dX2_root_27 : decode cX2_root 27 = .ok (.goto (-21), 3) := by decide +kernel
theorem dX2_root_30 : decode cX2_root 30 = .ok (.iload_n 1, 1) := by decide +kernel
theorem dX2_root_31 : decode cX2_root 31 = .ok (.ireturn, 1) := by decide +kernel
theorem dX2_rootFrom_0 : decode cX2_rootFrom 0 = .ok (.iload_n 0, 1) := by decide +kernel
theorem dX2_rootFrom_1 : decode cX2_rootFrom 1 = .ok (.istore_n 3, 1) := by decide +kernel
theorem dX2_rootFrom_2 : decode cX2_rootFrom 2 = .ok (.iconst 0, 1) := by decide +kernel
theorem dX2_rootFrom_3 : decode cX2_rootFrom 3 = .ok (.istore 4, 2) := by decide +kernel
theorem dX2_rootFrom_5 : decode cX2_rootFrom 5 = .ok (.iload 4, 2) := by decide +kernel
theorem dX2_rootFrom_7 : decode cX2_rootFrom 7 = .ok (.iload_n 1, 1) := by decide +kernel
theorem dX2_rootFrom_8 : decode cX2_rootFrom 8 = .ok (.if_icmp .ge 23, 3) := by decide +kernel
theorem dX2_rootFrom_11 : decode cX2_rootFrom 11 = .ok (.iload_n 3, 1) := by decide +kernel
theorem dX2_rootFrom_12 : decode cX2_rootFrom 12 = .ok (.iconst 1, 1) := by decide +kernel
theorem dX2_rootFrom_13 : decode cX2_rootFrom 13 = .ok (.iadd, 1) := by decide +kernel
theorem dX2_rootFrom_14 : decode cX2_rootFrom 14 = .ok (.iload_n 3, 1) := by decide +kernel
theorem dX2_rootFrom_15 : decode cX2_rootFrom 15 = .ok (.iconst 1, 1) := by decide +kernel
theorem dX2_rootFrom_16 : decode cX2_rootFrom 16 = .ok (.iadd, 1) := by decide +kernel
theorem dX2_rootFrom_17 : decode cX2_rootFrom 17 = .ok (.imul, 1) := by decide +kernel
theorem dX2_rootFrom_18 : decode cX2_rootFrom 18 = .ok (.iload_n 2, 1) := by decide +kernel
theorem dX2_rootFrom_19 : decode cX2_rootFrom 19 = .ok (.if_icmp .gt 12, 3) := by decide +kernel
theorem dX2_rootFrom_22 : decode cX2_rootFrom 22 = .ok (.iinc 3 1, 3) := by decide +kernel
theorem dX2_rootFrom_25 : decode cX2_rootFrom 25 = .ok (.iinc 4 1, 3) := by decide +kernel
theorem dX2_rootFrom_28 : decode cX2_rootFrom 28 = .ok (.goto (-23), 3) := by decide +kernel
theorem dX2_rootFrom_31 : decode cX2_rootFrom 31 = .ok (.iload_n 3, 1) := by decide +kernel
theorem dX2_rootFrom_32 : decode cX2_rootFrom 32 = .ok (.ireturn, 1) := by decide +kernel
theorem dX3_init_0 : decode cX3_init 0 = .ok (.aload_n 0, 1) := by decide +kernel
theorem dX3_init_1 : decode cX3_init 1 = .ok (.invokespecial 3, 3) := by decide +kernel
theorem dX3_init_4 : decode cX3_init 4 = .ok (.aload_n 0, 1) := by decide +kernel
theorem dX3_init_5 : decode cX3_init 5 = .ok (.sipush 200, 3) := by decide +kernel
theorem dX3_init_8 : decode cX3_init 8 = .ok (.newarray .char, 2) := by decide +kernel
theorem dX3_init_10 : decode cX3_init 10 = .ok (.putfield 9, 3) := by decide +kernel
theorem dX3_init_13 : decode cX3_init 13 = .ok (.return_, 1) := by decide +kernel
theorem dX3_append_0 : decode cX3_append 0 = .ok (.aload_n 0, 1) := by decide +kernel
theorem dX3_append_1 : decode cX3_append 1 = .ok (.getfield 15, 3) := by decide +kernel
theorem dX3_append_4 : decode cX3_append 4 = .ok (.aload_n 0, 1) := by decide +kernel
theorem dX3_append_5 : decode cX3_append 5 = .ok (.getfield 9, 3) := by decide +kernel
theorem dX3_append_8 : decode cX3_append 8 = .ok (.arraylength, 1) := by decide +kernel
theorem dX3_append_9 : decode cX3_append 9 = .ok (.if_icmp .lt 5, 3) := by decide +kernel
theorem dX3_append_12 : decode cX3_append 12 = .ok (.iconst 0, 1) := by decide +kernel
theorem dX3_append_13 : decode cX3_append 13 = .ok (.ireturn, 1) := by decide +kernel
theorem dX3_append_14 : decode cX3_append 14 = .ok (.aload_n 0, 1) := by decide +kernel
theorem dX3_append_15 : decode cX3_append 15 = .ok (.getfield 9, 3) := by decide +kernel
theorem dX3_append_18 : decode cX3_append 18 = .ok (.aload_n 0, 1) := by decide +kernel
theorem dX3_append_19 : decode cX3_append 19 = .ok (.getfield 15, 3) := by decide +kernel
theorem dX3_append_22 : decode cX3_append 22 = .ok (.iload_n 1, 1) := by decide +kernel
theorem dX3_append_23 : decode cX3_append 23 = .ok (.castore, 1) := by decide +kernel
theorem dX3_append_24 : decode cX3_append 24 = .ok (.aload_n 0, 1) := by decide +kernel
theorem dX3_append_25 : decode cX3_append 25 = .ok (.dup, 1) := by decide +kernel
theorem dX3_append_26 : decode cX3_append 26 = .ok (.getfield 15, 3) := by decide +kernel
theorem dX3_append_29 : decode cX3_append 29 = .ok (.iconst 1, 1) := by decide +kernel
theorem dX3_append_30 : decode cX3_append 30 = .ok (.iadd, 1) := by decide +kernel
theorem dX3_append_31 : decode cX3_append 31 = .ok (.putfield 15, 3) := by decide +kernel
theorem dX3_append_34 : decode cX3_append 34 = .ok (.iconst 1, 1) := by decide +kernel
theorem dX3_append_35 : decode cX3_append 35 = .ok (.ireturn, 1) := by decide +kernel
theorem dX3_clear_0 : decode cX3_clear 0 = .ok (.aload_n 0, 1) := by decide +kernel
theorem dX3_clear_1 : decode cX3_clear 1 = .ok (.iconst 0, 1) := by decide +kernel
theorem dX3_clear_2 : decode cX3_clear 2 = .ok (.putfield 15, 3) := by decide +kernel
theorem dX3_clear_5 : decode cX3_clear 5 = .ok (.return_, 1) := by decide +kernel
theorem dX3_letterAt_0 : decode cX3_letterAt 0 = .ok (.iload_n 1, 1) := by decide +kernel
theorem dX3_letterAt_1 : decode cX3_letterAt 1 = .ok (.ifCond .lt 29, 3) := by decide +kernel
theorem dX3_letterAt_4 : decode cX3_letterAt 4 = .ok (.iload_n 1, 1) := by decide +kernel
theorem dX3_letterAt_5 : decode cX3_letterAt 5 = .ok (.aload_n 0, 1) := by decide +kernel
theorem dX3_letterAt_6 : decode cX3_letterAt 6 = .ok (.getfield 15, 3) := by decide +kernel
theorem dX3_letterAt_9 : decode cX3_letterAt 9 = .ok (.if_icmp .ge 21, 3) := by decide +kernel
theorem dX3_letterAt_12 : decode cX3_letterAt 12 = .ok (.iload_n 1, 1) := by decide +kernel
theorem dX3_letterAt_13 : decode cX3_letterAt 13 = .ok (.aload_n 0, 1) := by decide +kernel
theorem dX3_letterAt_14 : decode cX3_letterAt 14 = .ok (.getfield 9, 3) := by decide +kernel
theorem dX3_letterAt_17 : decode cX3_letterAt 17 = .ok (.arraylength, 1) := by decide +kernel
theorem dX3_letterAt_18 : decode cX3_letterAt 18 = .ok (.if_icmp .ge 12, 3) := by decide +kernel
theorem dX3_letterAt_21 : decode cX3_letterAt 21 = .ok (.aload_n 0, 1) := by decide +kernel
theorem dX3_letterAt_22 : decode cX3_letterAt 22 = .ok (.getfield 9, 3) := by decide +kernel
theorem dX3_letterAt_25 : decode cX3_letterAt 25 = .ok (.iload_n 1, 1) := by decide +kernel
theorem dX3_letterAt_26 : decode cX3_letterAt 26 = .ok (.caload, 1) := by decide +kernel
theorem dX3_letterAt_27 : decode cX3_letterAt 27 = .ok (.goto 4, 3) := by decide +kernel
theorem dX3_letterAt_30 : decode cX3_letterAt 30 = .ok (.iconst 0, 1) := by decide +kernel
theorem dX3_letterAt_31 : decode cX3_letterAt 31 = .ok (.ireturn, 1) := by decide +kernel
theorem dX4_init_0 : decode cX4_init 0 = .ok (.aload_n 0, 1) := by decide +kernel
theorem dX4_init_1 : decode cX4_init 1 = .ok (.invokespecial 3, 3) := by decide +kernel
theorem dX4_init_4 : decode cX4_init 4 = .ok (.aload_n 0, 1) := by decide +kernel
theorem dX4_init_5 : decode cX4_init 5 = .ok (.bipush 6, 2) := by decide +kernel
theorem dX4_init_7 : decode cX4_init 7 = .ok (.bipush 46, 2) := by decide +kernel
theorem dX4_init_9 : decode cX4_init 9 = .ok (.multianewarray 11 2, 4) := by decide +kernel
theorem dX4_init_13 : decode cX4_init 13 = .ok (.putfield 13, 3) := by decide +kernel
theorem dX4_init_16 : decode cX4_init 16 = .ok (.return_, 1) := by decide +kernel
theorem dX4_rowForNext_0 : decode cX4_rowForNext 0 = .ok (.aload_n 0, 1) := by decide +kernel
theorem dX4_rowForNext_1 : decode cX4_rowForNext 1 = .ok (.getfield 13, 3) := by decide +kernel
theorem dX4_rowForNext_4 : decode cX4_rowForNext 4 = .ok (.aload_n 0, 1) := by decide +kernel
theorem dX4_rowForNext_5 : decode cX4_rowForNext 5 = .ok (.getfield 18, 3) := by decide +kernel
theorem dX4_rowForNext_8 : decode cX4_rowForNext 8 = .ok (.aaload, 1) := by decide +kernel
theorem dX4_rowForNext_9 : decode cX4_rowForNext 9 = .ok (.astore_n 1, 1) := by decide +kernel
theorem dX4_rowForNext_10 : decode cX4_rowForNext 10 = .ok (.aload_n 0, 1) := by decide +kernel
theorem dX4_rowForNext_11 : decode cX4_rowForNext 11 = .ok (.aload_n 0, 1) := by decide +kernel
theorem dX4_rowForNext_12 : decode cX4_rowForNext 12 = .ok (.getfield 18, 3) := by decide +kernel
theorem dX4_rowForNext_15 : decode cX4_rowForNext 15 = .ok (.iconst 1, 1) := by decide +kernel
theorem dX4_rowForNext_16 : decode cX4_rowForNext 16 = .ok (.iadd, 1) := by decide +kernel
theorem dX4_rowForNext_17 : decode cX4_rowForNext 17 = .ok (.bipush 6, 2) := by decide +kernel
theorem dX4_rowForNext_19 : decode cX4_rowForNext 19 = .ok (.irem, 1) := by decide +kernel
theorem dX4_rowForNext_20 : decode cX4_rowForNext 20 = .ok (.putfield 18, 3) := by decide +kernel
theorem dX4_rowForNext_23 : decode cX4_rowForNext 23 = .ok (.aload_n 0, 1) := by decide +kernel
theorem dX4_rowForNext_24 : decode cX4_rowForNext 24 = .ok (.aload_n 0, 1) := by decide +kernel
theorem dX4_rowForNext_25 : decode cX4_rowForNext 25 = .ok (.getfield 22, 3) := by decide +kernel
theorem dX4_rowForNext_28 : decode cX4_rowForNext 28 = .ok (.iconst 1, 1) := by decide +kernel
theorem dX4_rowForNext_29 : decode cX4_rowForNext 29 = .ok (.iadd, 1) := by decide +kernel
theorem dX4_rowForNext_30 : decode cX4_rowForNext 30 = .ok (.bipush 6, 2) := by decide +kernel
theorem dX4_rowForNext_32 : decode cX4_rowForNext 32 = .ok (.invokestatic 25, 3) := by decide +kernel
theorem dX4_rowForNext_35 : decode cX4_rowForNext 35 = .ok (.putfield 22, 3) := by decide +kernel
theorem dX4_rowForNext_38 : decode cX4_rowForNext 38 = .ok (.aload_n 1, 1) := by decide +kernel
theorem dX4_rowForNext_39 : decode cX4_rowForNext 39 = .ok (.areturn, 1) := by decide +kernel
theorem dX4_takeLatest_0 : decode cX4_takeLatest 0 = .ok (.aload_n 0, 1) := by decide +kernel
theorem dX4_takeLatest_1 : decode cX4_takeLatest 1 = .ok (.getfield 22, 3) := by decide +kernel
theorem dX4_takeLatest_4 : decode cX4_takeLatest 4 = .ok (.ifCond .ne 5, 3) := by decide +kernel
theorem dX4_takeLatest_7 : decode cX4_takeLatest 7 = .ok (.aconst_null, 1) := by decide +kernel
theorem dX4_takeLatest_8 : decode cX4_takeLatest 8 = .ok (.areturn, 1) := by decide +kernel
theorem dX4_takeLatest_9 : decode cX4_takeLatest 9 = .ok (.aload_n 0, 1) := by decide +kernel
theorem dX4_takeLatest_10 : decode cX4_takeLatest 10 = .ok (.dup, 1) := by decide +kernel
theorem dX4_takeLatest_11 : decode cX4_takeLatest 11 = .ok (.getfield 22, 3) := by decide +kernel
theorem dX4_takeLatest_14 : decode cX4_takeLatest 14 = .ok (.iconst 1, 1) := by decide +kernel
theorem dX4_takeLatest_15 : decode cX4_takeLatest 15 = .ok (.isub, 1) := by decide +kernel
theorem dX4_takeLatest_16 : decode cX4_takeLatest 16 = .ok (.putfield 22, 3) := by decide +kernel
theorem dX4_takeLatest_19 : decode cX4_takeLatest 19 = .ok (.aload_n 0, 1) := by decide +kernel
theorem dX4_takeLatest_20 : decode cX4_takeLatest 20 = .ok (.aload_n 0, 1) := by decide +kernel
theorem dX4_takeLatest_21 : decode cX4_takeLatest 21 = .ok (.getfield 18, 3) := by decide +kernel
theorem dX4_takeLatest_24 : decode cX4_takeLatest 24 = .ok (.bipush 6, 2) := by decide +kernel
theorem dX4_takeLatest_26 : decode cX4_takeLatest 26 = .ok (.iadd, 1) := by decide +kernel
theorem dX4_takeLatest_27 : decode cX4_takeLatest 27 = .ok (.iconst 1, 1) := by decide +kernel
theorem dX4_takeLatest_28 : decode cX4_takeLatest 28 = .ok (.isub, 1) := by decide +kernel
theorem dX4_takeLatest_29 : decode cX4_takeLatest 29 = .ok (.bipush 6, 2) := by decide +kernel
theorem dX4_takeLatest_31 : decode cX4_takeLatest 31 = .ok (.irem, 1) := by decide +kernel
theorem dX4_takeLatest_32 : decode cX4_takeLatest 32 = .ok (.putfield 18, 3) := by decide +kernel
theorem dX4_takeLatest_35 : decode cX4_takeLatest 35 = .ok (.aload_n 0, 1) := by decide +kernel
theorem dX4_takeLatest_36 : decode cX4_takeLatest 36 = .ok (.getfield 13, 3) := by decide +kernel
theorem dX4_takeLatest_39 : decode cX4_takeLatest 39 = .ok (.aload_n 0, 1) := by decide +kernel
theorem dX4_takeLatest_40 : decode cX4_takeLatest 40 = .ok (.getfield 18, 3) := by decide +kernel
theorem dX4_takeLatest_43 : decode cX4_takeLatest 43 = .ok (.aaload, 1) := by decide +kernel
theorem dX4_takeLatest_44 : decode cX4_takeLatest 44 = .ok (.areturn, 1) := by decide +kernel
theorem dX4_clear_0 : decode cX4_clear 0 = .ok (.aload_n 0, 1) := by decide +kernel
theorem dX4_clear_1 : decode cX4_clear 1 = .ok (.iconst 0, 1) := by decide +kernel
theorem dX4_clear_2 : decode cX4_clear 2 = .ok (.putfield 22, 3) := by decide +kernel
theorem dX4_clear_5 : decode cX4_clear 5 = .ok (.return_, 1) := by decide +kernel
theorem dX5_init_0 : decode cX5_init 0 = .ok (.aload_n 0, 1) := by decide +kernel
theorem dX5_init_1 : decode cX5_init 1 = .ok (.invokespecial 3, 3) := by decide +kernel
theorem dX5_init_4 : decode cX5_init 4 = .ok (.aload_n 0, 1) := by decide +kernel
theorem dX5_init_5 : decode cX5_init 5 = .ok (.bipush 20, 2) := by decide +kernel
theorem dX5_init_7 : decode cX5_init 7 = .ok (.newarray .int, 2) := by decide +kernel
theorem dX5_init_9 : decode cX5_init 9 = .ok (.putfield 9, 3) := by decide +kernel
theorem dX5_init_12 : decode cX5_init 12 = .ok (.aload_n 0, 1) := by decide +kernel
theorem dX5_init_13 : decode cX5_init 13 = .ok (.iconst 5, 1) := by decide +kernel
theorem dX5_init_14 : decode cX5_init 14 = .ok (.bipush 7, 2) := by decide +kernel
theorem dX5_init_16 : decode cX5_init 16 = .ok (.multianewarray 15 2, 4) := by decide +kernel
theorem dX5_init_20 : decode cX5_init 20 = .ok (.putfield 17, 3) := by decide +kernel
theorem dX5_init_23 : decode cX5_init 23 = .ok (.return_, 1) := by decide +kernel
set_option maxRecDepth 20000 in
theorem ggX5_read_X5_readItem : GoodIn wsX5_read wsX5_readItem := goodIn_r _ [9, 3, 10, 11, 12, 13, 14, 15, 16, 17, 18, 19, 8, 20, 1, 21, 22, 23, 24, 25, 26, 27, 28, 29, 30, 31, 32, 33, 34, 35, 36, 2, 37, 38, 39, 40, 41, 42, 43, 44, 45, 46] (by decide +kernel) (by decide +kernel)
set_option maxRecDepth 20000 in
theorem gX5_read_X5_readItem : GoodIn wsX5_read (wsV RX5 35 RX5 yX5_readItem wsX5_readItem) := goodIn_app (goodIn_of _ (by decide +kernel)) ggX5_read_X5_readItem
theorem dX5_read_0 : decode cX5_read 0 = .ok (.aload_n 0, 1) := by decide +kernel
theorem dX5_read_1 : decode cX5_read 1 = .ok (.iconst 0, 1) := by decide +kernel
theorem dX5_read_2 : decode cX5_read 2 = .ok (.putfield 20, 3) := by decide +kernel
theorem dX5_read_5 : decode cX5_read 5 = .ok (.aload_n 0, 1) := by decide +kernel
theorem dX5_read_6 : decode cX5_read 6 = .ok (.iconst 0, 1) := by decide +kernel
theorem dX5_read_7 : decode cX5_read 7 = .ok (.putfield 24, 3) := by decide +kernel
theorem dX5_read_10 : decode cX5_read 10 = .ok (.aload_n 0, 1) := by decide +kernel
theorem dX5_read_11 : decode cX5_read 11 = .ok (.iconst 0, 1) := by decide +kernel
theorem dX5_read_12 : decode cX5_read 12 = .ok (.putfield 27, 3) := by decide +kernel
theorem dX5_read_15 : decode cX5_read 15 = .ok (.iconst 0, 1) := by decide +kernel
theorem dX5_read_16 : decode cX5_read 16 = .ok (.istore_n 2, 1) := by decide +kernel
theorem dX5_read_17 : decode cX5_read 17 = .ok (.iload_n 2, 1) := by decide +kernel
theorem dX5_read_18 : decode cX5_read 18 = .ok (.sipush 200, 3) := by decide +kernel
theorem dX5_read_21 : decode cX5_read 21 = .ok (.if_icmp .ge 35, 3) := by decide +kernel
theorem dX5_read_24 : decode cX5_read 24 = .ok (.aload_n 0, 1) := by decide +kernel
theorem dX5_read_25 : decode cX5_read 25 = .ok (.getfield 27, 3) := by decide +kernel
theorem dX5_read_28 : decode cX5_read 28 = .ok (.aload_n 1, 1) := by decide +kernel
theorem dX5_read_29 : decode cX5_read 29 = .ok (.getfield 30, 3) := by decide +kernel
theorem dX5_read_32 : decode cX5_read 32 = .ok (.if_icmp .ge 24, 3) := by decide +kernel
theorem dX5_read_35 : decode cX5_read 35 = .ok (.aload_n 0, 1) := by decide +kernel
theorem dX5_read_36 : decode cX5_read 36 = .ok (.getfield 27, 3) := by decide +kernel
theorem dX5_read_39 : decode cX5_read 39 = .ok (.istore_n 3, 1) := by decide +kernel
theorem dX5_read_40 : decode cX5_read 40 = .ok (.aload_n 0, 1) := by decide +kernel
theorem dX5_read_41 : decode cX5_read 41 = .ok (.aload_n 1, 1) := by decide +kernel
theorem dX5_read_42 : decode cX5_read 42 = .ok (.invokevirtual 35, 3) := by decide +kernel
theorem dX5_read_45 : decode cX5_read 45 = .ok (.ifCond .ne 5, 3) := by decide +kernel
theorem dX5_read_48 : decode cX5_read 48 = .ok (.iload_n 3, 1) := by decide +kernel
theorem dX5_read_49 : decode cX5_read 49 = .ok (.ireturn, 1) := by decide +kernel
theorem dX5_read_50 : decode cX5_read 50 = .ok (.iinc 2 1, 3) := by decide +kernel
theorem dX5_read_53 : decode cX5_read 53 = .ok (.goto (-36), 3) := by decide +kernel
theorem dX5_read_56 : decode cX5_read 56 = .ok (.bipush (-4), 2) := by decide +kernel
theorem dX5_read_58 : decode cX5_read 58 = .ok (.ireturn, 1) := by decide +kernel
set_option maxRecDepth 20000 in
theorem ggX5_readItem_X3_letterAt : GoodIn wsX5_readItem wsX3_letterAt := goodIn_r _ [6, 7, 8, 40, 41] (by decide +kernel) (by decide +kernel)
set_option maxRecDepth 20000 in
theorem gX5_readItem_X3_letterAt : GoodIn wsX5_readItem (wsV RX5 39 RX3 yX3_letterAt wsX3_letterAt) := goodIn_app (goodIn_of _ (by decide +kernel)) ggX5_readItem_X3_letterAt
set_option maxRecDepth 20000 in
theorem ggX5_readItem_X5_readColumn : GoodIn wsX5_readItem wsX5_readColumn := goodIn_r _ [13, 14, 15, 16, 17, 18, 12, 19, 1, 2, 3, 4, 5, 6, 7, 8, 20, 21, 22, 23, 24, 25, 26, 35, 36, 37, 38, 39, 40, 41] (by decide +kernel) (by decide +kernel)
set_option maxRecDepth 20000 in
theorem gX5_readItem_X5_readColumn : GoodIn wsX5_readItem (wsV RX5 43 RX5 yX5_readColumn wsX5_readColumn) := goodIn_app (goodIn_of _ (by decide +kernel)) ggX5_readItem_X5_readColumn
set_option maxRecDepth 20000 in
theorem ggX5_readItem_X5_readShip : GoodIn wsX5_readItem wsX5_readShip := goodIn_r _ [30, 31, 32, 14, 33, 34, 16, 17, 18, 12, 19, 1, 2, 3, 4, 5, 6, 7, 8, 20, 21, 22, 23, 24, 25, 26, 35, 36, 37, 38, 39, 40, 41] (by decide +kernel) (by decide +kernel)
set_option maxRecDepth 20000 in
theorem gX5_readItem_X5_readShip : GoodIn wsX5_readItem (wsV RX5 46 RX5 yX5_readShip wsX5_readShip) := goodIn_app (goodIn_of _ (by decide +kernel)) ggX5_readItem_X5_readShip
theorem dX5_readItem_0 : decode cX5_readItem 0 = .ok (.aload_n 1, 1) := by decide +kernel
theorem dX5_readItem_1 : decode cX5_readItem 1 = .ok (.aload_n 0, 1) := by decide +kernel
theorem dX5_readItem_2 : decode cX5_readItem 2 = .ok (.getfield 27, 3) := by decide +kernel
theorem dX5_readItem_5 : decode cX5_readItem 5 = .ok (.invokevirtual 39, 3) := by decide +kernel
theorem dX5_readItem_8 : decode cX5_readItem 8 = .ok (.istore_n 2, 1) := by decide +kernel
theorem dX5_readItem_9 : decode cX5_readItem 9 = .ok (.aload_n 0, 1) := by decide +kernel
theorem dX5_readItem_10 : decode cX5_readItem 10 = .ok (.dup, 1) := by decide +kernel
theorem dX5_readItem_11 : decode cX5_readItem 11 = .ok (.getfield 27, 3) := by decide +kernel
theorem dX5_readItem_14 : decode cX5_readItem 14 = .ok (.iconst 1, 1) := by decide +kernel
theorem dX5_readItem_15 : decode cX5_readItem 15 = .ok (.iadd, 1) := by decide +kernel
