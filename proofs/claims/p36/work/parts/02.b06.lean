set_option maxRecDepth 20000 in
theorem ggX2_colourAfter_X0_colourOn : GoodIn wsX2_colourAfter wsX0_colourOn := goodIn_r _ [19, 20, 21, 22, 23, 18, 24, 39, 40] (by decide +kernel) (by decide +kernel)
set_option maxRecDepth 20000 in
theorem gX2_colourAfter_X0_colourOn : GoodIn wsX2_colourAfter (wsV RX2 189 RX0 yX0_colourOn wsX0_colourOn) := goodIn_app (goodIn_of _ (by decide +kernel)) ggX2_colourAfter_X0_colourOn
theorem dX2_colourAfter_0 : decode cX2_colourAfter 0 = .ok (.iconst 0, 1) := by decide +kernel
theorem dX2_colourAfter_1 : decode cX2_colourAfter 1 = .ok (.istore_n 3, 1) := by decide +kernel
theorem dX2_colourAfter_2 : decode cX2_colourAfter 2 = .ok (.iconst 0, 1) := by decide +kernel
theorem dX2_colourAfter_3 : decode cX2_colourAfter 3 = .ok (.istore 4, 2) := by decide +kernel
theorem dX2_colourAfter_5 : decode cX2_colourAfter 5 = .ok (.iload 4, 2) := by decide +kernel
theorem dX2_colourAfter_7 : decode cX2_colourAfter 7 = .ok (.aload_n 0, 1) := by decide +kernel
theorem dX2_colourAfter_8 : decode cX2_colourAfter 8 = .ok (.getfield 12, 3) := by decide +kernel
theorem dX2_colourAfter_11 : decode cX2_colourAfter 11 = .ok (.getfield 128, 3) := by decide +kernel
theorem dX2_colourAfter_14 : decode cX2_colourAfter 14 = .ok (.if_icmp .ge 52, 3) := by decide +kernel
theorem dX2_colourAfter_17 : decode cX2_colourAfter 17 = .ok (.aload_n 0, 1) := by decide +kernel
theorem dX2_colourAfter_18 : decode cX2_colourAfter 18 = .ok (.getfield 105, 3) := by decide +kernel
theorem dX2_colourAfter_21 : decode cX2_colourAfter 21 = .ok (.aload_n 0, 1) := by decide +kernel
theorem dX2_colourAfter_22 : decode cX2_colourAfter 22 = .ok (.getfield 27, 3) := by decide +kernel
theorem dX2_colourAfter_25 : decode cX2_colourAfter 25 = .ok (.iload 4, 2) := by decide +kernel
theorem dX2_colourAfter_27 : decode cX2_colourAfter 27 = .ok (.iaload, 1) := by decide +kernel
theorem dX2_colourAfter_28 : decode cX2_colourAfter 28 = .ok (.isub, 1) := by decide +kernel
theorem dX2_colourAfter_29 : decode cX2_colourAfter 29 = .ok (.iload_n 2, 1) := by decide +kernel
theorem dX2_colourAfter_30 : decode cX2_colourAfter 30 = .ok (.iadd, 1) := by decide +kernel
theorem dX2_colourAfter_31 : decode cX2_colourAfter 31 = .ok (.istore 5, 2) := by decide +kernel
theorem dX2_colourAfter_33 : decode cX2_colourAfter 33 = .ok (.iload_n 3, 1) := by decide +kernel
theorem dX2_colourAfter_34 : decode cX2_colourAfter 34 = .ok (.aload_n 0, 1) := by decide +kernel
theorem dX2_colourAfter_35 : decode cX2_colourAfter 35 = .ok (.getfield 19, 3) := by decide +kernel
theorem dX2_colourAfter_38 : decode cX2_colourAfter 38 = .ok (.iload 4, 2) := by decide +kernel
theorem dX2_colourAfter_40 : decode cX2_colourAfter 40 = .ok (.aload_n 0, 1) := by decide +kernel
theorem dX2_colourAfter_41 : decode cX2_colourAfter 41 = .ok (.getfield 23, 3) := by decide +kernel
theorem dX2_colourAfter_44 : decode cX2_colourAfter 44 = .ok (.iload_n 1, 1) := by decide +kernel
theorem dX2_colourAfter_45 : decode cX2_colourAfter 45 = .ok (.iload 4, 2) := by decide +kernel
theorem dX2_colourAfter_47 : decode cX2_colourAfter 47 = .ok (.invokestatic 123, 3) := by decide +kernel
theorem dX2_colourAfter_50 : decode cX2_colourAfter 50 = .ok (.iaload, 1) := by decide +kernel
theorem dX2_colourAfter_51 : decode cX2_colourAfter 51 = .ok (.iload 5, 2) := by decide +kernel
theorem dX2_colourAfter_53 : decode cX2_colourAfter 53 = .ok (.invokevirtual 189, 3) := by decide +kernel
theorem dX2_colourAfter_56 : decode cX2_colourAfter 56 = .ok (.invokestatic 181, 3) := by decide +kernel
theorem dX2_colourAfter_59 : decode cX2_colourAfter 59 = .ok (.istore_n 3, 1) := by decide +kernel
theorem dX2_colourAfter_60 : decode cX2_colourAfter 60 = .ok (.iinc 4 1, 3) := by decide +kernel
theorem dX2_colourAfter_63 : decode cX2_colourAfter 63 = .ok (.goto (-58), 3) := by decide +kernel
theorem dX2_colourAfter_66 : decode cX2_colourAfter 66 = .ok (.iload_n 3, 1) := by decide +kernel
theorem dX2_colourAfter_67 : decode cX2_colourAfter 67 = .ok (.ireturn, 1) := by decide +kernel
set_option maxRecDepth 20000 in
theorem ggX2_countWearing_X2_colourAfter : GoodIn wsX2_countWearing wsX2_colourAfter := goodIn_r _ [8, 1, 2, 9, 10, 11, 12, 13, 14, 15, 16, 17, 18, 7, 19, 20, 21, 22, 23, 24, 25, 26, 27, 28, 29, 30, 31, 32, 33, 34, 35, 36, 37, 38, 39, 40, 41, 42, 43, 44, 45] (by decide +kernel) (by decide +kernel)
set_option maxRecDepth 20000 in
theorem gX2_countWearing_X2_colourAfter : GoodIn wsX2_countWearing (wsV RX2 159 RX2 yX2_colourAfter wsX2_colourAfter) := goodIn_app (goodIn_of _ (by decide +kernel)) ggX2_countWearing_X2_colourAfter
theorem dX2_countWearing_0 : decode cX2_countWearing 0 = .ok (.iconst 0, 1) := by decide +kernel
theorem dX2_countWearing_1 : decode cX2_countWearing 1 = .ok (.istore_n 2, 1) := by decide +kernel
theorem dX2_countWearing_2 : decode cX2_countWearing 2 = .ok (.iconst 0, 1) := by decide +kernel
theorem dX2_countWearing_3 : decode cX2_countWearing 3 = .ok (.istore_n 3, 1) := by decide +kernel
theorem dX2_countWearing_4 : decode cX2_countWearing 4 = .ok (.iload_n 3, 1) := by decide +kernel
theorem dX2_countWearing_5 : decode cX2_countWearing 5 = .ok (.aload_n 0, 1) := by decide +kernel
theorem dX2_countWearing_6 : decode cX2_countWearing 6 = .ok (.getfield 12, 3) := by decide +kernel
theorem dX2_countWearing_9 : decode cX2_countWearing 9 = .ok (.getfield 128, 3) := by decide +kernel
theorem dX2_countWearing_12 : decode cX2_countWearing 12 = .ok (.if_icmp .ge 34, 3) := by decide +kernel
theorem dX2_countWearing_15 : decode cX2_countWearing 15 = .ok (.aload_n 0, 1) := by decide +kernel
theorem dX2_countWearing_16 : decode cX2_countWearing 16 = .ok (.getfield 12, 3) := by decide +kernel
theorem dX2_countWearing_19 : decode cX2_countWearing 19 = .ok (.getfield 101, 3) := by decide +kernel
theorem dX2_countWearing_22 : decode cX2_countWearing 22 = .ok (.iload_n 3, 1) := by decide +kernel
theorem dX2_countWearing_23 : decode cX2_countWearing 23 = .ok (.baload, 1) := by decide +kernel
theorem dX2_countWearing_24 : decode cX2_countWearing 24 = .ok (.ifCond .eq 16, 3) := by decide +kernel
theorem dX2_countWearing_27 : decode cX2_countWearing 27 = .ok (.aload_n 0, 1) := by decide +kernel
theorem dX2_countWearing_28 : decode cX2_countWearing 28 = .ok (.iload_n 3, 1) := by decide +kernel
theorem dX2_countWearing_29 : decode cX2_countWearing 29 = .ok (.iconst 0, 1) := by decide +kernel
theorem dX2_countWearing_30 : decode cX2_countWearing 30 = .ok (.invokevirtual 159, 3) := by decide +kernel
theorem dX2_countWearing_33 : decode cX2_countWearing 33 = .ok (.iload_n 1, 1) := by decide +kernel
theorem dX2_countWearing_34 : decode cX2_countWearing 34 = .ok (.if_icmp .ne 6, 3) := by decide +kernel
theorem dX2_countWearing_37 : decode cX2_countWearing 37 = .ok (.iinc 2 1, 3) := by decide +kernel
theorem dX2_countWearing_40 : decode cX2_countWearing 40 = .ok (.iinc 3 1, 3) := by decide +kernel
theorem dX2_countWearing_43 : decode cX2_countWearing 43 = .ok (.goto (-39), 3) := by decide +kernel
theorem dX2_countWearing_46 : decode cX2_countWearing 46 = .ok (.iload_n 2, 1) := by decide +kernel
theorem dX2_countWearing_47 : decode cX2_countWearing 47 = .ok (.ireturn, 1) := by decide +kernel
set_option maxRecDepth 20000 in
theorem ggX2_paintAhead_J7_fill_53178 : GoodIn wsX2_paintAhead wsJ7_fill_53178 := goodIn_r _ [18] (by decide +kernel) (by decide +kernel)
set_option maxRecDepth 20000 in
theorem gX2_paintAhead_J7_fill_53178 : GoodIn wsX2_paintAhead (va_wsS RX2 192 yJ7_fill_53178 wsJ7_fill_53178) := goodIn_app (goodIn_of _ (by decide +kernel)) ggX2_paintAhead_J7_fill_53178
set_option maxRecDepth 20000 in
theorem ggX2_paintAhead_X2_pair : GoodIn wsX2_paintAhead wsX2_pair := goodIn_r _ [22] (by decide +kernel) (by decide +kernel)
set_option maxRecDepth 20000 in
theorem gX2_paintAhead_X2_pair : GoodIn wsX2_paintAhead (va_wsS RX2 123 yX2_pair wsX2_pair) := goodIn_app (goodIn_of _ (by decide +kernel)) ggX2_paintAhead_X2_pair
set_option maxRecDepth 20000 in
theorem ggX2_paintAhead_X2_leftFor : GoodIn wsX2_paintAhead wsX2_leftFor := goodIn_r _ [26, 11, 4, 5, 6, 12, 13, 9, 14, 19, 20, 21, 22, 27, 28, 29, 30, 31, 32, 33, 34, 35, 41, 42, 43, 44, 45, 46, 47, 48, 49, 55, 56] (by decide +kernel) (by decide +kernel)
set_option maxRecDepth 20000 in
theorem gX2_paintAhead_X2_leftFor : GoodIn wsX2_paintAhead (wsV RX2 118 RX2 yX2_leftFor wsX2_leftFor) := goodIn_app (goodIn_of _ (by decide +kernel)) ggX2_paintAhead_X2_leftFor
set_option maxRecDepth 20000 in
theorem ggX2_paintAhead_X0_colourOn : GoodIn wsX2_paintAhead wsX0_colourOn := goodIn_r _ [39, 32, 40, 33, 34, 30, 35, 55, 56] (by decide +kernel) (by decide +kernel)
set_option maxRecDepth 20000 in
theorem gX2_paintAhead_X0_colourOn : GoodIn wsX2_paintAhead (wsV RX2 189 RX0 yX0_colourOn wsX0_colourOn) := goodIn_app (goodIn_of _ (by decide +kernel)) ggX2_paintAhead_X0_colourOn
theorem dX2_paintAhead_0 : decode cX2_paintAhead 0 = .ok (.aload_n 0, 1) := by decide +kernel
theorem dX2_paintAhead_1 : decode cX2_paintAhead 1 = .ok (.getfield 30, 3) := by decide +kernel
theorem dX2_paintAhead_4 : decode cX2_paintAhead 4 = .ok (.iconst 0, 1) := by decide +kernel
theorem dX2_paintAhead_5 : decode cX2_paintAhead 5 = .ok (.invokestatic 192, 3) := by decide +kernel
theorem dX2_paintAhead_8 : decode cX2_paintAhead 8 = .ok (.iconst 0, 1) := by decide +kernel
theorem dX2_paintAhead_9 : decode cX2_paintAhead 9 = .ok (.istore_n 2, 1) := by decide +kernel
theorem dX2_paintAhead_10 : decode cX2_paintAhead 10 = .ok (.iload_n 2, 1) := by decide +kernel
theorem dX2_paintAhead_11 : decode cX2_paintAhead 11 = .ok (.aload_n 0, 1) := by decide +kernel
theorem dX2_paintAhead_12 : decode cX2_paintAhead 12 = .ok (.getfield 12, 3) := by decide +kernel
theorem dX2_paintAhead_15 : decode cX2_paintAhead 15 = .ok (.getfield 128, 3) := by decide +kernel
theorem dX2_paintAhead_18 : decode cX2_paintAhead 18 = .ok (.if_icmp .ge 96, 3) := by decide +kernel
theorem dX2_paintAhead_21 : decode cX2_paintAhead 21 = .ok (.aload_n 0, 1) := by decide +kernel
theorem dX2_paintAhead_22 : decode cX2_paintAhead 22 = .ok (.getfield 23, 3) := by decide +kernel
theorem dX2_paintAhead_25 : decode cX2_paintAhead 25 = .ok (.iload_n 1, 1) := by decide +kernel
theorem dX2_paintAhead_26 : decode cX2_paintAhead 26 = .ok (.iload_n 2, 1) := by decide +kernel
theorem dX2_paintAhead_27 : decode cX2_paintAhead 27 = .ok (.invokestatic 123, 3) := by decide +kernel
theorem dX2_paintAhead_30 : decode cX2_paintAhead 30 = .ok (.iaload, 1) := by decide +kernel
theorem dX2_paintAhead_31 : decode cX2_paintAhead 31 = .ok (.istore_n 3, 1) := by decide +kernel
theorem dX2_paintAhead_32 : decode cX2_paintAhead 32 = .ok (.aload_n 0, 1) := by decide +kernel
theorem dX2_paintAhead_33 : decode cX2_paintAhead 33 = .ok (.getfield 105, 3) := by decide +kernel
theorem dX2_paintAhead_36 : decode cX2_paintAhead 36 = .ok (.aload_n 0, 1) := by decide +kernel
theorem dX2_paintAhead_37 : decode cX2_paintAhead 37 = .ok (.getfield 27, 3) := by decide +kernel
theorem dX2_paintAhead_40 : decode cX2_paintAhead 40 = .ok (.iload_n 2, 1) := by decide +kernel
theorem dX2_paintAhead_41 : decode cX2_paintAhead 41 = .ok (.iaload, 1) := by decide +kernel
theorem dX2_paintAhead_42 : decode cX2_paintAhead 42 = .ok (.isub, 1) := by decide +kernel
theorem dX2_paintAhead_43 : decode cX2_paintAhead 43 = .ok (.istore 4, 2) := by decide +kernel
theorem dX2_paintAhead_45 : decode cX2_paintAhead 45 = .ok (.aload_n 0, 1) := by decide +kernel
theorem dX2_paintAhead_46 : decode cX2_paintAhead 46 = .ok (.iload_n 1, 1) := by decide +kernel
theorem dX2_paintAhead_47 : decode cX2_paintAhead 47 = .ok (.iload_n 2, 1) := by decide +kernel
theorem dX2_paintAhead_48 : decode cX2_paintAhead 48 = .ok (.invokevirtual 118, 3) := by decide +kernel
theorem dX2_paintAhead_51 : decode cX2_paintAhead 51 = .ok (.aload_n 0, 1) := by decide +kernel
theorem dX2_paintAhead_52 : decode cX2_paintAhead 52 = .ok (.getfield 30, 3) := by decide +kernel
theorem dX2_paintAhead_55 : decode cX2_paintAhead 55 = .ok (.arraylength, 1) := by decide +kernel
theorem dX2_paintAhead_56 : decode cX2_paintAhead 56 = .ok (.invokestatic 274, 3) := by decide +kernel
theorem dX2_paintAhead_59 : decode cX2_paintAhead 59 = .ok (.istore 5, 2) := by decide +kernel
theorem dX2_paintAhead_61 : decode cX2_paintAhead 61 = .ok (.iconst 0, 1) := by decide +kernel
theorem dX2_paintAhead_62 : decode cX2_paintAhead 62 = .ok (.istore 6, 2) := by decide +kernel
theorem dX2_paintAhead_64 : decode cX2_paintAhead 64 = .ok (.iload 6, 2) := by decide +kernel
theorem dX2_paintAhead_66 : decode cX2_paintAhead 66 = .ok (.iload 5, 2) := by decide +kernel
theorem dX2_paintAhead_68 : decode cX2_paintAhead 68 = .ok (.if_icmp .ge 40, 3) := by decide +kernel
theorem dX2_paintAhead_71 : decode cX2_paintAhead 71 = .ok (.aload_n 0, 1) := by decide +kernel
theorem dX2_paintAhead_72 : decode cX2_paintAhead 72 = .ok (.getfield 30, 3) := by decide +kernel
theorem dX2_paintAhead_75 : decode cX2_paintAhead 75 = .ok (.iload 6, 2) := by decide +kernel
theorem dX2_paintAhead_77 : decode cX2_paintAhead 77 = .ok (.aload_n 0, 1) := by decide +kernel
theorem dX2_paintAhead_78 : decode cX2_paintAhead 78 = .ok (.getfield 30, 3) := by decide +kernel
theorem dX2_paintAhead_81 : decode cX2_paintAhead 81 = .ok (.iload 6, 2) := by decide +kernel
theorem dX2_paintAhead_83 : decode cX2_paintAhead 83 = .ok (.iaload, 1) := by decide +kernel
theorem dX2_paintAhead_84 : decode cX2_paintAhead 84 = .ok (.aload_n 0, 1) := by decide +kernel
theorem dX2_paintAhead_85 : decode cX2_paintAhead 85 = .ok (.getfield 19, 3) := by decide +kernel
theorem dX2_paintAhead_88 : decode cX2_paintAhead 88 = .ok (.iload_n 2, 1) := by decide +kernel
theorem dX2_paintAhead_89 : decode cX2_paintAhead 89 = .ok (.iload_n 3, 1) := by decide +kernel
theorem dX2_paintAhead_90 : decode cX2_paintAhead 90 = .ok (.iload 4, 2) := by decide +kernel
theorem dX2_paintAhead_92 : decode cX2_paintAhead 92 = .ok (.iload 6, 2) := by decide +kernel
theorem dX2_paintAhead_94 : decode cX2_paintAhead 94 = .ok (.iadd, 1) := by decide +kernel
theorem dX2_paintAhead_95 : decode cX2_paintAhead 95 = .ok (.invokevirtual 189, 3) := by decide +kernel
theorem dX2_paintAhead_98 : decode cX2_paintAhead 98 = .ok (.invokestatic 181, 3) := by decide +kernel
theorem dX2_paintAhead_101 : decode cX2_paintAhead 101 = .ok (.iastore, 1) := by decide +kernel
theorem dX2_paintAhead_102 : decode cX2_paintAhead 102 = .ok (.iinc 6 1, 3) := by decide +kernel
theorem dX2_paintAhead_105 : decode cX2_paintAhead 105 = .ok (.goto (-41), 3) := by decide +kernel
theorem dX2_paintAhead_108 : decode cX2_paintAhead 108 = .ok (.iinc 2 1, 3) := by decide +kernel
theorem dX2_paintAhead_111 : decode cX2_paintAhead 111 = .ok (.goto (-101), 3) := by decide +kernel
theorem dX2_paintAhead_114 : decode cX2_paintAhead 114 = .ok (.return_, 1) := by decide +kernel
theorem dX2_wornAhead_0 : decode cX2_wornAhead 0 = .ok (.iconst 0, 1) := by decide +kernel
theorem dX2_wornAhead_1 : decode cX2_wornAhead 1 = .ok (.istore_n 2, 1) := by decide +kernel
theorem dX2_wornAhead_2 : decode cX2_wornAhead 2 = .ok (.iconst 0, 1) := by decide +kernel
theorem dX2_wornAhead_3 : decode cX2_wornAhead 3 = .ok (.istore_n 3, 1) := by decide +kernel
theorem dX2_wornAhead_4 : decode cX2_wornAhead 4 = .ok (.iload_n 3, 1) := by decide +kernel
theorem dX2_wornAhead_5 : decode cX2_wornAhead 5 = .ok (.iload_n 1, 1) := by decide +kernel
theorem dX2_wornAhead_6 : decode cX2_wornAhead 6 = .ok (.if_icmp .ge 30, 3) := by decide +kernel
theorem dX2_wornAhead_9 : decode cX2_wornAhead 9 = .ok (.iload_n 3, 1) := by decide +kernel
theorem dX2_wornAhead_10 : decode cX2_wornAhead 10 = .ok (.aload_n 0, 1) := by decide +kernel
theorem dX2_wornAhead_11 : decode cX2_wornAhead 11 = .ok (.getfield 30, 3) := by decide +kernel
theorem dX2_wornAhead_14 : decode cX2_wornAhead 14 = .ok (.arraylength, 1) := by decide +kernel
theorem dX2_wornAhead_15 : decode cX2_wornAhead 15 = .ok (.if_icmp .ge 21, 3) := by decide +kernel
theorem dX2_wornAhead_18 : decode cX2_wornAhead 18 = .ok (.aload_n 0, 1) := by decide +kernel
theorem dX2_wornAhead_19 : decode cX2_wornAhead 19 = .ok (.getfield 30, 3) := by decide +kernel
theorem dX2_wornAhead_22 : decode cX2_wornAhead 22 = .ok (.iload_n 3, 1) := by decide +kernel
theorem dX2_wornAhead_23 : decode cX2_wornAhead 23 = .ok (.iaload, 1) := by decide +kernel
theorem dX2_wornAhead_24 : decode cX2_wornAhead 24 = .ok (.ifCond .eq 6, 3) := by decide +kernel
theorem dX2_wornAhead_27 : decode cX2_wornAhead 27 = .ok (.iinc 2 1, 3) := by decide +kernel
theorem dX2_wornAhead_30 : decode cX2_wornAhead 30 = .ok (.iinc 3 1, 3) := by decide +kernel
theorem dX2_wornAhead_33 : decode cX2_wornAhead 33 = .ok (.goto (-29), 3) := by decide +kernel
theorem dX2_wornAhead_36 : decode cX2_wornAhead 36 = .ok (.iload_n 2, 1) := by decide +kernel
theorem dX2_wornAhead_37 : decode cX2_wornAhead 37 = .ok (.ireturn, 1) := by decide +kernel
theorem dX2_countAhead_0 : decode cX2_countAhead 0 = .ok (.iconst 0, 1) := by decide +kernel
theorem dX2_countAhead_1 : decode cX2_countAhead 1 = .ok (.istore_n 2, 1) := by decide +kernel
theorem dX2_countAhead_2 : decode cX2_countAhead 2 = .ok (.iconst 0, 1) := by decide +kernel
theorem dX2_countAhead_3 : decode cX2_countAhead 3 = .ok (.istore_n 3, 1) := by decide +kernel
theorem dX2_countAhead_4 : decode cX2_countAhead 4 = .ok (.iload_n 3, 1) := by decide +kernel
theorem dX2_countAhead_5 : decode cX2_countAhead 5 = .ok (.aload_n 0, 1) := by decide +kernel
theorem dX2_countAhead_6 : decode cX2_countAhead 6 = .ok (.getfield 30, 3) := by decide +kernel
theorem dX2_countAhead_9 : decode cX2_countAhead 9 = .ok (.arraylength, 1) := by decide +kernel
theorem dX2_countAhead_10 : decode cX2_countAhead 10 = .ok (.if_icmp .ge 22, 3) := by decide +kernel
theorem dX2_countAhead_13 : decode cX2_countAhead 13 = .ok (.aload_n 0, 1) := by decide +kernel
theorem dX2_countAhead_14 : decode cX2_countAhead 14 = .ok (.getfield 30, 3) := by decide +kernel
theorem dX2_countAhead_17 : decode cX2_countAhead 17 = .ok (.iload_n 3, 1) := by decide +kernel
theorem dX2_countAhead_18 : decode cX2_countAhead 18 = .ok (.iaload, 1) := by decide +kernel
theorem dX2_countAhead_19 : decode cX2_countAhead 19 = .ok (.iload_n 1, 1) := by decide +kernel
theorem dX2_countAhead_20 : decode cX2_countAhead 20 = .ok (.if_icmp .ne 6, 3) := by decide +kernel
theorem dX2_countAhead_23 : decode cX2_countAhead 23 = .ok (.iinc 2 1, 3) := by decide +kernel
theorem dX2_countAhead_26 : decode cX2_countAhead 26 = .ok (.iinc 3 1, 3) := by decide +kernel
theorem dX2_countAhead_29 : decode cX2_countAhead 29 = .ok (.goto (-25), 3) := by decide +kernel
theorem dX2_countAhead_32 : decode cX2_countAhead 32 = .ok (.iload_n 2, 1) := by decide +kernel
theorem dX2_countAhead_33 : decode cX2_countAhead 33 = .ok (.ireturn, 1) := by decide +kernel
theorem dX2_firstLighterDay_0 : decode cX2_firstLighterDay 0 = .ok (.aload_n 0, 1) := by decide +kernel
theorem dX2_firstLighterDay_1 : decode cX2_firstLighterDay 1 = .ok (.getfield 30, 3) := by decide +kernel
theorem dX2_firstLighterDay_4 : decode cX2_firstLighterDay 4 = .ok (.iconst 0, 1) := by decide +kernel
theorem dX2_firstLighterDay_5 : decode cX2_firstLighterDay 5 = .ok (.iaload, 1) := by decide +kernel
theorem dX2_firstLighterDay_6 : decode cX2_firstLighterDay 6 = .ok (.ifCond .ne 5, 3) := by decide +kernel
theorem dX2_firstLighterDay_9 : decode cX2_firstLighterDay 9 = .ok (.iconst (-1), 1) := by decide +kernel
theorem dX2_firstLighterDay_10 : decode cX2_firstLighterDay 10 = .ok (.ireturn, 1) := by decide +kernel
theorem dX2_firstLighterDay_11 : decode cX2_firstLighterDay 11 = .ok (.iconst 1, 1) := by decide +kernel
theorem dX2_firstLighterDay_12 : decode cX2_firstLighterDay 12 = .ok (.istore_n 1, 1) := by decide +kernel
theorem dX2_firstLighterDay_13 : decode cX2_firstLighterDay 13 = .ok (.iload_n 1, 1) := by decide +kernel
theorem dX2_firstLighterDay_14 : decode cX2_firstLighterDay 14 = .ok (.aload_n 0, 1) := by decide +kernel
theorem dX2_firstLighterDay_15 : decode cX2_firstLighterDay 15 = .ok (.getfield 30, 3) := by decide +kernel
theorem dX2_firstLighterDay_18 : decode cX2_firstLighterDay 18 = .ok (.arraylength, 1) := by decide +kernel
theorem dX2_firstLighterDay_19 : decode cX2_firstLighterDay 19 = .ok (.if_icmp .ge 26, 3) := by decide +kernel
theorem dX2_firstLighterDay_22 : decode cX2_firstLighterDay 22 = .ok (.aload_n 0, 1) := by decide +kernel
theorem dX2_firstLighterDay_23 : decode cX2_firstLighterDay 23 = .ok (.getfield 30, 3) := by decide +kernel
theorem dX2_firstLighterDay_26 : decode cX2_firstLighterDay 26 = .ok (.iload_n 1, 1) := by decide +kernel
theorem dX2_firstLighterDay_27 : decode cX2_firstLighterDay 27 = .ok (.iaload, 1) := by decide +kernel
theorem dX2_firstLighterDay_28 : decode cX2_firstLighterDay 28 = .ok (.aload_n 0, 1) := by decide +kernel
theorem dX2_firstLighterDay_29 : decode cX2_firstLighterDay 29 = .ok (.getfield 30, 3) := by decide +kernel
theorem dX2_firstLighterDay_32 : decode cX2_firstLighterDay 32 = .ok (.iconst 0, 1) := by decide +kernel
theorem dX2_firstLighterDay_33 : decode cX2_firstLighterDay 33 = .ok (.iaload, 1) := by decide +kernel
theorem dX2_firstLighterDay_34 : decode cX2_firstLighterDay 34 = .ok (.if_icmp .ge 5, 3) := by decide +kernel
theorem dX2_firstLighterDay_37 : decode cX2_firstLighterDay 37 = .ok (.iload_n 1, 1) := by decide +kernel
theorem dX2_firstLighterDay_38 : decode cX2_firstLighterDay 38 = .ok (.ireturn, 1) := by decide +kernel
theorem dX2_firstLighterDay_39 : decode cX2_firstLighterDay 39 = .ok (.iinc 1 1, 3) := by decide +kernel
theorem dX2_firstLighterDay_42 : decode cX2_firstLighterDay 42 = .ok (.goto (-29), 3) := by decide +kernel
theorem dX2_firstLighterDay_45 : decode cX2_firstLighterDay 45 = .ok (.aload_n 0, 1) := by decide +kernel
theorem dX2_firstLighterDay_46 : decode cX2_firstLighterDay 46 = .ok (.getfield 30, 3) := by decide +kernel
theorem dX2_firstLighterDay_49 : decode cX2_firstLighterDay 49 = .ok (.arraylength, 1) := by decide +kernel
theorem dX2_firstLighterDay_50 : decode cX2_firstLighterDay 50 = .ok (.ireturn, 1) := by decide +kernel
set_option maxRecDepth 20000 in
theorem ggX2_addLossesOf_X2_paintAhead : GoodIn wsX2_addLossesOf wsX2_paintAhead := goodIn_r _ [10, 11, 2, 3, 12, 13, 14, 15, 16, 17, 18, 19, 20, 21, 22, 23, 24, 25, 26, 27, 28, 9, 29, 30, 31, 32, 33, 34, 35, 36, 37, 38, 39, 40, 41, 42, 43, 44, 45, 46, 47, 70, 71, 72, 73, 74, 75, 76, 77, 78, 79, 80, 81, 82, 83, 84, 85] (by decide +kernel) (by decide +kernel)
set_option maxRecDepth 20000 in
theorem gX2_addLossesOf_X2_paintAhead : GoodIn wsX2_addLossesOf (wsV RX2 131 RX2 yX2_paintAhead wsX2_paintAhead) := goodIn_app (goodIn_of _ (by decide +kernel)) ggX2_addLossesOf_X2_paintAhead
set_option maxRecDepth 20000 in
theorem ggX2_addLossesOf_X2_wornAheadWith : GoodIn wsX2_addLossesOf wsX2_wornAheadWith := goodIn_r _ [51, 11, 19, 43, 44, 45, 37, 46, 39, 47, 40, 41, 42, 70, 71, 72, 73, 74, 75, 76, 77, 78, 84, 85] (by decide +kernel) (by decide +kernel)
set_option maxRecDepth 20000 in
theorem gX2_addLossesOf_X2_wornAheadWith : GoodIn wsX2_addLossesOf (wsV RX2 277 RX2 yX2_wornAheadWith wsX2_wornAheadWith) := goodIn_app (goodIn_of _ (by decide +kernel)) ggX2_addLossesOf_X2_wornAheadWith
set_option maxRecDepth 20000 in
theorem ggX2_addLossesOf_X1_findDegrees : GoodIn wsX2_addLossesOf wsX1_findDegrees := goodIn_r _ [56, 57, 58, 59, 24, 25, 26, 60, 61, 62, 55, 63, 64, 65, 66, 67, 68, 69, 79, 80, 81, 82, 83] (by decide +kernel) (by decide +kernel)
set_option maxRecDepth 20000 in
theorem gX2_addLossesOf_X1_findDegrees : GoodIn wsX2_addLossesOf (wsV RX2 68 RX1 yX1_findDegrees wsX1_findDegrees) := goodIn_app (goodIn_of _ (by decide +kernel)) ggX2_addLossesOf_X1_findDegrees
theorem dX2_addLossesOf_0 : decode cX2_addLossesOf 0 = .ok (.aload_n 0, 1) := by decide +kernel
theorem dX2_addLossesOf_1 : decode cX2_addLossesOf 1 = .ok (.iload_n 1, 1) := by decide +kernel
theorem dX2_addLossesOf_2 : decode cX2_addLossesOf 2 = .ok (.invokevirtual 131, 3) := by decide +kernel
theorem dX2_addLossesOf_5 : decode cX2_addLossesOf 5 = .ok (.iconst 0, 1) := by decide +kernel
theorem dX2_addLossesOf_6 : decode cX2_addLossesOf 6 = .ok (.istore_n 2, 1) := by decide +kernel
theorem dX2_addLossesOf_7 : decode cX2_addLossesOf 7 = .ok (.iload_n 2, 1) := by decide +kernel
theorem dX2_addLossesOf_8 : decode cX2_addLossesOf 8 = .ok (.aload_n 0, 1) := by decide +kernel
theorem dX2_addLossesOf_9 : decode cX2_addLossesOf 9 = .ok (.getfield 33, 3) := by decide +kernel
theorem dX2_addLossesOf_12 : decode cX2_addLossesOf 12 = .ok (.arraylength, 1) := by decide +kernel
theorem dX2_addLossesOf_13 : decode cX2_addLossesOf 13 = .ok (.if_icmp .ge 20, 3) := by decide +kernel
theorem dX2_addLossesOf_16 : decode cX2_addLossesOf 16 = .ok (.aload_n 0, 1) := by decide +kernel
theorem dX2_addLossesOf_17 : decode cX2_addLossesOf 17 = .ok (.getfield 33, 3) := by decide +kernel
theorem dX2_addLossesOf_20 : decode cX2_addLossesOf 20 = .ok (.iload_n 2, 1) := by decide +kernel
theorem dX2_addLossesOf_21 : decode cX2_addLossesOf 21 = .ok (.aload_n 0, 1) := by decide +kernel
theorem dX2_addLossesOf_22 : decode cX2_addLossesOf 22 = .ok (.iload_n 2, 1) := by decide +kernel
theorem dX2_addLossesOf_23 : decode cX2_addLossesOf 23 = .ok (.invokevirtual 277, 3) := by decide +kernel
theorem dX2_addLossesOf_26 : decode cX2_addLossesOf 26 = .ok (.iastore, 1) := by decide +kernel
theorem dX2_addLossesOf_27 : decode cX2_addLossesOf 27 = .ok (.iinc 2 1, 3) := by decide +kernel
theorem dX2_addLossesOf_30 : decode cX2_addLossesOf 30 = .ok (.goto (-23), 3) := by decide +kernel
theorem dX2_addLossesOf_33 : decode cX2_addLossesOf 33 = .ok (.aload_n 0, 1) := by decide +kernel
theorem dX2_addLossesOf_34 : decode cX2_addLossesOf 34 = .ok (.getfield 12, 3) := by decide +kernel
theorem dX2_addLossesOf_37 : decode cX2_addLossesOf 37 = .ok (.iload_n 1, 1) := by decide +kernel
theorem dX2_addLossesOf_38 : decode cX2_addLossesOf 38 = .ok (.invokevirtual 68, 3) := by decide +kernel
theorem dX2_addLossesOf_41 : decode cX2_addLossesOf 41 = .ok (.iconst 0, 1) := by decide +kernel
theorem dX2_addLossesOf_42 : decode cX2_addLossesOf 42 = .ok (.istore_n 2, 1) := by decide +kernel
theorem dX2_addLossesOf_43 : decode cX2_addLossesOf 43 = .ok (.iload_n 2, 1) := by decide +kernel
theorem dX2_addLossesOf_44 : decode cX2_addLossesOf 44 = .ok (.aload_n 0, 1) := by decide +kernel
theorem dX2_addLossesOf_45 : decode cX2_addLossesOf 45 = .ok (.getfield 12, 3) := by decide +kernel
theorem dX2_addLossesOf_48 : decode cX2_addLossesOf 48 = .ok (.getfield 128, 3) := by decide +kernel
theorem dX2_addLossesOf_51 : decode cX2_addLossesOf 51 = .ok (.if_icmp .ge 37, 3) := by decide +kernel
theorem dX2_addLossesOf_54 : decode cX2_addLossesOf 54 = .ok (.iload_n 2, 1) := by decide +kernel
theorem dX2_addLossesOf_55 : decode cX2_addLossesOf 55 = .ok (.iload_n 1, 1) := by decide +kernel
theorem dX2_addLossesOf_56 : decode cX2_addLossesOf 56 = .ok (.if_icmp .eq 26, 3) := by decide +kernel
theorem dX2_addLossesOf_59 : decode cX2_addLossesOf 59 = .ok (.aload_n 0, 1) := by decide +kernel
theorem dX2_addLossesOf_60 : decode cX2_addLossesOf 60 = .ok (.getfield 36, 3) := by decide +kernel
theorem dX2_addLossesOf_63 : decode cX2_addLossesOf 63 = .ok (.iload_n 2, 1) := by decide +kernel
theorem dX2_addLossesOf_64 : decode cX2_addLossesOf 64 = .ok (.dup2, 1) := by decide +kernel
theorem dX2_addLossesOf_65 : decode cX2_addLossesOf 65 = .ok (.iaload, 1) := by decide +kernel
theorem dX2_addLossesOf_66 : decode cX2_addLossesOf 66 = .ok (.aload_n 0, 1) := by decide +kernel
theorem dX2_addLossesOf_67 : decode cX2_addLossesOf 67 = .ok (.getfield 33, 3) := by decide +kernel
theorem dX2_addLossesOf_70 : decode cX2_addLossesOf 70 = .ok (.aload_n 0, 1) := by decide +kernel
theorem dX2_addLossesOf_71 : decode cX2_addLossesOf 71 = .ok (.getfield 12, 3) := by decide +kernel
theorem dX2_addLossesOf_74 : decode cX2_addLossesOf 74 = .ok (.getfield 71, 3) := by decide +kernel
theorem dX2_addLossesOf_77 : decode cX2_addLossesOf 77 = .ok (.iload_n 2, 1) := by decide +kernel
theorem dX2_addLossesOf_78 : decode cX2_addLossesOf 78 = .ok (.iaload, 1) := by decide +kernel
theorem dX2_addLossesOf_79 : decode cX2_addLossesOf 79 = .ok (.iaload, 1) := by decide +kernel
theorem dX2_addLossesOf_80 : decode cX2_addLossesOf 80 = .ok (.iadd, 1) := by decide +kernel
theorem dX2_addLossesOf_81 : decode cX2_addLossesOf 81 = .ok (.iastore, 1) := by decide +kernel
theorem dX2_addLossesOf_82 : decode cX2_addLossesOf 82 = .ok (.iinc 2 1, 3) := by decide +kernel
theorem dX2_addLossesOf_85 : decode cX2_addLossesOf 85 = .ok (.goto (-42), 3) := by decide +kernel
theorem dX2_addLossesOf_88 : decode cX2_addLossesOf 88 = .ok (.return_, 1) := by decide +kernel
set_option maxRecDepth 20000 in
theorem ggX2_wornAheadWith_X0_colourOn : GoodIn wsX2_wornAheadWith wsX0_colourOn := goodIn_r _ [7, 8, 9, 10, 11, 6, 12, 22, 23] (by decide +kernel) (by decide +kernel)
set_option maxRecDepth 20000 in
theorem gX2_wornAheadWith_X0_colourOn : GoodIn wsX2_wornAheadWith (wsV RX2 189 RX0 yX0_colourOn wsX0_colourOn) := goodIn_app (goodIn_of _ (by decide +kernel)) ggX2_wornAheadWith_X0_colourOn
theorem dX2_wornAheadWith_0 : decode cX2_wornAheadWith 0 = .ok (.iconst 0, 1) := by decide +kernel
theorem dX2_wornAheadWith_1 : decode cX2_wornAheadWith 1 = .ok (.istore_n 2, 1) := by decide +kernel
theorem dX2_wornAheadWith_2 : decode cX2_wornAheadWith 2 = .ok (.iconst 0, 1) := by decide +kernel
theorem dX2_wornAheadWith_3 : decode cX2_wornAheadWith 3 = .ok (.istore_n 3, 1) := by decide +kernel
theorem dX2_wornAheadWith_4 : decode cX2_wornAheadWith 4 = .ok (.iload_n 3, 1) := by decide +kernel
theorem dX2_wornAheadWith_5 : decode cX2_wornAheadWith 5 = .ok (.aload_n 0, 1) := by decide +kernel
theorem dX2_wornAheadWith_6 : decode cX2_wornAheadWith 6 = .ok (.getfield 30, 3) := by decide +kernel
theorem dX2_wornAheadWith_9 : decode cX2_wornAheadWith 9 = .ok (.arraylength, 1) := by decide +kernel
theorem dX2_wornAheadWith_10 : decode cX2_wornAheadWith 10 = .ok (.if_icmp .ge 35, 3) := by decide +kernel
theorem dX2_wornAheadWith_13 : decode cX2_wornAheadWith 13 = .ok (.aload_n 0, 1) := by decide +kernel
theorem dX2_wornAheadWith_14 : decode cX2_wornAheadWith 14 = .ok (.getfield 30, 3) := by decide +kernel
theorem dX2_wornAheadWith_17 : decode cX2_wornAheadWith 17 = .ok (.iload_n 3, 1) := by decide +kernel
theorem dX2_wornAheadWith_18 : decode cX2_wornAheadWith 18 = .ok (.iaload, 1) := by decide +kernel
theorem dX2_wornAheadWith_19 : decode cX2_wornAheadWith 19 = .ok (.ifCond .ne 17, 3) := by decide +kernel
theorem dX2_wornAheadWith_22 : decode cX2_wornAheadWith 22 = .ok (.aload_n 0, 1) := by decide +kernel
theorem dX2_wornAheadWith_23 : decode cX2_wornAheadWith 23 = .ok (.getfield 19, 3) := by decide +kernel
theorem dX2_wornAheadWith_26 : decode cX2_wornAheadWith 26 = .ok (.bipush 16, 2) := by decide +kernel
theorem dX2_wornAheadWith_28 : decode cX2_wornAheadWith 28 = .ok (.iload_n 1, 1) := by decide +kernel
theorem dX2_wornAheadWith_29 : decode cX2_wornAheadWith 29 = .ok (.iload_n 3, 1) := by decide +kernel
theorem dX2_wornAheadWith_30 : decode cX2_wornAheadWith 30 = .ok (.invokevirtual 189, 3) := by decide +kernel
theorem dX2_wornAheadWith_33 : decode cX2_wornAheadWith 33 = .ok (.ifCond .eq 6, 3) := by decide +kernel
theorem dX2_wornAheadWith_36 : decode cX2_wornAheadWith 36 = .ok (.iinc 2 1, 3) := by decide +kernel
theorem dX2_wornAheadWith_39 : decode cX2_wornAheadWith 39 = .ok (.iinc 3 1, 3) := by decide +kernel
theorem dX2_wornAheadWith_42 : decode cX2_wornAheadWith 42 = .ok (.goto (-38), 3) := by decide +kernel
theorem dX2_wornAheadWith_45 : decode cX2_wornAheadWith 45 = .ok (.iload_n 2, 1) := by decide +kernel
theorem dX2_wornAheadWith_46 : decode cX2_wornAheadWith 46 = .ok (.ireturn, 1) := by decide +kernel
theorem dX3_init_0 : decode cX3_init 0 = .ok (.aload_n 0, 1) := by decide +kernel
theorem dX3_init_1 : decode cX3_init 1 = .ok (.invokespecial 1, 3) := by decide +kernel
theorem dX3_init_4 : decode cX3_init 4 = .ok (.aload_n 0, 1) := by decide +kernel
theorem dX3_init_5 : decode cX3_init 5 = .ok (.iconst 0, 1) := by decide +kernel
theorem dX3_init_6 : decode cX3_init 6 = .ok (.anewarray 7, 3) := by decide +kernel
theorem dX3_init_9 : decode cX3_init 9 = .ok (.putfield 9, 3) := by decide +kernel
theorem dX3_init_12 : decode cX3_init 12 = .ok (.aload_n 0, 1) := by decide +kernel
theorem dX3_init_13 : decode cX3_init 13 = .ok (.iconst 5, 1) := by decide +kernel
theorem dX3_init_14 : decode cX3_init 14 = .ok (.iconst 3, 1) := by decide +kernel
theorem dX3_init_15 : decode cX3_init 15 = .ok (.iconst 2, 1) := by decide +kernel
theorem dX3_init_16 : decode cX3_init 16 = .ok (.multianewarray 15 3, 4) := by decide +kernel
theorem dX3_init_20 : decode cX3_init 20 = .ok (.putfield 17, 3) := by decide +kernel
theorem dX3_init_23 : decode cX3_init 23 = .ok (.aload_n 0, 1) := by decide +kernel
theorem dX3_init_24 : decode cX3_init 24 = .ok (.iconst 0, 1) := by decide +kernel
theorem dX3_init_25 : decode cX3_init 25 = .ok (.anewarray 7, 3) := by decide +kernel
theorem dX3_init_28 : decode cX3_init 28 = .ok (.putfield 20, 3) := by decide +kernel
theorem dX3_init_31 : decode cX3_init 31 = .ok (.return_, 1) := by decide +kernel
theorem dX3_more_0 : decode cX3_more 0 = .ok (.aload_n 0, 1) := by decide +kernel
theorem dX3_more_1 : decode cX3_more 1 = .ok (.arraylength, 1) := by decide +kernel
theorem dX3_more_2 : decode cX3_more 2 = .ok (.iconst 1, 1) := by decide +kernel
theorem dX3_more_3 : decode cX3_more 3 = .ok (.iadd, 1) := by decide +kernel
theorem dX3_more_4 : decode cX3_more 4 = .ok (.anewarray 7, 3) := by decide +kernel
theorem dX3_more_7 : decode cX3_more 7 = .ok (.astore_n 2, 1) := by decide +kernel
theorem dX3_more_8 : decode cX3_more 8 = .ok (.iconst 0, 1) := by decide +kernel
theorem dX3_more_9 : decode cX3_more 9 = .ok (.istore_n 3, 1) := by decide +kernel
theorem dX3_more_10 : decode cX3_more 10 = .ok (.iload_n 3, 1) := by decide +kernel
theorem dX3_more_11 : decode cX3_more 11 = .ok (.aload_n 0, 1) := by decide +kernel
theorem dX3_more_12 : decode cX3_more 12 = .ok (.arraylength, 1) := by decide +kernel
theorem dX3_more_13 : decode cX3_more 13 = .ok (.if_icmp .ge 15, 3) := by decide +kernel
theorem dX3_more_16 : decode cX3_more 16 = .ok (.aload_n 2, 1) := by decide +kernel
theorem dX3_more_17 : decode cX3_more 17 = .ok (.iload_n 3, 1) := by decide +kernel
theorem dX3_more_18 : decode cX3_more 18 = .ok (.aload_n 0, 1) := by decide +kernel
theorem dX3_more_19 : decode cX3_more 19 = .ok (.iload_n 3, 1) := by decide +kernel
theorem dX3_more_20 : decode cX3_more 20 = .ok (.aaload, 1) := by decide +kernel
theorem dX3_more_21 : decode cX3_more 21 = .ok (.aastore, 1) := by decide +kernel
theorem dX3_more_22 : decode cX3_more 22 = .ok (.iinc 3 1, 3) := by decide +kernel
theorem dX3_more_25 : decode cX3_more 25 = .ok (.goto (-15), 3) := by decide +kernel
theorem dX3_more_28 : decode cX3_more 28 = .ok (.aload_n 2, 1) := by decide +kernel
theorem dX3_more_29 : decode cX3_more 29 = .ok (.aload_n 0, 1) := by decide +kernel
theorem dX3_more_30 : decode cX3_more 30 = .ok (.arraylength, 1) := by decide +kernel
theorem dX3_more_31 : decode cX3_more 31 = .ok (.aload_n 1, 1) := by decide +kernel
theorem dX3_more_32 : decode cX3_more 32 = .ok (.aastore, 1) := by decide +kernel
theorem dX3_more_33 : decode cX3_more 33 = .ok (.aload_n 2, 1) := by decide +kernel
theorem dX3_more_34 : decode cX3_more 34 = .ok (.areturn, 1) := by decide +kernel
theorem dX3_degrees_0 : decode cX3_degrees 0 = .ok (.aload_n 0, 1) := by decide +kernel
theorem dX3_degrees_1 : decode cX3_degrees 1 = .ok (.getfield 9, 3) := by decide +kernel
theorem dX3_degrees_4 : decode cX3_degrees 4 = .ok (.arraylength, 1) := by decide +kernel
theorem dX3_degrees_5 : decode cX3_degrees 5 = .ok (.istore_n 1, 1) := by decide +kernel
theorem dX3_degrees_6 : decode cX3_degrees 6 = .ok (.iload_n 1, 1) := by decide +kernel
theorem dX3_degrees_7 : decode cX3_degrees 7 = .ok (.iload_n 1, 1) := by decide +kernel
theorem dX3_degrees_8 : decode cX3_degrees 8 = .ok (.multianewarray 23 2, 4) := by decide +kernel
theorem dX3_degrees_12 : decode cX3_degrees 12 = .ok (.astore_n 2, 1) := by decide +kernel
theorem dX3_degrees_13 : decode cX3_degrees 13 = .ok (.iconst 0, 1) := by decide +kernel
theorem dX3_degrees_14 : decode cX3_degrees 14 = .ok (.istore_n 3, 1) := by decide +kernel
theorem dX3_degrees_15 : decode cX3_degrees 15 = .ok (.iload_n 3, 1) := by decide +kernel
theorem dX3_degrees_16 : decode cX3_degrees 16 = .ok (.iload_n 1, 1) := by decide +kernel
theorem dX3_degrees_17 : decode cX3_degrees 17 = .ok (.if_icmp .ge 80, 3) := by decide +kernel
theorem dX3_degrees_20 : decode cX3_degrees 20 = .ok (.iconst 0, 1) := by decide +kernel
theorem dX3_degrees_21 : decode cX3_degrees 21 = .ok (.istore 4, 2) := by decide +kernel
theorem dX3_degrees_23 : decode cX3_degrees 23 = .ok (.iload 4, 2) := by decide +kernel
theorem dX3_degrees_25 : decode cX3_degrees 25 = .ok (.iload_n 1, 1) := by decide +kernel
theorem dX3_degrees_26 : decode cX3_degrees 26 = .ok (.if_icmp .ge 65, 3) := by decide +kernel
theorem dX3_degrees_29 : decode cX3_degrees 29 = .ok (.aload_n 2, 1) := by decide +kernel
theorem dX3_degrees_30 : decode cX3_degrees 30 = .ok (.iload_n 3, 1) := by decide +kernel
theorem dX3_degrees_31 : decode cX3_degrees 31 = .ok (.aaload, 1) := by decide +kernel
theorem dX3_degrees_32 : decode cX3_degrees 32 = .ok (.iload 4, 2) := by decide +kernel
theorem dX3_degrees_34 : decode cX3_degrees 34 = .ok (.iload_n 3, 1) := by decide +kernel
theorem dX3_degrees_35 : decode cX3_degrees 35 = .ok (.iload 4, 2) := by decide +kernel
theorem dX3_degrees_37 : decode cX3_degrees 37 = .ok (.if_icmp .eq 46, 3) := by decide +kernel
theorem dX3_degrees_40 : decode cX3_degrees 40 = .ok (.aload_n 0, 1) := by decide +kernel
theorem dX3_degrees_41 : decode cX3_degrees 41 = .ok (.getfield 9, 3) := by decide +kernel
theorem dX3_degrees_44 : decode cX3_degrees 44 = .ok (.iload_n 3, 1) := by decide +kernel
theorem dX3_degrees_45 : decode cX3_degrees 45 = .ok (.aaload, 1) := by decide +kernel
theorem dX3_degrees_46 : decode cX3_degrees 46 = .ok (.iconst 0, 1) := by decide +kernel
theorem dX3_degrees_47 : decode cX3_degrees 47 = .ok (.iaload, 1) := by decide +kernel
theorem dX3_degrees_48 : decode cX3_degrees 48 = .ok (.iload 4, 2) := by decide +kernel
theorem dX3_degrees_50 : decode cX3_degrees 50 = .ok (.if_icmp .eq 29, 3) := by decide +kernel
theorem dX3_degrees_53 : decode cX3_degrees 53 = .ok (.aload_n 0, 1) := by decide +kernel
theorem dX3_degrees_54 : decode cX3_degrees 54 = .ok (.getfield 9, 3) := by decide +kernel
theorem dX3_degrees_57 : decode cX3_degrees 57 = .ok (.iload 4, 2) := by decide +kernel
theorem dX3_degrees_59 : decode cX3_degrees 59 = .ok (.aaload, 1) := by decide +kernel
theorem dX3_degrees_60 : decode cX3_degrees 60 = .ok (.iconst 0, 1) := by decide +kernel
theorem dX3_degrees_61 : decode cX3_degrees 61 = .ok (.iaload, 1) := by decide +kernel
theorem dX3_degrees_62 : decode cX3_degrees 62 = .ok (.iload_n 3, 1) := by decide +kernel
theorem dX3_degrees_63 : decode cX3_degrees 63 = .ok (.if_icmp .eq 16, 3) := by decide +kernel
theorem dX3_degrees_66 : decode cX3_degrees 66 = .ok (.aload_n 0, 1) := by decide +kernel
theorem dX3_degrees_67 : decode cX3_degrees 67 = .ok (.getfield 9, 3) := by decide +kernel
theorem dX3_degrees_70 : decode cX3_degrees 70 = .ok (.iload_n 3, 1) := by decide +kernel
theorem dX3_degrees_71 : decode cX3_degrees 71 = .ok (.aaload, 1) := by decide +kernel
theorem dX3_degrees_72 : decode cX3_degrees 72 = .ok (.iconst 1, 1) := by decide +kernel
theorem dX3_degrees_73 : decode cX3_degrees 73 = .ok (.iaload, 1) := by decide +kernel
theorem dX3_degrees_74 : decode cX3_degrees 74 = .ok (.iload 4, 2) := by decide +kernel
theorem dX3_degrees_76 : decode cX3_degrees 76 = .ok (.if_icmp .ne 7, 3) := by decide +kernel
theorem dX3_degrees_79 : decode cX3_degrees 79 = .ok (.iconst 1, 1) := by decide +kernel
theorem dX3_degrees_80 : decode cX3_degrees 80 = .ok (.goto 4, 3) := by decide +kernel
theorem dX3_degrees_83 : decode cX3_degrees 83 = .ok (.iconst 0, 1) := by decide +kernel
theorem dX3_degrees_84 : decode cX3_degrees 84 = .ok (.iastore, 1) := by decide +kernel
theorem dX3_degrees_85 : decode cX3_degrees 85 = .ok (.iinc 4 1, 3) := by decide +kernel
theorem dX3_degrees_88 : decode cX3_degrees 88 = .ok (.goto (-65), 3) := by decide +kernel
theorem dX3_degrees_91 : decode cX3_degrees 91 = .ok (.iinc 3 1, 3) := by decide +kernel
theorem dX3_degrees_94 : decode cX3_degrees 94 = .ok (.goto (-79), 3) := by decide +kernel
theorem dX3_degrees_97 : decode cX3_degrees 97 = .ok (.iconst 2, 1) := by decide +kernel
theorem dX3_degrees_98 : decode cX3_degrees 98 = .ok (.istore_n 3, 1) := by decide +kernel
theorem dX3_degrees_99 : decode cX3_degrees 99 = .ok (.iload_n 3, 1) := by decide +kernel
theorem dX3_degrees_100 : decode cX3_degrees 100 = .ok (.iconst 5, 1) := by decide +kernel
theorem dX3_degrees_101 : decode cX3_degrees 101 = .ok (.if_icmp .ge 106, 3) := by decide +kernel
theorem dX3_degrees_104 : decode cX3_degrees 104 = .ok (.iconst 0, 1) := by decide +kernel
theorem dX3_degrees_105 : decode cX3_degrees 105 = .ok (.istore 4, 2) := by decide +kernel
theorem dX3_degrees_107 : decode cX3_degrees 107 = .ok (.iload 4, 2) := by decide +kernel
theorem dX3_degrees_109 : decode cX3_degrees 109 = .ok (.iload_n 1, 1) := by decide +kernel
theorem dX3_degrees_110 : decode cX3_degrees 110 = .ok (.if_icmp .ge 91, 3) := by decide +kernel
theorem dX3_degrees_113 : decode cX3_degrees 113 = .ok (.iconst 0, 1) := by decide +kernel
theorem dX3_degrees_114 : decode cX3_degrees 114 = .ok (.istore 5, 2) := by decide +kernel
theorem dX3_degrees_116 : decode cX3_degrees 116 = .ok (.iload 5, 2) := by decide +kernel
theorem dX3_degrees_118 : decode cX3_degrees 118 = .ok (.iload_n 1, 1) := by decide +kernel
theorem dX3_degrees_119 : decode cX3_degrees 119 = .ok (.if_icmp .ge 76, 3) := by decide +kernel
theorem dX3_degrees_122 : decode cX3_degrees 122 = .ok (.aload_n 2, 1) := by decide +kernel
theorem dX3_degrees_123 : decode cX3_degrees 123 = .ok (.iload 4, 2) := by decide +kernel
theorem dX3_degrees_125 : decode cX3_degrees 125 = .ok (.aaload, 1) := by decide +kernel
theorem dX3_degrees_126 : decode cX3_degrees 126 = .ok (.iload 5, 2) := by decide +kernel
theorem dX3_degrees_128 : decode cX3_degrees 128 = .ok (.iaload, 1) := by decide +kernel
theorem dX3_degrees_129 : decode cX3_degrees 129 = .ok (.iload_n 3, 1) := by decide +kernel
theorem dX3_degrees_130 : decode cX3_degrees 130 = .ok (.iconst 1, 1) := by decide +kernel
theorem dX3_degrees_131 : decode cX3_degrees 131 = .ok (.isub, 1) := by decide +kernel
theorem dX3_degrees_132 : decode cX3_degrees 132 = .ok (.if_icmp .eq 6, 3) := by decide +kernel
theorem dX3_degrees_135 : decode cX3_degrees 135 = .ok (.goto 54, 3) := by decide +kernel
theorem dX3_degrees_138 : decode cX3_degrees 138 = .ok (.iconst 0, 1) := by decide +kernel
theorem dX3_degrees_139 : decode cX3_degrees 139 = .ok (.istore 6, 2) := by decide +kernel
theorem dX3_degrees_141 : decode cX3_degrees 141 = .ok (.iload 6, 2) := by decide +kernel
theorem dX3_degrees_143 : decode cX3_degrees 143 = .ok (.iload_n 1, 1) := by decide +kernel
theorem dX3_degrees_144 : decode cX3_degrees 144 = .ok (.if_icmp .ge 45, 3) := by decide +kernel
theorem dX3_degrees_147 : decode cX3_degrees 147 = .ok (.iload 6, 2) := by decide +kernel
theorem dX3_degrees_149 : decode cX3_degrees 149 = .ok (.iload 4, 2) := by decide +kernel
theorem dX3_degrees_151 : decode cX3_degrees 151 = .ok (.if_icmp .eq 32, 3) := by decide +kernel
theorem dX3_degrees_154 : decode cX3_degrees 154 = .ok (.aload_n 2, 1) := by decide +kernel
theorem dX3_degrees_155 : decode cX3_degrees 155 = .ok (.iload 4, 2) := by decide +kernel
theorem dX3_degrees_157 : decode cX3_degrees 157 = .ok (.aaload, 1) := by decide +kernel
theorem dX3_degrees_158 : decode cX3_degrees 158 = .ok (.iload 6, 2) := by decide +kernel
theorem dX3_degrees_160 : decode cX3_degrees 160 = .ok (.iaload, 1) := by decide +kernel
theorem dX3_degrees_161 : decode cX3_degrees 161 = .ok (.ifCond .ne 22, 3) := by decide +kernel
theorem dX3_degrees_164 : decode cX3_degrees 164 = .ok (.aload_n 2, 1) := by decide +kernel
theorem dX3_degrees_165 : decode cX3_degrees 165 = .ok (.iload 5, 2) := by decide +kernel
theorem dX3_degrees_167 : decode cX3_degrees 167 = .ok (.aaload, 1) := by decide +kernel
theorem dX3_degrees_168 : decode cX3_degrees 168 = .ok (.iload 6, 2) := by decide +kernel
theorem dX3_degrees_170 : decode cX3_degrees 170 = .ok (.iaload, 1) := by decide +kernel
theorem dX3_degrees_171 : decode cX3_degrees 171 = .ok (.iconst 1, 1) := by decide +kernel
theorem dX3_degrees_172 : decode cX3_degrees 172 = .ok (.if_icmp .ne 11, 3) := by decide +kernel
theorem dX3_degrees_175 : decode cX3_degrees 175 = .ok (.aload_n 2, 1) := by decide +kernel
theorem dX3_degrees_176 : decode cX3_degrees 176 = .ok (.iload 4, 2) := by decide +kernel
theorem dX3_degrees_178 : decode cX3_degrees 178 = .ok (.aaload, 1) := by decide +kernel
theorem dX3_degrees_179 : decode cX3_degrees 179 = .ok (.iload 6, 2) := by decide +kernel
theorem dX3_degrees_181 : decode cX3_degrees 181 = .ok (.iload_n 3, 1) := by decide +kernel
theorem dX3_degrees_182 : decode cX3_degrees 182 = .ok (.iastore, 1) := by decide +kernel
theorem dX3_degrees_183 : decode cX3_degrees 183 = .ok (.iinc 6 1, 3) := by decide +kernel
theorem dX3_degrees_186 : decode cX3_degrees 186 = .ok (.goto (-45), 3) := by decide +kernel
theorem dX3_degrees_189 : decode cX3_degrees 189 = .ok (.iinc 5 1, 3) := by decide +kernel
theorem dX3_degrees_192 : decode cX3_degrees 192 = .ok (.goto (-76), 3) := by decide +kernel
theorem dX3_degrees_195 : decode cX3_degrees 195 = .ok (.iinc 4 1, 3) := by decide +kernel
theorem dX3_degrees_198 : decode cX3_degrees 198 = .ok (.goto (-91), 3) := by decide +kernel
theorem dX3_degrees_201 : decode cX3_degrees 201 = .ok (.iinc 3 1, 3) := by decide +kernel
theorem dX3_degrees_204 : decode cX3_degrees 204 = .ok (.goto (-105), 3) := by decide +kernel
theorem dX3_degrees_207 : decode cX3_degrees 207 = .ok (.aload_n 2, 1) := by decide +kernel
theorem dX3_degrees_208 : decode cX3_degrees 208 = .ok (.areturn, 1) := by decide +kernel
theorem dX3_length_0 : decode cX3_length 0 = .ok (.aload_n 0, 1) := by decide +kernel
theorem dX3_length_1 : decode cX3_length 1 = .ok (.getfield 17, 3) := by decide +kernel
theorem dX3_length_4 : decode cX3_length 4 = .ok (.iload_n 1, 1) := by decide +kernel
theorem dX3_length_5 : decode cX3_length 5 = .ok (.aaload, 1) := by decide +kernel
theorem dX3_length_6 : decode cX3_length 6 = .ok (.iconst 0, 1) := by decide +kernel
theorem dX3_length_7 : decode cX3_length 7 = .ok (.aaload, 1) := by decide +kernel
theorem dX3_length_8 : decode cX3_length 8 = .ok (.iconst 1, 1) := by decide +kernel
theorem dX3_length_9 : decode cX3_length 9 = .ok (.iaload, 1) := by decide +kernel
theorem dX3_length_10 : decode cX3_length 10 = .ok (.aload_n 0, 1) := by decide +kernel
theorem dX3_length_11 : decode cX3_length 11 = .ok (.getfield 17, 3) := by decide +kernel
theorem dX3_length_14 : decode cX3_length 14 = .ok (.iload_n 1, 1) := by decide +kernel
theorem dX3_length_15 : decode cX3_length 15 = .ok (.aaload, 1) := by decide +kernel
theorem dX3_length_16 : decode cX3_length 16 = .ok (.iconst 1, 1) := by decide +kernel
theorem dX3_length_17 : decode cX3_length 17 = .ok (.aaload, 1) := by decide +kernel
theorem dX3_length_18 : decode cX3_length 18 = .ok (.iconst 1, 1) := by decide +kernel
theorem dX3_length_19 : decode cX3_length 19 = .ok (.iaload, 1) := by decide +kernel
theorem dX3_length_20 : decode cX3_length 20 = .ok (.iadd, 1) := by decide +kernel
theorem dX3_length_21 : decode cX3_length 21 = .ok (.aload_n 0, 1) := by decide +kernel
theorem dX3_length_22 : decode cX3_length 22 = .ok (.getfield 17, 3) := by decide +kernel
theorem dX3_length_25 : decode cX3_length 25 = .ok (.iload_n 1, 1) := by decide +kernel
theorem dX3_length_26 : decode cX3_length 26 = .ok (.aaload, 1) := by decide +kernel
theorem dX3_length_27 : decode cX3_length 27 = .ok (.iconst 2, 1) := by decide +kernel
theorem dX3_length_28 : decode cX3_length 28 = .ok (.aaload, 1) := by decide +kernel
theorem dX3_length_29 : decode cX3_length 29 = .ok (.iconst 1, 1) := by decide +kernel
theorem dX3_length_30 : decode cX3_length 30 = .ok (.iaload, 1) := by decide +kernel
theorem dX3_length_31 : decode cX3_length 31 = .ok (.iadd, 1) := by decide +kernel
theorem dX3_length_32 : decode cX3_length 32 = .ok (.ireturn, 1) := by decide +kernel
theorem dX3_on_0 : decode cX3_on 0 = .ok (.iload_n 1, 1) := by decide +kernel
theorem dX3_on_1 : decode cX3_on 1 = .ok (.aload_n 0, 1) := by decide +kernel
theorem dX3_on_2 : decode cX3_on 2 = .ok (.iconst 2, 1) := by decide +kernel
theorem dX3_on_3 : decode cX3_on 3 = .ok (.iaload, 1) := by decide +kernel
theorem dX3_on_4 : decode cX3_on 4 = .ok (.isub, 1) := by decide +kernel
theorem dX3_on_5 : decode cX3_on 5 = .ok (.istore_n 2, 1) := by decide +kernel
theorem dX3_on_6 : decode cX3_on 6 = .ok (.iconst 0, 1) := by decide +kernel
theorem dX3_on_7 : decode cX3_on 7 = .ok (.istore_n 3, 1) := by decide +kernel
theorem dX3_on_8 : decode cX3_on 8 = .ok (.iload_n 3, 1) := by decide +kernel
theorem dX3_on_9 : decode cX3_on 9 = .ok (.iconst 3, 1) := by decide +kernel
theorem dX3_on_10 : decode cX3_on 10 = .ok (.if_icmp .ge 38, 3) := by decide +kernel
theorem dX3_on_13 : decode cX3_on 13 = .ok (.iload_n 2, 1) := by decide +kernel
theorem dX3_on_14 : decode cX3_on 14 = .ok (.aload_n 0, 1) := by decide +kernel
theorem dX3_on_15 : decode cX3_on 15 = .ok (.iconst 4, 1) := by decide +kernel
theorem dX3_on_16 : decode cX3_on 16 = .ok (.iconst 2, 1) := by decide +kernel
theorem dX3_on_17 : decode cX3_on 17 = .ok (.iload_n 3, 1) := by decide +kernel
theorem dX3_on_18 : decode cX3_on 18 = .ok (.imul, 1) := by decide +kernel
theorem dX3_on_19 : decode cX3_on 19 = .ok (.iadd, 1) := by decide +kernel
theorem dX3_on_20 : decode cX3_on 20 = .ok (.iaload, 1) := by decide +kernel
theorem dX3_on_21 : decode cX3_on 21 = .ok (.if_icmp .ge 11, 3) := by decide +kernel
theorem dX3_on_24 : decode cX3_on 24 = .ok (.aload_n 0, 1) := by decide +kernel
theorem dX3_on_25 : decode cX3_on 25 = .ok (.iconst 3, 1) := by decide +kernel
theorem dX3_on_26 : decode cX3_on 26 = .ok (.iconst 2, 1) := by decide +kernel
theorem dX3_on_27 : decode cX3_on 27 = .ok (.iload_n 3, 1) := by decide +kernel
theorem dX3_on_28 : decode cX3_on 28 = .ok (.imul, 1) := by decide +kernel
theorem dX3_on_29 : decode cX3_on 29 = .ok (.iadd, 1) := by decide +kernel
theorem dX3_on_30 : decode cX3_on 30 = .ok (.iaload, 1) := by decide +kernel
theorem dX3_on_31 : decode cX3_on 31 = .ok (.ireturn, 1) := by decide +kernel
theorem dX3_on_32 : decode cX3_on 32 = .ok (.iload_n 2, 1) := by decide +kernel
theorem dX3_on_33 : decode cX3_on 33 = .ok (.aload_n 0, 1) := by decide +kernel
theorem dX3_on_34 : decode cX3_on 34 = .ok (.iconst 4, 1) := by decide +kernel
theorem dX3_on_35 : decode cX3_on 35 = .ok (.iconst 2, 1) := by decide +kernel
theorem dX3_on_36 : decode cX3_on 36 = .ok (.iload_n 3, 1) := by decide +kernel
theorem dX3_on_37 : decode cX3_on 37 = .ok (.imul, 1) := by decide +kernel
theorem dX3_on_38 : decode cX3_on 38 = .ok (.iadd, 1) := by decide +kernel
theorem dX3_on_39 : decode cX3_on 39 = .ok (.iaload, 1) := by decide +kernel
theorem dX3_on_40 : decode cX3_on 40 = .ok (.isub, 1) := by decide +kernel
theorem dX3_on_41 : decode cX3_on 41 = .ok (.istore_n 2, 1) := by decide +kernel
theorem dX3_on_42 : decode cX3_on 42 = .ok (.iinc 3 1, 3) := by decide +kernel
theorem dX3_on_45 : decode cX3_on 45 = .ok (.goto (-37), 3) := by decide +kernel
theorem dX3_on_48 : decode cX3_on 48 = .ok (.iconst (-1), 1) := by decide +kernel
theorem dX3_on_49 : decode cX3_on 49 = .ok (.ireturn, 1) := by decide +kernel
theorem dX3_end_0 : decode cX3_end 0 = .ok (.aload_n 0, 1) := by decide +kernel
theorem dX3_end_1 : decode cX3_end 1 = .ok (.iconst 2, 1) := by decide +kernel
theorem dX3_end_2 : decode cX3_end 2 = .ok (.iaload, 1) := by decide +kernel
theorem dX3_end_3 : decode cX3_end 3 = .ok (.aload_n 0, 1) := by decide +kernel
theorem dX3_end_4 : decode cX3_end 4 = .ok (.iconst 4, 1) := by decide +kernel
theorem dX3_end_5 : decode cX3_end 5 = .ok (.iaload, 1) := by decide +kernel
theorem dX3_end_6 : decode cX3_end 6 = .ok (.iadd, 1) := by decide +kernel
theorem dX3_end_7 : decode cX3_end 7 = .ok (.aload_n 0, 1) := by decide +kernel
theorem dX3_end_8 : decode cX3_end 8 = .ok (.bipush 6, 2) := by decide +kernel
theorem dX3_end_10 : decode cX3_end 10 = .ok (.iaload, 1) := by decide +kernel
theorem dX3_end_11 : decode cX3_end 11 = .ok (.iadd, 1) := by decide +kernel
theorem dX3_end_12 : decode cX3_end 12 = .ok (.aload_n 0, 1) := by decide +kernel
theorem dX3_end_13 : decode cX3_end 13 = .ok (.bipush 8, 2) := by decide +kernel
theorem dX3_end_15 : decode cX3_end 15 = .ok (.iaload, 1) := by decide +kernel
theorem dX3_end_16 : decode cX3_end 16 = .ok (.iadd, 1) := by decide +kernel
theorem dX3_end_17 : decode cX3_end 17 = .ok (.ireturn, 1) := by decide +kernel
set_option maxRecDepth 20000 in
theorem ggX3_wears_X3_on : GoodIn wsX3_wears wsX3_on := goodIn_r _ [9] (by decide +kernel) (by decide +kernel)
set_option maxRecDepth 20000 in
theorem gX3_wears_X3_on : GoodIn wsX3_wears (va_wsS RX3 24 yX3_on wsX3_on) := goodIn_app (goodIn_of _ (by decide +kernel)) ggX3_wears_X3_on
theorem dX3_wears_0 : decode cX3_wears 0 = .ok (.iconst 0, 1) := by decide +kernel
theorem dX3_wears_1 : decode cX3_wears 1 = .ok (.istore_n 3, 1) := by decide +kernel
theorem dX3_wears_2 : decode cX3_wears 2 = .ok (.aload_n 0, 1) := by decide +kernel
theorem dX3_wears_3 : decode cX3_wears 3 = .ok (.getfield 20, 3) := by decide +kernel
theorem dX3_wears_6 : decode cX3_wears 6 = .ok (.astore 4, 2) := by decide +kernel
theorem dX3_wears_8 : decode cX3_wears 8 = .ok (.aload 4, 2) := by decide +kernel
theorem dX3_wears_10 : decode cX3_wears 10 = .ok (.arraylength, 1) := by decide +kernel
theorem dX3_wears_11 : decode cX3_wears 11 = .ok (.istore 5, 2) := by decide +kernel
theorem dX3_wears_13 : decode cX3_wears 13 = .ok (.iconst 0, 1) := by decide +kernel
theorem dX3_wears_14 : decode cX3_wears 14 = .ok (.istore 6, 2) := by decide +kernel
theorem dX3_wears_16 : decode cX3_wears 16 = .ok (.iload 6, 2) := by decide +kernel
theorem dX3_wears_18 : decode cX3_wears 18 = .ok (.iload 5, 2) := by decide +kernel
theorem dX3_wears_20 : decode cX3_wears 20 = .ok (.if_icmp .ge 35, 3) := by decide +kernel
theorem dX3_wears_23 : decode cX3_wears 23 = .ok (.aload 4, 2) := by decide +kernel
theorem dX3_wears_25 : decode cX3_wears 25 = .ok (.iload 6, 2) := by decide +kernel
theorem dX3_wears_27 : decode cX3_wears 27 = .ok (.aaload, 1) := by decide +kernel
theorem dX3_wears_28 : decode cX3_wears 28 = .ok (.astore 7, 2) := by decide +kernel
theorem dX3_wears_30 : decode cX3_wears 30 = .ok (.aload 7, 2) := by decide +kernel
theorem dX3_wears_32 : decode cX3_wears 32 = .ok (.iconst 0, 1) := by decide +kernel
theorem dX3_wears_33 : decode cX3_wears 33 = .ok (.iaload, 1) := by decide +kernel
theorem dX3_wears_34 : decode cX3_wears 34 = .ok (.iload_n 1, 1) := by decide +kernel
theorem dX3_wears_35 : decode cX3_wears 35 = .ok (.if_icmp .ne 14, 3) := by decide +kernel
theorem dX3_wears_38 : decode cX3_wears 38 = .ok (.iload_n 3, 1) := by decide +kernel
theorem dX3_wears_39 : decode cX3_wears 39 = .ok (.aload 7, 2) := by decide +kernel
theorem dX3_wears_41 : decode cX3_wears 41 = .ok (.iload_n 2, 1) := by decide +kernel
theorem dX3_wears_42 : decode cX3_wears 42 = .ok (.invokestatic 24, 3) := by decide +kernel
theorem dX3_wears_45 : decode cX3_wears 45 = .ok (.invokestatic 28, 3) := by decide +kernel
theorem dX3_wears_48 : decode cX3_wears 48 = .ok (.istore_n 3, 1) := by decide +kernel
theorem dX3_wears_49 : decode cX3_wears 49 = .ok (.iinc 6 1, 3) := by decide +kernel
theorem dX3_wears_52 : decode cX3_wears 52 = .ok (.goto (-36), 3) := by decide +kernel
theorem dX3_wears_55 : decode cX3_wears 55 = .ok (.iload_n 3, 1) := by decide +kernel
theorem dX3_wears_56 : decode cX3_wears 56 = .ok (.ireturn, 1) := by decide +kernel
set_option maxRecDepth 20000 in
theorem ggX3_left_X3_end : GoodIn wsX3_left wsX3_end := goodIn_r _ [10] (by decide +kernel) (by decide +kernel)
set_option maxRecDepth 20000 in
theorem gX3_left_X3_end : GoodIn wsX3_left (va_wsS RX3 34 yX3_end wsX3_end) := goodIn_app (goodIn_of _ (by decide +kernel)) ggX3_left_X3_end
theorem dX3_left_0 : decode cX3_left 0 = .ok (.iconst 0, 1) := by decide +kernel
theorem dX3_left_1 : decode cX3_left 1 = .ok (.istore_n 3, 1) := by decide +kernel
theorem dX3_left_2 : decode cX3_left 2 = .ok (.aload_n 0, 1) := by decide +kernel
theorem dX3_left_3 : decode cX3_left 3 = .ok (.getfield 20, 3) := by decide +kernel
theorem dX3_left_6 : decode cX3_left 6 = .ok (.astore 4, 2) := by decide +kernel
theorem dX3_left_8 : decode cX3_left 8 = .ok (.aload 4, 2) := by decide +kernel
theorem dX3_left_10 : decode cX3_left 10 = .ok (.arraylength, 1) := by decide +kernel
theorem dX3_left_11 : decode cX3_left 11 = .ok (.istore 5, 2) := by decide +kernel
theorem dX3_left_13 : decode cX3_left 13 = .ok (.iconst 0, 1) := by decide +kernel
theorem dX3_left_14 : decode cX3_left 14 = .ok (.istore 6, 2) := by decide +kernel
theorem dX3_left_16 : decode cX3_left 16 = .ok (.iload 6, 2) := by decide +kernel
theorem dX3_left_18 : decode cX3_left 18 = .ok (.iload 5, 2) := by decide +kernel
theorem dX3_left_20 : decode cX3_left 20 = .ok (.if_icmp .ge 51, 3) := by decide +kernel
theorem dX3_left_23 : decode cX3_left 23 = .ok (.aload 4, 2) := by decide +kernel
theorem dX3_left_25 : decode cX3_left 25 = .ok (.iload 6, 2) := by decide +kernel
theorem dX3_left_27 : decode cX3_left 27 = .ok (.aaload, 1) := by decide +kernel
theorem dX3_left_28 : decode cX3_left 28 = .ok (.astore 7, 2) := by decide +kernel
theorem dX3_left_30 : decode cX3_left 30 = .ok (.aload 7, 2) := by decide +kernel
theorem dX3_left_32 : decode cX3_left 32 = .ok (.iconst 0, 1) := by decide +kernel
theorem dX3_left_33 : decode cX3_left 33 = .ok (.iaload, 1) := by decide +kernel
theorem dX3_left_34 : decode cX3_left 34 = .ok (.iload_n 1, 1) := by decide +kernel
theorem dX3_left_35 : decode cX3_left 35 = .ok (.if_icmp .ne 30, 3) := by decide +kernel
theorem dX3_left_38 : decode cX3_left 38 = .ok (.iload_n 2, 1) := by decide +kernel
theorem dX3_left_39 : decode cX3_left 39 = .ok (.ifCond .lt 11, 3) := by decide +kernel
theorem dX3_left_42 : decode cX3_left 42 = .ok (.aload 7, 2) := by decide +kernel
theorem dX3_left_44 : decode cX3_left 44 = .ok (.iconst 1, 1) := by decide +kernel
theorem dX3_left_45 : decode cX3_left 45 = .ok (.iaload, 1) := by decide +kernel
theorem dX3_left_46 : decode cX3_left 46 = .ok (.iload_n 2, 1) := by decide +kernel
theorem dX3_left_47 : decode cX3_left 47 = .ok (.if_icmp .ne 18, 3) := by decide +kernel
theorem dX3_left_50 : decode cX3_left 50 = .ok (.iload_n 3, 1) := by decide +kernel
theorem dX3_left_51 : decode cX3_left 51 = .ok (.aload 7, 2) := by decide +kernel
theorem dX3_left_53 : decode cX3_left 53 = .ok (.invokestatic 34, 3) := by decide +kernel
theorem dX3_left_56 : decode cX3_left 56 = .ok (.aload_n 0, 1) := by decide +kernel
theorem dX3_left_57 : decode cX3_left 57 = .ok (.getfield 38, 3) := by decide +kernel
theorem dX3_left_60 : decode cX3_left 60 = .ok (.isub, 1) := by decide +kernel
theorem dX3_left_61 : decode cX3_left 61 = .ok (.invokestatic 28, 3) := by decide +kernel
theorem dX3_left_64 : decode cX3_left 64 = .ok (.istore_n 3, 1) := by decide +kernel
theorem dX3_left_65 : decode cX3_left 65 = .ok (.iinc 6 1, 3) := by decide +kernel
theorem dX3_left_68 : decode cX3_left 68 = .ok (.goto (-52), 3) := by decide +kernel
theorem dX3_left_71 : decode cX3_left 71 = .ok (.iload_n 3, 1) := by decide +kernel
theorem dX3_left_72 : decode cX3_left 72 = .ok (.ireturn, 1) := by decide +kernel
set_option maxRecDepth 20000 in
theorem ggX3_brought_X3_degrees : GoodIn wsX3_brought wsX3_degrees := goodIn_r _ [10, 2, 11, 4, 19, 20, 21, 22, 23] (by decide +kernel) (by decide +kernel)
set_option maxRecDepth 20000 in
theorem gX3_brought_X3_degrees : GoodIn wsX3_brought (wsV RX3 42 RX3 yX3_degrees wsX3_degrees) := goodIn_app (goodIn_of _ (by decide +kernel)) ggX3_brought_X3_degrees
set_option maxRecDepth 20000 in
theorem ggX3_brought_X3_length : GoodIn wsX3_brought wsX3_length := goodIn_r _ [15, 3, 19, 20, 21, 22, 23] (by decide +kernel) (by decide +kernel)
set_option maxRecDepth 20000 in
theorem gX3_brought_X3_length : GoodIn wsX3_brought (wsV RX3 46 RX3 yX3_length wsX3_length) := goodIn_app (goodIn_of _ (by decide +kernel)) ggX3_brought_X3_length
set_option maxRecDepth 20000 in
theorem ggX3_brought_X3_more : GoodIn wsX3_brought wsX3_more := goodIn_r _ [18, 1] (by decide +kernel) (by decide +kernel)
set_option maxRecDepth 20000 in
theorem gX3_brought_X3_more : GoodIn wsX3_brought (va_wsS RX3 50 yX3_more wsX3_more) := goodIn_app (goodIn_of _ (by decide +kernel)) ggX3_brought_X3_more
theorem dX3_brought_0 : decode cX3_brought 0 = .ok (.aload_n 0, 1) := by decide +kernel
theorem dX3_brought_1 : decode cX3_brought 1 = .ok (.invokevirtual 42, 3) := by decide +kernel
theorem dX3_brought_4 : decode cX3_brought 4 = .ok (.astore_n 2, 1) := by decide +kernel
theorem dX3_brought_5 : decode cX3_brought 5 = .ok (.iconst 0, 1) := by decide +kernel
theorem dX3_brought_6 : decode cX3_brought 6 = .ok (.anewarray 7, 3) := by decide +kernel
theorem dX3_brought_9 : decode cX3_brought 9 = .ok (.astore_n 3, 1) := by decide +kernel
theorem dX3_brought_10 : decode cX3_brought 10 = .ok (.iconst 0, 1) := by decide +kernel
theorem dX3_brought_11 : decode cX3_brought 11 = .ok (.istore 4, 2) := by decide +kernel
theorem dX3_brought_13 : decode cX3_brought 13 = .ok (.iload 4, 2) := by decide +kernel
theorem dX3_brought_15 : decode cX3_brought 15 = .ok (.aload_n 0, 1) := by decide +kernel
theorem dX3_brought_16 : decode cX3_brought 16 = .ok (.getfield 9, 3) := by decide +kernel
theorem dX3_brought_19 : decode cX3_brought 19 = .ok (.arraylength, 1) := by decide +kernel
theorem dX3_brought_20 : decode cX3_brought 20 = .ok (.if_icmp .ge 137, 3) := by decide +kernel
theorem dX3_brought_23 : decode cX3_brought 23 = .ok (.aload_n 2, 1) := by decide +kernel
