set_option maxRecDepth 20000 in
theorem ggX2_colourAfter_X0_colourOn : GoodIn wsX2_colourAfter wsX0_colourOn := goodIn_r _ [19, 20, 21, 22, 23, 18, 24, 39, 40] (by decide +kernel) (by decide +kernel)
set_option maxRecDepth 20000 in
theorem gX2_colourAfter_X0_colourOn : GoodIn wsX2_colourAfter (wsV RX2 189 RX0 yX0_colourOn wsX0_colourOn) := goodIn_app (goodIn_of _ (by decide +kernel)) ggX2_colourAfter_X0_colourOn
theorem dX2_colourAfter_0 : decode cX2_colourAfter 0 = .ok (.iconst 0, 1) := by decide +kernel
theorem dX2_colourAfter_1 : decode cX2_colourAfter 1 = .ok (.istore_n 3, 1) := by decide +kernel
theorem dX2_colourAfter_2 : decode cX2_colourAfter 2 = .ok (.iconst 0, 1) := by decide +kernel
theorem dX2_colourAfter_3 : decode cX2_colourAfter 3 = .ok (.istore 4, 2) := by decide +kernel
theorem dX2_colourAfter_5 : decode cX2_colourAfter 5 = .ok (.iload 4, 2) := by decide +kernel
theorem dX2_colourAfter_7 : decode cX2_colourAfter 7 = .ok (.aload_n 0, 1) := by decide +kernel
theorem dX2_colourAfter_8 : decode cX2_colourAfter 8 = .ok (.getfield 12, 3) := by decide +kernel
theorem dX2_colourAfter_11 : decode cX2_colourAfter 11 = .ok (.getfield 128, 3) := by decide +kernel
theorem dX2_colourAfter_14 : decode cX2_colourAfter 14 = .ok (.if_icmp .ge 52, 3) := by decide +kernel
theorem dX2_colourAfter_17 : decode cX2_colourAfter 17 = .ok (.aload_n 0, 1) := by decide +kernel
theorem dX2_colourAfter_18 : decode cX2_colourAfter 18 = .ok (.getfield 105, 3) := by decide +kernel
theorem dX2_colourAfter_21 : decode cX2_colourAfter 21 = .ok (.aload_n 0, 1) := by decide +kernel
theorem dX2_colourAfter_22 : decode cX2_colourAfter 22 = .ok (.getfield 27, 3) := by decide +kernel
theorem dX2_colourAfter_25 : decode cX2_colourAfter 25 = .ok (.iload 4, 2) := by decide +kernel
theorem dX2_colourAfter_27 : decode cX2_colourAfter 27 = .ok (.iaload, 1) := by decide +kernel
theorem dX2_colourAfter_28 : decode cX2_colourAfter 28 = .ok (.isub, 1) := by decide +kernel
theorem dX2_colourAfter_29 : decode cX2_colourAfter 29 = .ok (.iload_n 2, 1) := by decide +kernel
theorem dX2_colourAfter_30 : decode cX2_colourAfter 30 = .ok (.iadd, 1) := by decide +kernel
theorem dX2_colourAfter_31 : decode cX2_colourAfter 31 = .ok (.istore 5, 2) := by decide +kernel
theorem dX2_colourAfter_33 : decode cX2_colourAfter 33 = .ok (.iload_n 3, 1) := by decide +kernel
theorem dX2_colourAfter_34 : decode cX2_colourAfter 34 = .ok (.aload_n 0, 1) := by decide +kernel
theorem dX2_colourAfter_35 : decode cX2_colourAfter 35 = .ok (.getfield 19, 3) := by decide +kernel
theorem dX2_colourAfter_38 : decode cX2_colourAfter 38 = .ok (.iload 4, 2) := by decide +kernel
theorem dX2_colourAfter_40 : decode cX2_colourAfter 40 = .ok (.aload_n 0, 1) := by decide +kernel
theorem dX2_colourAfter_41 : decode cX2_colourAfter 41 = .ok (.getfield 23, 3) := by decide +kernel
theorem dX2_colourAfter_44 : decode cX2_colourAfter 44 = .ok (.iload_n 1, 1) := by decide +kernel
theorem dX2_colourAfter_45 : decode cX2_colourAfter 45 = .ok (.iload 4, 2) := by decide +kernel
theorem dX2_colourAfter_47 : decode cX2_colourAfter 47 = .ok (.invokestatic 123, 3) := by decide +kernel
theorem dX2_colourAfter_50 : decode cX2_colourAfter 50 = .ok (.iaload, 1) := by decide +kernel
theorem dX2_colourAfter_51 : decode cX2_colourAfter 51 = .ok (.iload 5, 2) := by decide +kernel
theorem dX2_colourAfter_53 : decode cX2_colourAfter 53 = .ok (.invokevirtual 189, 3) := by decide +kernel
theorem dX2_colourAfter_56 : decode cX2_colourAfter 56 = .ok (.invokestatic 181, 3) := by decide +kernel
theorem dX2_colourAfter_59 : decode cX2_colourAfter 59 = .ok (.istore_n 3, 1) := by decide +kernel
theorem dX2_colourAfter_60 : decode cX2_colourAfter 60 = .ok (.iinc 4 1, 3) := by decide +kernel
theorem dX2_colourAfter_63 : decode cX2_colourAfter 63 = .ok (.goto (-58), 3) := by decide +kernel
theorem dX2_colourAfter_66 : decode cX2_colourAfter 66 = .ok (.iload_n 3, 1) := by decide +kernel
theorem dX2_colourAfter_67 : decode cX2_colourAfter 67 = .ok (.ireturn, 1) := by decide +kernel
set_option maxRecDepth 20000 in
theorem ggX2_countWearing_X2_colourAfter : GoodIn wsX2_countWearing wsX2_colourAfter := goodIn_r _ [8, 1, 2, 9, 10, 11, 12, 13, 14, 15, 16, 17, 18, 7, 19, 20, 21, 22, 23, 24, 25, 26, 27, 28, 29, 30, 31, 32, 33, 34, 35, 36, 37, 38, 39, 40, 41, 42, 43, 44, 45] (by decide +kernel) (by decide +kernel)
set_option maxRecDepth 20000 in
theorem gX2_countWearing_X2_colourAfter : GoodIn wsX2_countWearing (wsV RX2 159 RX2 yX2_colourAfter wsX2_colourAfter) := goodIn_app (goodIn_of _ (by decide +kernel)) ggX2_countWearing_X2_colourAfter
theorem dX2_countWearing_0 : decode cX2_countWearing 0 = .ok (.iconst 0, 1) := by decide +kernel
theorem dX2_countWearing_1 : decode cX2_countWearing 1 = .ok (.istore_n 2, 1) := by decide +kernel
theorem dX2_countWearing_2 : decode cX2_countWearing 2 = .ok (.iconst 0, 1) := by decide +kernel
theorem dX2_countWearing_3 : decode cX2_countWearing 3 = .ok (.istore_n 3, 1) := by decide +kernel
theorem dX2_countWearing_4 : decode cX2_countWearing 4 = .ok (.iload_n 3, 1) := by decide +kernel
theorem dX2_countWearing_5 : decode cX2_countWearing 5 = .ok (.aload_n 0, 1) := by decide +kernel
theorem dX2_countWearing_6 : decode cX2_countWearing 6 = .ok (.getfield 12, 3) := by decide +kernel
theorem dX2_countWearing_9 : decode cX2_countWearing 9 = .ok (.getfield 128, 3) := by decide +kernel
theorem dX2_countWearing_12 : decode cX2_countWearing 12 = .ok (.if_icmp .ge 34, 3) := by decide +kernel
theorem dX2_countWearing_15 : decode cX2_countWearing 15 = .ok (.aload_n 0, 1) := by decide +kernel
theorem dX2_countWearing_16 : decode cX2_countWearing 16 = .ok (.getfield 12, 3) := by decide +kernel
theorem dX2_countWearing_19 : decode cX2_countWearing 19 = .ok (.getfield 101, 3) := by decide +kernel
theorem dX2_countWearing_22 : decode cX2_countWearing 22 = .ok (.iload_n 3, 1) := by decide +kernel
theorem dX2_countWearing_23 : decode cX2_countWearing 23 = .ok (.baload, 1) := by decide +kernel
theorem dX2_countWearing_24 : decode cX2_countWearing 24 = .ok (.ifCond .eq 16, 3) := by decide +kernel
theorem dX2_countWearing_27 : decode cX2_countWearing 27 = .ok (.aload_n 0, 1) := by decide +kernel
theorem dX2_countWearing_28 : decode cX2_countWearing 28 = .ok (.iload_n 3, 1) := by decide +kernel
theorem dX2_countWearing_29 : decode cX2_countWearing 29 = .ok (.iconst 0, 1) := by decide +kernel
theorem dX2_countWearing_30 : decode cX2_countWearing 30 = .ok (.invokevirtual 159, 3) := by decide +kernel
theorem dX2_countWearing_33 : decode cX2_countWearing 33 = .ok (.iload_n 1, 1) := by decide +kernel
theorem dX2_countWearing_34 : decode cX2_countWearing 34 = .ok (.if_icmp .ne 6, 3) := by decide +kernel
theorem dX2_countWearing_37 : decode cX2_countWearing 37 = .ok (.iinc 2 1, 3) := by decide +kernel
theorem dX2_countWearing_40 : decode cX2_countWearing 40 = .ok (.iinc 3 1, 3) := by decide +kernel
theorem dX2_countWearing_43 : decode cX2_countWearing 43 = .ok (.goto (-39), 3) := by decide +kernel
theorem dX2_countWearing_46 : decode cX2_countWearing 46 = .ok (.iload_n 2, 1) := by decide +kernel
theorem dX2_countWearing_47 : decode cX2_countWearing 47 = .ok (.ireturn, 1) := by decide +kernel
set_option maxRecDepth 20000 in
theorem ggX2_paintAhead_J7_fill_53178 : GoodIn wsX2_paintAhead wsJ7_fill_53178 := goodIn_r _ [18] (by decide +kernel) (by decide +kernel)
set_option maxRecDepth 20000 in
theorem gX2_paintAhead_J7_fill_53178 : GoodIn wsX2_paintAhead (va_wsS RX2 192 yJ7_fill_53178 wsJ7_fill_53178) := goodIn_app (goodIn_of _ (by decide +kernel)) ggX2_paintAhead_J7_fill_53178
set_option maxRecDepth 20000 in
theorem ggX2_paintAhead_X2_pair : GoodIn wsX2_paintAhead wsX2_pair := goodIn_r _ [22] (by decide +kernel) (by decide +kernel)
set_option maxRecDepth 20000 in
theorem gX2_paintAhead_X2_pair : GoodIn wsX2_paintAhead (va_wsS RX2 123 yX2_pair wsX2_pair) := goodIn_app (goodIn_of _ (by decide +kernel)) ggX2_paintAhead_X2_pair
set_option maxRecDepth 20000 in
theorem ggX2_paintAhead_X2_leftFor : GoodIn wsX2_paintAhead wsX2_leftFor := goodIn_r _ [26, 11, 4, 5, 6, 12, 13, 9, 14, 19, 20, 21, 22, 27, 28, 29, 30, 31, 32, 33, 34, 35, 41, 42, 43, 44, 45, 46, 47, 48, 49, 55, 56] (by decide +kernel) (by decide +kernel)
set_option maxRecDepth 20000 in
theorem gX2_paintAhead_X2_leftFor : GoodIn wsX2_paintAhead (wsV RX2 118 RX2 yX2_leftFor wsX2_leftFor) := goodIn_app (goodIn_of _ (by decide +kernel)) ggX2_paintAhead_X2_leftFor
set_option maxRecDepth 20000 in
theorem ggX2_paintAhead_X0_colourOn : GoodIn wsX2_paintAhead wsX0_colourOn := goodIn_r _ [39, 32, 40, 33, 34, 30, 35, 55, 56] (by decide +kernel) (by decide +kernel)
set_option maxRecDepth 20000 in
theorem gX2_paintAhead_X0_colourOn : GoodIn wsX2_paintAhead (wsV RX2 189 RX0 yX0_colourOn wsX0_colourOn) := goodIn_app (goodIn_of _ (by decide +kernel)) ggX2_paintAhead_X0_colourOn
theorem dX2_paintAhead_0 : decode cX2_paintAhead 0 = .ok (.aload_n 0, 1) := by decide +kernel
theorem dX2_paintAhead_1 : decode cX2_paintAhead 1 = .ok (.getfield 30, 3) := by decide +kernel
theorem dX2_paintAhead_4 : decode cX2_paintAhead 4 = .ok (.iconst 0, 1) := by decide +kernel
theorem dX2_paintAhead_5 : decode cX2_paintAhead 5 = .ok (.invokestatic 192, 3) := by decide +kernel
theorem dX2_paintAhead_8 : decode cX2_paintAhead 8 = .ok (.iconst 0, 1) := by decide +kernel
theorem dX2_paintAhead_9 : decode cX2_paintAhead 9 = .ok (.istore_n 2, 1) := by decide +kernel
theorem dX2_paintAhead_10 : decode cX2_paintAhead 10 = .ok (.iload_n 2, 1) := by decide +kernel
theorem dX2_paintAhead_11 : decode cX2_paintAhead 11 = .ok (.aload_n 0, 1) := by decide +kernel
theorem dX2_paintAhead_12 : decode cX2_paintAhead 12 = .ok (.getfield 12, 3) := by decide +kernel
theorem dX2_paintAhead_15 : decode cX2_paintAhead 15 = .ok (.getfield 128, 3) := by decide +kernel
theorem dX2_paintAhead_18 : decode cX2_paintAhead 18 = .ok (.if_icmp .ge 96, 3) := by decide +kernel
theorem dX2_paintAhead_21 : decode cX2_paintAhead 21 = .ok (.aload_n 0, 1) := by decide +kernel
theorem dX2_paintAhead_22 : decode cX2_paintAhead 22 = .ok (.getfield 23, 3) := by decide +kernel
theorem dX2_paintAhead_25 : decode cX2_paintAhead 25 = .ok (.iload_n 1, 1) := by decide +kernel
theorem dX2_paintAhead_26 : decode cX2_paintAhead 26 = .ok (.iload_n 2, 1) := by decide +kernel
theorem dX2_paintAhead_27 : decode cX2_paintAhead 27 = .ok (.invokestatic 123, 3) := by decide +kernel
theorem dX2_paintAhead_30 : decode cX2_paintAhead 30 = .ok (.iaload, 1) := by decide +kernel
theorem dX2_paintAhead_31 : decode cX2_paintAhead 31 = .ok (.istore_n 3, 1) := by decide +kernel
theorem dX2_paintAhead_32 : decode cX2_paintAhead 32 = .ok (.aload_n 0, 1) := by decide +kernel
theorem dX2_paintAhead_33 : decode cX2_paintAhead 33 = .ok (.getfield 105, 3) := by decide +kernel
theorem dX2_paintAhead_36 : decode cX2_paintAhead 36 = .ok (.aload_n 0, 1) := by decide +kernel
theorem dX2_paintAhead_37 : decode cX2_paintAhead 37 = .ok (.getfield 27, 3) := by decide +kernel
theorem dX2_paintAhead_40 : decode cX2_paintAhead 40 = .ok (.iload_n 2, 1) := by decide +kernel
theorem dX2_paintAhead_41 : decode cX2_paintAhead 41 = .ok (.iaload, 1) := by decide +kernel
theorem dX2_paintAhead_42 : decode cX2_paintAhead 42 = .ok (.isub, 1) := by decide +kernel
theorem dX2_paintAhead_43 : decode cX2_paintAhead 43 = .ok (.istore 4, 2) := by decide +kernel
theorem dX2_paintAhead_45 : decode cX2_paintAhead 45 = .ok (.aload_n 0, 1) := by decide +kernel
theorem dX2_paintAhead_46 : decode cX2_paintAhead 46 = .ok (.iload_n 1, 1) := by decide +kernel
theorem dX2_paintAhead_47 : decode cX2_paintAhead 47 = .ok (.iload_n 2, 1) := by decide +kernel
theorem dX2_paintAhead_48 : decode cX2_paintAhead 48 = .ok (.invokevirtual 118, 3) := by decide +kernel
theorem dX2_paintAhead_51 : decode cX2_paintAhead 51 = .ok (.aload_n 0, 1) := by decide +kernel
theorem dX2_paintAhead_52 : decode cX2_paintAhead 52 = .ok (.getfield 30, 3) := by decide +kernel
theorem dX2_paintAhead_55 : decode cX2_paintAhead 55 = .ok (.arraylength, 1) := by decide +kernel
theorem dX2_paintAhead_56 : decode cX2_paintAhead 56 = .ok (.invokestatic 274, 3) := by decide +kernel
theorem dX2_paintAhead_59 : decode cX2_paintAhead 59 = .ok (.istore 5, 2) := by decide +kernel
theorem dX2_paintAhead_61 : decode cX2_paintAhead 61 = .ok (.iconst 0, 1) := by decide +kernel
theorem dX2_paintAhead_62 : decode cX2_paintAhead 62 = .ok (.istore 6, 2) := by decide +kernel
theorem dX2_paintAhead_64 : decode cX2_paintAhead 64 = .ok (.iload 6, 2) := by decide +kernel
theorem dX2_paintAhead_66 : decode cX2_paintAhead 66 = .ok (.iload 5, 2) := by decide +kernel
theorem dX2_paintAhead_68 : decode cX2_paintAhead 68 = .ok (.if_icmp .ge 40, 3) := by decide +kernel
theorem dX2_paintAhead_71 : decode cX2_paintAhead 71 = .ok (.aload_n 0, 1) := by decide +kernel
theorem dX2_paintAhead_72 : decode cX2_paintAhead 72 = .ok (.getfield 30, 3) := by decide +kernel
theorem dX2_paintAhead_75 : decode cX2_paintAhead 75 = .ok (.iload 6, 2) := by decide +kernel
theorem dX2_paintAhead_77 : decode cX2_paintAhead 77 = .ok (.aload_n 0, 1) := by decide +kernel
theorem dX2_paintAhead_78 : decode cX2_paintAhead 78 = .ok (.getfield 30, 3) := by decide +kernel
theorem dX2_paintAhead_81 : decode cX2_paintAhead 81 = .ok (.iload 6, 2) := by decide +kernel
theorem dX2_paintAhead_83 : decode cX2_paintAhead 83 = .ok (.iaload, 1) := by decide +kernel
theorem dX2_paintAhead_84 : decode cX2_paintAhead 84 = .ok (.aload_n 0, 1) := by decide +kernel
theorem dX2_paintAhead_85 : decode cX2_paintAhead 85 = .ok (.getfield 19, 3) := by decide +kernel
theorem dX2_paintAhead_88 : decode cX2_paintAhead 88 = .ok (.iload_n 2, 1) := by decide +kernel
theorem dX2_paintAhead_89 : decode cX2_paintAhead 89 = .ok (.iload_n 3, 1) := by decide +kernel
theorem dX2_paintAhead_90 : decode cX2_paintAhead 90 = .ok (.iload 4, 2) := by decide +kernel
theorem dX2_paintAhead_92 : decode cX2_paintAhead 92 = .ok (.iload 6, 2) := by decide +kernel
theorem dX2_paintAhead_94 : decode cX2_paintAhead 94 = .ok (.iadd, 1) := by decide +kernel
theorem dX2_paintAhead_95 : decode cX2_paintAhead 95 = .ok (.invokevirtual 189, 3) := by decide +kernel
theorem dX2_paintAhead_98 : decode cX2_paintAhead 98 = .ok (.invokestatic 181, 3) := by decide +kernel
theorem dX2_paintAhead_101 : decode cX2_paintAhead 101 = .ok (.iastore, 1) := by decide +kernel
theorem dX2_paintAhead_102 : decode cX2_paintAhead 102 = .ok (.iinc 6 1, 3) := by decide +kernel
theorem dX2_paintAhead_105 : decode cX2_paintAhead 105 = .ok (.goto (-41), 3) := by decide +kernel
theorem dX2_paintAhead_108 : decode cX2_paintAhead 108 = .ok (.iinc 2 1, 3) := by decide +kernel
theorem dX2_paintAhead_111 : decode cX2_paintAhead 111 = .ok (.goto (-101), 3) := by decide +kernel
theorem dX2_paintAhead_114 : decode cX2_paintAhead 114 = .ok (.return_, 1) := by decide +kernel
theorem dX2_wornAhead_0 : decode cX2_wornAhead 0 = .ok (.iconst 0, 1) := by decide +kernel
theorem dX2_wornAhead_1 : decode cX2_wornAhead 1 = .ok (.istore_n 2, 1) := by decide +kernel
theorem dX2_wornAhead_2 : decode cX2_wornAhead 2 = .ok (.iconst 0, 1) := by decide +kernel
theorem dX2_wornAhead_3 : decode cX2_wornAhead 3 = .ok (.istore_n 3, 1) := by decide +kernel
theorem dX2_wornAhead_4 : decode cX2_wornAhead 4 = .ok (.iload_n 3, 1) := by decide +kernel
theorem dX2_wornAhead_5 : decode cX2_wornAhead 5 = .ok (.iload_n 1, 1) := by decide +kernel
theorem dX2_wornAhead_6 : decode cX2_wornAhead 6 = .ok (.if_icmp .ge 30, 3) := by decide +kernel
theorem dX2_wornAhead_9 : decode cX2_wornAhead 9 = .ok (.iload_n 3, 1) := by decide +kernel
theorem dX2_wornAhead_10 : decode cX2_wornAhead 10 = .ok (.aload_n 0, 1) := by decide +kernel
theorem dX2_wornAhead_11 : decode cX2_wornAhead 11 = .ok (.getfield 30, 3) := by decide +kernel
theorem dX2_wornAhead_14 : decode cX2_wornAhead 14 = .ok (.arraylength, 1) := by decide +kernel
theorem dX2_wornAhead_15 : decode cX2_wornAhead 15 = .ok (.if_icmp .ge 21, 3) := by decide +kernel
theorem dX2_wornAhead_18 : decode cX2_wornAhead 18 = .ok (.aload_n 0, 1) := by decide +kernel
theorem dX2_wornAhead_19 : decode cX2_wornAhead 19 = .ok (.getfield 30, 3) := by decide +kernel
theorem dX2_wornAhead_22 : decode cX2_wornAhead 22 = .ok (.iload_n 3, 1) := by decide +kernel
theorem dX2_wornAhead_23 : decode cX2_wornAhead 23 = .ok (.iaload, 1) := by decide +kernel
theorem dX2_wornAhead_24 : decode cX2_wornAhead 24 = .ok (.ifCond .eq 6, 3) := by decide +kernel
theorem dX2_wornAhead_27 : decode cX2_wornAhead 27 = .ok (.iinc 2 1, 3) := by decide +kernel
theorem dX2_wornAhead_30 : decode cX2_wornAhead 30 = .ok (.iinc 3 1, 3) := by decide +kernel
theorem dX2_wornAhead_33 : decode cX2_wornAhead 33 = .ok (.goto (-29), 3) := by decide +kernel
theorem dX2_wornAhead_36 : decode cX2_wornAhead 36 = .ok (.iload_n 2, 1) := by decide +kernel
theorem dX2_wornAhead_37 : decode cX2_wornAhead 37 = .ok (.ireturn, 1) := by decide +kernel
theorem dX2_countAhead_0 : decode cX2_countAhead 0 = .ok (.iconst 0, 1) := by decide +kernel
theorem dX2_countAhead_1 : decode cX2_countAhead 1 = .ok (.istore_n 2, 1) := by decide +kernel
theorem dX2_countAhead_2 : decode cX2_countAhead 2 = .ok (.iconst 0, 1) := by decide +kernel
theorem dX2_countAhead_3 : decode cX2_countAhead 3 = .ok (.istore_n 3, 1) := by decide +kernel
theorem dX2_countAhead_4 : decode cX2_countAhead 4 = .ok (.iload_n 3, 1) := by decide +kernel
theorem dX2_countAhead_5 : decode cX2_countAhead 5 = .ok (.aload_n 0, 1) := by decide +kernel
theorem dX2_countAhead_6 : decode cX2_countAhead 6 = .ok (.getfield 30, 3) := by decide +kernel
theorem dX2_countAhead_9 : decode cX2_countAhead 9 = .ok (.arraylength, 1) := by decide +kernel
theorem dX2_countAhead_10 : decode cX2_countAhead 10 = .ok (.if_icmp .ge 22, 3) := by decide +kernel
theorem dX2_countAhead_13 : decode cX2_countAhead 13 = .ok (.aload_n 0, 1) := by decide +kernel
theorem dX2_countAhead_14 : decode cX2_countAhead 14 = .ok (.getfield 30, 3) := by decide +kernel
theorem dX2_countAhead_17 : decode cX2_countAhead 17 = .ok (.iload_n 3, 1) := by decide +kernel
theorem dX2_countAhead_18 : decode cX2_countAhead 18 = .ok (.iaload, 1) := by decide +kernel
theorem dX2_countAhead_19 : decode cX2_countAhead 19 = .ok (.iload_n 1, 1) := by decide +kernel
theorem dX2_countAhead_20 : decode cX2_countAhead 20 = .ok (.if_icmp .ne 6, 3) := by decide +kernel
theorem dX2_countAhead_23 : decode cX2_countAhead 23 = .ok (.iinc 2 1, 3) := by decide +kernel
theorem dX2_countAhead_26 : decode cX2_countAhead 26 = .ok (.iinc 3 1, 3) := by decide +kernel
theorem dX2_countAhead_29 : decode cX2_countAhead 29 = .ok (.goto (-25), 3) := by decide +kernel
theorem dX2_countAhead_32 : decode cX2_countAhead 32 = .ok (.iload_n 2, 1) := by decide +kernel
theorem dX2_countAhead_33 : decode cX2_countAhead 33 = .ok (.ireturn, 1) := by decide +kernel
theorem dX2_firstLighterDay_0 : decode cX2_firstLighterDay 0 = .ok (.aload_n 0, 1) := by decide +kernel
theorem dX2_firstLighterDay_1 : decode cX2_firstLighterDay 1 = .ok (.getfield 30, 3) := by decide +kernel
theorem dX2_firstLighterDay_4 : decode cX2_firstLighterDay 4 = .ok (.iconst 0, 1) := by decide +kernel
theorem dX2_firstLighterDay_5 : decode cX2_firstLighterDay 5 = .ok (.iaload, 1) := by decide +kernel
theorem dX2_firstLighterDay_6 : decode cX2_firstLighterDay 6 = .ok (.ifCond .ne 5, 3) := by decide +kernel
theorem dX2_firstLighterDay_9 : decode cX2_firstLighterDay 9 = .ok (.iconst (-1), 1) := by decide +kernel
theorem dX2_firstLighterDay_10 : decode cX2_firstLighterDay 10 = .ok (.ireturn, 1) := by decide +kernel
theorem dX2_firstLighterDay_11 : decode cX2_firstLighterDay 11 = .ok (.iconst 1, 1) := by decide +kernel
theorem dX2_firstLighterDay_12 : decode cX2_firstLighterDay 12 = .ok (.istore_n 1, 1) := by decide +kernel
theorem dX2_firstLighterDay_13 : decode cX2_firstLighterDay 13 = .ok (.iload_n 1, 1) := by decide +kernel
theorem dX2_firstLighterDay_14 : decode cX2_firstLighterDay 14 = .ok (.aload_n 0, 1) := by decide +kernel
theorem dX2_firstLighterDay_15 : decode cX2_firstLighterDay 15 = .ok (.getfield 30, 3) := by decide +kernel
theorem dX2_firstLighterDay_18 : decode cX2_firstLighterDay 18 = .ok (.arraylength, 1) := by decide +kernel
theorem dX2_firstLighterDay_19 : decode cX2_firstLighterDay 19 = .ok (.if_icmp .ge 26, 3) := by decide +kernel
theorem dX2_firstLighterDay_22 : decode cX2_firstLighterDay 22 = .ok (.aload_n 0, 1) := by decide +kernel
theorem dX2_firstLighterDay_23 : decode cX2_firstLighterDay 23 = .ok (.getfield 30, 3) := by decide +kernel
theorem dX2_firstLighterDay_26 : decode cX2_firstLighterDay 26 = .ok (.iload_n 1, 1) := by decide +kernel
theorem dX2_firstLighterDay_27 : decode cX2_firstLighterDay 27 = .ok (.iaload, 1) := by decide +kernel
theorem dX2_firstLighterDay_28 : decode cX2_firstLighterDay 28 = .ok (.aload_n 0, 1) := by decide +kernel
theorem dX2_firstLighterDay_29 : decode cX2_firstLighterDay 29 = .ok (.getfield 30, 3) := by decide +kernel
theorem dX2_firstLighterDay_32 : decode cX2_firstLighterDay 32 = .ok (.iconst 0, 1) := by decide +kernel
theorem dX2_firstLighterDay_33 : decode cX2_firstLighterDay 33 = .ok (.iaload, 1) := by decide +kernel
theorem dX2_firstLighterDay_34 : decode cX2_firstLighterDay 34 = .ok (.if_icmp .ge 5, 3) := by decide +kernel
theorem dX2_firstLighterDay_37 : decode cX2_firstLighterDay 37 = .ok (.iload_n 1, 1) := by decide +kernel
theorem dX2_firstLighterDay_38 : decode cX2_firstLighterDay 38 = .ok (.ireturn, 1) := by decide +kernel
theorem dX2_firstLighterDay_39 : decode cX2_firstLighterDay 39 = .ok (.iinc 1 1, 3) := by decide +kernel
theorem dX2_firstLighterDay_42 : decode cX2_firstLighterDay 42 = .ok (.goto (-29), 3) := by decide +kernel
theorem dX2_firstLighterDay_45 : decode cX2_firstLighterDay 45 = .ok (.aload_n 0, 1) := by decide +kernel
theorem dX2_firstLighterDay_46 : decode cX2_firstLighterDay 46 = .ok (.getfield 30, 3) := by decide +kernel
theorem dX2_firstLighterDay_49 : decode cX2_firstLighterDay 49 = .ok (.arraylength, 1) := by decide +kernel
theorem dX2_firstLighterDay_50 : decode cX2_firstLighterDay 50 = .ok (.ireturn, 1) := by decide +kernel
set_option maxRecDepth 20000 in
theorem ggX2_addLossesOf_X2_paintAhead : GoodIn wsX2_addLossesOf wsX2_paintAhead := goodIn_r _ [10, 11, 2, 3, 12, 13, 14, 15, 16, 17, 18, 19, 20, 21, 22, 23, 24, 25, 26, 27, 28, 9, 29, 30, 31, 32, 33, 34, 35, 36, 37, 38, 39, 40, 41, 42, 43, 44, 45, 46, 47, 70, 71, 72, 73, 74, 75, 76, 77, 78, 79, 80, 81, 82, 83, 84, 85] (by decide +kernel) (by decide +kernel)
set_option maxRecDepth 20000 in
theorem gX2_addLossesOf_X2_paintAhead : GoodIn wsX2_addLossesOf (wsV RX2 131 RX2 yX2_paintAhead wsX2_paintAhead) := goodIn_app (goodIn_of _ (by decide +kernel)) ggX2_addLossesOf_X2_paintAhead
set_option maxRecDepth 20000 in
theorem ggX2_addLossesOf_X2_wornAheadWith : GoodIn wsX2_addLossesOf wsX2_wornAheadWith := goodIn_r _ [51, 11, 19, 43, 44, 45, 37, 46, 39, 47, 40, 41, 42, 70, 71, 72, 73, 74, 75, 76, 77, 78, 84, 85] (by decide +kernel) (by decide +kernel)
set_option maxRecDepth 20000 in
theorem gX2_addLossesOf_X2_wornAheadWith : GoodIn wsX2_addLossesOf (wsV RX2 277 RX2 yX2_wornAheadWith wsX2_wornAheadWith) := goodIn_app (goodIn_of _ (by decide +kernel)) ggX2_addLossesOf_X2_wornAheadWith
set_option maxRecDepth 20000 in
theorem ggX2_addLossesOf_X1_findDegrees : GoodIn wsX2_addLossesOf wsX1_findDegrees := goodIn_r _ [56, 57, 58, 59, 24, 25, 26, 60, 61, 62, 55, 63, 64, 65, 66, 67, 68, 69, 79, 80, 81, 82, 83] (by decide +kernel) (by decide +kernel)
set_option maxRecDepth 20000 in
theorem gX2_addLossesOf_X1_findDegrees : GoodIn wsX2_addLossesOf (wsV RX2 68 RX1 yX1_findDegrees wsX1_findDegrees) := goodIn_app (goodIn_of _ (by decide +kernel)) ggX2_addLossesOf_X1_findDegrees
theorem dX2_addLossesOf_0 : decode cX2_addLossesOf 0 = .ok (.aload_n 0, 1) := by decide +kernel
theorem dX2_addLossesOf_1 : decode cX2_addLossesOf 1 = .ok (.iload_n 1, 1) := by decide +kernel
theorem dX2_addLossesOf_2 : decode cX2_addLossesOf 2 = .ok (.invokevirtual 131, 3) := by decide +kernel
theorem dX2_addLossesOf_5 : decode cX2_addLossesOf 5 = .ok (.iconst 0, 1) := by decide +kernel
theorem dX2_addLossesOf_6 : decode cX2_addLossesOf 6 = .ok (.istore_n 2, 1) := by decide +kernel
theorem dX2_addLossesOf_7 : decode cX2_addLossesOf 7 = .ok (.iload_n 2, 1) := by decide +kernel
theorem dX2_addLossesOf_8 : decode cX2_addLossesOf 8 = .ok (.aload_n 0, 1) := by decide +kernel
theorem dX2_addLossesOf_9 : decode cX2_addLossesOf 9 = .ok (.getfield 33, 3) := by decide +kernel
theorem dX2_addLossesOf_12 : decode cX2_addLossesOf 12 = .ok (.arraylength, 1) := by decide +kernel
theorem dX2_addLossesOf_13 : decode cX2_addLossesOf 13 = .ok (.if_icmp .ge 20, 3) := by decide +kernel
theorem dX2_addLossesOf_16 : decode cX2_addLossesOf 16 = .ok (.aload_n 0, 1) := by decide +kernel
theorem dX2_addLossesOf_17 : decode cX2_addLossesOf 17 = .ok (.getfield 33, 3) := by decide +kernel
theorem dX2_addLossesOf_20 : decode cX2_addLossesOf 20 = .ok (.iload_n 2, 1) := by decide +kernel
theorem dX2_addLossesOf_21 : decode cX2_addLossesOf 21 = .ok (.aload_n 0, 1) := by decide +kernel
theorem dX2_addLossesOf_22 : decode cX2_addLossesOf 22 = .ok (.iload_n 2, 1) := by decide +kernel
theorem dX2_addLossesOf_23 : decode cX2_addLossesOf 23 = .ok (.invokevirtual 277, 3) := by decide +kernel
theorem dX2_addLossesOf_26 : decode cX2_addLossesOf 26 = .ok (.iastore, 1) := by decide +kernel
theorem dX2_addLossesOf_27 : decode cX2_addLossesOf 27 = .ok (.iinc 2 1, 3) := by decide +kernel
theorem dX2_addLossesOf_30 : decode cX2_addLossesOf 30 = .ok (.goto (-23), 3) := by decide +kernel
theorem dX2_addLossesOf_33 : decode cX2_addLossesOf 33 = .ok (.aload_n 0, 1) := by decide +kernel
theorem dX2_addLossesOf_34 : decode cX2_addLossesOf 34 = .ok (.getfield 12, 3) := by decide +kernel
theorem dX2_addLossesOf_37 : decode cX2_addLossesOf 37 = .ok (.iload_n 1, 1) := by decide +kernel
theorem dX2_addLossesOf_38 : decode cX2_addLossesOf 38 = .ok (.invokevirtual 68, 3) := by decide +kernel
theorem dX2_addLossesOf_41 : decode cX2_addLossesOf 41 = .ok (.iconst 0, 1) := by decide +kernel
theorem dX2_addLossesOf_42 : decode cX2_addLossesOf 42 = .ok (.istore_n 2, 1) := by decide +kernel
theorem dX2_addLossesOf_43 : decode cX2_addLossesOf 43 = .ok (.iload_n 2, 1) := by decide +kernel
theorem dX2_addLossesOf_44 : decode cX2_addLossesOf 44 = .ok (.aload_n 0, 1) := by decide +kernel
theorem dX2_addLossesOf_45 : decode cX2_addLossesOf 45 = .ok (.getfield 12, 3) := by decide +kernel
theorem dX2_addLossesOf_48 : decode cX2_addLossesOf 48 = .ok (.getfield 128, 3) := by decide +kernel
theorem dX2_addLossesOf_51 : decode cX2_addLossesOf 51 = .ok (.if_icmp .ge 37, 3) := by decide +kernel
theorem dX2_addLossesOf_54 : decode cX2_addLossesOf 54 = .ok (.iload_n 2, 1) := by decide +kernel
theorem dX2_addLossesOf_55 : decode cX2_addLossesOf 55 = .ok (.iload_n 1, 1) := by decide +kernel
theorem dX2_addLossesOf_56 : decode cX2_addLossesOf 56 = .ok (.if_icmp .eq 26, 3) := by decide +kernel
theorem dX2_addLossesOf_59 : decode cX2_addLossesOf 59 = .ok (.aload_n 0, 1) := by decide +kernel
theorem dX2_addLossesOf_60 : decode cX2_addLossesOf 60 = .ok (.getfield 36, 3) := by decide +kernel
theorem dX2_addLossesOf_63 : decode cX2_addLossesOf 63 = .ok (.iload_n 2, 1) := by decide +kernel
theorem dX2_addLossesOf_64 : decode cX2_addLossesOf 64 = .ok (.dup2, 1) := by decide +kernel
theorem dX2_addLossesOf_65 : decode cX2_addLossesOf 65 = .ok (.iaload, 1) := by decide +kernel
theorem dX2_addLossesOf_66 : decode cX2_addLossesOf 66 = .ok (.aload_n 0, 1) := by decide +kernel
theorem dX2_addLossesOf_67 : decode cX2_addLossesOf 67 = .ok (.getfield 33, 3) := by decide +kernel
theorem dX2_addLossesOf_70 : decode cX2_addLossesOf 70 = .ok (.aload_n 0, 1) := by decide +kernel
theorem dX2_addLossesOf_71 : decode cX2_addLossesOf 71 = .ok (.getfield 12, 3) := by decide +kernel
theorem dX2_addLossesOf_74 : decode cX2_addLossesOf 74 = .ok (.getfield 71, 3) := by decide +kernel
theorem dX2_addLossesOf_77 : decode cX2_addLossesOf 77 = .ok (.iload_n 2, 1) := by decide +kernel
theorem dX2_addLossesOf_78 : decode cX2_addLossesOf 78 = .ok (.iaload, 1) := by decide +kernel
theorem dX2_addLossesOf_79 : decode cX2_addLossesOf 79 = .ok (.iaload, 1) := by decide +kernel
theorem dX2_addLossesOf_80 : decode cX2_addLossesOf 80 = .ok (.iadd, 1) := by decide +kernel
theorem dX2_addLossesOf_81 : decode cX2_addLossesOf 81 = .ok (.iastore, 1) := by decide +kernel
theorem dX2_addLossesOf_82 : decode cX2_addLossesOf 82 = .ok (.iinc 2 1, 3) := by decide +kernel
theorem dX2_addLossesOf_85 : decode cX2_addLossesOf 85 = .ok (.goto (-42), 3) := by decide +kernel
theorem dX2_addLossesOf_88 : decode cX2_addLossesOf 88 = .ok (.return_, 1) := by decide +kernel
set_option maxRecDepth 20000 in
theorem ggX2_wornAheadWith_X0_colourOn : GoodIn wsX2_wornAheadWith wsX0_colourOn := goodIn_r _ [7, 8, 9, 10, 11, 6, 12, 22, 23] (by decide +kernel) (by decide +kernel)
set_option maxRecDepth 20000 in
theorem gX2_wornAheadWith_X0_colourOn : GoodIn wsX2_wornAheadWith (wsV RX2 189 RX0 yX0_colourOn wsX0_colourOn) := goodIn_app (goodIn_of _ (by decide +kernel)) ggX2_wornAheadWith_X0_colourOn
theorem dX2_wornAheadWith_0 : decode cX2_wornAheadWith 0 = .ok (.iconst 0, 1) := by decide +kernel
theorem dX2_wornAheadWith_1 : decode cX2_wornAheadWith 1 = .ok (.istore_n 2, 1) := by decide +kernel
theorem dX2_wornAheadWith_2 : decode cX2_wornAheadWith 2 = .ok (.iconst 0, 1) := by decide +kernel
theorem dX2_wornAheadWith_3 : decode cX2_wornAheadWith 3 = .ok (.istore_n 3, 1) := by decide +kernel
theorem dX2_wornAheadWith_4 : decode cX2_wornAheadWith 4 = .ok (.iload_n 3, 1) := by decide +kernel
theorem dX2_wornAheadWith_5 : decode cX2_wornAheadWith 5 = .ok (.aload_n 0, 1) := by decide +kernel
theorem dX2_wornAheadWith_6 : decode cX2_wornAheadWith 6 = .ok (.getfield 30, 3) := by decide +kernel
theorem dX2_wornAheadWith_9 : decode cX2_wornAheadWith 9 = .ok (.arraylength, 1) := by decide +kernel
theorem dX2_wornAheadWith_10 : decode cX2_wornAheadWith 10 = .ok (.if_icmp .ge 35, 3) := by decide +kernel
theorem dX2_wornAheadWith_13 : decode cX2_wornAheadWith 13 = .ok (.aload_n 0, 1) := by decide +kernel
theorem dX2_wornAheadWith_14 : decode cX2_wornAheadWith 14 = .ok (.getfield 30, 3) := by decide +kernel
theorem dX2_wornAheadWith_17 : decode cX2_wornAheadWith 17 = .ok (.iload_n 3, 1) := by decide +kernel
theorem dX2_wornAheadWith_18 : decode cX2_wornAheadWith 18 = .ok (.iaload, 1) := by decide +kernel
theorem dX2_wornAheadWith_19 : decode cX2_wornAheadWith 19 = .ok (.ifCond .ne 17, 3) := by decide +kernel
theorem dX2_wornAheadWith_22 : decode cX2_wornAheadWith 22 = .ok (.aload_n 0, 1) := by decide +kernel
theorem dX2_wornAheadWith_23 : decode cX2_wornAheadWith 23 = .ok (.getfield 19, 3) := by decide +kernel
theorem dX2_wornAheadWith_26 : decode cX2_wornAheadWith 26 = .ok (.bipush 16, 2) := by decide +kernel
theorem dX2_wornAheadWith_28 : decode cX2_wornAheadWith 28 = .ok (.iload_n 1, 1) := by decide +kernel
theorem dX2_wornAheadWith_29 : decode cX2_wornAheadWith 29 = .ok (.iload_n 3, 1) := by decide +kernel
theorem dX2_wornAheadWith_30 : decode cX2_wornAheadWith 30 = .ok (.invokevirtual 189, 3) := by decide +kernel
theorem dX2_wornAheadWith_33 : decode cX2_wornAheadWith 33 = .ok (.ifCond .eq 6, 3) := by decide +kernel
theorem dX2_wornAheadWith_36 : decode cX2_wornAheadWith 36 = .ok (.iinc 2 1, 3) := by decide +kernel
theorem dX2_wornAheadWith_39 : decode cX2_wornAheadWith 39 = .ok (.iinc 3 1, 3) := by decide +kernel
theorem dX2_wornAheadWith_42 : decode cX2_wornAheadWith 42 = .ok (.goto (-38), 3) := by decide +kernel
theorem dX2_wornAheadWith_45 : decode cX2_wornAheadWith 45 = .ok (.iload_n 2, 1) := by decide +kernel
theorem dX2_wornAheadWith_46 : decode cX2_wornAheadWith 46 = .ok (.ireturn, 1) := by decide +kernel
theorem dX3_init_0 : decode cX3_init 0 = .ok (.aload_n 0, 1) := by decide +kernel
theorem dX3_init_1 : decode cX3_init 1 = .ok (.invokespecial 1, 3) := by decide +kernel
theorem dX3_init_4 : decode cX3_init 4 = .ok (.aload_n 0, 1) := by decide +kernel
theorem dX3_init_5 : decode cX3_init 5 = .ok (.bipush 16, 2) := by decide +kernel
theorem dX3_init_7 : decode cX3_init 7 = .ok (.newarray .int, 2) := by decide +kernel
theorem dX3_init_9 : decode cX3_init 9 = .ok (.putfield 9, 3) := by decide +kernel
theorem dX3_init_12 : decode cX3_init 12 = .ok (.aload_n 0, 1) := by decide +kernel
theorem dX3_init_13 : decode cX3_init 13 = .ok (.bipush 16, 2) := by decide +kernel
theorem dX3_init_15 : decode cX3_init 15 = .ok (.newarray .int, 2) := by decide +kernel
theorem dX3_init_17 : decode cX3_init 17 = .ok (.putfield 13, 3) := by decide +kernel
theorem dX3_init_20 : decode cX3_init 20 = .ok (.aload_n 0, 1) := by decide +kernel
theorem dX3_init_21 : decode cX3_init 21 = .ok (.bipush 16, 2) := by decide +kernel
theorem dX3_init_23 : decode cX3_init 23 = .ok (.newarray .boolean, 2) := by decide +kernel
theorem dX3_init_25 : decode cX3_init 25 = .ok (.putfield 16, 3) := by decide +kernel
theorem dX3_init_28 : decode cX3_init 28 = .ok (.aload_n 0, 1) := by decide +kernel
theorem dX3_init_29 : decode cX3_init 29 = .ok (.bipush 12, 2) := by decide +kernel
theorem dX3_init_31 : decode cX3_init 31 = .ok (.newarray .int, 2) := by decide +kernel
theorem dX3_init_33 : decode cX3_init 33 = .ok (.putfield 20, 3) := by decide +kernel
theorem dX3_init_36 : decode cX3_init 36 = .ok (.aload_n 0, 1) := by decide +kernel
theorem dX3_init_37 : decode cX3_init 37 = .ok (.bipush 12, 2) := by decide +kernel
theorem dX3_init_39 : decode cX3_init 39 = .ok (.newarray .int, 2) := by decide +kernel
theorem dX3_init_41 : decode cX3_init 41 = .ok (.putfield 23, 3) := by decide +kernel
theorem dX3_init_44 : decode cX3_init 44 = .ok (.aload_n 0, 1) := by decide +kernel
theorem dX3_init_45 : decode cX3_init 45 = .ok (.sipush 1792, 3) := by decide +kernel
theorem dX3_init_48 : decode cX3_init 48 = .ok (.newarray .int, 2) := by decide +kernel
theorem dX3_init_50 : decode cX3_init 50 = .ok (.putfield 26, 3) := by decide +kernel
theorem dX3_init_53 : decode cX3_init 53 = .ok (.aload_n 0, 1) := by decide +kernel
theorem dX3_init_54 : decode cX3_init 54 = .ok (.bipush 16, 2) := by decide +kernel
theorem dX3_init_56 : decode cX3_init 56 = .ok (.newarray .int, 2) := by decide +kernel
theorem dX3_init_58 : decode cX3_init 58 = .ok (.putfield 29, 3) := by decide +kernel
theorem dX3_init_61 : decode cX3_init 61 = .ok (.aload_n 0, 1) := by decide +kernel
theorem dX3_init_62 : decode cX3_init 62 = .ok (.bipush 7, 2) := by decide +kernel
theorem dX3_init_64 : decode cX3_init 64 = .ok (.newarray .int, 2) := by decide +kernel
theorem dX3_init_66 : decode cX3_init 66 = .ok (.putfield 32, 3) := by decide +kernel
theorem dX3_init_69 : decode cX3_init 69 = .ok (.iconst 0, 1) := by decide +kernel
theorem dX3_init_70 : decode cX3_init 70 = .ok (.istore_n 1, 1) := by decide +kernel
theorem dX3_init_71 : decode cX3_init 71 = .ok (.iload_n 1, 1) := by decide +kernel
theorem dX3_init_72 : decode cX3_init 72 = .ok (.aload_n 0, 1) := by decide +kernel
theorem dX3_init_73 : decode cX3_init 73 = .ok (.getfield 26, 3) := by decide +kernel
theorem dX3_init_76 : decode cX3_init 76 = .ok (.arraylength, 1) := by decide +kernel
theorem dX3_init_77 : decode cX3_init 77 = .ok (.if_icmp .ge 16, 3) := by decide +kernel
theorem dX3_init_80 : decode cX3_init 80 = .ok (.aload_n 0, 1) := by decide +kernel
theorem dX3_init_81 : decode cX3_init 81 = .ok (.getfield 26, 3) := by decide +kernel
theorem dX3_init_84 : decode cX3_init 84 = .ok (.iload_n 1, 1) := by decide +kernel
theorem dX3_init_85 : decode cX3_init 85 = .ok (.iconst (-1), 1) := by decide +kernel
theorem dX3_init_86 : decode cX3_init 86 = .ok (.iastore, 1) := by decide +kernel
theorem dX3_init_87 : decode cX3_init 87 = .ok (.iinc 1 7, 3) := by decide +kernel
theorem dX3_init_90 : decode cX3_init 90 = .ok (.goto (-19), 3) := by decide +kernel
theorem dX3_init_93 : decode cX3_init 93 = .ok (.return_, 1) := by decide +kernel
theorem dX3_thrown_0 : decode cX3_thrown 0 = .ok (.aload_n 0, 1) := by decide +kernel
theorem dX3_thrown_1 : decode cX3_thrown 1 = .ok (.getfield 35, 3) := by decide +kernel
theorem dX3_thrown_4 : decode cX3_thrown 4 = .ok (.ireturn, 1) := by decide +kernel
theorem dX3_no_0 : decode cX3_no 0 = .ok (.aload_n 0, 1) := by decide +kernel
theorem dX3_no_1 : decode cX3_no 1 = .ok (.iload_n 1, 1) := by decide +kernel
theorem dX3_no_2 : decode cX3_no 2 = .ok (.putfield 35, 3) := by decide +kernel
theorem dX3_no_5 : decode cX3_no 5 = .ok (.iconst 0, 1) := by decide +kernel
theorem dX3_no_6 : decode cX3_no 6 = .ok (.ireturn, 1) := by decide +kernel
theorem dX3_isNot_0 : decode cX3_isNot 0 = .ok (.aload_n 0, 1) := by decide +kernel
theorem dX3_isNot_1 : decode cX3_isNot 1 = .ok (.iload_n 1, 1) := by decide +kernel
theorem dX3_isNot_2 : decode cX3_isNot 2 = .ok (.putfield 35, 3) := by decide +kernel
theorem dX3_isNot_5 : decode cX3_isNot 5 = .ok (.iconst 0, 1) := by decide +kernel
theorem dX3_isNot_6 : decode cX3_isNot 6 = .ok (.ireturn, 1) := by decide +kernel
theorem dX3_isIn_0 : decode cX3_isIn 0 = .ok (.iload_n 0, 1) := by decide +kernel
theorem dX3_isIn_1 : decode cX3_isIn 1 = .ok (.iload_n 1, 1) := by decide +kernel
theorem dX3_isIn_2 : decode cX3_isIn 2 = .ok (.if_icmp .lt 12, 3) := by decide +kernel
theorem dX3_isIn_5 : decode cX3_isIn 5 = .ok (.iload_n 0, 1) := by decide +kernel
theorem dX3_isIn_6 : decode cX3_isIn 6 = .ok (.iload_n 2, 1) := by decide +kernel
theorem dX3_isIn_7 : decode cX3_isIn 7 = .ok (.if_icmp .gt 7, 3) := by decide +kernel
theorem dX3_isIn_10 : decode cX3_isIn 10 = .ok (.iconst 1, 1) := by decide +kernel
theorem dX3_isIn_11 : decode cX3_isIn 11 = .ok (.goto 4, 3) := by decide +kernel
theorem dX3_isIn_14 : decode cX3_isIn 14 = .ok (.iconst 0, 1) := by decide +kernel
theorem dX3_isIn_15 : decode cX3_isIn 15 = .ok (.ireturn, 1) := by decide +kernel
set_option maxRecDepth 20000 in
theorem ggX3_isPerson_X3_isIn : GoodIn wsX3_isPerson wsX3_isIn := goodIn_r _ [5] (by decide +kernel) (by decide +kernel)
set_option maxRecDepth 20000 in
theorem gX3_isPerson_X3_isIn : GoodIn wsX3_isPerson (va_wsS RX3 42 yX3_isIn wsX3_isIn) := goodIn_app (goodIn_of _ (by decide +kernel)) ggX3_isPerson_X3_isIn
theorem dX3_isPerson_0 : decode cX3_isPerson 0 = .ok (.iload_n 1, 1) := by decide +kernel
theorem dX3_isPerson_1 : decode cX3_isPerson 1 = .ok (.iconst 0, 1) := by decide +kernel
theorem dX3_isPerson_2 : decode cX3_isPerson 2 = .ok (.aload_n 0, 1) := by decide +kernel
theorem dX3_isPerson_3 : decode cX3_isPerson 3 = .ok (.getfield 39, 3) := by decide +kernel
theorem dX3_isPerson_6 : decode cX3_isPerson 6 = .ok (.iconst 1, 1) := by decide +kernel
theorem dX3_isPerson_7 : decode cX3_isPerson 7 = .ok (.isub, 1) := by decide +kernel
theorem dX3_isPerson_8 : decode cX3_isPerson 8 = .ok (.invokestatic 42, 3) := by decide +kernel
theorem dX3_isPerson_11 : decode cX3_isPerson 11 = .ok (.ireturn, 1) := by decide +kernel
set_option maxRecDepth 20000 in
theorem ggX3_isDegree_X3_isIn : GoodIn wsX3_isDegree wsX3_isIn := goodIn_r _ [4] (by decide +kernel) (by decide +kernel)
set_option maxRecDepth 20000 in
theorem gX3_isDegree_X3_isIn : GoodIn wsX3_isDegree (va_wsS RX3 42 yX3_isIn wsX3_isIn) := goodIn_app (goodIn_of _ (by decide +kernel)) ggX3_isDegree_X3_isIn
theorem dX3_isDegree_0 : decode cX3_isDegree 0 = .ok (.iload_n 0, 1) := by decide +kernel
theorem dX3_isDegree_1 : decode cX3_isDegree 1 = .ok (.iconst 1, 1) := by decide +kernel
theorem dX3_isDegree_2 : decode cX3_isDegree 2 = .ok (.iconst 4, 1) := by decide +kernel
theorem dX3_isDegree_3 : decode cX3_isDegree 3 = .ok (.invokestatic 42, 3) := by decide +kernel
theorem dX3_isDegree_6 : decode cX3_isDegree 6 = .ok (.ireturn, 1) := by decide +kernel
set_option maxRecDepth 20000 in
theorem ggX3_isStage_X3_isIn : GoodIn wsX3_isStage wsX3_isIn := goodIn_r _ [4] (by decide +kernel) (by decide +kernel)
set_option maxRecDepth 20000 in
theorem gX3_isStage_X3_isIn : GoodIn wsX3_isStage (va_wsS RX3 42 yX3_isIn wsX3_isIn) := goodIn_app (goodIn_of _ (by decide +kernel)) ggX3_isStage_X3_isIn
theorem dX3_isStage_0 : decode cX3_isStage 0 = .ok (.iload_n 0, 1) := by decide +kernel
theorem dX3_isStage_1 : decode cX3_isStage 1 = .ok (.iconst 0, 1) := by decide +kernel
theorem dX3_isStage_2 : decode cX3_isStage 2 = .ok (.iconst 2, 1) := by decide +kernel
theorem dX3_isStage_3 : decode cX3_isStage 3 = .ok (.invokestatic 42, 3) := by decide +kernel
theorem dX3_isStage_6 : decode cX3_isStage 6 = .ok (.ireturn, 1) := by decide +kernel
theorem dX3_isStep_0 : decode cX3_isStep 0 = .ok (.aload_n 0, 1) := by decide +kernel
theorem dX3_isStep_1 : decode cX3_isStep 1 = .ok (.getfield 9, 3) := by decide +kernel
theorem dX3_isStep_4 : decode cX3_isStep 4 = .ok (.iload_n 1, 1) := by decide +kernel
theorem dX3_isStep_5 : decode cX3_isStep 5 = .ok (.iaload, 1) := by decide +kernel
theorem dX3_isStep_6 : decode cX3_isStep 6 = .ok (.iload_n 2, 1) := by decide +kernel
theorem dX3_isStep_7 : decode cX3_isStep 7 = .ok (.if_icmp .eq 23, 3) := by decide +kernel
theorem dX3_isStep_10 : decode cX3_isStep 10 = .ok (.aload_n 0, 1) := by decide +kernel
theorem dX3_isStep_11 : decode cX3_isStep 11 = .ok (.getfield 9, 3) := by decide +kernel
theorem dX3_isStep_14 : decode cX3_isStep 14 = .ok (.iload_n 2, 1) := by decide +kernel
theorem dX3_isStep_15 : decode cX3_isStep 15 = .ok (.iaload, 1) := by decide +kernel
theorem dX3_isStep_16 : decode cX3_isStep 16 = .ok (.iload_n 1, 1) := by decide +kernel
theorem dX3_isStep_17 : decode cX3_isStep 17 = .ok (.if_icmp .eq 13, 3) := by decide +kernel
theorem dX3_isStep_20 : decode cX3_isStep 20 = .ok (.aload_n 0, 1) := by decide +kernel
theorem dX3_isStep_21 : decode cX3_isStep 21 = .ok (.getfield 13, 3) := by decide +kernel
theorem dX3_isStep_24 : decode cX3_isStep 24 = .ok (.iload_n 1, 1) := by decide +kernel
theorem dX3_isStep_25 : decode cX3_isStep 25 = .ok (.iaload, 1) := by decide +kernel
theorem dX3_isStep_26 : decode cX3_isStep 26 = .ok (.iload_n 2, 1) := by decide +kernel
theorem dX3_isStep_27 : decode cX3_isStep 27 = .ok (.if_icmp .ne 7, 3) := by decide +kernel
theorem dX3_isStep_30 : decode cX3_isStep 30 = .ok (.iconst 1, 1) := by decide +kernel
theorem dX3_isStep_31 : decode cX3_isStep 31 = .ok (.goto 4, 3) := by decide +kernel
theorem dX3_isStep_34 : decode cX3_isStep 34 = .ok (.iconst 0, 1) := by decide +kernel
theorem dX3_isStep_35 : decode cX3_isStep 35 = .ok (.ireturn, 1) := by decide +kernel
set_option maxRecDepth 20000 in
theorem ggX3_go_X3_isStep : GoodIn wsX3_go wsX3_isStep := goodIn_r _ [7, 8, 9, 10, 11, 12, 13, 14, 15, 16, 17, 18, 19, 20, 21] (by decide +kernel) (by decide +kernel)
set_option maxRecDepth 20000 in
theorem gX3_go_X3_isStep : GoodIn wsX3_go (wsV RX3 46 RX3 yX3_isStep wsX3_isStep) := goodIn_app (goodIn_of _ (by decide +kernel)) ggX3_go_X3_isStep
theorem dX3_go_0 : decode cX3_go 0 = .ok (.iconst 0, 1) := by decide +kernel
theorem dX3_go_1 : decode cX3_go 1 = .ok (.istore_n 2, 1) := by decide +kernel
theorem dX3_go_2 : decode cX3_go 2 = .ok (.iload_n 2, 1) := by decide +kernel
theorem dX3_go_3 : decode cX3_go 3 = .ok (.aload_n 0, 1) := by decide +kernel
theorem dX3_go_4 : decode cX3_go 4 = .ok (.getfield 39, 3) := by decide +kernel
theorem dX3_go_7 : decode cX3_go 7 = .ok (.if_icmp .ge 25, 3) := by decide +kernel
theorem dX3_go_10 : decode cX3_go 10 = .ok (.aload_n 0, 1) := by decide +kernel
theorem dX3_go_11 : decode cX3_go 11 = .ok (.getfield 29, 3) := by decide +kernel
theorem dX3_go_14 : decode cX3_go 14 = .ok (.iload_n 2, 1) := by decide +kernel
theorem dX3_go_15 : decode cX3_go 15 = .ok (.iload_n 2, 1) := by decide +kernel
theorem dX3_go_16 : decode cX3_go 16 = .ok (.iload_n 1, 1) := by decide +kernel
theorem dX3_go_17 : decode cX3_go 17 = .ok (.if_icmp .ne 7, 3) := by decide +kernel
theorem dX3_go_20 : decode cX3_go 20 = .ok (.iconst 0, 1) := by decide +kernel
theorem dX3_go_21 : decode cX3_go 21 = .ok (.goto 4, 3) := by decide +kernel
theorem dX3_go_24 : decode cX3_go 24 = .ok (.iconst (-1), 1) := by decide +kernel
theorem dX3_go_25 : decode cX3_go 25 = .ok (.iastore, 1) := by decide +kernel
theorem dX3_go_26 : decode cX3_go 26 = .ok (.iinc 2 1, 3) := by decide +kernel
theorem dX3_go_29 : decode cX3_go 29 = .ok (.goto (-27), 3) := by decide +kernel
theorem dX3_go_32 : decode cX3_go 32 = .ok (.iconst 0, 1) := by decide +kernel
theorem dX3_go_33 : decode cX3_go 33 = .ok (.istore_n 2, 1) := by decide +kernel
theorem dX3_go_34 : decode cX3_go 34 = .ok (.iload_n 2, 1) := by decide +kernel
theorem dX3_go_35 : decode cX3_go 35 = .ok (.iconst 4, 1) := by decide +kernel
theorem dX3_go_36 : decode cX3_go 36 = .ok (.if_icmp .ge 87, 3) := by decide +kernel
theorem dX3_go_39 : decode cX3_go 39 = .ok (.iconst 0, 1) := by decide +kernel
theorem dX3_go_40 : decode cX3_go 40 = .ok (.istore_n 3, 1) := by decide +kernel
theorem dX3_go_41 : decode cX3_go 41 = .ok (.iload_n 3, 1) := by decide +kernel
theorem dX3_go_42 : decode cX3_go 42 = .ok (.aload_n 0, 1) := by decide +kernel
theorem dX3_go_43 : decode cX3_go 43 = .ok (.getfield 39, 3) := by decide +kernel
theorem dX3_go_46 : decode cX3_go 46 = .ok (.if_icmp .ge 71, 3) := by decide +kernel
theorem dX3_go_49 : decode cX3_go 49 = .ok (.aload_n 0, 1) := by decide +kernel
theorem dX3_go_50 : decode cX3_go 50 = .ok (.getfield 29, 3) := by decide +kernel
theorem dX3_go_53 : decode cX3_go 53 = .ok (.iload_n 3, 1) := by decide +kernel
theorem dX3_go_54 : decode cX3_go 54 = .ok (.iaload, 1) := by decide +kernel
theorem dX3_go_55 : decode cX3_go 55 = .ok (.iload_n 2, 1) := by decide +kernel
theorem dX3_go_56 : decode cX3_go 56 = .ok (.if_icmp .eq 6, 3) := by decide +kernel
theorem dX3_go_59 : decode cX3_go 59 = .ok (.goto 52, 3) := by decide +kernel
theorem dX3_go_62 : decode cX3_go 62 = .ok (.iconst 0, 1) := by decide +kernel
theorem dX3_go_63 : decode cX3_go 63 = .ok (.istore 4, 2) := by decide +kernel
theorem dX3_go_65 : decode cX3_go 65 = .ok (.iload 4, 2) := by decide +kernel
theorem dX3_go_67 : decode cX3_go 67 = .ok (.aload_n 0, 1) := by decide +kernel
theorem dX3_go_68 : decode cX3_go 68 = .ok (.getfield 39, 3) := by decide +kernel
theorem dX3_go_71 : decode cX3_go 71 = .ok (.if_icmp .ge 40, 3) := by decide +kernel
theorem dX3_go_74 : decode cX3_go 74 = .ok (.aload_n 0, 1) := by decide +kernel
theorem dX3_go_75 : decode cX3_go 75 = .ok (.getfield 29, 3) := by decide +kernel
theorem dX3_go_78 : decode cX3_go 78 = .ok (.iload 4, 2) := by decide +kernel
theorem dX3_go_80 : decode cX3_go 80 = .ok (.iaload, 1) := by decide +kernel
theorem dX3_go_81 : decode cX3_go 81 = .ok (.iconst (-1), 1) := by decide +kernel
theorem dX3_go_82 : decode cX3_go 82 = .ok (.if_icmp .ne 23, 3) := by decide +kernel
theorem dX3_go_85 : decode cX3_go 85 = .ok (.aload_n 0, 1) := by decide +kernel
theorem dX3_go_86 : decode cX3_go 86 = .ok (.iload_n 3, 1) := by decide +kernel
theorem dX3_go_87 : decode cX3_go 87 = .ok (.iload 4, 2) := by decide +kernel
theorem dX3_go_89 : decode cX3_go 89 = .ok (.invokevirtual 46, 3) := by decide +kernel
theorem dX3_go_92 : decode cX3_go 92 = .ok (.ifCond .eq 13, 3) := by decide +kernel
theorem dX3_go_95 : decode cX3_go 95 = .ok (.aload_n 0, 1) := by decide +kernel
theorem dX3_go_96 : decode cX3_go 96 = .ok (.getfield 29, 3) := by decide +kernel
theorem dX3_go_99 : decode cX3_go 99 = .ok (.iload 4, 2) := by decide +kernel
theorem dX3_go_101 : decode cX3_go 101 = .ok (.iload_n 2, 1) := by decide +kernel
theorem dX3_go_102 : decode cX3_go 102 = .ok (.iconst 1, 1) := by decide +kernel
theorem dX3_go_103 : decode cX3_go 103 = .ok (.iadd, 1) := by decide +kernel
theorem dX3_go_104 : decode cX3_go 104 = .ok (.iastore, 1) := by decide +kernel
theorem dX3_go_105 : decode cX3_go 105 = .ok (.iinc 4 1, 3) := by decide +kernel
theorem dX3_go_108 : decode cX3_go 108 = .ok (.goto (-43), 3) := by decide +kernel
theorem dX3_go_111 : decode cX3_go 111 = .ok (.iinc 3 1, 3) := by decide +kernel
theorem dX3_go_114 : decode cX3_go 114 = .ok (.goto (-73), 3) := by decide +kernel
theorem dX3_go_117 : decode cX3_go 117 = .ok (.iinc 2 1, 3) := by decide +kernel
theorem dX3_go_120 : decode cX3_go 120 = .ok (.goto (-86), 3) := by decide +kernel
theorem dX3_go_123 : decode cX3_go 123 = .ok (.return_, 1) := by decide +kernel
set_option maxRecDepth 20000 in
theorem ggX3_degree_X3_go : GoodIn wsX3_degree wsX3_go := goodIn_r _ [10, 11, 1, 12, 13, 14, 9, 15, 16, 17, 18, 19, 20, 21, 22, 23, 24, 25, 26, 27, 28, 29] (by decide +kernel) (by decide +kernel)
set_option maxRecDepth 20000 in
theorem gX3_degree_X3_go : GoodIn wsX3_degree (wsV RX3 50 RX3 yX3_go wsX3_go) := goodIn_app (goodIn_of _ (by decide +kernel)) ggX3_degree_X3_go
theorem dX3_degree_0 : decode cX3_degree 0 = .ok (.aload_n 0, 1) := by decide +kernel
theorem dX3_degree_1 : decode cX3_degree 1 = .ok (.iload_n 1, 1) := by decide +kernel
theorem dX3_degree_2 : decode cX3_degree 2 = .ok (.invokevirtual 50, 3) := by decide +kernel
theorem dX3_degree_5 : decode cX3_degree 5 = .ok (.iconst 0, 1) := by decide +kernel
theorem dX3_degree_6 : decode cX3_degree 6 = .ok (.aload_n 0, 1) := by decide +kernel
theorem dX3_degree_7 : decode cX3_degree 7 = .ok (.getfield 29, 3) := by decide +kernel
theorem dX3_degree_10 : decode cX3_degree 10 = .ok (.iload_n 2, 1) := by decide +kernel
theorem dX3_degree_11 : decode cX3_degree 11 = .ok (.iaload, 1) := by decide +kernel
theorem dX3_degree_12 : decode cX3_degree 12 = .ok (.invokestatic 54, 3) := by decide +kernel
theorem dX3_degree_15 : decode cX3_degree 15 = .ok (.ireturn, 1) := by decide +kernel
theorem dX3_born_0 : decode cX3_born 0 = .ok (.aload_n 0, 1) := by decide +kernel
theorem dX3_born_1 : decode cX3_born 1 = .ok (.getfield 9, 3) := by decide +kernel
theorem dX3_born_4 : decode cX3_born 4 = .ok (.aload_n 0, 1) := by decide +kernel
theorem dX3_born_5 : decode cX3_born 5 = .ok (.getfield 39, 3) := by decide +kernel
theorem dX3_born_8 : decode cX3_born 8 = .ok (.iload_n 1, 1) := by decide +kernel
theorem dX3_born_9 : decode cX3_born 9 = .ok (.iastore, 1) := by decide +kernel
theorem dX3_born_10 : decode cX3_born 10 = .ok (.aload_n 0, 1) := by decide +kernel
theorem dX3_born_11 : decode cX3_born 11 = .ok (.getfield 13, 3) := by decide +kernel
theorem dX3_born_14 : decode cX3_born 14 = .ok (.aload_n 0, 1) := by decide +kernel
theorem dX3_born_15 : decode cX3_born 15 = .ok (.getfield 39, 3) := by decide +kernel
theorem dX3_born_18 : decode cX3_born 18 = .ok (.iconst (-1), 1) := by decide +kernel
theorem dX3_born_19 : decode cX3_born 19 = .ok (.iastore, 1) := by decide +kernel
theorem dX3_born_20 : decode cX3_born 20 = .ok (.aload_n 0, 1) := by decide +kernel
theorem dX3_born_21 : decode cX3_born 21 = .ok (.getfield 16, 3) := by decide +kernel
theorem dX3_born_24 : decode cX3_born 24 = .ok (.aload_n 0, 1) := by decide +kernel
theorem dX3_born_25 : decode cX3_born 25 = .ok (.getfield 39, 3) := by decide +kernel
theorem dX3_born_28 : decode cX3_born 28 = .ok (.iconst 1, 1) := by decide +kernel
theorem dX3_born_29 : decode cX3_born 29 = .ok (.bastore, 1) := by decide +kernel
theorem dX3_born_30 : decode cX3_born 30 = .ok (.aload_n 0, 1) := by decide +kernel
theorem dX3_born_31 : decode cX3_born 31 = .ok (.dup, 1) := by decide +kernel
theorem dX3_born_32 : decode cX3_born 32 = .ok (.getfield 39, 3) := by decide +kernel
theorem dX3_born_35 : decode cX3_born 35 = .ok (.iconst 1, 1) := by decide +kernel
theorem dX3_born_36 : decode cX3_born 36 = .ok (.iadd, 1) := by decide +kernel
theorem dX3_born_37 : decode cX3_born 37 = .ok (.putfield 39, 3) := by decide +kernel
theorem dX3_born_40 : decode cX3_born 40 = .ok (.aload_n 0, 1) := by decide +kernel
theorem dX3_born_41 : decode cX3_born 41 = .ok (.getfield 39, 3) := by decide +kernel
theorem dX3_born_44 : decode cX3_born 44 = .ok (.iconst 1, 1) := by decide +kernel
theorem dX3_born_45 : decode cX3_born 45 = .ok (.isub, 1) := by decide +kernel
theorem dX3_born_46 : decode cX3_born 46 = .ok (.ireturn, 1) := by decide +kernel
set_option maxRecDepth 20000 in
theorem ggX3_addPerson_X3_no : GoodIn wsX3_addPerson wsX3_no := goodIn_r _ [7, 1, 15, 16, 17, 18, 19, 20, 21, 22, 23, 24, 25, 26] (by decide +kernel) (by decide +kernel)
set_option maxRecDepth 20000 in
theorem gX3_addPerson_X3_no : GoodIn wsX3_addPerson (wsV RX3 60 RX3 yX3_no wsX3_no) := goodIn_app (goodIn_of _ (by decide +kernel)) ggX3_addPerson_X3_no
set_option maxRecDepth 20000 in
theorem ggX3_addPerson_X3_born : GoodIn wsX3_addPerson wsX3_born := goodIn_r _ [11, 12, 2, 13, 14, 15, 16, 17, 18, 19, 20, 21, 22, 23, 24, 25, 26] (by decide +kernel) (by decide +kernel)
set_option maxRecDepth 20000 in
theorem gX3_addPerson_X3_born : GoodIn wsX3_addPerson (wsV RX3 64 RX3 yX3_born wsX3_born) := goodIn_app (goodIn_of _ (by decide +kernel)) ggX3_addPerson_X3_born
theorem dX3_addPerson_0 : decode cX3_addPerson 0 = .ok (.aload_n 0, 1) := by decide +kernel
theorem dX3_addPerson_1 : decode cX3_addPerson 1 = .ok (.iconst 0, 1) := by decide +kernel
theorem dX3_addPerson_2 : decode cX3_addPerson 2 = .ok (.putfield 35, 3) := by decide +kernel
theorem dX3_addPerson_5 : decode cX3_addPerson 5 = .ok (.aload_n 0, 1) := by decide +kernel
theorem dX3_addPerson_6 : decode cX3_addPerson 6 = .ok (.getfield 39, 3) := by decide +kernel
theorem dX3_addPerson_9 : decode cX3_addPerson 9 = .ok (.bipush 16, 2) := by decide +kernel
theorem dX3_addPerson_11 : decode cX3_addPerson 11 = .ok (.if_icmp .ne 11, 3) := by decide +kernel
theorem dX3_addPerson_14 : decode cX3_addPerson 14 = .ok (.aload_n 0, 1) := by decide +kernel
theorem dX3_addPerson_15 : decode cX3_addPerson 15 = .ok (.iconst 1, 1) := by decide +kernel
theorem dX3_addPerson_16 : decode cX3_addPerson 16 = .ok (.invokevirtual 60, 3) := by decide +kernel
theorem dX3_addPerson_19 : decode cX3_addPerson 19 = .ok (.goto 8, 3) := by decide +kernel
theorem dX3_addPerson_22 : decode cX3_addPerson 22 = .ok (.aload_n 0, 1) := by decide +kernel
theorem dX3_addPerson_23 : decode cX3_addPerson 23 = .ok (.iconst (-1), 1) := by decide +kernel
theorem dX3_addPerson_24 : decode cX3_addPerson 24 = .ok (.invokevirtual 64, 3) := by decide +kernel
theorem dX3_addPerson_27 : decode cX3_addPerson 27 = .ok (.ireturn, 1) := by decide +kernel
set_option maxRecDepth 20000 in
theorem ggX3_addChild_X3_isPerson : GoodIn wsX3_addChild wsX3_isPerson := goodIn_r _ [8, 2, 9, 10, 7, 11, 22, 23, 24, 25, 26, 27, 28, 29, 30, 31, 32, 33] (by decide +kernel) (by decide +kernel)
set_option maxRecDepth 20000 in
theorem gX3_addChild_X3_isPerson : GoodIn wsX3_addChild (wsV RX3 67 RX3 yX3_isPerson wsX3_isPerson) := goodIn_app (goodIn_of _ (by decide +kernel)) ggX3_addChild_X3_isPerson
set_option maxRecDepth 20000 in
theorem ggX3_addChild_X3_no : GoodIn wsX3_addChild wsX3_no := goodIn_r _ [15, 1, 22, 23, 24, 25, 26, 27, 28, 29, 30, 31, 32, 33] (by decide +kernel) (by decide +kernel)
set_option maxRecDepth 20000 in
theorem gX3_addChild_X3_no : GoodIn wsX3_addChild (wsV RX3 60 RX3 yX3_no wsX3_no) := goodIn_app (goodIn_of _ (by decide +kernel)) ggX3_addChild_X3_no
set_option maxRecDepth 20000 in
theorem ggX3_addChild_X3_born : GoodIn wsX3_addChild wsX3_born := goodIn_r _ [19, 20, 2, 21, 3, 22, 23, 24, 25, 26, 27, 28, 29, 30, 31, 32, 33] (by decide +kernel) (by decide +kernel)
set_option maxRecDepth 20000 in
theorem gX3_addChild_X3_born : GoodIn wsX3_addChild (wsV RX3 64 RX3 yX3_born wsX3_born) := goodIn_app (goodIn_of _ (by decide +kernel)) ggX3_addChild_X3_born
theorem dX3_addChild_0 : decode cX3_addChild 0 = .ok (.aload_n 0, 1) := by decide +kernel
theorem dX3_addChild_1 : decode cX3_addChild 1 = .ok (.iconst 0, 1) := by decide +kernel
theorem dX3_addChild_2 : decode cX3_addChild 2 = .ok (.putfield 35, 3) := by decide +kernel
theorem dX3_addChild_5 : decode cX3_addChild 5 = .ok (.aload_n 0, 1) := by decide +kernel
theorem dX3_addChild_6 : decode cX3_addChild 6 = .ok (.iload_n 1, 1) := by decide +kernel
theorem dX3_addChild_7 : decode cX3_addChild 7 = .ok (.invokevirtual 67, 3) := by decide +kernel
theorem dX3_addChild_10 : decode cX3_addChild 10 = .ok (.ifCond .ne 9, 3) := by decide +kernel
theorem dX3_addChild_13 : decode cX3_addChild 13 = .ok (.aload_n 0, 1) := by decide +kernel
theorem dX3_addChild_14 : decode cX3_addChild 14 = .ok (.iconst 1, 1) := by decide +kernel
theorem dX3_addChild_15 : decode cX3_addChild 15 = .ok (.invokevirtual 60, 3) := by decide +kernel
theorem dX3_addChild_18 : decode cX3_addChild 18 = .ok (.ireturn, 1) := by decide +kernel
theorem dX3_addChild_19 : decode cX3_addChild 19 = .ok (.aload_n 0, 1) := by decide +kernel
theorem dX3_addChild_20 : decode cX3_addChild 20 = .ok (.getfield 39, 3) := by decide +kernel
theorem dX3_addChild_23 : decode cX3_addChild 23 = .ok (.bipush 16, 2) := by decide +kernel
theorem dX3_addChild_25 : decode cX3_addChild 25 = .ok (.if_icmp .eq 12, 3) := by decide +kernel
theorem dX3_addChild_28 : decode cX3_addChild 28 = .ok (.aload_n 0, 1) := by decide +kernel
theorem dX3_addChild_29 : decode cX3_addChild 29 = .ok (.getfield 16, 3) := by decide +kernel
theorem dX3_addChild_32 : decode cX3_addChild 32 = .ok (.iload_n 1, 1) := by decide +kernel
theorem dX3_addChild_33 : decode cX3_addChild 33 = .ok (.baload, 1) := by decide +kernel
theorem dX3_addChild_34 : decode cX3_addChild 34 = .ok (.ifCond .ne 11, 3) := by decide +kernel
theorem dX3_addChild_37 : decode cX3_addChild 37 = .ok (.aload_n 0, 1) := by decide +kernel
theorem dX3_addChild_38 : decode cX3_addChild 38 = .ok (.iconst 2, 1) := by decide +kernel
theorem dX3_addChild_39 : decode cX3_addChild 39 = .ok (.invokevirtual 60, 3) := by decide +kernel
theorem dX3_addChild_42 : decode cX3_addChild 42 = .ok (.goto 8, 3) := by decide +kernel
theorem dX3_addChild_45 : decode cX3_addChild 45 = .ok (.aload_n 0, 1) := by decide +kernel
theorem dX3_addChild_46 : decode cX3_addChild 46 = .ok (.iload_n 1, 1) := by decide +kernel
theorem dX3_addChild_47 : decode cX3_addChild 47 = .ok (.invokevirtual 64, 3) := by decide +kernel
theorem dX3_addChild_50 : decode cX3_addChild 50 = .ok (.ireturn, 1) := by decide +kernel
theorem dX3_canMarry_0 : decode cX3_canMarry 0 = .ok (.aload_n 0, 1) := by decide +kernel
theorem dX3_canMarry_1 : decode cX3_canMarry 1 = .ok (.getfield 16, 3) := by decide +kernel
theorem dX3_canMarry_4 : decode cX3_canMarry 4 = .ok (.iload_n 1, 1) := by decide +kernel
theorem dX3_canMarry_5 : decode cX3_canMarry 5 = .ok (.baload, 1) := by decide +kernel
theorem dX3_canMarry_6 : decode cX3_canMarry 6 = .ok (.ifCond .eq 31, 3) := by decide +kernel
theorem dX3_canMarry_9 : decode cX3_canMarry 9 = .ok (.aload_n 0, 1) := by decide +kernel
theorem dX3_canMarry_10 : decode cX3_canMarry 10 = .ok (.getfield 13, 3) := by decide +kernel
theorem dX3_canMarry_13 : decode cX3_canMarry 13 = .ok (.iload_n 1, 1) := by decide +kernel
theorem dX3_canMarry_14 : decode cX3_canMarry 14 = .ok (.iaload, 1) := by decide +kernel
theorem dX3_canMarry_15 : decode cX3_canMarry 15 = .ok (.iconst (-1), 1) := by decide +kernel
theorem dX3_canMarry_16 : decode cX3_canMarry 16 = .ok (.if_icmp .eq 17, 3) := by decide +kernel
theorem dX3_canMarry_19 : decode cX3_canMarry 19 = .ok (.aload_n 0, 1) := by decide +kernel
theorem dX3_canMarry_20 : decode cX3_canMarry 20 = .ok (.getfield 16, 3) := by decide +kernel
theorem dX3_canMarry_23 : decode cX3_canMarry 23 = .ok (.aload_n 0, 1) := by decide +kernel
theorem dX3_canMarry_24 : decode cX3_canMarry 24 = .ok (.getfield 13, 3) := by decide +kernel
theorem dX3_canMarry_27 : decode cX3_canMarry 27 = .ok (.iload_n 1, 1) := by decide +kernel
theorem dX3_canMarry_28 : decode cX3_canMarry 28 = .ok (.iaload, 1) := by decide +kernel
theorem dX3_canMarry_29 : decode cX3_canMarry 29 = .ok (.baload, 1) := by decide +kernel
theorem dX3_canMarry_30 : decode cX3_canMarry 30 = .ok (.ifCond .ne 7, 3) := by decide +kernel
theorem dX3_canMarry_33 : decode cX3_canMarry 33 = .ok (.iconst 1, 1) := by decide +kernel
theorem dX3_canMarry_34 : decode cX3_canMarry 34 = .ok (.goto 4, 3) := by decide +kernel
theorem dX3_canMarry_37 : decode cX3_canMarry 37 = .ok (.iconst 0, 1) := by decide +kernel
theorem dX3_canMarry_38 : decode cX3_canMarry 38 = .ok (.ireturn, 1) := by decide +kernel
theorem dX3_part_0 : decode cX3_part 0 = .ok (.aload_n 0, 1) := by decide +kernel
theorem dX3_part_1 : decode cX3_part 1 = .ok (.getfield 13, 3) := by decide +kernel
theorem dX3_part_4 : decode cX3_part 4 = .ok (.iload_n 1, 1) := by decide +kernel
theorem dX3_part_5 : decode cX3_part 5 = .ok (.iaload, 1) := by decide +kernel
theorem dX3_part_6 : decode cX3_part 6 = .ok (.iconst (-1), 1) := by decide +kernel
theorem dX3_part_7 : decode cX3_part 7 = .ok (.if_icmp .eq 15, 3) := by decide +kernel
theorem dX3_part_10 : decode cX3_part 10 = .ok (.aload_n 0, 1) := by decide +kernel
theorem dX3_part_11 : decode cX3_part 11 = .ok (.getfield 13, 3) := by decide +kernel
theorem dX3_part_14 : decode cX3_part 14 = .ok (.aload_n 0, 1) := by decide +kernel
theorem dX3_part_15 : decode cX3_part 15 = .ok (.getfield 13, 3) := by decide +kernel
theorem dX3_part_18 : decode cX3_part 18 = .ok (.iload_n 1, 1) := by decide +kernel
theorem dX3_part_19 : decode cX3_part 19 = .ok (.iaload, 1) := by decide +kernel
theorem dX3_part_20 : decode cX3_part 20 = .ok (.iconst (-1), 1) := by decide +kernel
theorem dX3_part_21 : decode cX3_part 21 = .ok (.iastore, 1) := by decide +kernel
theorem dX3_part_22 : decode cX3_part 22 = .ok (.aload_n 0, 1) := by decide +kernel
theorem dX3_part_23 : decode cX3_part 23 = .ok (.getfield 13, 3) := by decide +kernel
theorem dX3_part_26 : decode cX3_part 26 = .ok (.iload_n 1, 1) := by decide +kernel
theorem dX3_part_27 : decode cX3_part 27 = .ok (.iconst (-1), 1) := by decide +kernel
theorem dX3_part_28 : decode cX3_part 28 = .ok (.iastore, 1) := by decide +kernel
theorem dX3_part_29 : decode cX3_part 29 = .ok (.return_, 1) := by decide +kernel
