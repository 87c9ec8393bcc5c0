set_option maxRecDepth 20000 in
theorem ggX3_daysWith_X3_wears : GoodIn wsX3_daysWith wsX3_wears := goodIn_r _ [23, 7, 16, 8, 9, 10, 11, 17, 18, 5, 19, 24, 25, 26, 27, 28, 29, 30, 31, 32, 33, 34, 35, 36, 37, 38] (by decide +kernel) (by decide +kernel)
set_option maxRecDepth 20000 in
theorem gX3_daysWith_X3_wears : GoodIn wsX3_daysWith (wsV RX3 118 RX3 yX3_wears wsX3_wears) := goodIn_app (goodIn_of _ (by decide +kernel)) ggX3_daysWith_X3_wears
theorem dX3_daysWith_0 : decode cX3_daysWith 0 = .ok (.iconst 0, 1) := by decide +kernel
theorem dX3_daysWith_1 : decode cX3_daysWith 1 = .ok (.istore_n 3, 1) := by decide +kernel
theorem dX3_daysWith_2 : decode cX3_daysWith 2 = .ok (.aload_n 0, 1) := by decide +kernel
theorem dX3_daysWith_3 : decode cX3_daysWith 3 = .ok (.iload_n 1, 1) := by decide +kernel
theorem dX3_daysWith_4 : decode cX3_daysWith 4 = .ok (.invokevirtual 145, 3) := by decide +kernel
theorem dX3_daysWith_7 : decode cX3_daysWith 7 = .ok (.istore 4, 2) := by decide +kernel
theorem dX3_daysWith_9 : decode cX3_daysWith 9 = .ok (.iconst 0, 1) := by decide +kernel
theorem dX3_daysWith_10 : decode cX3_daysWith 10 = .ok (.istore 5, 2) := by decide +kernel
theorem dX3_daysWith_12 : decode cX3_daysWith 12 = .ok (.iload 5, 2) := by decide +kernel
theorem dX3_daysWith_14 : decode cX3_daysWith 14 = .ok (.iload 4, 2) := by decide +kernel
theorem dX3_daysWith_16 : decode cX3_daysWith 16 = .ok (.if_icmp .ge 33, 3) := by decide +kernel
theorem dX3_daysWith_19 : decode cX3_daysWith 19 = .ok (.iload_n 3, 1) := by decide +kernel
theorem dX3_daysWith_20 : decode cX3_daysWith 20 = .ok (.aload_n 0, 1) := by decide +kernel
theorem dX3_daysWith_21 : decode cX3_daysWith 21 = .ok (.iload_n 1, 1) := by decide +kernel
theorem dX3_daysWith_22 : decode cX3_daysWith 22 = .ok (.aload_n 0, 1) := by decide +kernel
theorem dX3_daysWith_23 : decode cX3_daysWith 23 = .ok (.getfield 95, 3) := by decide +kernel
theorem dX3_daysWith_26 : decode cX3_daysWith 26 = .ok (.iload 5, 2) := by decide +kernel
theorem dX3_daysWith_28 : decode cX3_daysWith 28 = .ok (.iadd, 1) := by decide +kernel
theorem dX3_daysWith_29 : decode cX3_daysWith 29 = .ok (.invokevirtual 118, 3) := by decide +kernel
theorem dX3_daysWith_32 : decode cX3_daysWith 32 = .ok (.iload_n 2, 1) := by decide +kernel
theorem dX3_daysWith_33 : decode cX3_daysWith 33 = .ok (.if_icmp .ne 7, 3) := by decide +kernel
theorem dX3_daysWith_36 : decode cX3_daysWith 36 = .ok (.iconst 1, 1) := by decide +kernel
theorem dX3_daysWith_37 : decode cX3_daysWith 37 = .ok (.goto 4, 3) := by decide +kernel
theorem dX3_daysWith_40 : decode cX3_daysWith 40 = .ok (.iconst 0, 1) := by decide +kernel
theorem dX3_daysWith_41 : decode cX3_daysWith 41 = .ok (.iadd, 1) := by decide +kernel
theorem dX3_daysWith_42 : decode cX3_daysWith 42 = .ok (.istore_n 3, 1) := by decide +kernel
theorem dX3_daysWith_43 : decode cX3_daysWith 43 = .ok (.iinc 5 1, 3) := by decide +kernel
theorem dX3_daysWith_46 : decode cX3_daysWith 46 = .ok (.goto (-34), 3) := by decide +kernel
theorem dX3_daysWith_49 : decode cX3_daysWith 49 = .ok (.iload_n 3, 1) := by decide +kernel
theorem dX3_daysWith_50 : decode cX3_daysWith 50 = .ok (.ireturn, 1) := by decide +kernel
set_option maxRecDepth 20000 in
theorem ggX3_daysIn_X3_isPerson : GoodIn wsX3_daysIn wsX3_isPerson := goodIn_r _ [6, 7, 8, 9, 5, 10, 43, 44, 45, 46, 47, 48, 49, 50, 51, 52, 53, 54] (by decide +kernel) (by decide +kernel)
set_option maxRecDepth 20000 in
theorem gX3_daysIn_X3_isPerson : GoodIn wsX3_daysIn (wsV RX3 67 RX3 yX3_isPerson wsX3_isPerson) := goodIn_app (goodIn_of _ (by decide +kernel)) ggX3_daysIn_X3_isPerson
set_option maxRecDepth 20000 in
theorem ggX3_daysIn_X3_isIn : GoodIn wsX3_daysIn wsX3_isIn := goodIn_r _ [10] (by decide +kernel) (by decide +kernel)
set_option maxRecDepth 20000 in
theorem gX3_daysIn_X3_isIn : GoodIn wsX3_daysIn (va_wsS RX3 42 yX3_isIn wsX3_isIn) := goodIn_app (goodIn_of _ (by decide +kernel)) ggX3_daysIn_X3_isIn
set_option maxRecDepth 20000 in
theorem ggX3_daysIn_X3_daysWith : GoodIn wsX3_daysIn wsX3_daysWith := goodIn_r _ [14, 15, 16, 17, 18, 5, 19, 7, 20, 21, 22, 23, 24, 25, 26, 27, 28, 29, 30, 31, 32, 33, 34, 35, 36, 37, 38, 43, 44, 45, 46, 47, 48, 49, 50, 51, 52, 53, 54] (by decide +kernel) (by decide +kernel)
set_option maxRecDepth 20000 in
theorem gX3_daysIn_X3_daysWith : GoodIn wsX3_daysIn (wsV RX3 151 RX3 yX3_daysWith wsX3_daysWith) := goodIn_app (goodIn_of _ (by decide +kernel)) ggX3_daysIn_X3_daysWith
set_option maxRecDepth 20000 in
theorem ggX3_daysIn_X3_no : GoodIn wsX3_daysIn wsX3_no := goodIn_r _ [42, 1, 43, 44, 45, 46, 47, 48, 49, 50, 51, 52, 53, 54] (by decide +kernel) (by decide +kernel)
set_option maxRecDepth 20000 in
theorem gX3_daysIn_X3_no : GoodIn wsX3_daysIn (wsV RX3 60 RX3 yX3_no wsX3_no) := goodIn_app (goodIn_of _ (by decide +kernel)) ggX3_daysIn_X3_no
theorem dX3_daysIn_0 : decode cX3_daysIn 0 = .ok (.aload_n 0, 1) := by decide +kernel
theorem dX3_daysIn_1 : decode cX3_daysIn 1 = .ok (.iconst 0, 1) := by decide +kernel
theorem dX3_daysIn_2 : decode cX3_daysIn 2 = .ok (.putfield 35, 3) := by decide +kernel
theorem dX3_daysIn_5 : decode cX3_daysIn 5 = .ok (.aload_n 0, 1) := by decide +kernel
theorem dX3_daysIn_6 : decode cX3_daysIn 6 = .ok (.iload_n 1, 1) := by decide +kernel
theorem dX3_daysIn_7 : decode cX3_daysIn 7 = .ok (.invokevirtual 67, 3) := by decide +kernel
theorem dX3_daysIn_10 : decode cX3_daysIn 10 = .ok (.ifCond .eq 21, 3) := by decide +kernel
theorem dX3_daysIn_13 : decode cX3_daysIn 13 = .ok (.iload_n 2, 1) := by decide +kernel
theorem dX3_daysIn_14 : decode cX3_daysIn 14 = .ok (.iconst 1, 1) := by decide +kernel
theorem dX3_daysIn_15 : decode cX3_daysIn 15 = .ok (.iconst 5, 1) := by decide +kernel
theorem dX3_daysIn_16 : decode cX3_daysIn 16 = .ok (.invokestatic 42, 3) := by decide +kernel
theorem dX3_daysIn_19 : decode cX3_daysIn 19 = .ok (.ifCond .eq 12, 3) := by decide +kernel
theorem dX3_daysIn_22 : decode cX3_daysIn 22 = .ok (.aload_n 0, 1) := by decide +kernel
theorem dX3_daysIn_23 : decode cX3_daysIn 23 = .ok (.iload_n 1, 1) := by decide +kernel
theorem dX3_daysIn_24 : decode cX3_daysIn 24 = .ok (.iload_n 2, 1) := by decide +kernel
theorem dX3_daysIn_25 : decode cX3_daysIn 25 = .ok (.invokevirtual 151, 3) := by decide +kernel
theorem dX3_daysIn_28 : decode cX3_daysIn 28 = .ok (.goto 8, 3) := by decide +kernel
theorem dX3_daysIn_31 : decode cX3_daysIn 31 = .ok (.aload_n 0, 1) := by decide +kernel
theorem dX3_daysIn_32 : decode cX3_daysIn 32 = .ok (.iconst 1, 1) := by decide +kernel
theorem dX3_daysIn_33 : decode cX3_daysIn 33 = .ok (.invokevirtual 60, 3) := by decide +kernel
theorem dX3_daysIn_36 : decode cX3_daysIn 36 = .ok (.ireturn, 1) := by decide +kernel
set_option maxRecDepth 20000 in
theorem ggX3_wearing_X3_isIn : GoodIn wsX3_wearing wsX3_isIn := goodIn_r _ [8] (by decide +kernel) (by decide +kernel)
set_option maxRecDepth 20000 in
theorem gX3_wearing_X3_isIn : GoodIn wsX3_wearing (va_wsS RX3 42 yX3_isIn wsX3_isIn) := goodIn_app (goodIn_of _ (by decide +kernel)) ggX3_wearing_X3_isIn
set_option maxRecDepth 20000 in
theorem ggX3_wearing_X3_no : GoodIn wsX3_wearing wsX3_no := goodIn_r _ [12, 1, 28, 29, 30, 31, 32, 33, 34, 35, 36, 37, 38, 39] (by decide +kernel) (by decide +kernel)
set_option maxRecDepth 20000 in
theorem gX3_wearing_X3_no : GoodIn wsX3_wearing (wsV RX3 60 RX3 yX3_no wsX3_no) := goodIn_app (goodIn_of _ (by decide +kernel)) ggX3_wearing_X3_no
set_option maxRecDepth 20000 in
theorem ggX3_wearing_X3_wears : GoodIn wsX3_wearing wsX3_wears := goodIn_r _ [16, 2, 17, 18, 19, 20, 21, 22, 23, 7, 24, 25, 26, 27, 28, 29, 30, 31, 32, 33, 34, 35, 36, 37, 38, 39] (by decide +kernel) (by decide +kernel)
set_option maxRecDepth 20000 in
theorem gX3_wearing_X3_wears : GoodIn wsX3_wearing (wsV RX3 118 RX3 yX3_wears wsX3_wears) := goodIn_app (goodIn_of _ (by decide +kernel)) ggX3_wearing_X3_wears
theorem dX3_wearing_0 : decode cX3_wearing 0 = .ok (.aload_n 0, 1) := by decide +kernel
theorem dX3_wearing_1 : decode cX3_wearing 1 = .ok (.iconst 0, 1) := by decide +kernel
theorem dX3_wearing_2 : decode cX3_wearing 2 = .ok (.putfield 35, 3) := by decide +kernel
theorem dX3_wearing_5 : decode cX3_wearing 5 = .ok (.iload_n 1, 1) := by decide +kernel
theorem dX3_wearing_6 : decode cX3_wearing 6 = .ok (.iconst 0, 1) := by decide +kernel
theorem dX3_wearing_7 : decode cX3_wearing 7 = .ok (.iconst 5, 1) := by decide +kernel
theorem dX3_wearing_8 : decode cX3_wearing 8 = .ok (.invokestatic 42, 3) := by decide +kernel
theorem dX3_wearing_11 : decode cX3_wearing 11 = .ok (.ifCond .ne 9, 3) := by decide +kernel
theorem dX3_wearing_14 : decode cX3_wearing 14 = .ok (.aload_n 0, 1) := by decide +kernel
theorem dX3_wearing_15 : decode cX3_wearing 15 = .ok (.iconst 1, 1) := by decide +kernel
theorem dX3_wearing_16 : decode cX3_wearing 16 = .ok (.invokevirtual 60, 3) := by decide +kernel
theorem dX3_wearing_19 : decode cX3_wearing 19 = .ok (.ireturn, 1) := by decide +kernel
theorem dX3_wearing_20 : decode cX3_wearing 20 = .ok (.iconst 0, 1) := by decide +kernel
theorem dX3_wearing_21 : decode cX3_wearing 21 = .ok (.istore_n 2, 1) := by decide +kernel
theorem dX3_wearing_22 : decode cX3_wearing 22 = .ok (.iconst 0, 1) := by decide +kernel
theorem dX3_wearing_23 : decode cX3_wearing 23 = .ok (.istore_n 3, 1) := by decide +kernel
theorem dX3_wearing_24 : decode cX3_wearing 24 = .ok (.iload_n 3, 1) := by decide +kernel
theorem dX3_wearing_25 : decode cX3_wearing 25 = .ok (.aload_n 0, 1) := by decide +kernel
theorem dX3_wearing_26 : decode cX3_wearing 26 = .ok (.getfield 39, 3) := by decide +kernel
theorem dX3_wearing_29 : decode cX3_wearing 29 = .ok (.if_icmp .ge 39, 3) := by decide +kernel
theorem dX3_wearing_32 : decode cX3_wearing 32 = .ok (.iload_n 2, 1) := by decide +kernel
theorem dX3_wearing_33 : decode cX3_wearing 33 = .ok (.aload_n 0, 1) := by decide +kernel
theorem dX3_wearing_34 : decode cX3_wearing 34 = .ok (.getfield 16, 3) := by decide +kernel
theorem dX3_wearing_37 : decode cX3_wearing 37 = .ok (.iload_n 3, 1) := by decide +kernel
theorem dX3_wearing_38 : decode cX3_wearing 38 = .ok (.baload, 1) := by decide +kernel
theorem dX3_wearing_39 : decode cX3_wearing 39 = .ok (.ifCond .eq 20, 3) := by decide +kernel
theorem dX3_wearing_42 : decode cX3_wearing 42 = .ok (.aload_n 0, 1) := by decide +kernel
theorem dX3_wearing_43 : decode cX3_wearing 43 = .ok (.iload_n 3, 1) := by decide +kernel
theorem dX3_wearing_44 : decode cX3_wearing 44 = .ok (.aload_n 0, 1) := by decide +kernel
theorem dX3_wearing_45 : decode cX3_wearing 45 = .ok (.getfield 95, 3) := by decide +kernel
theorem dX3_wearing_48 : decode cX3_wearing 48 = .ok (.invokevirtual 118, 3) := by decide +kernel
theorem dX3_wearing_51 : decode cX3_wearing 51 = .ok (.iload_n 1, 1) := by decide +kernel
theorem dX3_wearing_52 : decode cX3_wearing 52 = .ok (.if_icmp .ne 7, 3) := by decide +kernel
theorem dX3_wearing_55 : decode cX3_wearing 55 = .ok (.iconst 1, 1) := by decide +kernel
theorem dX3_wearing_56 : decode cX3_wearing 56 = .ok (.goto 4, 3) := by decide +kernel
theorem dX3_wearing_59 : decode cX3_wearing 59 = .ok (.iconst 0, 1) := by decide +kernel
theorem dX3_wearing_60 : decode cX3_wearing 60 = .ok (.iadd, 1) := by decide +kernel
theorem dX3_wearing_61 : decode cX3_wearing 61 = .ok (.istore_n 2, 1) := by decide +kernel
theorem dX3_wearing_62 : decode cX3_wearing 62 = .ok (.iinc 3 1, 3) := by decide +kernel
theorem dX3_wearing_65 : decode cX3_wearing 65 = .ok (.goto (-41), 3) := by decide +kernel
theorem dX3_wearing_68 : decode cX3_wearing 68 = .ok (.iload_n 2, 1) := by decide +kernel
theorem dX3_wearing_69 : decode cX3_wearing 69 = .ok (.ireturn, 1) := by decide +kernel
set_option maxRecDepth 20000 in
theorem ggX3_strictestOne_X3_wears : GoodIn wsX3_strictestOne wsX3_wears := goodIn_r _ [11, 1, 12, 3, 4, 5, 6, 13, 14, 10, 15, 16, 17, 18, 19, 20, 21, 22, 23, 24, 25, 26, 27, 28, 29, 30] (by decide +kernel) (by decide +kernel)
set_option maxRecDepth 20000 in
theorem gX3_strictestOne_X3_wears : GoodIn wsX3_strictestOne (wsV RX3 118 RX3 yX3_wears wsX3_wears) := goodIn_app (goodIn_of _ (by decide +kernel)) ggX3_strictestOne_X3_wears
theorem dX3_strictestOne_0 : decode cX3_strictestOne 0 = .ok (.iconst 0, 1) := by decide +kernel
theorem dX3_strictestOne_1 : decode cX3_strictestOne 1 = .ok (.istore_n 1, 1) := by decide +kernel
theorem dX3_strictestOne_2 : decode cX3_strictestOne 2 = .ok (.iconst 0, 1) := by decide +kernel
theorem dX3_strictestOne_3 : decode cX3_strictestOne 3 = .ok (.istore_n 2, 1) := by decide +kernel
theorem dX3_strictestOne_4 : decode cX3_strictestOne 4 = .ok (.iload_n 2, 1) := by decide +kernel
theorem dX3_strictestOne_5 : decode cX3_strictestOne 5 = .ok (.aload_n 0, 1) := by decide +kernel
theorem dX3_strictestOne_6 : decode cX3_strictestOne 6 = .ok (.getfield 39, 3) := by decide +kernel
theorem dX3_strictestOne_9 : decode cX3_strictestOne 9 = .ok (.if_icmp .ge 23, 3) := by decide +kernel
theorem dX3_strictestOne_12 : decode cX3_strictestOne 12 = .ok (.iload_n 1, 1) := by decide +kernel
theorem dX3_strictestOne_13 : decode cX3_strictestOne 13 = .ok (.aload_n 0, 1) := by decide +kernel
theorem dX3_strictestOne_14 : decode cX3_strictestOne 14 = .ok (.iload_n 2, 1) := by decide +kernel
theorem dX3_strictestOne_15 : decode cX3_strictestOne 15 = .ok (.aload_n 0, 1) := by decide +kernel
theorem dX3_strictestOne_16 : decode cX3_strictestOne 16 = .ok (.getfield 95, 3) := by decide +kernel
theorem dX3_strictestOne_19 : decode cX3_strictestOne 19 = .ok (.invokevirtual 118, 3) := by decide +kernel
theorem dX3_strictestOne_22 : decode cX3_strictestOne 22 = .ok (.invokestatic 54, 3) := by decide +kernel
theorem dX3_strictestOne_25 : decode cX3_strictestOne 25 = .ok (.istore_n 1, 1) := by decide +kernel
theorem dX3_strictestOne_26 : decode cX3_strictestOne 26 = .ok (.iinc 2 1, 3) := by decide +kernel
theorem dX3_strictestOne_29 : decode cX3_strictestOne 29 = .ok (.goto (-25), 3) := by decide +kernel
theorem dX3_strictestOne_32 : decode cX3_strictestOne 32 = .ok (.iload_n 1, 1) := by decide +kernel
theorem dX3_strictestOne_33 : decode cX3_strictestOne 33 = .ok (.ireturn, 1) := by decide +kernel
set_option maxRecDepth 20000 in
theorem ggX3_strictest_X3_strictestOne : GoodIn wsX3_strictest wsX3_strictestOne := goodIn_r _ [5, 6, 7, 8, 9, 10, 11, 12, 13, 14, 4, 15, 16, 17, 18, 19, 20, 21, 22, 28, 29, 30, 31, 32, 33, 34, 35, 36, 37, 38, 39] (by decide +kernel) (by decide +kernel)
set_option maxRecDepth 20000 in
theorem gX3_strictest_X3_strictestOne : GoodIn wsX3_strictest (wsV RX3 154 RX3 yX3_strictestOne wsX3_strictestOne) := goodIn_app (goodIn_of _ (by decide +kernel)) ggX3_strictest_X3_strictestOne
set_option maxRecDepth 20000 in
theorem ggX3_strictest_X3_ok : GoodIn wsX3_strictest wsX3_ok := goodIn_r _ [26, 27, 28, 29, 30, 31, 32, 33, 34, 35, 36, 37, 38, 39] (by decide +kernel) (by decide +kernel)
set_option maxRecDepth 20000 in
theorem gX3_strictest_X3_ok : GoodIn wsX3_strictest (wsV RX3 130 RX3 yX3_ok wsX3_ok) := goodIn_app (goodIn_of _ (by decide +kernel)) ggX3_strictest_X3_ok
theorem dX3_strictest_0 : decode cX3_strictest 0 = .ok (.aload_n 0, 1) := by decide +kernel
theorem dX3_strictest_1 : decode cX3_strictest 1 = .ok (.aload_n 0, 1) := by decide +kernel
theorem dX3_strictest_2 : decode cX3_strictest 2 = .ok (.invokevirtual 154, 3) := by decide +kernel
theorem dX3_strictest_5 : decode cX3_strictest 5 = .ok (.invokevirtual 130, 3) := by decide +kernel
theorem dX3_strictest_8 : decode cX3_strictest 8 = .ok (.ireturn, 1) := by decide +kernel
set_option maxRecDepth 20000 in
theorem ggX3_longest_X3_most : GoodIn wsX3_longest wsX3_most := goodIn_r _ [6, 1, 7, 8, 9, 10, 11, 12, 13, 5, 14, 15, 16, 17, 18, 19, 20, 21, 22, 23, 24, 25, 26, 27, 28, 29, 30, 31] (by decide +kernel) (by decide +kernel)
set_option maxRecDepth 20000 in
theorem gX3_longest_X3_most : GoodIn wsX3_longest (wsV RX3 145 RX3 yX3_most wsX3_most) := goodIn_app (goodIn_of _ (by decide +kernel)) ggX3_longest_X3_most
theorem dX3_longest_0 : decode cX3_longest 0 = .ok (.iconst (-1), 1) := by decide +kernel
theorem dX3_longest_1 : decode cX3_longest 1 = .ok (.istore_n 1, 1) := by decide +kernel
theorem dX3_longest_2 : decode cX3_longest 2 = .ok (.iconst 0, 1) := by decide +kernel
theorem dX3_longest_3 : decode cX3_longest 3 = .ok (.istore_n 2, 1) := by decide +kernel
theorem dX3_longest_4 : decode cX3_longest 4 = .ok (.iconst 0, 1) := by decide +kernel
theorem dX3_longest_5 : decode cX3_longest 5 = .ok (.istore_n 3, 1) := by decide +kernel
theorem dX3_longest_6 : decode cX3_longest 6 = .ok (.iload_n 3, 1) := by decide +kernel
theorem dX3_longest_7 : decode cX3_longest 7 = .ok (.aload_n 0, 1) := by decide +kernel
theorem dX3_longest_8 : decode cX3_longest 8 = .ok (.getfield 39, 3) := by decide +kernel
theorem dX3_longest_11 : decode cX3_longest 11 = .ok (.if_icmp .ge 29, 3) := by decide +kernel
theorem dX3_longest_14 : decode cX3_longest 14 = .ok (.aload_n 0, 1) := by decide +kernel
theorem dX3_longest_15 : decode cX3_longest 15 = .ok (.iload_n 3, 1) := by decide +kernel
theorem dX3_longest_16 : decode cX3_longest 16 = .ok (.invokevirtual 145, 3) := by decide +kernel
theorem dX3_longest_19 : decode cX3_longest 19 = .ok (.iload_n 2, 1) := by decide +kernel
theorem dX3_longest_20 : decode cX3_longest 20 = .ok (.if_icmp .gt 6, 3) := by decide +kernel
theorem dX3_longest_23 : decode cX3_longest 23 = .ok (.goto 11, 3) := by decide +kernel
theorem dX3_longest_26 : decode cX3_longest 26 = .ok (.iload_n 3, 1) := by decide +kernel
theorem dX3_longest_27 : decode cX3_longest 27 = .ok (.istore_n 1, 1) := by decide +kernel
theorem dX3_longest_28 : decode cX3_longest 28 = .ok (.aload_n 0, 1) := by decide +kernel
theorem dX3_longest_29 : decode cX3_longest 29 = .ok (.iload_n 3, 1) := by decide +kernel
theorem dX3_longest_30 : decode cX3_longest 30 = .ok (.invokevirtual 145, 3) := by decide +kernel
theorem dX3_longest_33 : decode cX3_longest 33 = .ok (.istore_n 2, 1) := by decide +kernel
theorem dX3_longest_34 : decode cX3_longest 34 = .ok (.iinc 3 1, 3) := by decide +kernel
theorem dX3_longest_37 : decode cX3_longest 37 = .ok (.goto (-31), 3) := by decide +kernel
theorem dX3_longest_40 : decode cX3_longest 40 = .ok (.iload_n 1, 1) := by decide +kernel
theorem dX3_longest_41 : decode cX3_longest 41 = .ok (.ireturn, 1) := by decide +kernel
set_option maxRecDepth 20000 in
theorem ggX3_longestMourner_X3_longest : GoodIn wsX3_longestMourner wsX3_longest := goodIn_r _ [5, 6, 7, 8, 9, 4, 10, 11, 12, 13, 14, 15, 16, 17, 18, 19, 20, 21, 22, 23, 29, 30, 31, 32, 33, 34, 35, 36, 37, 38, 39, 40] (by decide +kernel) (by decide +kernel)
set_option maxRecDepth 20000 in
theorem gX3_longestMourner_X3_longest : GoodIn wsX3_longestMourner (wsV RX3 157 RX3 yX3_longest wsX3_longest) := goodIn_app (goodIn_of _ (by decide +kernel)) ggX3_longestMourner_X3_longest
set_option maxRecDepth 20000 in
theorem ggX3_longestMourner_X3_ok : GoodIn wsX3_longestMourner wsX3_ok := goodIn_r _ [27, 28, 29, 30, 31, 32, 33, 34, 35, 36, 37, 38, 39, 40] (by decide +kernel) (by decide +kernel)
set_option maxRecDepth 20000 in
theorem gX3_longestMourner_X3_ok : GoodIn wsX3_longestMourner (wsV RX3 130 RX3 yX3_ok wsX3_ok) := goodIn_app (goodIn_of _ (by decide +kernel)) ggX3_longestMourner_X3_ok
theorem dX3_longestMourner_0 : decode cX3_longestMourner 0 = .ok (.aload_n 0, 1) := by decide +kernel
theorem dX3_longestMourner_1 : decode cX3_longestMourner 1 = .ok (.aload_n 0, 1) := by decide +kernel
theorem dX3_longestMourner_2 : decode cX3_longestMourner 2 = .ok (.invokevirtual 157, 3) := by decide +kernel
theorem dX3_longestMourner_5 : decode cX3_longestMourner 5 = .ok (.invokevirtual 130, 3) := by decide +kernel
theorem dX3_longestMourner_8 : decode cX3_longestMourner 8 = .ok (.ireturn, 1) := by decide +kernel
set_option maxRecDepth 20000 in
theorem ggX3_daysWorn_X3_ok : GoodIn wsX3_daysWorn wsX3_ok := goodIn_r _ [6, 7, 8, 9, 10, 11, 12, 13, 14, 15, 16, 17, 18, 19] (by decide +kernel) (by decide +kernel)
set_option maxRecDepth 20000 in
theorem gX3_daysWorn_X3_ok : GoodIn wsX3_daysWorn (wsV RX3 130 RX3 yX3_ok wsX3_ok) := goodIn_app (goodIn_of _ (by decide +kernel)) ggX3_daysWorn_X3_ok
theorem dX3_daysWorn_0 : decode cX3_daysWorn 0 = .ok (.aload_n 0, 1) := by decide +kernel
theorem dX3_daysWorn_1 : decode cX3_daysWorn 1 = .ok (.aload_n 0, 1) := by decide +kernel
theorem dX3_daysWorn_2 : decode cX3_daysWorn 2 = .ok (.getfield 121, 3) := by decide +kernel
theorem dX3_daysWorn_5 : decode cX3_daysWorn 5 = .ok (.invokevirtual 130, 3) := by decide +kernel
theorem dX3_daysWorn_8 : decode cX3_daysWorn 8 = .ok (.ireturn, 1) := by decide +kernel
set_option maxRecDepth 20000 in
theorem ggX3_wouldMourn_X3_isPerson : GoodIn wsX3_wouldMourn wsX3_isPerson := goodIn_r _ [7, 8, 9, 10, 6, 11, 43, 44, 45, 46, 47, 48, 49, 50, 51, 52, 53, 54] (by decide +kernel) (by decide +kernel)
set_option maxRecDepth 20000 in
theorem gX3_wouldMourn_X3_isPerson : GoodIn wsX3_wouldMourn (wsV RX3 67 RX3 yX3_isPerson wsX3_isPerson) := goodIn_app (goodIn_of _ (by decide +kernel)) ggX3_wouldMourn_X3_isPerson
set_option maxRecDepth 20000 in
theorem ggX3_wouldMourn_X3_no : GoodIn wsX3_wouldMourn wsX3_no := goodIn_r _ [15, 1, 43, 44, 45, 46, 47, 48, 49, 50, 51, 52, 53, 54] (by decide +kernel) (by decide +kernel)
set_option maxRecDepth 20000 in
theorem gX3_wouldMourn_X3_no : GoodIn wsX3_wouldMourn (wsV RX3 60 RX3 yX3_no wsX3_no) := goodIn_app (goodIn_of _ (by decide +kernel)) ggX3_wouldMourn_X3_no
set_option maxRecDepth 20000 in
theorem ggX3_wouldMourn_X3_mourners : GoodIn wsX3_wouldMourn wsX3_mourners := goodIn_r _ [19, 8, 20, 21, 22, 6, 23, 24, 25, 26, 27, 28, 29, 30, 31, 32, 33, 34, 2, 35, 36, 37, 38, 39, 40, 41, 42, 43, 44, 45, 46, 47, 48, 49, 50, 51, 52, 53, 54] (by decide +kernel) (by decide +kernel)
set_option maxRecDepth 20000 in
theorem gX3_wouldMourn_X3_mourners : GoodIn wsX3_wouldMourn (wsV RX3 105 RX3 yX3_mourners wsX3_mourners) := goodIn_app (goodIn_of _ (by decide +kernel)) ggX3_wouldMourn_X3_mourners
theorem dX3_wouldMourn_0 : decode cX3_wouldMourn 0 = .ok (.aload_n 0, 1) := by decide +kernel
theorem dX3_wouldMourn_1 : decode cX3_wouldMourn 1 = .ok (.iconst 0, 1) := by decide +kernel
theorem dX3_wouldMourn_2 : decode cX3_wouldMourn 2 = .ok (.putfield 35, 3) := by decide +kernel
theorem dX3_wouldMourn_5 : decode cX3_wouldMourn 5 = .ok (.aload_n 0, 1) := by decide +kernel
theorem dX3_wouldMourn_6 : decode cX3_wouldMourn 6 = .ok (.iload_n 1, 1) := by decide +kernel
theorem dX3_wouldMourn_7 : decode cX3_wouldMourn 7 = .ok (.invokevirtual 67, 3) := by decide +kernel
theorem dX3_wouldMourn_10 : decode cX3_wouldMourn 10 = .ok (.ifCond .ne 9, 3) := by decide +kernel
theorem dX3_wouldMourn_13 : decode cX3_wouldMourn 13 = .ok (.aload_n 0, 1) := by decide +kernel
theorem dX3_wouldMourn_14 : decode cX3_wouldMourn 14 = .ok (.iconst 1, 1) := by decide +kernel
theorem dX3_wouldMourn_15 : decode cX3_wouldMourn 15 = .ok (.invokevirtual 60, 3) := by decide +kernel
theorem dX3_wouldMourn_18 : decode cX3_wouldMourn 18 = .ok (.ireturn, 1) := by decide +kernel
theorem dX3_wouldMourn_19 : decode cX3_wouldMourn 19 = .ok (.aload_n 0, 1) := by decide +kernel
theorem dX3_wouldMourn_20 : decode cX3_wouldMourn 20 = .ok (.getfield 16, 3) := by decide +kernel
theorem dX3_wouldMourn_23 : decode cX3_wouldMourn 23 = .ok (.iload_n 1, 1) := by decide +kernel
theorem dX3_wouldMourn_24 : decode cX3_wouldMourn 24 = .ok (.baload, 1) := by decide +kernel
theorem dX3_wouldMourn_25 : decode cX3_wouldMourn 25 = .ok (.ifCond .eq 11, 3) := by decide +kernel
theorem dX3_wouldMourn_28 : decode cX3_wouldMourn 28 = .ok (.aload_n 0, 1) := by decide +kernel
theorem dX3_wouldMourn_29 : decode cX3_wouldMourn 29 = .ok (.iload_n 1, 1) := by decide +kernel
theorem dX3_wouldMourn_30 : decode cX3_wouldMourn 30 = .ok (.invokevirtual 105, 3) := by decide +kernel
theorem dX3_wouldMourn_33 : decode cX3_wouldMourn 33 = .ok (.goto 8, 3) := by decide +kernel
theorem dX3_wouldMourn_36 : decode cX3_wouldMourn 36 = .ok (.aload_n 0, 1) := by decide +kernel
theorem dX3_wouldMourn_37 : decode cX3_wouldMourn 37 = .ok (.iconst 2, 1) := by decide +kernel
theorem dX3_wouldMourn_38 : decode cX3_wouldMourn 38 = .ok (.invokevirtual 60, 3) := by decide +kernel
theorem dX3_wouldMourn_41 : decode cX3_wouldMourn 41 = .ok (.ireturn, 1) := by decide +kernel
set_option maxRecDepth 20000 in
theorem ggX3_layMore_X3_go : GoodIn wsX3_layMore wsX3_go := goodIn_r _ [7, 8, 2, 9, 10, 11, 6, 12, 13, 14, 34, 35, 36, 37, 38, 39, 40, 41, 42, 43, 44, 45] (by decide +kernel) (by decide +kernel)
set_option maxRecDepth 20000 in
theorem gX3_layMore_X3_go : GoodIn wsX3_layMore (wsV RX3 50 RX3 yX3_go wsX3_go) := goodIn_app (goodIn_of _ (by decide +kernel)) ggX3_layMore_X3_go
set_option maxRecDepth 20000 in
theorem ggX3_layMore_X3_isMourner : GoodIn wsX3_layMore wsX3_isMourner := goodIn_r _ [18, 19, 2, 20, 21, 22, 6, 23, 24, 25, 26, 27, 34, 35, 36, 37, 38, 39, 40, 41, 42, 43, 44, 45] (by decide +kernel) (by decide +kernel)
set_option maxRecDepth 20000 in
theorem gX3_layMore_X3_isMourner : GoodIn wsX3_layMore (wsV RX3 102 RX3 yX3_isMourner wsX3_isMourner) := goodIn_app (goodIn_of _ (by decide +kernel)) ggX3_layMore_X3_isMourner
set_option maxRecDepth 20000 in
theorem ggX3_layMore_X3_write : GoodIn wsX3_layMore wsX3_write := goodIn_r _ [31, 32, 33, 24, 25, 26, 6, 27, 34, 35, 36, 37, 38, 39, 40, 41, 42, 43, 44, 45] (by decide +kernel) (by decide +kernel)
set_option maxRecDepth 20000 in
theorem gX3_layMore_X3_write : GoodIn wsX3_layMore (wsV RX3 108 RX3 yX3_write wsX3_write) := goodIn_app (goodIn_of _ (by decide +kernel)) ggX3_layMore_X3_write
theorem dX3_layMore_0 : decode cX3_layMore 0 = .ok (.aload_n 0, 1) := by decide +kernel
theorem dX3_layMore_1 : decode cX3_layMore 1 = .ok (.iload_n 2, 1) := by decide +kernel
theorem dX3_layMore_2 : decode cX3_layMore 2 = .ok (.invokevirtual 50, 3) := by decide +kernel
theorem dX3_layMore_5 : decode cX3_layMore 5 = .ok (.aload_n 0, 1) := by decide +kernel
theorem dX3_layMore_6 : decode cX3_layMore 6 = .ok (.getfield 32, 3) := by decide +kernel
theorem dX3_layMore_9 : decode cX3_layMore 9 = .ok (.iconst 0, 1) := by decide +kernel
theorem dX3_layMore_10 : decode cX3_layMore 10 = .ok (.iconst (-1), 1) := by decide +kernel
theorem dX3_layMore_11 : decode cX3_layMore 11 = .ok (.iastore, 1) := by decide +kernel
theorem dX3_layMore_12 : decode cX3_layMore 12 = .ok (.aload_n 0, 1) := by decide +kernel
theorem dX3_layMore_13 : decode cX3_layMore 13 = .ok (.iload_n 1, 1) := by decide +kernel
theorem dX3_layMore_14 : decode cX3_layMore 14 = .ok (.iload_n 2, 1) := by decide +kernel
theorem dX3_layMore_15 : decode cX3_layMore 15 = .ok (.invokevirtual 102, 3) := by decide +kernel
theorem dX3_layMore_18 : decode cX3_layMore 18 = .ok (.ifCond .eq 18, 3) := by decide +kernel
theorem dX3_layMore_21 : decode cX3_layMore 21 = .ok (.aload_n 0, 1) := by decide +kernel
theorem dX3_layMore_22 : decode cX3_layMore 22 = .ok (.aload_n 0, 1) := by decide +kernel
theorem dX3_layMore_23 : decode cX3_layMore 23 = .ok (.getfield 32, 3) := by decide +kernel
theorem dX3_layMore_26 : decode cX3_layMore 26 = .ok (.iconst 0, 1) := by decide +kernel
theorem dX3_layMore_27 : decode cX3_layMore 27 = .ok (.aload_n 0, 1) := by decide +kernel
theorem dX3_layMore_28 : decode cX3_layMore 28 = .ok (.getfield 29, 3) := by decide +kernel
theorem dX3_layMore_31 : decode cX3_layMore 31 = .ok (.iload_n 1, 1) := by decide +kernel
theorem dX3_layMore_32 : decode cX3_layMore 32 = .ok (.iaload, 1) := by decide +kernel
theorem dX3_layMore_33 : decode cX3_layMore 33 = .ok (.invokevirtual 108, 3) := by decide +kernel
theorem dX3_layMore_36 : decode cX3_layMore 36 = .ok (.return_, 1) := by decide +kernel
set_option maxRecDepth 20000 in
theorem ggX3_wearsThen_X3_wears : GoodIn wsX3_wearsThen wsX3_wears := goodIn_r _ [10, 11, 12, 2, 3, 4, 5, 13, 14, 9, 15, 16, 17, 18, 19, 20, 21, 22, 23, 24, 25, 26, 27, 28, 29, 30] (by decide +kernel) (by decide +kernel)
set_option maxRecDepth 20000 in
theorem gX3_wearsThen_X3_wears : GoodIn wsX3_wearsThen (wsV RX3 118 RX3 yX3_wears wsX3_wears) := goodIn_app (goodIn_of _ (by decide +kernel)) ggX3_wearsThen_X3_wears
set_option maxRecDepth 20000 in
theorem ggX3_wearsThen_X3_worn : GoodIn wsX3_wearsThen wsX3_worn := goodIn_r _ [18] (by decide +kernel) (by decide +kernel)
set_option maxRecDepth 20000 in
theorem gX3_wearsThen_X3_worn : GoodIn wsX3_wearsThen (va_wsS RX3 98 yX3_worn wsX3_worn) := goodIn_app (goodIn_of _ (by decide +kernel)) ggX3_wearsThen_X3_worn
theorem dX3_wearsThen_0 : decode cX3_wearsThen 0 = .ok (.aload_n 0, 1) := by decide +kernel
theorem dX3_wearsThen_1 : decode cX3_wearsThen 1 = .ok (.iload_n 1, 1) := by decide +kernel
theorem dX3_wearsThen_2 : decode cX3_wearsThen 2 = .ok (.iload_n 2, 1) := by decide +kernel
theorem dX3_wearsThen_3 : decode cX3_wearsThen 3 = .ok (.invokevirtual 118, 3) := by decide +kernel
theorem dX3_wearsThen_6 : decode cX3_wearsThen 6 = .ok (.aload_n 0, 1) := by decide +kernel
theorem dX3_wearsThen_7 : decode cX3_wearsThen 7 = .ok (.getfield 32, 3) := by decide +kernel
theorem dX3_wearsThen_10 : decode cX3_wearsThen 10 = .ok (.iconst 0, 1) := by decide +kernel
theorem dX3_wearsThen_11 : decode cX3_wearsThen 11 = .ok (.iload_n 2, 1) := by decide +kernel
theorem dX3_wearsThen_12 : decode cX3_wearsThen 12 = .ok (.invokestatic 98, 3) := by decide +kernel
theorem dX3_wearsThen_15 : decode cX3_wearsThen 15 = .ok (.invokestatic 54, 3) := by decide +kernel
theorem dX3_wearsThen_18 : decode cX3_wearsThen 18 = .ok (.ireturn, 1) := by decide +kernel
set_option maxRecDepth 20000 in
theorem ggX3_worn__X3_layMore : GoodIn wsX3_worn_ wsX3_layMore := goodIn_r _ [6, 7, 8, 9, 10, 11, 5, 12, 13, 14, 15, 16, 17, 18, 19, 20, 21, 22, 23, 24, 25, 26, 27, 28, 29, 30, 31, 32, 33, 34, 35, 36, 1, 37, 57, 58, 59, 60, 61, 62, 63, 64, 65, 66, 67, 68] (by decide +kernel) (by decide +kernel)
set_option maxRecDepth 20000 in
theorem gX3_worn__X3_layMore : GoodIn wsX3_worn_ (wsV RX3 160 RX3 yX3_layMore wsX3_layMore) := goodIn_app (goodIn_of _ (by decide +kernel)) ggX3_worn__X3_layMore
set_option maxRecDepth 20000 in
theorem ggX3_worn__X3_wearsThen : GoodIn wsX3_worn_ wsX3_wearsThen := goodIn_r _ [41, 7, 42, 43, 44, 45, 46, 47, 48, 5, 49, 13, 50, 51, 52, 53, 54, 55, 56, 57, 58, 59, 60, 61, 62, 63, 64, 65, 66, 67, 68] (by decide +kernel) (by decide +kernel)
set_option maxRecDepth 20000 in
theorem gX3_worn__X3_wearsThen : GoodIn wsX3_worn_ (wsV RX3 164 RX3 yX3_wearsThen wsX3_wearsThen) := goodIn_app (goodIn_of _ (by decide +kernel)) ggX3_worn__X3_wearsThen
theorem dX3_worn__0 : decode cX3_worn_ 0 = .ok (.aload_n 0, 1) := by decide +kernel
theorem dX3_worn__1 : decode cX3_worn_ 1 = .ok (.iload_n 1, 1) := by decide +kernel
theorem dX3_worn__2 : decode cX3_worn_ 2 = .ok (.iload_n 2, 1) := by decide +kernel
theorem dX3_worn__3 : decode cX3_worn_ 3 = .ok (.invokevirtual 160, 3) := by decide +kernel
theorem dX3_worn__6 : decode cX3_worn_ 6 = .ok (.aload_n 0, 1) := by decide +kernel
theorem dX3_worn__7 : decode cX3_worn_ 7 = .ok (.iload_n 1, 1) := by decide +kernel
theorem dX3_worn__8 : decode cX3_worn_ 8 = .ok (.aload_n 0, 1) := by decide +kernel
theorem dX3_worn__9 : decode cX3_worn_ 9 = .ok (.getfield 95, 3) := by decide +kernel
theorem dX3_worn__12 : decode cX3_worn_ 12 = .ok (.invokevirtual 164, 3) := by decide +kernel
theorem dX3_worn__15 : decode cX3_worn_ 15 = .ok (.ireturn, 1) := by decide +kernel
set_option maxRecDepth 20000 in
theorem ggX3_wouldWear_X3_isPerson : GoodIn wsX3_wouldWear wsX3_isPerson := goodIn_r _ [7, 8, 9, 10, 6, 11, 73, 74, 75, 76, 77, 78, 79, 80, 81, 82, 83, 84] (by decide +kernel) (by decide +kernel)
set_option maxRecDepth 20000 in
theorem gX3_wouldWear_X3_isPerson : GoodIn wsX3_wouldWear (wsV RX3 67 RX3 yX3_isPerson wsX3_isPerson) := goodIn_app (goodIn_of _ (by decide +kernel)) ggX3_wouldWear_X3_isPerson
set_option maxRecDepth 20000 in
theorem ggX3_wouldWear_X3_no : GoodIn wsX3_wouldWear wsX3_no := goodIn_r _ [15, 1, 73, 74, 75, 76, 77, 78, 79, 80, 81, 82, 83, 84] (by decide +kernel) (by decide +kernel)
set_option maxRecDepth 20000 in
theorem gX3_wouldWear_X3_no : GoodIn wsX3_wouldWear (wsV RX3 60 RX3 yX3_no wsX3_no) := goodIn_app (goodIn_of _ (by decide +kernel)) ggX3_wouldWear_X3_no
set_option maxRecDepth 20000 in
theorem ggX3_wouldWear_X3_worn_ : GoodIn wsX3_wouldWear wsX3_worn_ := goodIn_r _ [19, 20, 21, 22, 23, 6, 24, 25, 26, 27, 28, 29, 30, 8, 31, 32, 33, 34, 35, 36, 37, 38, 39, 40, 2, 41, 42, 43, 44, 45, 46, 47, 48, 49, 50, 51, 52, 53, 54, 55, 56, 57, 58, 59, 60, 61, 62, 63, 64, 65, 66, 67, 68, 69, 70, 71, 72, 73, 74, 75, 76, 77, 78, 79, 80, 81, 82, 83, 84] (by decide +kernel) (by decide +kernel)
set_option maxRecDepth 20000 in
theorem gX3_wouldWear_X3_worn_ : GoodIn wsX3_wouldWear (wsV RX3 167 RX3 yX3_worn_ wsX3_worn_) := goodIn_app (goodIn_of _ (by decide +kernel)) ggX3_wouldWear_X3_worn_
theorem dX3_wouldWear_0 : decode cX3_wouldWear 0 = .ok (.aload_n 0, 1) := by decide +kernel
theorem dX3_wouldWear_1 : decode cX3_wouldWear 1 = .ok (.iconst 0, 1) := by decide +kernel
theorem dX3_wouldWear_2 : decode cX3_wouldWear 2 = .ok (.putfield 35, 3) := by decide +kernel
theorem dX3_wouldWear_5 : decode cX3_wouldWear 5 = .ok (.aload_n 0, 1) := by decide +kernel
theorem dX3_wouldWear_6 : decode cX3_wouldWear 6 = .ok (.iload_n 1, 1) := by decide +kernel
theorem dX3_wouldWear_7 : decode cX3_wouldWear 7 = .ok (.invokevirtual 67, 3) := by decide +kernel
theorem dX3_wouldWear_10 : decode cX3_wouldWear 10 = .ok (.ifCond .eq 11, 3) := by decide +kernel
theorem dX3_wouldWear_13 : decode cX3_wouldWear 13 = .ok (.aload_n 0, 1) := by decide +kernel
theorem dX3_wouldWear_14 : decode cX3_wouldWear 14 = .ok (.iload_n 2, 1) := by decide +kernel
theorem dX3_wouldWear_15 : decode cX3_wouldWear 15 = .ok (.invokevirtual 67, 3) := by decide +kernel
theorem dX3_wouldWear_18 : decode cX3_wouldWear 18 = .ok (.ifCond .ne 9, 3) := by decide +kernel
theorem dX3_wouldWear_21 : decode cX3_wouldWear 21 = .ok (.aload_n 0, 1) := by decide +kernel
theorem dX3_wouldWear_22 : decode cX3_wouldWear 22 = .ok (.iconst 1, 1) := by decide +kernel
theorem dX3_wouldWear_23 : decode cX3_wouldWear 23 = .ok (.invokevirtual 60, 3) := by decide +kernel
theorem dX3_wouldWear_26 : decode cX3_wouldWear 26 = .ok (.ireturn, 1) := by decide +kernel
theorem dX3_wouldWear_27 : decode cX3_wouldWear 27 = .ok (.iload_n 1, 1) := by decide +kernel
theorem dX3_wouldWear_28 : decode cX3_wouldWear 28 = .ok (.iload_n 2, 1) := by decide +kernel
theorem dX3_wouldWear_29 : decode cX3_wouldWear 29 = .ok (.if_icmp .ne 9, 3) := by decide +kernel
theorem dX3_wouldWear_32 : decode cX3_wouldWear 32 = .ok (.aload_n 0, 1) := by decide +kernel
theorem dX3_wouldWear_33 : decode cX3_wouldWear 33 = .ok (.iconst 2, 1) := by decide +kernel
theorem dX3_wouldWear_34 : decode cX3_wouldWear 34 = .ok (.invokevirtual 60, 3) := by decide +kernel
theorem dX3_wouldWear_37 : decode cX3_wouldWear 37 = .ok (.ireturn, 1) := by decide +kernel
theorem dX3_wouldWear_38 : decode cX3_wouldWear 38 = .ok (.aload_n 0, 1) := by decide +kernel
theorem dX3_wouldWear_39 : decode cX3_wouldWear 39 = .ok (.getfield 16, 3) := by decide +kernel
theorem dX3_wouldWear_42 : decode cX3_wouldWear 42 = .ok (.iload_n 1, 1) := by decide +kernel
theorem dX3_wouldWear_43 : decode cX3_wouldWear 43 = .ok (.baload, 1) := by decide +kernel
theorem dX3_wouldWear_44 : decode cX3_wouldWear 44 = .ok (.ifCond .eq 21, 3) := by decide +kernel
theorem dX3_wouldWear_47 : decode cX3_wouldWear 47 = .ok (.aload_n 0, 1) := by decide +kernel
theorem dX3_wouldWear_48 : decode cX3_wouldWear 48 = .ok (.getfield 16, 3) := by decide +kernel
theorem dX3_wouldWear_51 : decode cX3_wouldWear 51 = .ok (.iload_n 2, 1) := by decide +kernel
theorem dX3_wouldWear_52 : decode cX3_wouldWear 52 = .ok (.baload, 1) := by decide +kernel
theorem dX3_wouldWear_53 : decode cX3_wouldWear 53 = .ok (.ifCond .eq 12, 3) := by decide +kernel
theorem dX3_wouldWear_56 : decode cX3_wouldWear 56 = .ok (.aload_n 0, 1) := by decide +kernel
theorem dX3_wouldWear_57 : decode cX3_wouldWear 57 = .ok (.iload_n 1, 1) := by decide +kernel
theorem dX3_wouldWear_58 : decode cX3_wouldWear 58 = .ok (.iload_n 2, 1) := by decide +kernel
theorem dX3_wouldWear_59 : decode cX3_wouldWear 59 = .ok (.invokevirtual 167, 3) := by decide +kernel
theorem dX3_wouldWear_62 : decode cX3_wouldWear 62 = .ok (.goto 8, 3) := by decide +kernel
theorem dX3_wouldWear_65 : decode cX3_wouldWear 65 = .ok (.aload_n 0, 1) := by decide +kernel
theorem dX3_wouldWear_66 : decode cX3_wouldWear 66 = .ok (.iconst 3, 1) := by decide +kernel
theorem dX3_wouldWear_67 : decode cX3_wouldWear 67 = .ok (.invokevirtual 60, 3) := by decide +kernel
theorem dX3_wouldWear_70 : decode cX3_wouldWear 70 = .ok (.ireturn, 1) := by decide +kernel
set_option maxRecDepth 20000 in
theorem ggX3_allDays_X3_layMore : GoodIn wsX3_allDays wsX3_layMore := goodIn_r _ [8, 9, 10, 11, 12, 13, 7, 14, 1, 15, 16, 17, 18, 19, 20, 21, 22, 23, 24, 2, 25, 26, 27, 28, 29, 30, 31, 32, 33, 34, 35, 36, 3, 37, 57, 58, 59, 60, 61, 62, 63, 64, 65, 66, 67, 68] (by decide +kernel) (by decide +kernel)
set_option maxRecDepth 20000 in
theorem gX3_allDays_X3_layMore : GoodIn wsX3_allDays (wsV RX3 160 RX3 yX3_layMore wsX3_layMore) := goodIn_app (goodIn_of _ (by decide +kernel)) ggX3_allDays_X3_layMore
set_option maxRecDepth 20000 in
theorem ggX3_allDays_X3_wearsThen : GoodIn wsX3_allDays wsX3_wearsThen := goodIn_r _ [41, 9, 42, 43, 44, 45, 46, 47, 48, 7, 49, 1, 50, 51, 52, 53, 54, 55, 56, 57, 58, 59, 60, 61, 62, 63, 64, 65, 66, 67, 68] (by decide +kernel) (by decide +kernel)
set_option maxRecDepth 20000 in
theorem gX3_allDays_X3_wearsThen : GoodIn wsX3_allDays (wsV RX3 164 RX3 yX3_wearsThen wsX3_wearsThen) := goodIn_app (goodIn_of _ (by decide +kernel)) ggX3_allDays_X3_wearsThen
theorem dX3_allDays_0 : decode cX3_allDays 0 = .ok (.iconst 0, 1) := by decide +kernel
theorem dX3_allDays_1 : decode cX3_allDays 1 = .ok (.istore_n 2, 1) := by decide +kernel
theorem dX3_allDays_2 : decode cX3_allDays 2 = .ok (.iconst 0, 1) := by decide +kernel
theorem dX3_allDays_3 : decode cX3_allDays 3 = .ok (.istore_n 3, 1) := by decide +kernel
theorem dX3_allDays_4 : decode cX3_allDays 4 = .ok (.iload_n 3, 1) := by decide +kernel
theorem dX3_allDays_5 : decode cX3_allDays 5 = .ok (.aload_n 0, 1) := by decide +kernel
theorem dX3_allDays_6 : decode cX3_allDays 6 = .ok (.getfield 39, 3) := by decide +kernel
theorem dX3_allDays_9 : decode cX3_allDays 9 = .ok (.if_icmp .ge 72, 3) := by decide +kernel
theorem dX3_allDays_12 : decode cX3_allDays 12 = .ok (.iload_n 3, 1) := by decide +kernel
theorem dX3_allDays_13 : decode cX3_allDays 13 = .ok (.iload_n 1, 1) := by decide +kernel
theorem dX3_allDays_14 : decode cX3_allDays 14 = .ok (.if_icmp .eq 61, 3) := by decide +kernel
theorem dX3_allDays_17 : decode cX3_allDays 17 = .ok (.aload_n 0, 1) := by decide +kernel
theorem dX3_allDays_18 : decode cX3_allDays 18 = .ok (.getfield 16, 3) := by decide +kernel
theorem dX3_allDays_21 : decode cX3_allDays 21 = .ok (.iload_n 3, 1) := by decide +kernel
theorem dX3_allDays_22 : decode cX3_allDays 22 = .ok (.baload, 1) := by decide +kernel
theorem dX3_allDays_23 : decode cX3_allDays 23 = .ok (.ifCond .ne 6, 3) := by decide +kernel
theorem dX3_allDays_26 : decode cX3_allDays 26 = .ok (.goto 49, 3) := by decide +kernel
theorem dX3_allDays_29 : decode cX3_allDays 29 = .ok (.aload_n 0, 1) := by decide +kernel
theorem dX3_allDays_30 : decode cX3_allDays 30 = .ok (.iload_n 3, 1) := by decide +kernel
theorem dX3_allDays_31 : decode cX3_allDays 31 = .ok (.iload_n 1, 1) := by decide +kernel
theorem dX3_allDays_32 : decode cX3_allDays 32 = .ok (.invokevirtual 160, 3) := by decide +kernel
theorem dX3_allDays_35 : decode cX3_allDays 35 = .ok (.iconst 0, 1) := by decide +kernel
theorem dX3_allDays_36 : decode cX3_allDays 36 = .ok (.istore 4, 2) := by decide +kernel
theorem dX3_allDays_38 : decode cX3_allDays 38 = .ok (.iload 4, 2) := by decide +kernel
theorem dX3_allDays_40 : decode cX3_allDays 40 = .ok (.sipush 180, 3) := by decide +kernel
theorem dX3_allDays_43 : decode cX3_allDays 43 = .ok (.if_icmp .ge 32, 3) := by decide +kernel
theorem dX3_allDays_46 : decode cX3_allDays 46 = .ok (.iload_n 2, 1) := by decide +kernel
theorem dX3_allDays_47 : decode cX3_allDays 47 = .ok (.aload_n 0, 1) := by decide +kernel
theorem dX3_allDays_48 : decode cX3_allDays 48 = .ok (.iload_n 3, 1) := by decide +kernel
theorem dX3_allDays_49 : decode cX3_allDays 49 = .ok (.aload_n 0, 1) := by decide +kernel
theorem dX3_allDays_50 : decode cX3_allDays 50 = .ok (.getfield 95, 3) := by decide +kernel
theorem dX3_allDays_53 : decode cX3_allDays 53 = .ok (.iload 4, 2) := by decide +kernel
theorem dX3_allDays_55 : decode cX3_allDays 55 = .ok (.iadd, 1) := by decide +kernel
theorem dX3_allDays_56 : decode cX3_allDays 56 = .ok (.invokevirtual 164, 3) := by decide +kernel
theorem dX3_allDays_59 : decode cX3_allDays 59 = .ok (.ifCond .le 7, 3) := by decide +kernel
theorem dX3_allDays_62 : decode cX3_allDays 62 = .ok (.iconst 1, 1) := by decide +kernel
theorem dX3_allDays_63 : decode cX3_allDays 63 = .ok (.goto 4, 3) := by decide +kernel
theorem dX3_allDays_66 : decode cX3_allDays 66 = .ok (.iconst 0, 1) := by decide +kernel
theorem dX3_allDays_67 : decode cX3_allDays 67 = .ok (.iadd, 1) := by decide +kernel
theorem dX3_allDays_68 : decode cX3_allDays 68 = .ok (.istore_n 2, 1) := by decide +kernel
theorem dX3_allDays_69 : decode cX3_allDays 69 = .ok (.iinc 4 1, 3) := by decide +kernel
theorem dX3_allDays_72 : decode cX3_allDays 72 = .ok (.goto (-34), 3) := by decide +kernel
theorem dX3_allDays_75 : decode cX3_allDays 75 = .ok (.iinc 3 1, 3) := by decide +kernel
theorem dX3_allDays_78 : decode cX3_allDays 78 = .ok (.goto (-74), 3) := by decide +kernel
theorem dX3_allDays_81 : decode cX3_allDays 81 = .ok (.iload_n 2, 1) := by decide +kernel
theorem dX3_allDays_82 : decode cX3_allDays 82 = .ok (.ireturn, 1) := by decide +kernel
set_option maxRecDepth 20000 in
theorem ggX3_heaviest_X3_allDays : GoodIn wsX3_heaviest wsX3_allDays := goodIn_r _ [7, 1, 2, 8, 9, 10, 11, 6, 12, 13, 14, 15, 16, 17, 18, 19, 20, 21, 22, 23, 24, 25, 26, 27, 28, 29, 30, 31, 32, 33, 34, 35, 36, 37, 38, 39, 40, 41, 42, 43, 44, 45, 46, 47, 48, 49, 50, 51, 52, 53, 54, 55, 56, 57, 58, 59, 60, 61, 62, 63, 64, 65, 66, 67, 68, 69, 70, 71, 72] (by decide +kernel) (by decide +kernel)
set_option maxRecDepth 20000 in
theorem gX3_heaviest_X3_allDays : GoodIn wsX3_heaviest (wsV RX3 169 RX3 yX3_allDays wsX3_allDays) := goodIn_app (goodIn_of _ (by decide +kernel)) ggX3_heaviest_X3_allDays
theorem dX3_heaviest_0 : decode cX3_heaviest 0 = .ok (.iconst (-1), 1) := by decide +kernel
theorem dX3_heaviest_1 : decode cX3_heaviest 1 = .ok (.istore_n 1, 1) := by decide +kernel
theorem dX3_heaviest_2 : decode cX3_heaviest 2 = .ok (.iconst (-1), 1) := by decide +kernel
theorem dX3_heaviest_3 : decode cX3_heaviest 3 = .ok (.istore_n 2, 1) := by decide +kernel
theorem dX3_heaviest_4 : decode cX3_heaviest 4 = .ok (.iconst 0, 1) := by decide +kernel
theorem dX3_heaviest_5 : decode cX3_heaviest 5 = .ok (.istore_n 3, 1) := by decide +kernel
theorem dX3_heaviest_6 : decode cX3_heaviest 6 = .ok (.iload_n 3, 1) := by decide +kernel
theorem dX3_heaviest_7 : decode cX3_heaviest 7 = .ok (.aload_n 0, 1) := by decide +kernel
theorem dX3_heaviest_8 : decode cX3_heaviest 8 = .ok (.getfield 39, 3) := by decide +kernel
theorem dX3_heaviest_11 : decode cX3_heaviest 11 = .ok (.if_icmp .ge 43, 3) := by decide +kernel
theorem dX3_heaviest_14 : decode cX3_heaviest 14 = .ok (.aload_n 0, 1) := by decide +kernel
theorem dX3_heaviest_15 : decode cX3_heaviest 15 = .ok (.getfield 16, 3) := by decide +kernel
theorem dX3_heaviest_18 : decode cX3_heaviest 18 = .ok (.iload_n 3, 1) := by decide +kernel
theorem dX3_heaviest_19 : decode cX3_heaviest 19 = .ok (.baload, 1) := by decide +kernel
theorem dX3_heaviest_20 : decode cX3_heaviest 20 = .ok (.ifCond .eq 11, 3) := by decide +kernel
theorem dX3_heaviest_23 : decode cX3_heaviest 23 = .ok (.aload_n 0, 1) := by decide +kernel
theorem dX3_heaviest_24 : decode cX3_heaviest 24 = .ok (.iload_n 3, 1) := by decide +kernel
theorem dX3_heaviest_25 : decode cX3_heaviest 25 = .ok (.invokevirtual 169, 3) := by decide +kernel
theorem dX3_heaviest_28 : decode cX3_heaviest 28 = .ok (.goto 4, 3) := by decide +kernel
theorem dX3_heaviest_31 : decode cX3_heaviest 31 = .ok (.iconst (-1), 1) := by decide +kernel
theorem dX3_heaviest_32 : decode cX3_heaviest 32 = .ok (.istore 4, 2) := by decide +kernel
theorem dX3_heaviest_34 : decode cX3_heaviest 34 = .ok (.iload 4, 2) := by decide +kernel
theorem dX3_heaviest_36 : decode cX3_heaviest 36 = .ok (.iload_n 2, 1) := by decide +kernel
theorem dX3_heaviest_37 : decode cX3_heaviest 37 = .ok (.if_icmp .gt 6, 3) := by decide +kernel
theorem dX3_heaviest_40 : decode cX3_heaviest 40 = .ok (.goto 8, 3) := by decide +kernel
theorem dX3_heaviest_43 : decode cX3_heaviest 43 = .ok (.iload_n 3, 1) := by decide +kernel
theorem dX3_heaviest_44 : decode cX3_heaviest 44 = .ok (.istore_n 1, 1) := by decide +kernel
theorem dX3_heaviest_45 : decode cX3_heaviest 45 = .ok (.iload 4, 2) := by decide +kernel
theorem dX3_heaviest_47 : decode cX3_heaviest 47 = .ok (.istore_n 2, 1) := by decide +kernel
theorem dX3_heaviest_48 : decode cX3_heaviest 48 = .ok (.iinc 3 1, 3) := by decide +kernel
theorem dX3_heaviest_51 : decode cX3_heaviest 51 = .ok (.goto (-45), 3) := by decide +kernel
theorem dX3_heaviest_54 : decode cX3_heaviest 54 = .ok (.iload_n 1, 1) := by decide +kernel
theorem dX3_heaviest_55 : decode cX3_heaviest 55 = .ok (.ireturn, 1) := by decide +kernel
set_option maxRecDepth 20000 in
theorem ggX3_heaviestLoss_X3_heaviest : GoodIn wsX3_heaviestLoss wsX3_heaviest := goodIn_r _ [5, 6, 7, 8, 9, 10, 4, 11, 12, 13, 14, 15, 16, 17, 18, 19, 20, 21, 22, 23, 24, 25, 26, 27, 28, 29, 30, 31, 32, 33, 34, 35, 36, 37, 38, 39, 40, 41, 42, 43, 44, 45, 46, 47, 48, 49, 50, 51, 52, 53, 54, 55, 56, 57, 58, 59, 60, 61, 62, 63, 64, 70, 71, 72, 73, 74, 75, 76, 77, 78, 79, 80, 81] (by decide +kernel) (by decide +kernel)
set_option maxRecDepth 20000 in
theorem gX3_heaviestLoss_X3_heaviest : GoodIn wsX3_heaviestLoss (wsV RX3 172 RX3 yX3_heaviest wsX3_heaviest) := goodIn_app (goodIn_of _ (by decide +kernel)) ggX3_heaviestLoss_X3_heaviest
set_option maxRecDepth 20000 in
theorem ggX3_heaviestLoss_X3_ok : GoodIn wsX3_heaviestLoss wsX3_ok := goodIn_r _ [68, 69, 70, 71, 72, 73, 74, 75, 76, 77, 78, 79, 80, 81] (by decide +kernel) (by decide +kernel)
set_option maxRecDepth 20000 in
theorem gX3_heaviestLoss_X3_ok : GoodIn wsX3_heaviestLoss (wsV RX3 130 RX3 yX3_ok wsX3_ok) := goodIn_app (goodIn_of _ (by decide +kernel)) ggX3_heaviestLoss_X3_ok
theorem dX3_heaviestLoss_0 : decode cX3_heaviestLoss 0 = .ok (.aload_n 0, 1) := by decide +kernel
theorem dX3_heaviestLoss_1 : decode cX3_heaviestLoss 1 = .ok (.aload_n 0, 1) := by decide +kernel
theorem dX3_heaviestLoss_2 : decode cX3_heaviestLoss 2 = .ok (.invokevirtual 172, 3) := by decide +kernel
theorem dX3_heaviestLoss_5 : decode cX3_heaviestLoss 5 = .ok (.invokevirtual 130, 3) := by decide +kernel
theorem dX3_heaviestLoss_8 : decode cX3_heaviestLoss 8 = .ok (.ireturn, 1) := by decide +kernel
set_option maxRecDepth 20000 in
theorem ggX3_meanDaysLeft_X3_most : GoodIn wsX3_meanDaysLeft wsX3_most := goodIn_r _ [7, 2, 8, 9, 10, 11, 12, 13, 14, 6, 15, 16, 17, 18, 19, 20, 26, 27, 28, 29, 30, 31, 32, 33, 34, 35, 36, 37] (by decide +kernel) (by decide +kernel)
set_option maxRecDepth 20000 in
theorem gX3_meanDaysLeft_X3_most : GoodIn wsX3_meanDaysLeft (wsV RX3 145 RX3 yX3_most wsX3_most) := goodIn_app (goodIn_of _ (by decide +kernel)) ggX3_meanDaysLeft_X3_most
set_option maxRecDepth 20000 in
theorem ggX3_meanDaysLeft_X3_alive : GoodIn wsX3_meanDaysLeft wsX3_alive := goodIn_r _ [24, 2, 25, 26, 27, 28, 29, 30, 31, 32, 33, 34, 35, 36, 37] (by decide +kernel) (by decide +kernel)
set_option maxRecDepth 20000 in
theorem gX3_meanDaysLeft_X3_alive : GoodIn wsX3_meanDaysLeft (wsV RX3 133 RX3 yX3_alive wsX3_alive) := goodIn_app (goodIn_of _ (by decide +kernel)) ggX3_meanDaysLeft_X3_alive
theorem dX3_meanDaysLeft_0 : decode cX3_meanDaysLeft 0 = .ok (.aload_n 0, 1) := by decide +kernel
theorem dX3_meanDaysLeft_1 : decode cX3_meanDaysLeft 1 = .ok (.iconst 0, 1) := by decide +kernel
theorem dX3_meanDaysLeft_2 : decode cX3_meanDaysLeft 2 = .ok (.putfield 35, 3) := by decide +kernel
theorem dX3_meanDaysLeft_5 : decode cX3_meanDaysLeft 5 = .ok (.iconst 0, 1) := by decide +kernel
theorem dX3_meanDaysLeft_6 : decode cX3_meanDaysLeft 6 = .ok (.istore_n 1, 1) := by decide +kernel
theorem dX3_meanDaysLeft_7 : decode cX3_meanDaysLeft 7 = .ok (.iconst 0, 1) := by decide +kernel
theorem dX3_meanDaysLeft_8 : decode cX3_meanDaysLeft 8 = .ok (.istore_n 2, 1) := by decide +kernel
theorem dX3_meanDaysLeft_9 : decode cX3_meanDaysLeft 9 = .ok (.iload_n 2, 1) := by decide +kernel
theorem dX3_meanDaysLeft_10 : decode cX3_meanDaysLeft 10 = .ok (.aload_n 0, 1) := by decide +kernel
theorem dX3_meanDaysLeft_11 : decode cX3_meanDaysLeft 11 = .ok (.getfield 39, 3) := by decide +kernel
theorem dX3_meanDaysLeft_14 : decode cX3_meanDaysLeft 14 = .ok (.if_icmp .ge 17, 3) := by decide +kernel
theorem dX3_meanDaysLeft_17 : decode cX3_meanDaysLeft 17 = .ok (.iload_n 1, 1) := by decide +kernel
theorem dX3_meanDaysLeft_18 : decode cX3_meanDaysLeft 18 = .ok (.aload_n 0, 1) := by decide +kernel
theorem dX3_meanDaysLeft_19 : decode cX3_meanDaysLeft 19 = .ok (.iload_n 2, 1) := by decide +kernel
theorem dX3_meanDaysLeft_20 : decode cX3_meanDaysLeft 20 = .ok (.invokevirtual 145, 3) := by decide +kernel
theorem dX3_meanDaysLeft_23 : decode cX3_meanDaysLeft 23 = .ok (.iadd, 1) := by decide +kernel
theorem dX3_meanDaysLeft_24 : decode cX3_meanDaysLeft 24 = .ok (.istore_n 1, 1) := by decide +kernel
theorem dX3_meanDaysLeft_25 : decode cX3_meanDaysLeft 25 = .ok (.iinc 2 1, 3) := by decide +kernel
theorem dX3_meanDaysLeft_28 : decode cX3_meanDaysLeft 28 = .ok (.goto (-19), 3) := by decide +kernel
theorem dX3_meanDaysLeft_31 : decode cX3_meanDaysLeft 31 = .ok (.aload_n 0, 1) := by decide +kernel
theorem dX3_meanDaysLeft_32 : decode cX3_meanDaysLeft 32 = .ok (.invokevirtual 133, 3) := by decide +kernel
theorem dX3_meanDaysLeft_35 : decode cX3_meanDaysLeft 35 = .ok (.ifCond .ne 7, 3) := by decide +kernel
theorem dX3_meanDaysLeft_38 : decode cX3_meanDaysLeft 38 = .ok (.dconst 0, 1) := by decide +kernel
theorem dX3_meanDaysLeft_39 : decode cX3_meanDaysLeft 39 = .ok (.goto 11, 3) := by decide +kernel
theorem dX3_meanDaysLeft_42 : decode cX3_meanDaysLeft 42 = .ok (.iload_n 1, 1) := by decide +kernel
theorem dX3_meanDaysLeft_43 : decode cX3_meanDaysLeft 43 = .ok (.i2d, 1) := by decide +kernel
theorem dX3_meanDaysLeft_44 : decode cX3_meanDaysLeft 44 = .ok (.aload_n 0, 1) := by decide +kernel
theorem dX3_meanDaysLeft_45 : decode cX3_meanDaysLeft 45 = .ok (.invokevirtual 133, 3) := by decide +kernel
theorem dX3_meanDaysLeft_48 : decode cX3_meanDaysLeft 48 = .ok (.i2d, 1) := by decide +kernel
theorem dX3_meanDaysLeft_49 : decode cX3_meanDaysLeft 49 = .ok (.ddiv, 1) := by decide +kernel
theorem dX3_meanDaysLeft_50 : decode cX3_meanDaysLeft 50 = .ok (.dreturn, 1) := by decide +kernel
set_option maxRecDepth 20000 in
theorem ggX3_digest_X3_alive : GoodIn wsX3_digest wsX3_alive := goodIn_r _ [17, 3, 10, 70, 71, 72, 73, 74, 75, 76, 77, 78, 79, 80, 81] (by decide +kernel) (by decide +kernel)
set_option maxRecDepth 20000 in
theorem gX3_digest_X3_alive : GoodIn wsX3_digest (wsV RX3 133 RX3 yX3_alive wsX3_alive) := goodIn_app (goodIn_of _ (by decide +kernel)) ggX3_digest_X3_alive
set_option maxRecDepth 20000 in
theorem ggX3_digest_X3_strictestOne : GoodIn wsX3_digest wsX3_strictestOne := goodIn_r _ [21, 3, 4, 22, 23, 24, 25, 26, 27, 28, 16, 29, 30, 31, 32, 33, 34, 35, 36, 70, 71, 72, 73, 74, 75, 76, 77, 78, 79, 80, 81] (by decide +kernel) (by decide +kernel)
set_option maxRecDepth 20000 in
theorem gX3_digest_X3_strictestOne : GoodIn wsX3_digest (wsV RX3 154 RX3 yX3_strictestOne wsX3_strictestOne) := goodIn_app (goodIn_of _ (by decide +kernel)) ggX3_digest_X3_strictestOne
set_option maxRecDepth 20000 in
theorem ggX3_digest_X3_longest : GoodIn wsX3_digest wsX3_longest := goodIn_r _ [40, 3, 41, 42, 43, 16, 44, 22, 23, 24, 25, 45, 46, 47, 48, 30, 4, 31, 32, 33, 70, 71, 72, 73, 74, 75, 76, 77, 78, 79, 80, 81] (by decide +kernel) (by decide +kernel)
set_option maxRecDepth 20000 in
theorem gX3_digest_X3_longest : GoodIn wsX3_digest (wsV RX3 157 RX3 yX3_longest wsX3_longest) := goodIn_app (goodIn_of _ (by decide +kernel)) ggX3_digest_X3_longest
set_option maxRecDepth 20000 in
theorem ggX3_digest_X3_wears : GoodIn wsX3_digest wsX3_wears := goodIn_r _ [29, 3, 30, 22, 23, 24, 25, 31, 32, 16, 33, 34, 35, 36, 70, 71, 72, 73, 74, 75, 76, 77, 78, 79, 80, 81] (by decide +kernel) (by decide +kernel)
set_option maxRecDepth 20000 in
theorem gX3_digest_X3_wears : GoodIn wsX3_digest (wsV RX3 118 RX3 yX3_wears wsX3_wears) := goodIn_app (goodIn_of _ (by decide +kernel)) ggX3_digest_X3_wears
set_option maxRecDepth 20000 in
theorem ggX3_digest_X3_mournings : GoodIn wsX3_digest wsX3_mournings := goodIn_r _ [52, 3, 45, 46, 47, 16, 48, 30, 4, 22, 23, 24, 25, 31, 32, 33, 70, 71, 72, 73, 74, 75, 76, 77, 78, 79, 80, 81] (by decide +kernel) (by decide +kernel)
set_option maxRecDepth 20000 in
theorem gX3_digest_X3_mournings : GoodIn wsX3_digest (wsV RX3 142 RX3 yX3_mournings wsX3_mournings) := goodIn_app (goodIn_of _ (by decide +kernel)) ggX3_digest_X3_mournings
set_option maxRecDepth 20000 in
theorem ggX3_digest_X3_most : GoodIn wsX3_digest wsX3_most := goodIn_r _ [44, 3, 22, 23, 24, 25, 45, 46, 47, 16, 48, 30, 4, 31, 32, 33, 70, 71, 72, 73, 74, 75, 76, 77, 78, 79, 80, 81] (by decide +kernel) (by decide +kernel)
set_option maxRecDepth 20000 in
theorem gX3_digest_X3_most : GoodIn wsX3_digest (wsV RX3 145 RX3 yX3_most wsX3_most) := goodIn_app (goodIn_of _ (by decide +kernel)) ggX3_digest_X3_most
set_option maxRecDepth 20000 in
theorem ggX3_digest_X3_untilLighter : GoodIn wsX3_digest wsX3_untilLighter := goodIn_r _ [56, 4, 26, 27, 28, 16, 29, 3, 30, 22, 23, 24, 25, 31, 32, 33, 34, 35, 36, 70, 71, 72, 73, 74, 75, 76, 77, 78, 79, 80, 81] (by decide +kernel) (by decide +kernel)
set_option maxRecDepth 20000 in
theorem gX3_digest_X3_untilLighter : GoodIn wsX3_digest (wsV RX3 148 RX3 yX3_untilLighter wsX3_untilLighter) := goodIn_app (goodIn_of _ (by decide +kernel)) ggX3_digest_X3_untilLighter
set_option maxRecDepth 20000 in
theorem ggX3_digest_X3_kin : GoodIn wsX3_digest wsX3_kin := goodIn_r _ [60, 3, 10, 61, 62, 63, 64, 16, 65, 66, 67, 68, 69, 11, 12, 70, 71, 72, 73, 74, 75, 76, 77, 78, 79, 80, 81] (by decide +kernel) (by decide +kernel)
set_option maxRecDepth 20000 in
theorem gX3_digest_X3_kin : GoodIn wsX3_digest (wsV RX3 139 RX3 yX3_kin wsX3_kin) := goodIn_app (goodIn_of _ (by decide +kernel)) ggX3_digest_X3_kin
theorem dX3_digest_0 : decode cX3_digest 0 = .ok (.aload_n 0, 1) := by decide +kernel
theorem dX3_digest_1 : decode cX3_digest 1 = .ok (.iconst 0, 1) := by decide +kernel
theorem dX3_digest_2 : decode cX3_digest 2 = .ok (.putfield 35, 3) := by decide +kernel
theorem dX3_digest_5 : decode cX3_digest 5 = .ok (.bipush 6, 2) := by decide +kernel
theorem dX3_digest_7 : decode cX3_digest 7 = .ok (.newarray .int, 2) := by decide +kernel
theorem dX3_digest_9 : decode cX3_digest 9 = .ok (.dup, 1) := by decide +kernel
theorem dX3_digest_10 : decode cX3_digest 10 = .ok (.iconst 0, 1) := by decide +kernel
theorem dX3_digest_11 : decode cX3_digest 11 = .ok (.aload_n 0, 1) := by decide +kernel
theorem dX3_digest_12 : decode cX3_digest 12 = .ok (.getfield 39, 3) := by decide +kernel
theorem dX3_digest_15 : decode cX3_digest 15 = .ok (.iastore, 1) := by decide +kernel
theorem dX3_digest_16 : decode cX3_digest 16 = .ok (.dup, 1) := by decide +kernel
theorem dX3_digest_17 : decode cX3_digest 17 = .ok (.iconst 1, 1) := by decide +kernel
theorem dX3_digest_18 : decode cX3_digest 18 = .ok (.aload_n 0, 1) := by decide +kernel
theorem dX3_digest_19 : decode cX3_digest 19 = .ok (.invokevirtual 133, 3) := by decide +kernel
theorem dX3_digest_22 : decode cX3_digest 22 = .ok (.iastore, 1) := by decide +kernel
theorem dX3_digest_23 : decode cX3_digest 23 = .ok (.dup, 1) := by decide +kernel
theorem dX3_digest_24 : decode cX3_digest 24 = .ok (.iconst 2, 1) := by decide +kernel
theorem dX3_digest_25 : decode cX3_digest 25 = .ok (.aload_n 0, 1) := by decide +kernel
theorem dX3_digest_26 : decode cX3_digest 26 = .ok (.getfield 95, 3) := by decide +kernel
theorem dX3_digest_29 : decode cX3_digest 29 = .ok (.iastore, 1) := by decide +kernel
theorem dX3_digest_30 : decode cX3_digest 30 = .ok (.dup, 1) := by decide +kernel
theorem dX3_digest_31 : decode cX3_digest 31 = .ok (.iconst 3, 1) := by decide +kernel
theorem dX3_digest_32 : decode cX3_digest 32 = .ok (.aload_n 0, 1) := by decide +kernel
theorem dX3_digest_33 : decode cX3_digest 33 = .ok (.invokevirtual 154, 3) := by decide +kernel
theorem dX3_digest_36 : decode cX3_digest 36 = .ok (.iastore, 1) := by decide +kernel
theorem dX3_digest_37 : decode cX3_digest 37 = .ok (.dup, 1) := by decide +kernel
theorem dX3_digest_38 : decode cX3_digest 38 = .ok (.iconst 4, 1) := by decide +kernel
theorem dX3_digest_39 : decode cX3_digest 39 = .ok (.aload_n 0, 1) := by decide +kernel
theorem dX3_digest_40 : decode cX3_digest 40 = .ok (.invokevirtual 157, 3) := by decide +kernel
theorem dX3_digest_43 : decode cX3_digest 43 = .ok (.iastore, 1) := by decide +kernel
theorem dX3_digest_44 : decode cX3_digest 44 = .ok (.dup, 1) := by decide +kernel
theorem dX3_digest_45 : decode cX3_digest 45 = .ok (.iconst 5, 1) := by decide +kernel
theorem dX3_digest_46 : decode cX3_digest 46 = .ok (.aload_n 0, 1) := by decide +kernel
theorem dX3_digest_47 : decode cX3_digest 47 = .ok (.getfield 121, 3) := by decide +kernel
theorem dX3_digest_50 : decode cX3_digest 50 = .ok (.iastore, 1) := by decide +kernel
theorem dX3_digest_51 : decode cX3_digest 51 = .ok (.astore_n 1, 1) := by decide +kernel
theorem dX3_digest_52 : decode cX3_digest 52 = .ok (.ldc2_w 175, 3) := by decide +kernel
theorem dX3_digest_55 : decode cX3_digest 55 = .ok (.lstore_n 2, 1) := by decide +kernel
theorem dX3_digest_56 : decode cX3_digest 56 = .ok (.aload_n 1, 1) := by decide +kernel
theorem dX3_digest_57 : decode cX3_digest 57 = .ok (.astore 4, 2) := by decide +kernel
theorem dX3_digest_59 : decode cX3_digest 59 = .ok (.aload 4, 2) := by decide +kernel
theorem dX3_digest_61 : decode cX3_digest 61 = .ok (.arraylength, 1) := by decide +kernel
theorem dX3_digest_62 : decode cX3_digest 62 = .ok (.istore 5, 2) := by decide +kernel
theorem dX3_digest_64 : decode cX3_digest 64 = .ok (.iconst 0, 1) := by decide +kernel
theorem dX3_digest_65 : decode cX3_digest 65 = .ok (.istore 6, 2) := by decide +kernel
theorem dX3_digest_67 : decode cX3_digest 67 = .ok (.iload 6, 2) := by decide +kernel
theorem dX3_digest_69 : decode cX3_digest 69 = .ok (.iload 5, 2) := by decide +kernel
theorem dX3_digest_71 : decode cX3_digest 71 = .ok (.if_icmp .ge 26, 3) := by decide +kernel
theorem dX3_digest_74 : decode cX3_digest 74 = .ok (.aload 4, 2) := by decide +kernel
theorem dX3_digest_76 : decode cX3_digest 76 = .ok (.iload 6, 2) := by decide +kernel
theorem dX3_digest_78 : decode cX3_digest 78 = .ok (.iaload, 1) := by decide +kernel
theorem dX3_digest_79 : decode cX3_digest 79 = .ok (.istore 7, 2) := by decide +kernel
theorem dX3_digest_81 : decode cX3_digest 81 = .ok (.lload_n 2, 1) := by decide +kernel
theorem dX3_digest_82 : decode cX3_digest 82 = .ok (.ldc2_w 177, 3) := by decide +kernel
theorem dX3_digest_85 : decode cX3_digest 85 = .ok (.lmul, 1) := by decide +kernel
theorem dX3_digest_86 : decode cX3_digest 86 = .ok (.iload 7, 2) := by decide +kernel
theorem dX3_digest_88 : decode cX3_digest 88 = .ok (.i2l, 1) := by decide +kernel
theorem dX3_digest_89 : decode cX3_digest 89 = .ok (.ladd, 1) := by decide +kernel
theorem dX3_digest_90 : decode cX3_digest 90 = .ok (.lstore_n 2, 1) := by decide +kernel
theorem dX3_digest_91 : decode cX3_digest 91 = .ok (.iinc 6 1, 3) := by decide +kernel
theorem dX3_digest_94 : decode cX3_digest 94 = .ok (.goto (-27), 3) := by decide +kernel
theorem dX3_digest_97 : decode cX3_digest 97 = .ok (.iconst 0, 1) := by decide +kernel
theorem dX3_digest_98 : decode cX3_digest 98 = .ok (.istore 4, 2) := by decide +kernel
theorem dX3_digest_100 : decode cX3_digest 100 = .ok (.iload 4, 2) := by decide +kernel
