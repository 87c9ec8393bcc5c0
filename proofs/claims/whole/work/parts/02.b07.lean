set_option maxRecDepth 20000 in
theorem ggX3_marry_X3_isPerson : GoodIn wsX3_marry wsX3_isPerson := goodIn_r _ [7, 8, 9, 10, 6, 11, 43, 44, 45, 46, 47, 48, 49, 50, 51, 52, 53, 54] (by decide +kernel) (by decide +kernel)
set_option maxRecDepth 20000 in
theorem gX3_marry_X3_isPerson : GoodIn wsX3_marry (wsV RX3 67 RX3 yX3_isPerson wsX3_isPerson) := goodIn_app (goodIn_of _ (by decide +kernel)) ggX3_marry_X3_isPerson
set_option maxRecDepth 20000 in
theorem ggX3_marry_X3_no : GoodIn wsX3_marry wsX3_no := goodIn_r _ [15, 1, 43, 44, 45, 46, 47, 48, 49, 50, 51, 52, 53, 54] (by decide +kernel) (by decide +kernel)
set_option maxRecDepth 20000 in
theorem gX3_marry_X3_no : GoodIn wsX3_marry (wsV RX3 60 RX3 yX3_no wsX3_no) := goodIn_app (goodIn_of _ (by decide +kernel)) ggX3_marry_X3_no
set_option maxRecDepth 20000 in
theorem ggX3_marry_X3_canMarry : GoodIn wsX3_marry wsX3_canMarry := goodIn_r _ [19, 20, 2, 43, 44, 45, 46, 47, 48, 49, 50, 51, 52, 53, 54] (by decide +kernel) (by decide +kernel)
set_option maxRecDepth 20000 in
theorem gX3_marry_X3_canMarry : GoodIn wsX3_marry (wsV RX3 71 RX3 yX3_canMarry wsX3_canMarry) := goodIn_app (goodIn_of _ (by decide +kernel)) ggX3_marry_X3_canMarry
set_option maxRecDepth 20000 in
theorem ggX3_marry_X3_degree : GoodIn wsX3_marry wsX3_degree := goodIn_r _ [24, 25, 26, 27, 28, 29, 30, 31, 32, 6, 33, 8, 34, 35, 36, 37, 38, 2, 43, 44, 45, 46, 47, 48, 49, 50, 51, 52, 53, 54] (by decide +kernel) (by decide +kernel)
set_option maxRecDepth 20000 in
theorem gX3_marry_X3_degree : GoodIn wsX3_marry (wsV RX3 74 RX3 yX3_degree wsX3_degree) := goodIn_app (goodIn_of _ (by decide +kernel)) ggX3_marry_X3_degree
set_option maxRecDepth 20000 in
theorem ggX3_marry_X3_part : GoodIn wsX3_marry wsX3_part := goodIn_r _ [42, 2, 43, 44, 45, 46, 47, 48, 49, 50, 51, 52, 53, 54] (by decide +kernel) (by decide +kernel)
set_option maxRecDepth 20000 in
theorem gX3_marry_X3_part : GoodIn wsX3_marry (wsV RX3 77 RX3 yX3_part wsX3_part) := goodIn_app (goodIn_of _ (by decide +kernel)) ggX3_marry_X3_part
theorem dX3_marry_0 : decode cX3_marry 0 = .ok (.aload_n 0, 1) := by decide +kernel
theorem dX3_marry_1 : decode cX3_marry 1 = .ok (.iconst 0, 1) := by decide +kernel
theorem dX3_marry_2 : decode cX3_marry 2 = .ok (.putfield 35, 3) := by decide +kernel
theorem dX3_marry_5 : decode cX3_marry 5 = .ok (.aload_n 0, 1) := by decide +kernel
theorem dX3_marry_6 : decode cX3_marry 6 = .ok (.iload_n 1, 1) := by decide +kernel
theorem dX3_marry_7 : decode cX3_marry 7 = .ok (.invokevirtual 67, 3) := by decide +kernel
theorem dX3_marry_10 : decode cX3_marry 10 = .ok (.ifCond .eq 11, 3) := by decide +kernel
theorem dX3_marry_13 : decode cX3_marry 13 = .ok (.aload_n 0, 1) := by decide +kernel
theorem dX3_marry_14 : decode cX3_marry 14 = .ok (.iload_n 2, 1) := by decide +kernel
theorem dX3_marry_15 : decode cX3_marry 15 = .ok (.invokevirtual 67, 3) := by decide +kernel
theorem dX3_marry_18 : decode cX3_marry 18 = .ok (.ifCond .ne 9, 3) := by decide +kernel
theorem dX3_marry_21 : decode cX3_marry 21 = .ok (.aload_n 0, 1) := by decide +kernel
theorem dX3_marry_22 : decode cX3_marry 22 = .ok (.iconst 1, 1) := by decide +kernel
theorem dX3_marry_23 : decode cX3_marry 23 = .ok (.invokevirtual 60, 3) := by decide +kernel
theorem dX3_marry_26 : decode cX3_marry 26 = .ok (.ireturn, 1) := by decide +kernel
theorem dX3_marry_27 : decode cX3_marry 27 = .ok (.iload_n 1, 1) := by decide +kernel
theorem dX3_marry_28 : decode cX3_marry 28 = .ok (.iload_n 2, 1) := by decide +kernel
theorem dX3_marry_29 : decode cX3_marry 29 = .ok (.if_icmp .ne 9, 3) := by decide +kernel
theorem dX3_marry_32 : decode cX3_marry 32 = .ok (.aload_n 0, 1) := by decide +kernel
theorem dX3_marry_33 : decode cX3_marry 33 = .ok (.iconst 2, 1) := by decide +kernel
theorem dX3_marry_34 : decode cX3_marry 34 = .ok (.invokevirtual 60, 3) := by decide +kernel
theorem dX3_marry_37 : decode cX3_marry 37 = .ok (.ireturn, 1) := by decide +kernel
theorem dX3_marry_38 : decode cX3_marry 38 = .ok (.aload_n 0, 1) := by decide +kernel
theorem dX3_marry_39 : decode cX3_marry 39 = .ok (.iload_n 1, 1) := by decide +kernel
theorem dX3_marry_40 : decode cX3_marry 40 = .ok (.invokevirtual 71, 3) := by decide +kernel
theorem dX3_marry_43 : decode cX3_marry 43 = .ok (.ifCond .eq 11, 3) := by decide +kernel
theorem dX3_marry_46 : decode cX3_marry 46 = .ok (.aload_n 0, 1) := by decide +kernel
theorem dX3_marry_47 : decode cX3_marry 47 = .ok (.iload_n 2, 1) := by decide +kernel
theorem dX3_marry_48 : decode cX3_marry 48 = .ok (.invokevirtual 71, 3) := by decide +kernel
theorem dX3_marry_51 : decode cX3_marry 51 = .ok (.ifCond .ne 9, 3) := by decide +kernel
theorem dX3_marry_54 : decode cX3_marry 54 = .ok (.aload_n 0, 1) := by decide +kernel
theorem dX3_marry_55 : decode cX3_marry 55 = .ok (.iconst 3, 1) := by decide +kernel
theorem dX3_marry_56 : decode cX3_marry 56 = .ok (.invokevirtual 60, 3) := by decide +kernel
theorem dX3_marry_59 : decode cX3_marry 59 = .ok (.ireturn, 1) := by decide +kernel
theorem dX3_marry_60 : decode cX3_marry 60 = .ok (.aload_n 0, 1) := by decide +kernel
theorem dX3_marry_61 : decode cX3_marry 61 = .ok (.iload_n 1, 1) := by decide +kernel
theorem dX3_marry_62 : decode cX3_marry 62 = .ok (.iload_n 2, 1) := by decide +kernel
theorem dX3_marry_63 : decode cX3_marry 63 = .ok (.invokevirtual 74, 3) := by decide +kernel
theorem dX3_marry_66 : decode cX3_marry 66 = .ok (.istore_n 3, 1) := by decide +kernel
theorem dX3_marry_67 : decode cX3_marry 67 = .ok (.aload_n 0, 1) := by decide +kernel
theorem dX3_marry_68 : decode cX3_marry 68 = .ok (.iload_n 1, 1) := by decide +kernel
theorem dX3_marry_69 : decode cX3_marry 69 = .ok (.invokevirtual 77, 3) := by decide +kernel
theorem dX3_marry_72 : decode cX3_marry 72 = .ok (.aload_n 0, 1) := by decide +kernel
theorem dX3_marry_73 : decode cX3_marry 73 = .ok (.iload_n 2, 1) := by decide +kernel
theorem dX3_marry_74 : decode cX3_marry 74 = .ok (.invokevirtual 77, 3) := by decide +kernel
theorem dX3_marry_77 : decode cX3_marry 77 = .ok (.aload_n 0, 1) := by decide +kernel
theorem dX3_marry_78 : decode cX3_marry 78 = .ok (.getfield 13, 3) := by decide +kernel
theorem dX3_marry_81 : decode cX3_marry 81 = .ok (.iload_n 1, 1) := by decide +kernel
theorem dX3_marry_82 : decode cX3_marry 82 = .ok (.iload_n 2, 1) := by decide +kernel
theorem dX3_marry_83 : decode cX3_marry 83 = .ok (.iastore, 1) := by decide +kernel
theorem dX3_marry_84 : decode cX3_marry 84 = .ok (.aload_n 0, 1) := by decide +kernel
theorem dX3_marry_85 : decode cX3_marry 85 = .ok (.getfield 13, 3) := by decide +kernel
theorem dX3_marry_88 : decode cX3_marry 88 = .ok (.iload_n 2, 1) := by decide +kernel
theorem dX3_marry_89 : decode cX3_marry 89 = .ok (.iload_n 1, 1) := by decide +kernel
theorem dX3_marry_90 : decode cX3_marry 90 = .ok (.iastore, 1) := by decide +kernel
theorem dX3_marry_91 : decode cX3_marry 91 = .ok (.iload_n 3, 1) := by decide +kernel
theorem dX3_marry_92 : decode cX3_marry 92 = .ok (.ireturn, 1) := by decide +kernel
theorem dX3_at_0 : decode cX3_at 0 = .ok (.iconst 3, 1) := by decide +kernel
theorem dX3_at_1 : decode cX3_at 1 = .ok (.iload_n 0, 1) := by decide +kernel
theorem dX3_at_2 : decode cX3_at 2 = .ok (.iconst 1, 1) := by decide +kernel
theorem dX3_at_3 : decode cX3_at 3 = .ok (.isub, 1) := by decide +kernel
theorem dX3_at_4 : decode cX3_at 4 = .ok (.imul, 1) := by decide +kernel
theorem dX3_at_5 : decode cX3_at 5 = .ok (.iload_n 1, 1) := by decide +kernel
theorem dX3_at_6 : decode cX3_at 6 = .ok (.iadd, 1) := by decide +kernel
theorem dX3_at_7 : decode cX3_at 7 = .ok (.ireturn, 1) := by decide +kernel
set_option maxRecDepth 20000 in
theorem ggX3_length_X3_at : GoodIn wsX3_length wsX3_at := goodIn_r _ [5] (by decide +kernel) (by decide +kernel)
set_option maxRecDepth 20000 in
theorem gX3_length_X3_at : GoodIn wsX3_length (va_wsS RX3 80 yX3_at wsX3_at) := goodIn_app (goodIn_of _ (by decide +kernel)) ggX3_length_X3_at
theorem dX3_length_0 : decode cX3_length 0 = .ok (.aload_n 0, 1) := by decide +kernel
theorem dX3_length_1 : decode cX3_length 1 = .ok (.getfield 23, 3) := by decide +kernel
theorem dX3_length_4 : decode cX3_length 4 = .ok (.iload_n 1, 1) := by decide +kernel
theorem dX3_length_5 : decode cX3_length 5 = .ok (.iconst 0, 1) := by decide +kernel
theorem dX3_length_6 : decode cX3_length 6 = .ok (.invokestatic 80, 3) := by decide +kernel
theorem dX3_length_9 : decode cX3_length 9 = .ok (.iaload, 1) := by decide +kernel
theorem dX3_length_10 : decode cX3_length 10 = .ok (.aload_n 0, 1) := by decide +kernel
theorem dX3_length_11 : decode cX3_length 11 = .ok (.getfield 23, 3) := by decide +kernel
theorem dX3_length_14 : decode cX3_length 14 = .ok (.iload_n 1, 1) := by decide +kernel
theorem dX3_length_15 : decode cX3_length 15 = .ok (.iconst 1, 1) := by decide +kernel
theorem dX3_length_16 : decode cX3_length 16 = .ok (.invokestatic 80, 3) := by decide +kernel
theorem dX3_length_19 : decode cX3_length 19 = .ok (.iaload, 1) := by decide +kernel
theorem dX3_length_20 : decode cX3_length 20 = .ok (.iadd, 1) := by decide +kernel
theorem dX3_length_21 : decode cX3_length 21 = .ok (.aload_n 0, 1) := by decide +kernel
theorem dX3_length_22 : decode cX3_length 22 = .ok (.getfield 23, 3) := by decide +kernel
theorem dX3_length_25 : decode cX3_length 25 = .ok (.iload_n 1, 1) := by decide +kernel
theorem dX3_length_26 : decode cX3_length 26 = .ok (.iconst 2, 1) := by decide +kernel
theorem dX3_length_27 : decode cX3_length 27 = .ok (.invokestatic 80, 3) := by decide +kernel
theorem dX3_length_30 : decode cX3_length 30 = .ok (.iaload, 1) := by decide +kernel
theorem dX3_length_31 : decode cX3_length 31 = .ok (.iadd, 1) := by decide +kernel
theorem dX3_length_32 : decode cX3_length 32 = .ok (.ireturn, 1) := by decide +kernel
set_option maxRecDepth 20000 in
theorem ggX3_setStage_X3_isDegree : GoodIn wsX3_setStage wsX3_isDegree := goodIn_r _ [7, 8, 9, 6, 10] (by decide +kernel) (by decide +kernel)
set_option maxRecDepth 20000 in
theorem gX3_setStage_X3_isDegree : GoodIn wsX3_setStage (va_wsS RX3 83 yX3_isDegree wsX3_isDegree) := goodIn_app (goodIn_of _ (by decide +kernel)) ggX3_setStage_X3_isDegree
set_option maxRecDepth 20000 in
theorem ggX3_setStage_X3_isStage : GoodIn wsX3_setStage wsX3_isStage := goodIn_r _ [13, 8, 9, 6, 10] (by decide +kernel) (by decide +kernel)
set_option maxRecDepth 20000 in
theorem gX3_setStage_X3_isStage : GoodIn wsX3_setStage (va_wsS RX3 86 yX3_isStage wsX3_isStage) := goodIn_app (goodIn_of _ (by decide +kernel)) ggX3_setStage_X3_isStage
set_option maxRecDepth 20000 in
theorem ggX3_setStage_X3_no : GoodIn wsX3_setStage wsX3_no := goodIn_r _ [17, 1, 25, 26, 27, 28, 29, 30, 31, 32, 33, 34, 35, 36] (by decide +kernel) (by decide +kernel)
set_option maxRecDepth 20000 in
theorem gX3_setStage_X3_no : GoodIn wsX3_setStage (wsV RX3 60 RX3 yX3_no wsX3_no) := goodIn_app (goodIn_of _ (by decide +kernel)) ggX3_setStage_X3_no
set_option maxRecDepth 20000 in
theorem ggX3_setStage_X3_isIn : GoodIn wsX3_setStage wsX3_isIn := goodIn_r _ [10] (by decide +kernel) (by decide +kernel)
set_option maxRecDepth 20000 in
theorem gX3_setStage_X3_isIn : GoodIn wsX3_setStage (va_wsS RX3 42 yX3_isIn wsX3_isIn) := goodIn_app (goodIn_of _ (by decide +kernel)) ggX3_setStage_X3_isIn
set_option maxRecDepth 20000 in
theorem ggX3_setStage_X3_at : GoodIn wsX3_setStage wsX3_at := goodIn_r _ [20] (by decide +kernel) (by decide +kernel)
set_option maxRecDepth 20000 in
theorem gX3_setStage_X3_at : GoodIn wsX3_setStage (va_wsS RX3 80 yX3_at wsX3_at) := goodIn_app (goodIn_of _ (by decide +kernel)) ggX3_setStage_X3_at
set_option maxRecDepth 20000 in
theorem ggX3_setStage_X3_length : GoodIn wsX3_setStage wsX3_length := goodIn_r _ [24, 3, 18, 19, 6, 20, 25, 26, 27, 28, 29, 30, 31, 32, 33, 34, 35, 36] (by decide +kernel) (by decide +kernel)
set_option maxRecDepth 20000 in
theorem gX3_setStage_X3_length : GoodIn wsX3_setStage (wsV RX3 89 RX3 yX3_length wsX3_length) := goodIn_app (goodIn_of _ (by decide +kernel)) ggX3_setStage_X3_length
theorem dX3_setStage_0 : decode cX3_setStage 0 = .ok (.aload_n 0, 1) := by decide +kernel
theorem dX3_setStage_1 : decode cX3_setStage 1 = .ok (.iconst 0, 1) := by decide +kernel
theorem dX3_setStage_2 : decode cX3_setStage 2 = .ok (.putfield 35, 3) := by decide +kernel
theorem dX3_setStage_5 : decode cX3_setStage 5 = .ok (.iload_n 1, 1) := by decide +kernel
theorem dX3_setStage_6 : decode cX3_setStage 6 = .ok (.invokestatic 83, 3) := by decide +kernel
theorem dX3_setStage_9 : decode cX3_setStage 9 = .ok (.ifCond .eq 10, 3) := by decide +kernel
theorem dX3_setStage_12 : decode cX3_setStage 12 = .ok (.iload_n 2, 1) := by decide +kernel
theorem dX3_setStage_13 : decode cX3_setStage 13 = .ok (.invokestatic 86, 3) := by decide +kernel
theorem dX3_setStage_16 : decode cX3_setStage 16 = .ok (.ifCond .ne 9, 3) := by decide +kernel
theorem dX3_setStage_19 : decode cX3_setStage 19 = .ok (.aload_n 0, 1) := by decide +kernel
theorem dX3_setStage_20 : decode cX3_setStage 20 = .ok (.iconst 1, 1) := by decide +kernel
theorem dX3_setStage_21 : decode cX3_setStage 21 = .ok (.invokevirtual 60, 3) := by decide +kernel
theorem dX3_setStage_24 : decode cX3_setStage 24 = .ok (.ireturn, 1) := by decide +kernel
theorem dX3_setStage_25 : decode cX3_setStage 25 = .ok (.iload_n 3, 1) := by decide +kernel
theorem dX3_setStage_26 : decode cX3_setStage 26 = .ok (.iconst 0, 1) := by decide +kernel
theorem dX3_setStage_27 : decode cX3_setStage 27 = .ok (.iconst 5, 1) := by decide +kernel
theorem dX3_setStage_28 : decode cX3_setStage 28 = .ok (.invokestatic 42, 3) := by decide +kernel
theorem dX3_setStage_31 : decode cX3_setStage 31 = .ok (.ifCond .eq 14, 3) := by decide +kernel
theorem dX3_setStage_34 : decode cX3_setStage 34 = .ok (.iload 4, 2) := by decide +kernel
theorem dX3_setStage_36 : decode cX3_setStage 36 = .ok (.iconst 0, 1) := by decide +kernel
theorem dX3_setStage_37 : decode cX3_setStage 37 = .ok (.bipush 60, 2) := by decide +kernel
theorem dX3_setStage_39 : decode cX3_setStage 39 = .ok (.invokestatic 42, 3) := by decide +kernel
theorem dX3_setStage_42 : decode cX3_setStage 42 = .ok (.ifCond .ne 9, 3) := by decide +kernel
theorem dX3_setStage_45 : decode cX3_setStage 45 = .ok (.aload_n 0, 1) := by decide +kernel
theorem dX3_setStage_46 : decode cX3_setStage 46 = .ok (.iconst 2, 1) := by decide +kernel
theorem dX3_setStage_47 : decode cX3_setStage 47 = .ok (.invokevirtual 60, 3) := by decide +kernel
theorem dX3_setStage_50 : decode cX3_setStage 50 = .ok (.ireturn, 1) := by decide +kernel
theorem dX3_setStage_51 : decode cX3_setStage 51 = .ok (.aload_n 0, 1) := by decide +kernel
theorem dX3_setStage_52 : decode cX3_setStage 52 = .ok (.getfield 20, 3) := by decide +kernel
theorem dX3_setStage_55 : decode cX3_setStage 55 = .ok (.iload_n 1, 1) := by decide +kernel
theorem dX3_setStage_56 : decode cX3_setStage 56 = .ok (.iload_n 2, 1) := by decide +kernel
theorem dX3_setStage_57 : decode cX3_setStage 57 = .ok (.invokestatic 80, 3) := by decide +kernel
theorem dX3_setStage_60 : decode cX3_setStage 60 = .ok (.iload_n 3, 1) := by decide +kernel
theorem dX3_setStage_61 : decode cX3_setStage 61 = .ok (.iastore, 1) := by decide +kernel
theorem dX3_setStage_62 : decode cX3_setStage 62 = .ok (.aload_n 0, 1) := by decide +kernel
theorem dX3_setStage_63 : decode cX3_setStage 63 = .ok (.getfield 23, 3) := by decide +kernel
theorem dX3_setStage_66 : decode cX3_setStage 66 = .ok (.iload_n 1, 1) := by decide +kernel
theorem dX3_setStage_67 : decode cX3_setStage 67 = .ok (.iload_n 2, 1) := by decide +kernel
theorem dX3_setStage_68 : decode cX3_setStage 68 = .ok (.invokestatic 80, 3) := by decide +kernel
theorem dX3_setStage_71 : decode cX3_setStage 71 = .ok (.iload 4, 2) := by decide +kernel
theorem dX3_setStage_73 : decode cX3_setStage 73 = .ok (.iastore, 1) := by decide +kernel
theorem dX3_setStage_74 : decode cX3_setStage 74 = .ok (.aload_n 0, 1) := by decide +kernel
theorem dX3_setStage_75 : decode cX3_setStage 75 = .ok (.iload_n 1, 1) := by decide +kernel
theorem dX3_setStage_76 : decode cX3_setStage 76 = .ok (.invokevirtual 89, 3) := by decide +kernel
theorem dX3_setStage_79 : decode cX3_setStage 79 = .ok (.ireturn, 1) := by decide +kernel
theorem dX3_row_0 : decode cX3_row 0 = .ok (.bipush 7, 2) := by decide +kernel
theorem dX3_row_2 : decode cX3_row 2 = .ok (.bipush 16, 2) := by decide +kernel
theorem dX3_row_4 : decode cX3_row 4 = .ok (.iload_n 0, 1) := by decide +kernel
theorem dX3_row_5 : decode cX3_row 5 = .ok (.imul, 1) := by decide +kernel
theorem dX3_row_6 : decode cX3_row 6 = .ok (.iload_n 1, 1) := by decide +kernel
theorem dX3_row_7 : decode cX3_row 7 = .ok (.iadd, 1) := by decide +kernel
theorem dX3_row_8 : decode cX3_row 8 = .ok (.imul, 1) := by decide +kernel
theorem dX3_row_9 : decode cX3_row 9 = .ok (.ireturn, 1) := by decide +kernel
theorem dX3_worn_0 : decode cX3_worn 0 = .ok (.aload_n 0, 1) := by decide +kernel
theorem dX3_worn_1 : decode cX3_worn 1 = .ok (.iload_n 1, 1) := by decide +kernel
theorem dX3_worn_2 : decode cX3_worn 2 = .ok (.iaload, 1) := by decide +kernel
theorem dX3_worn_3 : decode cX3_worn 3 = .ok (.iconst (-1), 1) := by decide +kernel
theorem dX3_worn_4 : decode cX3_worn 4 = .ok (.if_icmp .ne 5, 3) := by decide +kernel
theorem dX3_worn_7 : decode cX3_worn 7 = .ok (.iconst (-1), 1) := by decide +kernel
theorem dX3_worn_8 : decode cX3_worn 8 = .ok (.ireturn, 1) := by decide +kernel
theorem dX3_worn_9 : decode cX3_worn 9 = .ok (.iload_n 2, 1) := by decide +kernel
theorem dX3_worn_10 : decode cX3_worn 10 = .ok (.aload_n 0, 1) := by decide +kernel
theorem dX3_worn_11 : decode cX3_worn 11 = .ok (.iload_n 1, 1) := by decide +kernel
theorem dX3_worn_12 : decode cX3_worn 12 = .ok (.iaload, 1) := by decide +kernel
theorem dX3_worn_13 : decode cX3_worn 13 = .ok (.isub, 1) := by decide +kernel
theorem dX3_worn_14 : decode cX3_worn 14 = .ok (.istore_n 3, 1) := by decide +kernel
theorem dX3_worn_15 : decode cX3_worn 15 = .ok (.iconst 0, 1) := by decide +kernel
theorem dX3_worn_16 : decode cX3_worn 16 = .ok (.istore 4, 2) := by decide +kernel
theorem dX3_worn_18 : decode cX3_worn 18 = .ok (.iload 4, 2) := by decide +kernel
theorem dX3_worn_20 : decode cX3_worn 20 = .ok (.iconst 3, 1) := by decide +kernel
theorem dX3_worn_21 : decode cX3_worn 21 = .ok (.if_icmp .ge 41, 3) := by decide +kernel
theorem dX3_worn_24 : decode cX3_worn 24 = .ok (.iload_n 3, 1) := by decide +kernel
theorem dX3_worn_25 : decode cX3_worn 25 = .ok (.aload_n 0, 1) := by decide +kernel
theorem dX3_worn_26 : decode cX3_worn 26 = .ok (.iload_n 1, 1) := by decide +kernel
theorem dX3_worn_27 : decode cX3_worn 27 = .ok (.iconst 4, 1) := by decide +kernel
theorem dX3_worn_28 : decode cX3_worn 28 = .ok (.iadd, 1) := by decide +kernel
theorem dX3_worn_29 : decode cX3_worn 29 = .ok (.iload 4, 2) := by decide +kernel
theorem dX3_worn_31 : decode cX3_worn 31 = .ok (.iadd, 1) := by decide +kernel
theorem dX3_worn_32 : decode cX3_worn 32 = .ok (.iaload, 1) := by decide +kernel
theorem dX3_worn_33 : decode cX3_worn 33 = .ok (.if_icmp .ge 12, 3) := by decide +kernel
theorem dX3_worn_36 : decode cX3_worn 36 = .ok (.aload_n 0, 1) := by decide +kernel
theorem dX3_worn_37 : decode cX3_worn 37 = .ok (.iload_n 1, 1) := by decide +kernel
theorem dX3_worn_38 : decode cX3_worn 38 = .ok (.iconst 1, 1) := by decide +kernel
theorem dX3_worn_39 : decode cX3_worn 39 = .ok (.iadd, 1) := by decide +kernel
theorem dX3_worn_40 : decode cX3_worn 40 = .ok (.iload 4, 2) := by decide +kernel
theorem dX3_worn_42 : decode cX3_worn 42 = .ok (.iadd, 1) := by decide +kernel
theorem dX3_worn_43 : decode cX3_worn 43 = .ok (.iaload, 1) := by decide +kernel
theorem dX3_worn_44 : decode cX3_worn 44 = .ok (.ireturn, 1) := by decide +kernel
theorem dX3_worn_45 : decode cX3_worn 45 = .ok (.iload_n 3, 1) := by decide +kernel
theorem dX3_worn_46 : decode cX3_worn 46 = .ok (.aload_n 0, 1) := by decide +kernel
theorem dX3_worn_47 : decode cX3_worn 47 = .ok (.iload_n 1, 1) := by decide +kernel
theorem dX3_worn_48 : decode cX3_worn 48 = .ok (.iconst 4, 1) := by decide +kernel
theorem dX3_worn_49 : decode cX3_worn 49 = .ok (.iadd, 1) := by decide +kernel
theorem dX3_worn_50 : decode cX3_worn 50 = .ok (.iload 4, 2) := by decide +kernel
theorem dX3_worn_52 : decode cX3_worn 52 = .ok (.iadd, 1) := by decide +kernel
theorem dX3_worn_53 : decode cX3_worn 53 = .ok (.iaload, 1) := by decide +kernel
theorem dX3_worn_54 : decode cX3_worn 54 = .ok (.isub, 1) := by decide +kernel
theorem dX3_worn_55 : decode cX3_worn 55 = .ok (.istore_n 3, 1) := by decide +kernel
theorem dX3_worn_56 : decode cX3_worn 56 = .ok (.iinc 4 1, 3) := by decide +kernel
theorem dX3_worn_59 : decode cX3_worn 59 = .ok (.goto (-41), 3) := by decide +kernel
theorem dX3_worn_62 : decode cX3_worn 62 = .ok (.iconst (-1), 1) := by decide +kernel
theorem dX3_worn_63 : decode cX3_worn 63 = .ok (.ireturn, 1) := by decide +kernel
set_option maxRecDepth 20000 in
theorem ggX3_left_X3_row : GoodIn wsX3_left wsX3_row := goodIn_r _ [10] (by decide +kernel) (by decide +kernel)
set_option maxRecDepth 20000 in
theorem gX3_left_X3_row : GoodIn wsX3_left (va_wsS RX3 92 yX3_row wsX3_row) := goodIn_app (goodIn_of _ (by decide +kernel)) ggX3_left_X3_row
theorem dX3_left_0 : decode cX3_left 0 = .ok (.iload_n 1, 1) := by decide +kernel
theorem dX3_left_1 : decode cX3_left 1 = .ok (.iload_n 2, 1) := by decide +kernel
theorem dX3_left_2 : decode cX3_left 2 = .ok (.invokestatic 92, 3) := by decide +kernel
theorem dX3_left_5 : decode cX3_left 5 = .ok (.istore_n 3, 1) := by decide +kernel
theorem dX3_left_6 : decode cX3_left 6 = .ok (.aload_n 0, 1) := by decide +kernel
theorem dX3_left_7 : decode cX3_left 7 = .ok (.getfield 26, 3) := by decide +kernel
theorem dX3_left_10 : decode cX3_left 10 = .ok (.iload_n 3, 1) := by decide +kernel
theorem dX3_left_11 : decode cX3_left 11 = .ok (.iaload, 1) := by decide +kernel
theorem dX3_left_12 : decode cX3_left 12 = .ok (.iconst (-1), 1) := by decide +kernel
theorem dX3_left_13 : decode cX3_left 13 = .ok (.if_icmp .ne 7, 3) := by decide +kernel
theorem dX3_left_16 : decode cX3_left 16 = .ok (.iconst 0, 1) := by decide +kernel
theorem dX3_left_17 : decode cX3_left 17 = .ok (.goto 46, 3) := by decide +kernel
theorem dX3_left_20 : decode cX3_left 20 = .ok (.iconst 0, 1) := by decide +kernel
theorem dX3_left_21 : decode cX3_left 21 = .ok (.aload_n 0, 1) := by decide +kernel
theorem dX3_left_22 : decode cX3_left 22 = .ok (.getfield 26, 3) := by decide +kernel
theorem dX3_left_25 : decode cX3_left 25 = .ok (.iload_n 3, 1) := by decide +kernel
theorem dX3_left_26 : decode cX3_left 26 = .ok (.iaload, 1) := by decide +kernel
theorem dX3_left_27 : decode cX3_left 27 = .ok (.aload_n 0, 1) := by decide +kernel
theorem dX3_left_28 : decode cX3_left 28 = .ok (.getfield 26, 3) := by decide +kernel
theorem dX3_left_31 : decode cX3_left 31 = .ok (.iload_n 3, 1) := by decide +kernel
theorem dX3_left_32 : decode cX3_left 32 = .ok (.iconst 4, 1) := by decide +kernel
theorem dX3_left_33 : decode cX3_left 33 = .ok (.iadd, 1) := by decide +kernel
theorem dX3_left_34 : decode cX3_left 34 = .ok (.iaload, 1) := by decide +kernel
theorem dX3_left_35 : decode cX3_left 35 = .ok (.iadd, 1) := by decide +kernel
theorem dX3_left_36 : decode cX3_left 36 = .ok (.aload_n 0, 1) := by decide +kernel
theorem dX3_left_37 : decode cX3_left 37 = .ok (.getfield 26, 3) := by decide +kernel
theorem dX3_left_40 : decode cX3_left 40 = .ok (.iload_n 3, 1) := by decide +kernel
theorem dX3_left_41 : decode cX3_left 41 = .ok (.iconst 5, 1) := by decide +kernel
theorem dX3_left_42 : decode cX3_left 42 = .ok (.iadd, 1) := by decide +kernel
theorem dX3_left_43 : decode cX3_left 43 = .ok (.iaload, 1) := by decide +kernel
theorem dX3_left_44 : decode cX3_left 44 = .ok (.iadd, 1) := by decide +kernel
theorem dX3_left_45 : decode cX3_left 45 = .ok (.aload_n 0, 1) := by decide +kernel
theorem dX3_left_46 : decode cX3_left 46 = .ok (.getfield 26, 3) := by decide +kernel
theorem dX3_left_49 : decode cX3_left 49 = .ok (.iload_n 3, 1) := by decide +kernel
theorem dX3_left_50 : decode cX3_left 50 = .ok (.bipush 6, 2) := by decide +kernel
theorem dX3_left_52 : decode cX3_left 52 = .ok (.iadd, 1) := by decide +kernel
theorem dX3_left_53 : decode cX3_left 53 = .ok (.iaload, 1) := by decide +kernel
theorem dX3_left_54 : decode cX3_left 54 = .ok (.iadd, 1) := by decide +kernel
theorem dX3_left_55 : decode cX3_left 55 = .ok (.aload_n 0, 1) := by decide +kernel
theorem dX3_left_56 : decode cX3_left 56 = .ok (.getfield 95, 3) := by decide +kernel
theorem dX3_left_59 : decode cX3_left 59 = .ok (.isub, 1) := by decide +kernel
theorem dX3_left_60 : decode cX3_left 60 = .ok (.invokestatic 54, 3) := by decide +kernel
theorem dX3_left_63 : decode cX3_left 63 = .ok (.ireturn, 1) := by decide +kernel
set_option maxRecDepth 20000 in
theorem ggX3_write_X3_at : GoodIn wsX3_write wsX3_at := goodIn_r _ [7] (by decide +kernel) (by decide +kernel)
set_option maxRecDepth 20000 in
theorem gX3_write_X3_at : GoodIn wsX3_write (va_wsS RX3 80 yX3_at wsX3_at) := goodIn_app (goodIn_of _ (by decide +kernel)) ggX3_write_X3_at
theorem dX3_write_0 : decode cX3_write 0 = .ok (.aload_n 1, 1) := by decide +kernel
theorem dX3_write_1 : decode cX3_write 1 = .ok (.iload_n 2, 1) := by decide +kernel
theorem dX3_write_2 : decode cX3_write 2 = .ok (.aload_n 0, 1) := by decide +kernel
theorem dX3_write_3 : decode cX3_write 3 = .ok (.getfield 95, 3) := by decide +kernel
theorem dX3_write_6 : decode cX3_write 6 = .ok (.iastore, 1) := by decide +kernel
theorem dX3_write_7 : decode cX3_write 7 = .ok (.iconst 0, 1) := by decide +kernel
theorem dX3_write_8 : decode cX3_write 8 = .ok (.istore 4, 2) := by decide +kernel
theorem dX3_write_10 : decode cX3_write 10 = .ok (.iload 4, 2) := by decide +kernel
theorem dX3_write_12 : decode cX3_write 12 = .ok (.iconst 3, 1) := by decide +kernel
theorem dX3_write_13 : decode cX3_write 13 = .ok (.if_icmp .ge 47, 3) := by decide +kernel
theorem dX3_write_16 : decode cX3_write 16 = .ok (.aload_n 1, 1) := by decide +kernel
theorem dX3_write_17 : decode cX3_write 17 = .ok (.iload_n 2, 1) := by decide +kernel
theorem dX3_write_18 : decode cX3_write 18 = .ok (.iconst 1, 1) := by decide +kernel
theorem dX3_write_19 : decode cX3_write 19 = .ok (.iadd, 1) := by decide +kernel
theorem dX3_write_20 : decode cX3_write 20 = .ok (.iload 4, 2) := by decide +kernel
theorem dX3_write_22 : decode cX3_write 22 = .ok (.iadd, 1) := by decide +kernel
theorem dX3_write_23 : decode cX3_write 23 = .ok (.aload_n 0, 1) := by decide +kernel
theorem dX3_write_24 : decode cX3_write 24 = .ok (.getfield 20, 3) := by decide +kernel
theorem dX3_write_27 : decode cX3_write 27 = .ok (.iload_n 3, 1) := by decide +kernel
theorem dX3_write_28 : decode cX3_write 28 = .ok (.iload 4, 2) := by decide +kernel
theorem dX3_write_30 : decode cX3_write 30 = .ok (.invokestatic 80, 3) := by decide +kernel
theorem dX3_write_33 : decode cX3_write 33 = .ok (.iaload, 1) := by decide +kernel
theorem dX3_write_34 : decode cX3_write 34 = .ok (.iastore, 1) := by decide +kernel
theorem dX3_write_35 : decode cX3_write 35 = .ok (.aload_n 1, 1) := by decide +kernel
theorem dX3_write_36 : decode cX3_write 36 = .ok (.iload_n 2, 1) := by decide +kernel
theorem dX3_write_37 : decode cX3_write 37 = .ok (.iconst 4, 1) := by decide +kernel
theorem dX3_write_38 : decode cX3_write 38 = .ok (.iadd, 1) := by decide +kernel
theorem dX3_write_39 : decode cX3_write 39 = .ok (.iload 4, 2) := by decide +kernel
theorem dX3_write_41 : decode cX3_write 41 = .ok (.iadd, 1) := by decide +kernel
theorem dX3_write_42 : decode cX3_write 42 = .ok (.aload_n 0, 1) := by decide +kernel
theorem dX3_write_43 : decode cX3_write 43 = .ok (.getfield 23, 3) := by decide +kernel
theorem dX3_write_46 : decode cX3_write 46 = .ok (.iload_n 3, 1) := by decide +kernel
theorem dX3_write_47 : decode cX3_write 47 = .ok (.iload 4, 2) := by decide +kernel
theorem dX3_write_49 : decode cX3_write 49 = .ok (.invokestatic 80, 3) := by decide +kernel
theorem dX3_write_52 : decode cX3_write 52 = .ok (.iaload, 1) := by decide +kernel
theorem dX3_write_53 : decode cX3_write 53 = .ok (.iastore, 1) := by decide +kernel
theorem dX3_write_54 : decode cX3_write 54 = .ok (.iinc 4 1, 3) := by decide +kernel
theorem dX3_write_57 : decode cX3_write 57 = .ok (.goto (-47), 3) := by decide +kernel
theorem dX3_write_60 : decode cX3_write 60 = .ok (.return_, 1) := by decide +kernel
set_option maxRecDepth 20000 in
theorem ggX3_wears_X3_row : GoodIn wsX3_wears wsX3_row := goodIn_r _ [10] (by decide +kernel) (by decide +kernel)
set_option maxRecDepth 20000 in
theorem gX3_wears_X3_row : GoodIn wsX3_wears (va_wsS RX3 92 yX3_row wsX3_row) := goodIn_app (goodIn_of _ (by decide +kernel)) ggX3_wears_X3_row
set_option maxRecDepth 20000 in
theorem ggX3_wears_X3_worn : GoodIn wsX3_wears wsX3_worn := goodIn_r _ [13] (by decide +kernel) (by decide +kernel)
set_option maxRecDepth 20000 in
theorem gX3_wears_X3_worn : GoodIn wsX3_wears (va_wsS RX3 98 yX3_worn wsX3_worn) := goodIn_app (goodIn_of _ (by decide +kernel)) ggX3_wears_X3_worn
theorem dX3_wears_0 : decode cX3_wears 0 = .ok (.iconst 0, 1) := by decide +kernel
theorem dX3_wears_1 : decode cX3_wears 1 = .ok (.istore_n 3, 1) := by decide +kernel
theorem dX3_wears_2 : decode cX3_wears 2 = .ok (.iconst 0, 1) := by decide +kernel
theorem dX3_wears_3 : decode cX3_wears 3 = .ok (.istore 4, 2) := by decide +kernel
theorem dX3_wears_5 : decode cX3_wears 5 = .ok (.iload 4, 2) := by decide +kernel
theorem dX3_wears_7 : decode cX3_wears 7 = .ok (.aload_n 0, 1) := by decide +kernel
theorem dX3_wears_8 : decode cX3_wears 8 = .ok (.getfield 39, 3) := by decide +kernel
theorem dX3_wears_11 : decode cX3_wears 11 = .ok (.if_icmp .ge 28, 3) := by decide +kernel
theorem dX3_wears_14 : decode cX3_wears 14 = .ok (.iload_n 3, 1) := by decide +kernel
theorem dX3_wears_15 : decode cX3_wears 15 = .ok (.aload_n 0, 1) := by decide +kernel
theorem dX3_wears_16 : decode cX3_wears 16 = .ok (.getfield 26, 3) := by decide +kernel
theorem dX3_wears_19 : decode cX3_wears 19 = .ok (.iload_n 1, 1) := by decide +kernel
theorem dX3_wears_20 : decode cX3_wears 20 = .ok (.iload 4, 2) := by decide +kernel
theorem dX3_wears_22 : decode cX3_wears 22 = .ok (.invokestatic 92, 3) := by decide +kernel
theorem dX3_wears_25 : decode cX3_wears 25 = .ok (.iload_n 2, 1) := by decide +kernel
theorem dX3_wears_26 : decode cX3_wears 26 = .ok (.invokestatic 98, 3) := by decide +kernel
theorem dX3_wears_29 : decode cX3_wears 29 = .ok (.invokestatic 54, 3) := by decide +kernel
theorem dX3_wears_32 : decode cX3_wears 32 = .ok (.istore_n 3, 1) := by decide +kernel
theorem dX3_wears_33 : decode cX3_wears 33 = .ok (.iinc 4 1, 3) := by decide +kernel
theorem dX3_wears_36 : decode cX3_wears 36 = .ok (.goto (-31), 3) := by decide +kernel
theorem dX3_wears_39 : decode cX3_wears 39 = .ok (.iload_n 3, 1) := by decide +kernel
theorem dX3_wears_40 : decode cX3_wears 40 = .ok (.ireturn, 1) := by decide +kernel
set_option maxRecDepth 20000 in
theorem ggX3_isMourner_X3_length : GoodIn wsX3_isMourner wsX3_length := goodIn_r _ [7, 8, 9, 10, 6, 11, 12, 13, 14, 15, 16, 17, 18, 19, 20, 21, 22, 23] (by decide +kernel) (by decide +kernel)
set_option maxRecDepth 20000 in
theorem gX3_isMourner_X3_length : GoodIn wsX3_isMourner (wsV RX3 89 RX3 yX3_length wsX3_length) := goodIn_app (goodIn_of _ (by decide +kernel)) ggX3_isMourner_X3_length
theorem dX3_isMourner_0 : decode cX3_isMourner 0 = .ok (.iload_n 1, 1) := by decide +kernel
theorem dX3_isMourner_1 : decode cX3_isMourner 1 = .ok (.iload_n 2, 1) := by decide +kernel
theorem dX3_isMourner_2 : decode cX3_isMourner 2 = .ok (.if_icmp .eq 38, 3) := by decide +kernel
theorem dX3_isMourner_5 : decode cX3_isMourner 5 = .ok (.aload_n 0, 1) := by decide +kernel
theorem dX3_isMourner_6 : decode cX3_isMourner 6 = .ok (.getfield 16, 3) := by decide +kernel
theorem dX3_isMourner_9 : decode cX3_isMourner 9 = .ok (.iload_n 1, 1) := by decide +kernel
theorem dX3_isMourner_10 : decode cX3_isMourner 10 = .ok (.baload, 1) := by decide +kernel
theorem dX3_isMourner_11 : decode cX3_isMourner 11 = .ok (.ifCond .eq 29, 3) := by decide +kernel
theorem dX3_isMourner_14 : decode cX3_isMourner 14 = .ok (.aload_n 0, 1) := by decide +kernel
theorem dX3_isMourner_15 : decode cX3_isMourner 15 = .ok (.getfield 29, 3) := by decide +kernel
theorem dX3_isMourner_18 : decode cX3_isMourner 18 = .ok (.iload_n 1, 1) := by decide +kernel
theorem dX3_isMourner_19 : decode cX3_isMourner 19 = .ok (.iaload, 1) := by decide +kernel
theorem dX3_isMourner_20 : decode cX3_isMourner 20 = .ok (.ifCond .le 20, 3) := by decide +kernel
theorem dX3_isMourner_23 : decode cX3_isMourner 23 = .ok (.aload_n 0, 1) := by decide +kernel
theorem dX3_isMourner_24 : decode cX3_isMourner 24 = .ok (.aload_n 0, 1) := by decide +kernel
theorem dX3_isMourner_25 : decode cX3_isMourner 25 = .ok (.getfield 29, 3) := by decide +kernel
theorem dX3_isMourner_28 : decode cX3_isMourner 28 = .ok (.iload_n 1, 1) := by decide +kernel
theorem dX3_isMourner_29 : decode cX3_isMourner 29 = .ok (.iaload, 1) := by decide +kernel
theorem dX3_isMourner_30 : decode cX3_isMourner 30 = .ok (.invokevirtual 89, 3) := by decide +kernel
theorem dX3_isMourner_33 : decode cX3_isMourner 33 = .ok (.ifCond .le 7, 3) := by decide +kernel
theorem dX3_isMourner_36 : decode cX3_isMourner 36 = .ok (.iconst 1, 1) := by decide +kernel
theorem dX3_isMourner_37 : decode cX3_isMourner 37 = .ok (.goto 4, 3) := by decide +kernel
theorem dX3_isMourner_40 : decode cX3_isMourner 40 = .ok (.iconst 0, 1) := by decide +kernel
theorem dX3_isMourner_41 : decode cX3_isMourner 41 = .ok (.ireturn, 1) := by decide +kernel
set_option maxRecDepth 20000 in
theorem ggX3_mourners_X3_go : GoodIn wsX3_mourners wsX3_go := goodIn_r _ [6, 1, 7, 8, 9, 10, 5, 11, 12, 13, 27, 28, 29, 30, 31, 32, 33, 34, 35, 36, 37, 38] (by decide +kernel) (by decide +kernel)
set_option maxRecDepth 20000 in
theorem gX3_mourners_X3_go : GoodIn wsX3_mourners (wsV RX3 50 RX3 yX3_go wsX3_go) := goodIn_app (goodIn_of _ (by decide +kernel)) ggX3_mourners_X3_go
set_option maxRecDepth 20000 in
theorem ggX3_mourners_X3_isMourner : GoodIn wsX3_mourners wsX3_isMourner := goodIn_r _ [17, 18, 7, 19, 20, 21, 5, 22, 23, 24, 25, 26, 27, 28, 29, 30, 31, 32, 33, 34, 35, 36, 37, 38] (by decide +kernel) (by decide +kernel)
set_option maxRecDepth 20000 in
theorem gX3_mourners_X3_isMourner : GoodIn wsX3_mourners (wsV RX3 102 RX3 yX3_isMourner wsX3_isMourner) := goodIn_app (goodIn_of _ (by decide +kernel)) ggX3_mourners_X3_isMourner
theorem dX3_mourners_0 : decode cX3_mourners 0 = .ok (.aload_n 0, 1) := by decide +kernel
theorem dX3_mourners_1 : decode cX3_mourners 1 = .ok (.iload_n 1, 1) := by decide +kernel
theorem dX3_mourners_2 : decode cX3_mourners 2 = .ok (.invokevirtual 50, 3) := by decide +kernel
theorem dX3_mourners_5 : decode cX3_mourners 5 = .ok (.iconst 0, 1) := by decide +kernel
theorem dX3_mourners_6 : decode cX3_mourners 6 = .ok (.istore_n 2, 1) := by decide +kernel
theorem dX3_mourners_7 : decode cX3_mourners 7 = .ok (.iconst 0, 1) := by decide +kernel
theorem dX3_mourners_8 : decode cX3_mourners 8 = .ok (.istore_n 3, 1) := by decide +kernel
theorem dX3_mourners_9 : decode cX3_mourners 9 = .ok (.iload_n 3, 1) := by decide +kernel
theorem dX3_mourners_10 : decode cX3_mourners 10 = .ok (.aload_n 0, 1) := by decide +kernel
theorem dX3_mourners_11 : decode cX3_mourners 11 = .ok (.getfield 39, 3) := by decide +kernel
theorem dX3_mourners_14 : decode cX3_mourners 14 = .ok (.if_icmp .ge 26, 3) := by decide +kernel
theorem dX3_mourners_17 : decode cX3_mourners 17 = .ok (.iload_n 2, 1) := by decide +kernel
theorem dX3_mourners_18 : decode cX3_mourners 18 = .ok (.aload_n 0, 1) := by decide +kernel
theorem dX3_mourners_19 : decode cX3_mourners 19 = .ok (.iload_n 3, 1) := by decide +kernel
theorem dX3_mourners_20 : decode cX3_mourners 20 = .ok (.iload_n 1, 1) := by decide +kernel
theorem dX3_mourners_21 : decode cX3_mourners 21 = .ok (.invokevirtual 102, 3) := by decide +kernel
theorem dX3_mourners_24 : decode cX3_mourners 24 = .ok (.ifCond .eq 7, 3) := by decide +kernel
theorem dX3_mourners_27 : decode cX3_mourners 27 = .ok (.iconst 1, 1) := by decide +kernel
theorem dX3_mourners_28 : decode cX3_mourners 28 = .ok (.goto 4, 3) := by decide +kernel
theorem dX3_mourners_31 : decode cX3_mourners 31 = .ok (.iconst 0, 1) := by decide +kernel
theorem dX3_mourners_32 : decode cX3_mourners 32 = .ok (.iadd, 1) := by decide +kernel
theorem dX3_mourners_33 : decode cX3_mourners 33 = .ok (.istore_n 2, 1) := by decide +kernel
theorem dX3_mourners_34 : decode cX3_mourners 34 = .ok (.iinc 3 1, 3) := by decide +kernel
theorem dX3_mourners_37 : decode cX3_mourners 37 = .ok (.goto (-28), 3) := by decide +kernel
theorem dX3_mourners_40 : decode cX3_mourners 40 = .ok (.iload_n 2, 1) := by decide +kernel
theorem dX3_mourners_41 : decode cX3_mourners 41 = .ok (.ireturn, 1) := by decide +kernel
set_option maxRecDepth 20000 in
theorem ggX3_lost_X3_mourners : GoodIn wsX3_lost wsX3_mourners := goodIn_r _ [9, 1, 10, 11, 12, 8, 13, 3, 14, 15, 16, 17, 18, 19, 20, 21, 22, 23, 4, 24, 25, 26, 27, 28, 29, 30, 31, 41, 42, 43, 44, 45, 46, 47, 48, 49, 50, 51, 52] (by decide +kernel) (by decide +kernel)
set_option maxRecDepth 20000 in
theorem gX3_lost_X3_mourners : GoodIn wsX3_lost (wsV RX3 105 RX3 yX3_mourners wsX3_mourners) := goodIn_app (goodIn_of _ (by decide +kernel)) ggX3_lost_X3_mourners
set_option maxRecDepth 20000 in
theorem ggX3_lost_X3_isMourner : GoodIn wsX3_lost wsX3_isMourner := goodIn_r _ [23, 4, 3, 24, 25, 26, 8, 27, 28, 29, 30, 31, 41, 42, 43, 44, 45, 46, 47, 48, 49, 50, 51, 52] (by decide +kernel) (by decide +kernel)
set_option maxRecDepth 20000 in
theorem gX3_lost_X3_isMourner : GoodIn wsX3_lost (wsV RX3 102 RX3 yX3_isMourner wsX3_isMourner) := goodIn_app (goodIn_of _ (by decide +kernel)) ggX3_lost_X3_isMourner
set_option maxRecDepth 20000 in
theorem ggX3_lost_X3_row : GoodIn wsX3_lost wsX3_row := goodIn_r _ [34] (by decide +kernel) (by decide +kernel)
set_option maxRecDepth 20000 in
theorem gX3_lost_X3_row : GoodIn wsX3_lost (va_wsS RX3 92 yX3_row wsX3_row) := goodIn_app (goodIn_of _ (by decide +kernel)) ggX3_lost_X3_row
set_option maxRecDepth 20000 in
theorem ggX3_lost_X3_write : GoodIn wsX3_lost wsX3_write := goodIn_r _ [38, 39, 40, 28, 29, 30, 8, 31, 41, 42, 43, 44, 45, 46, 47, 48, 49, 50, 51, 52] (by decide +kernel) (by decide +kernel)
set_option maxRecDepth 20000 in
theorem gX3_lost_X3_write : GoodIn wsX3_lost (wsV RX3 108 RX3 yX3_write wsX3_write) := goodIn_app (goodIn_of _ (by decide +kernel)) ggX3_lost_X3_write
theorem dX3_lost_0 : decode cX3_lost 0 = .ok (.aload_n 0, 1) := by decide +kernel
theorem dX3_lost_1 : decode cX3_lost 1 = .ok (.iload_n 1, 1) := by decide +kernel
theorem dX3_lost_2 : decode cX3_lost 2 = .ok (.invokevirtual 105, 3) := by decide +kernel
theorem dX3_lost_5 : decode cX3_lost 5 = .ok (.istore_n 2, 1) := by decide +kernel
theorem dX3_lost_6 : decode cX3_lost 6 = .ok (.iconst 0, 1) := by decide +kernel
theorem dX3_lost_7 : decode cX3_lost 7 = .ok (.istore_n 3, 1) := by decide +kernel
theorem dX3_lost_8 : decode cX3_lost 8 = .ok (.iload_n 3, 1) := by decide +kernel
theorem dX3_lost_9 : decode cX3_lost 9 = .ok (.aload_n 0, 1) := by decide +kernel
theorem dX3_lost_10 : decode cX3_lost 10 = .ok (.getfield 39, 3) := by decide +kernel
theorem dX3_lost_13 : decode cX3_lost 13 = .ok (.if_icmp .ge 37, 3) := by decide +kernel
theorem dX3_lost_16 : decode cX3_lost 16 = .ok (.aload_n 0, 1) := by decide +kernel
theorem dX3_lost_17 : decode cX3_lost 17 = .ok (.iload_n 3, 1) := by decide +kernel
theorem dX3_lost_18 : decode cX3_lost 18 = .ok (.iload_n 1, 1) := by decide +kernel
theorem dX3_lost_19 : decode cX3_lost 19 = .ok (.invokevirtual 102, 3) := by decide +kernel
theorem dX3_lost_22 : decode cX3_lost 22 = .ok (.ifCond .eq 22, 3) := by decide +kernel
theorem dX3_lost_25 : decode cX3_lost 25 = .ok (.aload_n 0, 1) := by decide +kernel
theorem dX3_lost_26 : decode cX3_lost 26 = .ok (.aload_n 0, 1) := by decide +kernel
theorem dX3_lost_27 : decode cX3_lost 27 = .ok (.getfield 26, 3) := by decide +kernel
theorem dX3_lost_30 : decode cX3_lost 30 = .ok (.iload_n 3, 1) := by decide +kernel
theorem dX3_lost_31 : decode cX3_lost 31 = .ok (.iload_n 1, 1) := by decide +kernel
theorem dX3_lost_32 : decode cX3_lost 32 = .ok (.invokestatic 92, 3) := by decide +kernel
theorem dX3_lost_35 : decode cX3_lost 35 = .ok (.aload_n 0, 1) := by decide +kernel
theorem dX3_lost_36 : decode cX3_lost 36 = .ok (.getfield 29, 3) := by decide +kernel
theorem dX3_lost_39 : decode cX3_lost 39 = .ok (.iload_n 3, 1) := by decide +kernel
theorem dX3_lost_40 : decode cX3_lost 40 = .ok (.iaload, 1) := by decide +kernel
theorem dX3_lost_41 : decode cX3_lost 41 = .ok (.invokevirtual 108, 3) := by decide +kernel
theorem dX3_lost_44 : decode cX3_lost 44 = .ok (.iinc 3 1, 3) := by decide +kernel
theorem dX3_lost_47 : decode cX3_lost 47 = .ok (.goto (-39), 3) := by decide +kernel
theorem dX3_lost_50 : decode cX3_lost 50 = .ok (.iconst 0, 1) := by decide +kernel
theorem dX3_lost_51 : decode cX3_lost 51 = .ok (.istore_n 3, 1) := by decide +kernel
theorem dX3_lost_52 : decode cX3_lost 52 = .ok (.iload_n 3, 1) := by decide +kernel
theorem dX3_lost_53 : decode cX3_lost 53 = .ok (.bipush 16, 2) := by decide +kernel
theorem dX3_lost_55 : decode cX3_lost 55 = .ok (.if_icmp .ge 20, 3) := by decide +kernel
theorem dX3_lost_58 : decode cX3_lost 58 = .ok (.aload_n 0, 1) := by decide +kernel
theorem dX3_lost_59 : decode cX3_lost 59 = .ok (.getfield 26, 3) := by decide +kernel
theorem dX3_lost_62 : decode cX3_lost 62 = .ok (.iload_n 1, 1) := by decide +kernel
theorem dX3_lost_63 : decode cX3_lost 63 = .ok (.iload_n 3, 1) := by decide +kernel
theorem dX3_lost_64 : decode cX3_lost 64 = .ok (.invokestatic 92, 3) := by decide +kernel
theorem dX3_lost_67 : decode cX3_lost 67 = .ok (.iconst (-1), 1) := by decide +kernel
theorem dX3_lost_68 : decode cX3_lost 68 = .ok (.iastore, 1) := by decide +kernel
theorem dX3_lost_69 : decode cX3_lost 69 = .ok (.iinc 3 1, 3) := by decide +kernel
theorem dX3_lost_72 : decode cX3_lost 72 = .ok (.goto (-20), 3) := by decide +kernel
theorem dX3_lost_75 : decode cX3_lost 75 = .ok (.aload_n 0, 1) := by decide +kernel
theorem dX3_lost_76 : decode cX3_lost 76 = .ok (.getfield 16, 3) := by decide +kernel
theorem dX3_lost_79 : decode cX3_lost 79 = .ok (.iload_n 1, 1) := by decide +kernel
theorem dX3_lost_80 : decode cX3_lost 80 = .ok (.iconst 0, 1) := by decide +kernel
theorem dX3_lost_81 : decode cX3_lost 81 = .ok (.bastore, 1) := by decide +kernel
theorem dX3_lost_82 : decode cX3_lost 82 = .ok (.iload_n 2, 1) := by decide +kernel
theorem dX3_lost_83 : decode cX3_lost 83 = .ok (.ireturn, 1) := by decide +kernel
set_option maxRecDepth 20000 in
theorem ggX3_die_X3_isPerson : GoodIn wsX3_die wsX3_isPerson := goodIn_r _ [7, 8, 9, 10, 6, 11, 57, 58, 59, 60, 61, 62, 63, 64, 65, 66, 67, 68] (by decide +kernel) (by decide +kernel)
set_option maxRecDepth 20000 in
theorem gX3_die_X3_isPerson : GoodIn wsX3_die (wsV RX3 67 RX3 yX3_isPerson wsX3_isPerson) := goodIn_app (goodIn_of _ (by decide +kernel)) ggX3_die_X3_isPerson
set_option maxRecDepth 20000 in
theorem ggX3_die_X3_no : GoodIn wsX3_die wsX3_no := goodIn_r _ [15, 1, 57, 58, 59, 60, 61, 62, 63, 64, 65, 66, 67, 68] (by decide +kernel) (by decide +kernel)
set_option maxRecDepth 20000 in
theorem gX3_die_X3_no : GoodIn wsX3_die (wsV RX3 60 RX3 yX3_no wsX3_no) := goodIn_app (goodIn_of _ (by decide +kernel)) ggX3_die_X3_no
set_option maxRecDepth 20000 in
theorem ggX3_die_X3_lost : GoodIn wsX3_die wsX3_lost := goodIn_r _ [19, 8, 20, 21, 2, 22, 23, 24, 6, 25, 26, 27, 28, 29, 30, 31, 32, 33, 34, 35, 36, 37, 38, 39, 40, 41, 42, 43, 44, 45, 46, 47, 48, 49, 50, 51, 52, 53, 54, 55, 56, 57, 58, 59, 60, 61, 62, 63, 64, 65, 66, 67, 68] (by decide +kernel) (by decide +kernel)
set_option maxRecDepth 20000 in
theorem gX3_die_X3_lost : GoodIn wsX3_die (wsV RX3 112 RX3 yX3_lost wsX3_lost) := goodIn_app (goodIn_of _ (by decide +kernel)) ggX3_die_X3_lost
theorem dX3_die_0 : decode cX3_die 0 = .ok (.aload_n 0, 1) := by decide +kernel
theorem dX3_die_1 : decode cX3_die 1 = .ok (.iconst 0, 1) := by decide +kernel
theorem dX3_die_2 : decode cX3_die 2 = .ok (.putfield 35, 3) := by decide +kernel
theorem dX3_die_5 : decode cX3_die 5 = .ok (.aload_n 0, 1) := by decide +kernel
theorem dX3_die_6 : decode cX3_die 6 = .ok (.iload_n 1, 1) := by decide +kernel
theorem dX3_die_7 : decode cX3_die 7 = .ok (.invokevirtual 67, 3) := by decide +kernel
theorem dX3_die_10 : decode cX3_die 10 = .ok (.ifCond .ne 9, 3) := by decide +kernel
theorem dX3_die_13 : decode cX3_die 13 = .ok (.aload_n 0, 1) := by decide +kernel
theorem dX3_die_14 : decode cX3_die 14 = .ok (.iconst 1, 1) := by decide +kernel
theorem dX3_die_15 : decode cX3_die 15 = .ok (.invokevirtual 60, 3) := by decide +kernel
theorem dX3_die_18 : decode cX3_die 18 = .ok (.ireturn, 1) := by decide +kernel
theorem dX3_die_19 : decode cX3_die 19 = .ok (.aload_n 0, 1) := by decide +kernel
theorem dX3_die_20 : decode cX3_die 20 = .ok (.getfield 16, 3) := by decide +kernel
theorem dX3_die_23 : decode cX3_die 23 = .ok (.iload_n 1, 1) := by decide +kernel
theorem dX3_die_24 : decode cX3_die 24 = .ok (.baload, 1) := by decide +kernel
theorem dX3_die_25 : decode cX3_die 25 = .ok (.ifCond .eq 11, 3) := by decide +kernel
theorem dX3_die_28 : decode cX3_die 28 = .ok (.aload_n 0, 1) := by decide +kernel
theorem dX3_die_29 : decode cX3_die 29 = .ok (.iload_n 1, 1) := by decide +kernel
theorem dX3_die_30 : decode cX3_die 30 = .ok (.invokevirtual 112, 3) := by decide +kernel
theorem dX3_die_33 : decode cX3_die 33 = .ok (.goto 8, 3) := by decide +kernel
theorem dX3_die_36 : decode cX3_die 36 = .ok (.aload_n 0, 1) := by decide +kernel
theorem dX3_die_37 : decode cX3_die 37 = .ok (.iconst 2, 1) := by decide +kernel
theorem dX3_die_38 : decode cX3_die 38 = .ok (.invokevirtual 60, 3) := by decide +kernel
theorem dX3_die_41 : decode cX3_die 41 = .ok (.ireturn, 1) := by decide +kernel
set_option maxRecDepth 20000 in
theorem ggX3_release_X3_isPerson : GoodIn wsX3_release wsX3_isPerson := goodIn_r _ [7, 8, 9, 10, 6, 11, 28, 29, 30, 31, 32, 33, 34, 35, 36, 37, 38, 39] (by decide +kernel) (by decide +kernel)
set_option maxRecDepth 20000 in
theorem gX3_release_X3_isPerson : GoodIn wsX3_release (wsV RX3 67 RX3 yX3_isPerson wsX3_isPerson) := goodIn_app (goodIn_of _ (by decide +kernel)) ggX3_release_X3_isPerson
set_option maxRecDepth 20000 in
theorem ggX3_release_X3_no : GoodIn wsX3_release wsX3_no := goodIn_r _ [15, 1, 28, 29, 30, 31, 32, 33, 34, 35, 36, 37, 38, 39] (by decide +kernel) (by decide +kernel)
set_option maxRecDepth 20000 in
theorem gX3_release_X3_no : GoodIn wsX3_release (wsV RX3 60 RX3 yX3_no wsX3_no) := goodIn_app (goodIn_of _ (by decide +kernel)) ggX3_release_X3_no
set_option maxRecDepth 20000 in
theorem ggX3_release_X3_left : GoodIn wsX3_release wsX3_left := goodIn_r _ [19, 2, 20, 21, 22, 23, 24, 25, 26, 6, 27, 28, 29, 30, 31, 32, 33, 34, 35, 36, 37, 38, 39] (by decide +kernel) (by decide +kernel)
set_option maxRecDepth 20000 in
theorem gX3_release_X3_left : GoodIn wsX3_release (wsV RX3 115 RX3 yX3_left wsX3_left) := goodIn_app (goodIn_of _ (by decide +kernel)) ggX3_release_X3_left
set_option maxRecDepth 20000 in
theorem ggX3_release_X3_row : GoodIn wsX3_release wsX3_row := goodIn_r _ [27] (by decide +kernel) (by decide +kernel)
set_option maxRecDepth 20000 in
theorem gX3_release_X3_row : GoodIn wsX3_release (va_wsS RX3 92 yX3_row wsX3_row) := goodIn_app (goodIn_of _ (by decide +kernel)) ggX3_release_X3_row
theorem dX3_release_0 : decode cX3_release 0 = .ok (.aload_n 0, 1) := by decide +kernel
theorem dX3_release_1 : decode cX3_release 1 = .ok (.iconst 0, 1) := by decide +kernel
theorem dX3_release_2 : decode cX3_release 2 = .ok (.putfield 35, 3) := by decide +kernel
theorem dX3_release_5 : decode cX3_release 5 = .ok (.aload_n 0, 1) := by decide +kernel
theorem dX3_release_6 : decode cX3_release 6 = .ok (.iload_n 1, 1) := by decide +kernel
theorem dX3_release_7 : decode cX3_release 7 = .ok (.invokevirtual 67, 3) := by decide +kernel
theorem dX3_release_10 : decode cX3_release 10 = .ok (.ifCond .eq 11, 3) := by decide +kernel
theorem dX3_release_13 : decode cX3_release 13 = .ok (.aload_n 0, 1) := by decide +kernel
theorem dX3_release_14 : decode cX3_release 14 = .ok (.iload_n 2, 1) := by decide +kernel
theorem dX3_release_15 : decode cX3_release 15 = .ok (.invokevirtual 67, 3) := by decide +kernel
theorem dX3_release_18 : decode cX3_release 18 = .ok (.ifCond .ne 9, 3) := by decide +kernel
theorem dX3_release_21 : decode cX3_release 21 = .ok (.aload_n 0, 1) := by decide +kernel
theorem dX3_release_22 : decode cX3_release 22 = .ok (.iconst 1, 1) := by decide +kernel
theorem dX3_release_23 : decode cX3_release 23 = .ok (.invokevirtual 60, 3) := by decide +kernel
theorem dX3_release_26 : decode cX3_release 26 = .ok (.ireturn, 1) := by decide +kernel
theorem dX3_release_27 : decode cX3_release 27 = .ok (.aload_n 0, 1) := by decide +kernel
theorem dX3_release_28 : decode cX3_release 28 = .ok (.iload_n 1, 1) := by decide +kernel
theorem dX3_release_29 : decode cX3_release 29 = .ok (.iload_n 2, 1) := by decide +kernel
theorem dX3_release_30 : decode cX3_release 30 = .ok (.invokevirtual 115, 3) := by decide +kernel
theorem dX3_release_33 : decode cX3_release 33 = .ok (.istore_n 3, 1) := by decide +kernel
theorem dX3_release_34 : decode cX3_release 34 = .ok (.iload_n 3, 1) := by decide +kernel
theorem dX3_release_35 : decode cX3_release 35 = .ok (.ifCond .ne 9, 3) := by decide +kernel
theorem dX3_release_38 : decode cX3_release 38 = .ok (.aload_n 0, 1) := by decide +kernel
theorem dX3_release_39 : decode cX3_release 39 = .ok (.iconst 2, 1) := by decide +kernel
theorem dX3_release_40 : decode cX3_release 40 = .ok (.invokevirtual 60, 3) := by decide +kernel
theorem dX3_release_43 : decode cX3_release 43 = .ok (.ireturn, 1) := by decide +kernel
theorem dX3_release_44 : decode cX3_release 44 = .ok (.aload_n 0, 1) := by decide +kernel
theorem dX3_release_45 : decode cX3_release 45 = .ok (.getfield 26, 3) := by decide +kernel
theorem dX3_release_48 : decode cX3_release 48 = .ok (.iload_n 1, 1) := by decide +kernel
theorem dX3_release_49 : decode cX3_release 49 = .ok (.iload_n 2, 1) := by decide +kernel
theorem dX3_release_50 : decode cX3_release 50 = .ok (.invokestatic 92, 3) := by decide +kernel
theorem dX3_release_53 : decode cX3_release 53 = .ok (.iconst (-1), 1) := by decide +kernel
theorem dX3_release_54 : decode cX3_release 54 = .ok (.iastore, 1) := by decide +kernel
theorem dX3_release_55 : decode cX3_release 55 = .ok (.iload_n 3, 1) := by decide +kernel
theorem dX3_release_56 : decode cX3_release 56 = .ok (.ireturn, 1) := by decide +kernel
set_option maxRecDepth 20000 in
theorem ggX3_inColour_X3_wears : GoodIn wsX3_inColour wsX3_wears := goodIn_r _ [7, 1, 8, 9, 10, 11, 12, 13, 14, 6, 15, 16, 17, 18, 19, 20, 21, 22, 23, 24, 25, 26, 27, 28, 29, 30] (by decide +kernel) (by decide +kernel)
set_option maxRecDepth 20000 in
theorem gX3_inColour_X3_wears : GoodIn wsX3_inColour (wsV RX3 118 RX3 yX3_wears wsX3_wears) := goodIn_app (goodIn_of _ (by decide +kernel)) ggX3_inColour_X3_wears
theorem dX3_inColour_0 : decode cX3_inColour 0 = .ok (.iconst 0, 1) := by decide +kernel
theorem dX3_inColour_1 : decode cX3_inColour 1 = .ok (.istore_n 1, 1) := by decide +kernel
theorem dX3_inColour_2 : decode cX3_inColour 2 = .ok (.iconst 0, 1) := by decide +kernel
theorem dX3_inColour_3 : decode cX3_inColour 3 = .ok (.istore_n 2, 1) := by decide +kernel
theorem dX3_inColour_4 : decode cX3_inColour 4 = .ok (.iload_n 2, 1) := by decide +kernel
theorem dX3_inColour_5 : decode cX3_inColour 5 = .ok (.aload_n 0, 1) := by decide +kernel
theorem dX3_inColour_6 : decode cX3_inColour 6 = .ok (.getfield 39, 3) := by decide +kernel
theorem dX3_inColour_9 : decode cX3_inColour 9 = .ok (.if_icmp .ge 29, 3) := by decide +kernel
theorem dX3_inColour_12 : decode cX3_inColour 12 = .ok (.iload_n 1, 1) := by decide +kernel
theorem dX3_inColour_13 : decode cX3_inColour 13 = .ok (.aload_n 0, 1) := by decide +kernel
theorem dX3_inColour_14 : decode cX3_inColour 14 = .ok (.iload_n 2, 1) := by decide +kernel
theorem dX3_inColour_15 : decode cX3_inColour 15 = .ok (.aload_n 0, 1) := by decide +kernel
theorem dX3_inColour_16 : decode cX3_inColour 16 = .ok (.getfield 95, 3) := by decide +kernel
theorem dX3_inColour_19 : decode cX3_inColour 19 = .ok (.invokevirtual 118, 3) := by decide +kernel
theorem dX3_inColour_22 : decode cX3_inColour 22 = .ok (.ifCond .le 7, 3) := by decide +kernel
theorem dX3_inColour_25 : decode cX3_inColour 25 = .ok (.iconst 1, 1) := by decide +kernel
theorem dX3_inColour_26 : decode cX3_inColour 26 = .ok (.goto 4, 3) := by decide +kernel
theorem dX3_inColour_29 : decode cX3_inColour 29 = .ok (.iconst 0, 1) := by decide +kernel
theorem dX3_inColour_30 : decode cX3_inColour 30 = .ok (.iadd, 1) := by decide +kernel
theorem dX3_inColour_31 : decode cX3_inColour 31 = .ok (.istore_n 1, 1) := by decide +kernel
theorem dX3_inColour_32 : decode cX3_inColour 32 = .ok (.iinc 2 1, 3) := by decide +kernel
theorem dX3_inColour_35 : decode cX3_inColour 35 = .ok (.goto (-31), 3) := by decide +kernel
theorem dX3_inColour_38 : decode cX3_inColour 38 = .ok (.iload_n 1, 1) := by decide +kernel
theorem dX3_inColour_39 : decode cX3_inColour 39 = .ok (.ireturn, 1) := by decide +kernel
set_option maxRecDepth 20000 in
theorem ggX3_passed_X3_inColour : GoodIn wsX3_passed wsX3_inColour := goodIn_r _ [7, 8, 2, 9, 10, 11, 6, 12, 13, 14, 15, 16, 17, 18, 19, 20, 21, 22, 23, 24, 25, 26, 27, 28, 29, 30, 31, 32, 33, 34, 35] (by decide +kernel) (by decide +kernel)
set_option maxRecDepth 20000 in
theorem gX3_passed_X3_inColour : GoodIn wsX3_passed (wsV RX3 123 RX3 yX3_inColour wsX3_inColour) := goodIn_app (goodIn_of _ (by decide +kernel)) ggX3_passed_X3_inColour
theorem dX3_passed_0 : decode cX3_passed 0 = .ok (.iconst 0, 1) := by decide +kernel
theorem dX3_passed_1 : decode cX3_passed 1 = .ok (.istore_n 2, 1) := by decide +kernel
theorem dX3_passed_2 : decode cX3_passed 2 = .ok (.iload_n 2, 1) := by decide +kernel
theorem dX3_passed_3 : decode cX3_passed 3 = .ok (.iload_n 1, 1) := by decide +kernel
theorem dX3_passed_4 : decode cX3_passed 4 = .ok (.if_icmp .ge 32, 3) := by decide +kernel
theorem dX3_passed_7 : decode cX3_passed 7 = .ok (.aload_n 0, 1) := by decide +kernel
theorem dX3_passed_8 : decode cX3_passed 8 = .ok (.dup, 1) := by decide +kernel
theorem dX3_passed_9 : decode cX3_passed 9 = .ok (.getfield 121, 3) := by decide +kernel
theorem dX3_passed_12 : decode cX3_passed 12 = .ok (.aload_n 0, 1) := by decide +kernel
theorem dX3_passed_13 : decode cX3_passed 13 = .ok (.invokevirtual 123, 3) := by decide +kernel
theorem dX3_passed_16 : decode cX3_passed 16 = .ok (.iadd, 1) := by decide +kernel
theorem dX3_passed_17 : decode cX3_passed 17 = .ok (.putfield 121, 3) := by decide +kernel
theorem dX3_passed_20 : decode cX3_passed 20 = .ok (.aload_n 0, 1) := by decide +kernel
theorem dX3_passed_21 : decode cX3_passed 21 = .ok (.dup, 1) := by decide +kernel
theorem dX3_passed_22 : decode cX3_passed 22 = .ok (.getfield 95, 3) := by decide +kernel
theorem dX3_passed_25 : decode cX3_passed 25 = .ok (.iconst 1, 1) := by decide +kernel
theorem dX3_passed_26 : decode cX3_passed 26 = .ok (.iadd, 1) := by decide +kernel
theorem dX3_passed_27 : decode cX3_passed 27 = .ok (.putfield 95, 3) := by decide +kernel
theorem dX3_passed_30 : decode cX3_passed 30 = .ok (.iinc 2 1, 3) := by decide +kernel
theorem dX3_passed_33 : decode cX3_passed 33 = .ok (.goto (-31), 3) := by decide +kernel
theorem dX3_passed_36 : decode cX3_passed 36 = .ok (.aload_n 0, 1) := by decide +kernel
theorem dX3_passed_37 : decode cX3_passed 37 = .ok (.invokevirtual 123, 3) := by decide +kernel
theorem dX3_passed_40 : decode cX3_passed 40 = .ok (.ireturn, 1) := by decide +kernel
set_option maxRecDepth 20000 in
theorem ggX3_pass_X3_isIn : GoodIn wsX3_pass wsX3_isIn := goodIn_r _ [5] (by decide +kernel) (by decide +kernel)
set_option maxRecDepth 20000 in
theorem gX3_pass_X3_isIn : GoodIn wsX3_pass (va_wsS RX3 42 yX3_isIn wsX3_isIn) := goodIn_app (goodIn_of _ (by decide +kernel)) ggX3_pass_X3_isIn
set_option maxRecDepth 20000 in
theorem ggX3_pass_X3_passed : GoodIn wsX3_pass wsX3_passed := goodIn_r _ [9, 10, 11, 12, 13, 14, 4, 15, 16, 17, 18, 19, 20, 21, 22, 23, 24, 25, 26, 27, 28, 29, 30, 31, 36, 37, 38, 39, 40, 41, 42, 43, 44, 45, 46, 47] (by decide +kernel) (by decide +kernel)
