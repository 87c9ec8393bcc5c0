set_option maxRecDepth 20000 in
theorem gX3_pass_X3_passed : GoodIn wsX3_pass (wsV RX3 127 RX3 yX3_passed wsX3_passed) := goodIn_app (goodIn_of _ (by decide +kernel)) ggX3_pass_X3_passed
set_option maxRecDepth 20000 in
theorem ggX3_pass_X3_no : GoodIn wsX3_pass wsX3_no := goodIn_r _ [35, 1, 36, 37, 38, 39, 40, 41, 42, 43, 44, 45, 46, 47] (by decide +kernel) (by decide +kernel)
set_option maxRecDepth 20000 in
theorem gX3_pass_X3_no : GoodIn wsX3_pass (wsV RX3 60 RX3 yX3_no wsX3_no) := goodIn_app (goodIn_of _ (by decide +kernel)) ggX3_pass_X3_no
theorem dX3_pass_0 : decode cX3_pass 0 = .ok (.aload_n 0, 1) := by decide +kernel
theorem dX3_pass_1 : decode cX3_pass 1 = .ok (.iconst 0, 1) := by decide +kernel
theorem dX3_pass_2 : decode cX3_pass 2 = .ok (.putfield 35, 3) := by decide +kernel
theorem dX3_pass_5 : decode cX3_pass 5 = .ok (.iload_n 1, 1) := by decide +kernel
theorem dX3_pass_6 : decode cX3_pass 6 = .ok (.iconst 1, 1) := by decide +kernel
theorem dX3_pass_7 : decode cX3_pass 7 = .ok (.sipush 200, 3) := by decide +kernel
theorem dX3_pass_10 : decode cX3_pass 10 = .ok (.invokestatic 42, 3) := by decide +kernel
theorem dX3_pass_13 : decode cX3_pass 13 = .ok (.ifCond .eq 11, 3) := by decide +kernel
theorem dX3_pass_16 : decode cX3_pass 16 = .ok (.aload_n 0, 1) := by decide +kernel
theorem dX3_pass_17 : decode cX3_pass 17 = .ok (.iload_n 1, 1) := by decide +kernel
theorem dX3_pass_18 : decode cX3_pass 18 = .ok (.invokevirtual 127, 3) := by decide +kernel
theorem dX3_pass_21 : decode cX3_pass 21 = .ok (.goto 8, 3) := by decide +kernel
theorem dX3_pass_24 : decode cX3_pass 24 = .ok (.aload_n 0, 1) := by decide +kernel
theorem dX3_pass_25 : decode cX3_pass 25 = .ok (.iconst 1, 1) := by decide +kernel
theorem dX3_pass_26 : decode cX3_pass 26 = .ok (.invokevirtual 60, 3) := by decide +kernel
theorem dX3_pass_29 : decode cX3_pass 29 = .ok (.ireturn, 1) := by decide +kernel
theorem dX3_ok_0 : decode cX3_ok 0 = .ok (.aload_n 0, 1) := by decide +kernel
theorem dX3_ok_1 : decode cX3_ok 1 = .ok (.iconst 0, 1) := by decide +kernel
theorem dX3_ok_2 : decode cX3_ok 2 = .ok (.putfield 35, 3) := by decide +kernel
theorem dX3_ok_5 : decode cX3_ok 5 = .ok (.iload_n 1, 1) := by decide +kernel
theorem dX3_ok_6 : decode cX3_ok 6 = .ok (.ireturn, 1) := by decide +kernel
theorem dX3_alive_0 : decode cX3_alive 0 = .ok (.iconst 0, 1) := by decide +kernel
theorem dX3_alive_1 : decode cX3_alive 1 = .ok (.istore_n 1, 1) := by decide +kernel
theorem dX3_alive_2 : decode cX3_alive 2 = .ok (.iconst 0, 1) := by decide +kernel
theorem dX3_alive_3 : decode cX3_alive 3 = .ok (.istore_n 2, 1) := by decide +kernel
theorem dX3_alive_4 : decode cX3_alive 4 = .ok (.iload_n 2, 1) := by decide +kernel
theorem dX3_alive_5 : decode cX3_alive 5 = .ok (.aload_n 0, 1) := by decide +kernel
theorem dX3_alive_6 : decode cX3_alive 6 = .ok (.getfield 39, 3) := by decide +kernel
theorem dX3_alive_9 : decode cX3_alive 9 = .ok (.if_icmp .ge 26, 3) := by decide +kernel
theorem dX3_alive_12 : decode cX3_alive 12 = .ok (.iload_n 1, 1) := by decide +kernel
theorem dX3_alive_13 : decode cX3_alive 13 = .ok (.aload_n 0, 1) := by decide +kernel
theorem dX3_alive_14 : decode cX3_alive 14 = .ok (.getfield 16, 3) := by decide +kernel
theorem dX3_alive_17 : decode cX3_alive 17 = .ok (.iload_n 2, 1) := by decide +kernel
theorem dX3_alive_18 : decode cX3_alive 18 = .ok (.baload, 1) := by decide +kernel
theorem dX3_alive_19 : decode cX3_alive 19 = .ok (.ifCond .eq 7, 3) := by decide +kernel
theorem dX3_alive_22 : decode cX3_alive 22 = .ok (.iconst 1, 1) := by decide +kernel
theorem dX3_alive_23 : decode cX3_alive 23 = .ok (.goto 4, 3) := by decide +kernel
theorem dX3_alive_26 : decode cX3_alive 26 = .ok (.iconst 0, 1) := by decide +kernel
theorem dX3_alive_27 : decode cX3_alive 27 = .ok (.iadd, 1) := by decide +kernel
theorem dX3_alive_28 : decode cX3_alive 28 = .ok (.istore_n 1, 1) := by decide +kernel
theorem dX3_alive_29 : decode cX3_alive 29 = .ok (.iinc 2 1, 3) := by decide +kernel
theorem dX3_alive_32 : decode cX3_alive 32 = .ok (.goto (-28), 3) := by decide +kernel
theorem dX3_alive_35 : decode cX3_alive 35 = .ok (.iload_n 1, 1) := by decide +kernel
theorem dX3_alive_36 : decode cX3_alive 36 = .ok (.ireturn, 1) := by decide +kernel
set_option maxRecDepth 20000 in
theorem ggX3_people_X3_ok : GoodIn wsX3_people wsX3_ok := goodIn_r _ [6, 7, 8, 9, 10, 11, 12, 13, 14, 15, 16, 17, 18, 19] (by decide +kernel) (by decide +kernel)
set_option maxRecDepth 20000 in
theorem gX3_people_X3_ok : GoodIn wsX3_people (wsV RX3 130 RX3 yX3_ok wsX3_ok) := goodIn_app (goodIn_of _ (by decide +kernel)) ggX3_people_X3_ok
theorem dX3_people_0 : decode cX3_people 0 = .ok (.aload_n 0, 1) := by decide +kernel
theorem dX3_people_1 : decode cX3_people 1 = .ok (.aload_n 0, 1) := by decide +kernel
theorem dX3_people_2 : decode cX3_people 2 = .ok (.getfield 39, 3) := by decide +kernel
theorem dX3_people_5 : decode cX3_people 5 = .ok (.invokevirtual 130, 3) := by decide +kernel
theorem dX3_people_8 : decode cX3_people 8 = .ok (.ireturn, 1) := by decide +kernel
set_option maxRecDepth 20000 in
theorem ggX3_living_X3_alive : GoodIn wsX3_living wsX3_alive := goodIn_r _ [5, 6, 7, 13, 14, 15, 16, 17, 18, 19, 20, 21, 22, 23, 24] (by decide +kernel) (by decide +kernel)
set_option maxRecDepth 20000 in
theorem gX3_living_X3_alive : GoodIn wsX3_living (wsV RX3 133 RX3 yX3_alive wsX3_alive) := goodIn_app (goodIn_of _ (by decide +kernel)) ggX3_living_X3_alive
set_option maxRecDepth 20000 in
theorem ggX3_living_X3_ok : GoodIn wsX3_living wsX3_ok := goodIn_r _ [11, 12, 13, 14, 15, 16, 17, 18, 19, 20, 21, 22, 23, 24] (by decide +kernel) (by decide +kernel)
set_option maxRecDepth 20000 in
theorem gX3_living_X3_ok : GoodIn wsX3_living (wsV RX3 130 RX3 yX3_ok wsX3_ok) := goodIn_app (goodIn_of _ (by decide +kernel)) ggX3_living_X3_ok
theorem dX3_living_0 : decode cX3_living 0 = .ok (.aload_n 0, 1) := by decide +kernel
theorem dX3_living_1 : decode cX3_living 1 = .ok (.aload_n 0, 1) := by decide +kernel
theorem dX3_living_2 : decode cX3_living 2 = .ok (.invokevirtual 133, 3) := by decide +kernel
theorem dX3_living_5 : decode cX3_living 5 = .ok (.invokevirtual 130, 3) := by decide +kernel
theorem dX3_living_8 : decode cX3_living 8 = .ok (.ireturn, 1) := by decide +kernel
set_option maxRecDepth 20000 in
theorem ggX3_isAlive_X3_isPerson : GoodIn wsX3_isAlive wsX3_isPerson := goodIn_r _ [7, 8, 9, 10, 6, 11, 16, 17, 18, 19, 20, 21, 22, 23, 24, 25, 26, 27] (by decide +kernel) (by decide +kernel)
set_option maxRecDepth 20000 in
theorem gX3_isAlive_X3_isPerson : GoodIn wsX3_isAlive (wsV RX3 67 RX3 yX3_isPerson wsX3_isPerson) := goodIn_app (goodIn_of _ (by decide +kernel)) ggX3_isAlive_X3_isPerson
set_option maxRecDepth 20000 in
theorem ggX3_isAlive_X3_isNot : GoodIn wsX3_isAlive wsX3_isNot := goodIn_r _ [15, 1, 16, 17, 18, 19, 20, 21, 22, 23, 24, 25, 26, 27] (by decide +kernel) (by decide +kernel)
set_option maxRecDepth 20000 in
theorem gX3_isAlive_X3_isNot : GoodIn wsX3_isAlive (wsV RX3 136 RX3 yX3_isNot wsX3_isNot) := goodIn_app (goodIn_of _ (by decide +kernel)) ggX3_isAlive_X3_isNot
theorem dX3_isAlive_0 : decode cX3_isAlive 0 = .ok (.aload_n 0, 1) := by decide +kernel
theorem dX3_isAlive_1 : decode cX3_isAlive 1 = .ok (.iconst 0, 1) := by decide +kernel
theorem dX3_isAlive_2 : decode cX3_isAlive 2 = .ok (.putfield 35, 3) := by decide +kernel
theorem dX3_isAlive_5 : decode cX3_isAlive 5 = .ok (.aload_n 0, 1) := by decide +kernel
theorem dX3_isAlive_6 : decode cX3_isAlive 6 = .ok (.iload_n 1, 1) := by decide +kernel
theorem dX3_isAlive_7 : decode cX3_isAlive 7 = .ok (.invokevirtual 67, 3) := by decide +kernel
theorem dX3_isAlive_10 : decode cX3_isAlive 10 = .ok (.ifCond .eq 12, 3) := by decide +kernel
theorem dX3_isAlive_13 : decode cX3_isAlive 13 = .ok (.aload_n 0, 1) := by decide +kernel
theorem dX3_isAlive_14 : decode cX3_isAlive 14 = .ok (.getfield 16, 3) := by decide +kernel
theorem dX3_isAlive_17 : decode cX3_isAlive 17 = .ok (.iload_n 1, 1) := by decide +kernel
theorem dX3_isAlive_18 : decode cX3_isAlive 18 = .ok (.baload, 1) := by decide +kernel
theorem dX3_isAlive_19 : decode cX3_isAlive 19 = .ok (.goto 8, 3) := by decide +kernel
theorem dX3_isAlive_22 : decode cX3_isAlive 22 = .ok (.aload_n 0, 1) := by decide +kernel
theorem dX3_isAlive_23 : decode cX3_isAlive 23 = .ok (.iconst 1, 1) := by decide +kernel
theorem dX3_isAlive_24 : decode cX3_isAlive 24 = .ok (.invokevirtual 136, 3) := by decide +kernel
theorem dX3_isAlive_27 : decode cX3_isAlive 27 = .ok (.ireturn, 1) := by decide +kernel
set_option maxRecDepth 20000 in
theorem ggX3_parentOf_X3_isPerson : GoodIn wsX3_parentOf wsX3_isPerson := goodIn_r _ [7, 8, 9, 10, 6, 11, 16, 17, 18, 19, 20, 21, 22, 23, 24, 25, 26, 27] (by decide +kernel) (by decide +kernel)
set_option maxRecDepth 20000 in
theorem gX3_parentOf_X3_isPerson : GoodIn wsX3_parentOf (wsV RX3 67 RX3 yX3_isPerson wsX3_isPerson) := goodIn_app (goodIn_of _ (by decide +kernel)) ggX3_parentOf_X3_isPerson
set_option maxRecDepth 20000 in
theorem ggX3_parentOf_X3_no : GoodIn wsX3_parentOf wsX3_no := goodIn_r _ [15, 1, 16, 17, 18, 19, 20, 21, 22, 23, 24, 25, 26, 27] (by decide +kernel) (by decide +kernel)
set_option maxRecDepth 20000 in
theorem gX3_parentOf_X3_no : GoodIn wsX3_parentOf (wsV RX3 60 RX3 yX3_no wsX3_no) := goodIn_app (goodIn_of _ (by decide +kernel)) ggX3_parentOf_X3_no
theorem dX3_parentOf_0 : decode cX3_parentOf 0 = .ok (.aload_n 0, 1) := by decide +kernel
theorem dX3_parentOf_1 : decode cX3_parentOf 1 = .ok (.iconst 0, 1) := by decide +kernel
theorem dX3_parentOf_2 : decode cX3_parentOf 2 = .ok (.putfield 35, 3) := by decide +kernel
theorem dX3_parentOf_5 : decode cX3_parentOf 5 = .ok (.aload_n 0, 1) := by decide +kernel
theorem dX3_parentOf_6 : decode cX3_parentOf 6 = .ok (.iload_n 1, 1) := by decide +kernel
theorem dX3_parentOf_7 : decode cX3_parentOf 7 = .ok (.invokevirtual 67, 3) := by decide +kernel
theorem dX3_parentOf_10 : decode cX3_parentOf 10 = .ok (.ifCond .eq 12, 3) := by decide +kernel
theorem dX3_parentOf_13 : decode cX3_parentOf 13 = .ok (.aload_n 0, 1) := by decide +kernel
theorem dX3_parentOf_14 : decode cX3_parentOf 14 = .ok (.getfield 9, 3) := by decide +kernel
theorem dX3_parentOf_17 : decode cX3_parentOf 17 = .ok (.iload_n 1, 1) := by decide +kernel
theorem dX3_parentOf_18 : decode cX3_parentOf 18 = .ok (.iaload, 1) := by decide +kernel
theorem dX3_parentOf_19 : decode cX3_parentOf 19 = .ok (.goto 8, 3) := by decide +kernel
theorem dX3_parentOf_22 : decode cX3_parentOf 22 = .ok (.aload_n 0, 1) := by decide +kernel
theorem dX3_parentOf_23 : decode cX3_parentOf 23 = .ok (.iconst 1, 1) := by decide +kernel
theorem dX3_parentOf_24 : decode cX3_parentOf 24 = .ok (.invokevirtual 60, 3) := by decide +kernel
theorem dX3_parentOf_27 : decode cX3_parentOf 27 = .ok (.ireturn, 1) := by decide +kernel
set_option maxRecDepth 20000 in
theorem ggX3_marriedTo_X3_isPerson : GoodIn wsX3_marriedTo wsX3_isPerson := goodIn_r _ [7, 8, 9, 10, 6, 11, 16, 17, 18, 19, 20, 21, 22, 23, 24, 25, 26, 27] (by decide +kernel) (by decide +kernel)
set_option maxRecDepth 20000 in
theorem gX3_marriedTo_X3_isPerson : GoodIn wsX3_marriedTo (wsV RX3 67 RX3 yX3_isPerson wsX3_isPerson) := goodIn_app (goodIn_of _ (by decide +kernel)) ggX3_marriedTo_X3_isPerson
set_option maxRecDepth 20000 in
theorem ggX3_marriedTo_X3_no : GoodIn wsX3_marriedTo wsX3_no := goodIn_r _ [15, 1, 16, 17, 18, 19, 20, 21, 22, 23, 24, 25, 26, 27] (by decide +kernel) (by decide +kernel)
set_option maxRecDepth 20000 in
theorem gX3_marriedTo_X3_no : GoodIn wsX3_marriedTo (wsV RX3 60 RX3 yX3_no wsX3_no) := goodIn_app (goodIn_of _ (by decide +kernel)) ggX3_marriedTo_X3_no
theorem dX3_marriedTo_0 : decode cX3_marriedTo 0 = .ok (.aload_n 0, 1) := by decide +kernel
theorem dX3_marriedTo_1 : decode cX3_marriedTo 1 = .ok (.iconst 0, 1) := by decide +kernel
theorem dX3_marriedTo_2 : decode cX3_marriedTo 2 = .ok (.putfield 35, 3) := by decide +kernel
theorem dX3_marriedTo_5 : decode cX3_marriedTo 5 = .ok (.aload_n 0, 1) := by decide +kernel
theorem dX3_marriedTo_6 : decode cX3_marriedTo 6 = .ok (.iload_n 1, 1) := by decide +kernel
theorem dX3_marriedTo_7 : decode cX3_marriedTo 7 = .ok (.invokevirtual 67, 3) := by decide +kernel
theorem dX3_marriedTo_10 : decode cX3_marriedTo 10 = .ok (.ifCond .eq 12, 3) := by decide +kernel
theorem dX3_marriedTo_13 : decode cX3_marriedTo 13 = .ok (.aload_n 0, 1) := by decide +kernel
theorem dX3_marriedTo_14 : decode cX3_marriedTo 14 = .ok (.getfield 13, 3) := by decide +kernel
theorem dX3_marriedTo_17 : decode cX3_marriedTo 17 = .ok (.iload_n 1, 1) := by decide +kernel
theorem dX3_marriedTo_18 : decode cX3_marriedTo 18 = .ok (.iaload, 1) := by decide +kernel
theorem dX3_marriedTo_19 : decode cX3_marriedTo 19 = .ok (.goto 8, 3) := by decide +kernel
theorem dX3_marriedTo_22 : decode cX3_marriedTo 22 = .ok (.aload_n 0, 1) := by decide +kernel
theorem dX3_marriedTo_23 : decode cX3_marriedTo 23 = .ok (.iconst 1, 1) := by decide +kernel
theorem dX3_marriedTo_24 : decode cX3_marriedTo 24 = .ok (.invokevirtual 60, 3) := by decide +kernel
theorem dX3_marriedTo_27 : decode cX3_marriedTo 27 = .ok (.ireturn, 1) := by decide +kernel
set_option maxRecDepth 20000 in
theorem ggX3_degreeOf_X3_isPerson : GoodIn wsX3_degreeOf wsX3_isPerson := goodIn_r _ [6, 7, 8, 9, 5, 10, 34, 35, 36, 37, 38, 39, 40, 41, 42, 43, 44, 45] (by decide +kernel) (by decide +kernel)
set_option maxRecDepth 20000 in
theorem gX3_degreeOf_X3_isPerson : GoodIn wsX3_degreeOf (wsV RX3 67 RX3 yX3_isPerson wsX3_isPerson) := goodIn_app (goodIn_of _ (by decide +kernel)) ggX3_degreeOf_X3_isPerson
set_option maxRecDepth 20000 in
theorem ggX3_degreeOf_X3_degree : GoodIn wsX3_degreeOf wsX3_degree := goodIn_r _ [14, 15, 16, 17, 18, 19, 20, 21, 22, 5, 23, 7, 24, 25, 26, 27, 28, 29, 34, 35, 36, 37, 38, 39, 40, 41, 42, 43, 44, 45] (by decide +kernel) (by decide +kernel)
set_option maxRecDepth 20000 in
theorem gX3_degreeOf_X3_degree : GoodIn wsX3_degreeOf (wsV RX3 74 RX3 yX3_degree wsX3_degree) := goodIn_app (goodIn_of _ (by decide +kernel)) ggX3_degreeOf_X3_degree
set_option maxRecDepth 20000 in
theorem ggX3_degreeOf_X3_no : GoodIn wsX3_degreeOf wsX3_no := goodIn_r _ [33, 1, 34, 35, 36, 37, 38, 39, 40, 41, 42, 43, 44, 45] (by decide +kernel) (by decide +kernel)
set_option maxRecDepth 20000 in
theorem gX3_degreeOf_X3_no : GoodIn wsX3_degreeOf (wsV RX3 60 RX3 yX3_no wsX3_no) := goodIn_app (goodIn_of _ (by decide +kernel)) ggX3_degreeOf_X3_no
theorem dX3_degreeOf_0 : decode cX3_degreeOf 0 = .ok (.aload_n 0, 1) := by decide +kernel
theorem dX3_degreeOf_1 : decode cX3_degreeOf 1 = .ok (.iconst 0, 1) := by decide +kernel
theorem dX3_degreeOf_2 : decode cX3_degreeOf 2 = .ok (.putfield 35, 3) := by decide +kernel
theorem dX3_degreeOf_5 : decode cX3_degreeOf 5 = .ok (.aload_n 0, 1) := by decide +kernel
theorem dX3_degreeOf_6 : decode cX3_degreeOf 6 = .ok (.iload_n 1, 1) := by decide +kernel
theorem dX3_degreeOf_7 : decode cX3_degreeOf 7 = .ok (.invokevirtual 67, 3) := by decide +kernel
theorem dX3_degreeOf_10 : decode cX3_degreeOf 10 = .ok (.ifCond .eq 20, 3) := by decide +kernel
theorem dX3_degreeOf_13 : decode cX3_degreeOf 13 = .ok (.aload_n 0, 1) := by decide +kernel
theorem dX3_degreeOf_14 : decode cX3_degreeOf 14 = .ok (.iload_n 2, 1) := by decide +kernel
theorem dX3_degreeOf_15 : decode cX3_degreeOf 15 = .ok (.invokevirtual 67, 3) := by decide +kernel
theorem dX3_degreeOf_18 : decode cX3_degreeOf 18 = .ok (.ifCond .eq 12, 3) := by decide +kernel
theorem dX3_degreeOf_21 : decode cX3_degreeOf 21 = .ok (.aload_n 0, 1) := by decide +kernel
theorem dX3_degreeOf_22 : decode cX3_degreeOf 22 = .ok (.iload_n 1, 1) := by decide +kernel
theorem dX3_degreeOf_23 : decode cX3_degreeOf 23 = .ok (.iload_n 2, 1) := by decide +kernel
theorem dX3_degreeOf_24 : decode cX3_degreeOf 24 = .ok (.invokevirtual 74, 3) := by decide +kernel
theorem dX3_degreeOf_27 : decode cX3_degreeOf 27 = .ok (.goto 8, 3) := by decide +kernel
theorem dX3_degreeOf_30 : decode cX3_degreeOf 30 = .ok (.aload_n 0, 1) := by decide +kernel
theorem dX3_degreeOf_31 : decode cX3_degreeOf 31 = .ok (.iconst 1, 1) := by decide +kernel
theorem dX3_degreeOf_32 : decode cX3_degreeOf 32 = .ok (.invokevirtual 60, 3) := by decide +kernel
theorem dX3_degreeOf_35 : decode cX3_degreeOf 35 = .ok (.ireturn, 1) := by decide +kernel
set_option maxRecDepth 20000 in
theorem ggX3_kin_X3_go : GoodIn wsX3_kin wsX3_go := goodIn_r _ [8, 1, 3, 9, 10, 11, 7, 12, 13, 14, 15, 16, 17, 18, 19, 20, 21, 22, 23, 24, 25, 26] (by decide +kernel) (by decide +kernel)
set_option maxRecDepth 20000 in
theorem gX3_kin_X3_go : GoodIn wsX3_kin (wsV RX3 50 RX3 yX3_go wsX3_go) := goodIn_app (goodIn_of _ (by decide +kernel)) ggX3_kin_X3_go
theorem dX3_kin_0 : decode cX3_kin 0 = .ok (.aload_n 0, 1) := by decide +kernel
theorem dX3_kin_1 : decode cX3_kin 1 = .ok (.iload_n 1, 1) := by decide +kernel
theorem dX3_kin_2 : decode cX3_kin 2 = .ok (.invokevirtual 50, 3) := by decide +kernel
theorem dX3_kin_5 : decode cX3_kin 5 = .ok (.iconst 0, 1) := by decide +kernel
theorem dX3_kin_6 : decode cX3_kin 6 = .ok (.istore_n 3, 1) := by decide +kernel
theorem dX3_kin_7 : decode cX3_kin 7 = .ok (.iconst 0, 1) := by decide +kernel
theorem dX3_kin_8 : decode cX3_kin 8 = .ok (.istore 4, 2) := by decide +kernel
theorem dX3_kin_10 : decode cX3_kin 10 = .ok (.iload 4, 2) := by decide +kernel
theorem dX3_kin_12 : decode cX3_kin 12 = .ok (.aload_n 0, 1) := by decide +kernel
theorem dX3_kin_13 : decode cX3_kin 13 = .ok (.getfield 39, 3) := by decide +kernel
theorem dX3_kin_16 : decode cX3_kin 16 = .ok (.if_icmp .ge 38, 3) := by decide +kernel
theorem dX3_kin_19 : decode cX3_kin 19 = .ok (.iload_n 3, 1) := by decide +kernel
theorem dX3_kin_20 : decode cX3_kin 20 = .ok (.aload_n 0, 1) := by decide +kernel
theorem dX3_kin_21 : decode cX3_kin 21 = .ok (.getfield 16, 3) := by decide +kernel
theorem dX3_kin_24 : decode cX3_kin 24 = .ok (.iload 4, 2) := by decide +kernel
theorem dX3_kin_26 : decode cX3_kin 26 = .ok (.baload, 1) := by decide +kernel
theorem dX3_kin_27 : decode cX3_kin 27 = .ok (.ifCond .eq 18, 3) := by decide +kernel
theorem dX3_kin_30 : decode cX3_kin 30 = .ok (.aload_n 0, 1) := by decide +kernel
theorem dX3_kin_31 : decode cX3_kin 31 = .ok (.getfield 29, 3) := by decide +kernel
theorem dX3_kin_34 : decode cX3_kin 34 = .ok (.iload 4, 2) := by decide +kernel
theorem dX3_kin_36 : decode cX3_kin 36 = .ok (.iaload, 1) := by decide +kernel
theorem dX3_kin_37 : decode cX3_kin 37 = .ok (.iload_n 2, 1) := by decide +kernel
theorem dX3_kin_38 : decode cX3_kin 38 = .ok (.if_icmp .ne 7, 3) := by decide +kernel
theorem dX3_kin_41 : decode cX3_kin 41 = .ok (.iconst 1, 1) := by decide +kernel
theorem dX3_kin_42 : decode cX3_kin 42 = .ok (.goto 4, 3) := by decide +kernel
theorem dX3_kin_45 : decode cX3_kin 45 = .ok (.iconst 0, 1) := by decide +kernel
theorem dX3_kin_46 : decode cX3_kin 46 = .ok (.iadd, 1) := by decide +kernel
theorem dX3_kin_47 : decode cX3_kin 47 = .ok (.istore_n 3, 1) := by decide +kernel
theorem dX3_kin_48 : decode cX3_kin 48 = .ok (.iinc 4 1, 3) := by decide +kernel
theorem dX3_kin_51 : decode cX3_kin 51 = .ok (.goto (-41), 3) := by decide +kernel
theorem dX3_kin_54 : decode cX3_kin 54 = .ok (.iload_n 3, 1) := by decide +kernel
theorem dX3_kin_55 : decode cX3_kin 55 = .ok (.ireturn, 1) := by decide +kernel
set_option maxRecDepth 20000 in
theorem ggX3_kinOf_X3_isPerson : GoodIn wsX3_kinOf wsX3_isPerson := goodIn_r _ [6, 7, 8, 9, 5, 10, 34, 35, 36, 37, 38, 39, 40, 41, 42, 43, 44, 45] (by decide +kernel) (by decide +kernel)
set_option maxRecDepth 20000 in
theorem gX3_kinOf_X3_isPerson : GoodIn wsX3_kinOf (wsV RX3 67 RX3 yX3_isPerson wsX3_isPerson) := goodIn_app (goodIn_of _ (by decide +kernel)) ggX3_kinOf_X3_isPerson
set_option maxRecDepth 20000 in
theorem ggX3_kinOf_X3_isDegree : GoodIn wsX3_kinOf wsX3_isDegree := goodIn_r _ [13, 8, 9, 5, 10] (by decide +kernel) (by decide +kernel)
set_option maxRecDepth 20000 in
theorem gX3_kinOf_X3_isDegree : GoodIn wsX3_kinOf (va_wsS RX3 83 yX3_isDegree wsX3_isDegree) := goodIn_app (goodIn_of _ (by decide +kernel)) ggX3_kinOf_X3_isDegree
set_option maxRecDepth 20000 in
theorem ggX3_kinOf_X3_kin : GoodIn wsX3_kinOf wsX3_kin := goodIn_r _ [17, 7, 18, 19, 20, 21, 22, 5, 23, 24, 25, 26, 27, 28, 29, 34, 35, 36, 37, 38, 39, 40, 41, 42, 43, 44, 45] (by decide +kernel) (by decide +kernel)
set_option maxRecDepth 20000 in
theorem gX3_kinOf_X3_kin : GoodIn wsX3_kinOf (wsV RX3 139 RX3 yX3_kin wsX3_kin) := goodIn_app (goodIn_of _ (by decide +kernel)) ggX3_kinOf_X3_kin
set_option maxRecDepth 20000 in
theorem ggX3_kinOf_X3_no : GoodIn wsX3_kinOf wsX3_no := goodIn_r _ [33, 1, 34, 35, 36, 37, 38, 39, 40, 41, 42, 43, 44, 45] (by decide +kernel) (by decide +kernel)
set_option maxRecDepth 20000 in
theorem gX3_kinOf_X3_no : GoodIn wsX3_kinOf (wsV RX3 60 RX3 yX3_no wsX3_no) := goodIn_app (goodIn_of _ (by decide +kernel)) ggX3_kinOf_X3_no
theorem dX3_kinOf_0 : decode cX3_kinOf 0 = .ok (.aload_n 0, 1) := by decide +kernel
theorem dX3_kinOf_1 : decode cX3_kinOf 1 = .ok (.iconst 0, 1) := by decide +kernel
theorem dX3_kinOf_2 : decode cX3_kinOf 2 = .ok (.putfield 35, 3) := by decide +kernel
theorem dX3_kinOf_5 : decode cX3_kinOf 5 = .ok (.aload_n 0, 1) := by decide +kernel
theorem dX3_kinOf_6 : decode cX3_kinOf 6 = .ok (.iload_n 1, 1) := by decide +kernel
theorem dX3_kinOf_7 : decode cX3_kinOf 7 = .ok (.invokevirtual 67, 3) := by decide +kernel
theorem dX3_kinOf_10 : decode cX3_kinOf 10 = .ok (.ifCond .eq 19, 3) := by decide +kernel
theorem dX3_kinOf_13 : decode cX3_kinOf 13 = .ok (.iload_n 2, 1) := by decide +kernel
theorem dX3_kinOf_14 : decode cX3_kinOf 14 = .ok (.invokestatic 83, 3) := by decide +kernel
theorem dX3_kinOf_17 : decode cX3_kinOf 17 = .ok (.ifCond .eq 12, 3) := by decide +kernel
theorem dX3_kinOf_20 : decode cX3_kinOf 20 = .ok (.aload_n 0, 1) := by decide +kernel
theorem dX3_kinOf_21 : decode cX3_kinOf 21 = .ok (.iload_n 1, 1) := by decide +kernel
theorem dX3_kinOf_22 : decode cX3_kinOf 22 = .ok (.iload_n 2, 1) := by decide +kernel
theorem dX3_kinOf_23 : decode cX3_kinOf 23 = .ok (.invokevirtual 139, 3) := by decide +kernel
theorem dX3_kinOf_26 : decode cX3_kinOf 26 = .ok (.goto 8, 3) := by decide +kernel
theorem dX3_kinOf_29 : decode cX3_kinOf 29 = .ok (.aload_n 0, 1) := by decide +kernel
theorem dX3_kinOf_30 : decode cX3_kinOf 30 = .ok (.iconst 1, 1) := by decide +kernel
theorem dX3_kinOf_31 : decode cX3_kinOf 31 = .ok (.invokevirtual 60, 3) := by decide +kernel
theorem dX3_kinOf_34 : decode cX3_kinOf 34 = .ok (.ireturn, 1) := by decide +kernel
set_option maxRecDepth 20000 in
theorem ggX3_stageColour_X3_isDegree : GoodIn wsX3_stageColour wsX3_isDegree := goodIn_r _ [6, 7, 8, 5, 9] (by decide +kernel) (by decide +kernel)
set_option maxRecDepth 20000 in
theorem gX3_stageColour_X3_isDegree : GoodIn wsX3_stageColour (va_wsS RX3 83 yX3_isDegree wsX3_isDegree) := goodIn_app (goodIn_of _ (by decide +kernel)) ggX3_stageColour_X3_isDegree
set_option maxRecDepth 20000 in
theorem ggX3_stageColour_X3_isStage : GoodIn wsX3_stageColour wsX3_isStage := goodIn_r _ [12, 7, 8, 5, 9] (by decide +kernel) (by decide +kernel)
set_option maxRecDepth 20000 in
theorem gX3_stageColour_X3_isStage : GoodIn wsX3_stageColour (va_wsS RX3 86 yX3_isStage wsX3_isStage) := goodIn_app (goodIn_of _ (by decide +kernel)) ggX3_stageColour_X3_isStage
set_option maxRecDepth 20000 in
theorem ggX3_stageColour_X3_at : GoodIn wsX3_stageColour wsX3_at := goodIn_r _ [15] (by decide +kernel) (by decide +kernel)
set_option maxRecDepth 20000 in
theorem gX3_stageColour_X3_at : GoodIn wsX3_stageColour (va_wsS RX3 80 yX3_at wsX3_at) := goodIn_app (goodIn_of _ (by decide +kernel)) ggX3_stageColour_X3_at
set_option maxRecDepth 20000 in
theorem ggX3_stageColour_X3_no : GoodIn wsX3_stageColour wsX3_no := goodIn_r _ [19, 1, 20, 21, 22, 23, 24, 25, 26, 27, 28, 29, 30, 31] (by decide +kernel) (by decide +kernel)
set_option maxRecDepth 20000 in
theorem gX3_stageColour_X3_no : GoodIn wsX3_stageColour (wsV RX3 60 RX3 yX3_no wsX3_no) := goodIn_app (goodIn_of _ (by decide +kernel)) ggX3_stageColour_X3_no
theorem dX3_stageColour_0 : decode cX3_stageColour 0 = .ok (.aload_n 0, 1) := by decide +kernel
theorem dX3_stageColour_1 : decode cX3_stageColour 1 = .ok (.iconst 0, 1) := by decide +kernel
theorem dX3_stageColour_2 : decode cX3_stageColour 2 = .ok (.putfield 35, 3) := by decide +kernel
theorem dX3_stageColour_5 : decode cX3_stageColour 5 = .ok (.iload_n 1, 1) := by decide +kernel
theorem dX3_stageColour_6 : decode cX3_stageColour 6 = .ok (.invokestatic 83, 3) := by decide +kernel
theorem dX3_stageColour_9 : decode cX3_stageColour 9 = .ok (.ifCond .eq 23, 3) := by decide +kernel
theorem dX3_stageColour_12 : decode cX3_stageColour 12 = .ok (.iload_n 2, 1) := by decide +kernel
theorem dX3_stageColour_13 : decode cX3_stageColour 13 = .ok (.invokestatic 86, 3) := by decide +kernel
theorem dX3_stageColour_16 : decode cX3_stageColour 16 = .ok (.ifCond .eq 16, 3) := by decide +kernel
theorem dX3_stageColour_19 : decode cX3_stageColour 19 = .ok (.aload_n 0, 1) := by decide +kernel
theorem dX3_stageColour_20 : decode cX3_stageColour 20 = .ok (.getfield 20, 3) := by decide +kernel
theorem dX3_stageColour_23 : decode cX3_stageColour 23 = .ok (.iload_n 1, 1) := by decide +kernel
theorem dX3_stageColour_24 : decode cX3_stageColour 24 = .ok (.iload_n 2, 1) := by decide +kernel
theorem dX3_stageColour_25 : decode cX3_stageColour 25 = .ok (.invokestatic 80, 3) := by decide +kernel
theorem dX3_stageColour_28 : decode cX3_stageColour 28 = .ok (.iaload, 1) := by decide +kernel
theorem dX3_stageColour_29 : decode cX3_stageColour 29 = .ok (.goto 8, 3) := by decide +kernel
theorem dX3_stageColour_32 : decode cX3_stageColour 32 = .ok (.aload_n 0, 1) := by decide +kernel
theorem dX3_stageColour_33 : decode cX3_stageColour 33 = .ok (.iconst 1, 1) := by decide +kernel
theorem dX3_stageColour_34 : decode cX3_stageColour 34 = .ok (.invokevirtual 60, 3) := by decide +kernel
theorem dX3_stageColour_37 : decode cX3_stageColour 37 = .ok (.ireturn, 1) := by decide +kernel
set_option maxRecDepth 20000 in
theorem ggX3_stageDays_X3_isDegree : GoodIn wsX3_stageDays wsX3_isDegree := goodIn_r _ [6, 7, 8, 5, 9] (by decide +kernel) (by decide +kernel)
set_option maxRecDepth 20000 in
theorem gX3_stageDays_X3_isDegree : GoodIn wsX3_stageDays (va_wsS RX3 83 yX3_isDegree wsX3_isDegree) := goodIn_app (goodIn_of _ (by decide +kernel)) ggX3_stageDays_X3_isDegree
set_option maxRecDepth 20000 in
theorem ggX3_stageDays_X3_isStage : GoodIn wsX3_stageDays wsX3_isStage := goodIn_r _ [12, 7, 8, 5, 9] (by decide +kernel) (by decide +kernel)
set_option maxRecDepth 20000 in
theorem gX3_stageDays_X3_isStage : GoodIn wsX3_stageDays (va_wsS RX3 86 yX3_isStage wsX3_isStage) := goodIn_app (goodIn_of _ (by decide +kernel)) ggX3_stageDays_X3_isStage
set_option maxRecDepth 20000 in
theorem ggX3_stageDays_X3_at : GoodIn wsX3_stageDays wsX3_at := goodIn_r _ [15] (by decide +kernel) (by decide +kernel)
set_option maxRecDepth 20000 in
theorem gX3_stageDays_X3_at : GoodIn wsX3_stageDays (va_wsS RX3 80 yX3_at wsX3_at) := goodIn_app (goodIn_of _ (by decide +kernel)) ggX3_stageDays_X3_at
set_option maxRecDepth 20000 in
theorem ggX3_stageDays_X3_no : GoodIn wsX3_stageDays wsX3_no := goodIn_r _ [19, 1, 20, 21, 22, 23, 24, 25, 26, 27, 28, 29, 30, 31] (by decide +kernel) (by decide +kernel)
set_option maxRecDepth 20000 in
theorem gX3_stageDays_X3_no : GoodIn wsX3_stageDays (wsV RX3 60 RX3 yX3_no wsX3_no) := goodIn_app (goodIn_of _ (by decide +kernel)) ggX3_stageDays_X3_no
theorem dX3_stageDays_0 : decode cX3_stageDays 0 = .ok (.aload_n 0, 1) := by decide +kernel
theorem dX3_stageDays_1 : decode cX3_stageDays 1 = .ok (.iconst 0, 1) := by decide +kernel
theorem dX3_stageDays_2 : decode cX3_stageDays 2 = .ok (.putfield 35, 3) := by decide +kernel
theorem dX3_stageDays_5 : decode cX3_stageDays 5 = .ok (.iload_n 1, 1) := by decide +kernel
theorem dX3_stageDays_6 : decode cX3_stageDays 6 = .ok (.invokestatic 83, 3) := by decide +kernel
theorem dX3_stageDays_9 : decode cX3_stageDays 9 = .ok (.ifCond .eq 23, 3) := by decide +kernel
theorem dX3_stageDays_12 : decode cX3_stageDays 12 = .ok (.iload_n 2, 1) := by decide +kernel
theorem dX3_stageDays_13 : decode cX3_stageDays 13 = .ok (.invokestatic 86, 3) := by decide +kernel
theorem dX3_stageDays_16 : decode cX3_stageDays 16 = .ok (.ifCond .eq 16, 3) := by decide +kernel
theorem dX3_stageDays_19 : decode cX3_stageDays 19 = .ok (.aload_n 0, 1) := by decide +kernel
theorem dX3_stageDays_20 : decode cX3_stageDays 20 = .ok (.getfield 23, 3) := by decide +kernel
theorem dX3_stageDays_23 : decode cX3_stageDays 23 = .ok (.iload_n 1, 1) := by decide +kernel
theorem dX3_stageDays_24 : decode cX3_stageDays 24 = .ok (.iload_n 2, 1) := by decide +kernel
theorem dX3_stageDays_25 : decode cX3_stageDays 25 = .ok (.invokestatic 80, 3) := by decide +kernel
theorem dX3_stageDays_28 : decode cX3_stageDays 28 = .ok (.iaload, 1) := by decide +kernel
theorem dX3_stageDays_29 : decode cX3_stageDays 29 = .ok (.goto 8, 3) := by decide +kernel
theorem dX3_stageDays_32 : decode cX3_stageDays 32 = .ok (.aload_n 0, 1) := by decide +kernel
theorem dX3_stageDays_33 : decode cX3_stageDays 33 = .ok (.iconst 1, 1) := by decide +kernel
theorem dX3_stageDays_34 : decode cX3_stageDays 34 = .ok (.invokevirtual 60, 3) := by decide +kernel
theorem dX3_stageDays_37 : decode cX3_stageDays 37 = .ok (.ireturn, 1) := by decide +kernel
set_option maxRecDepth 20000 in
theorem ggX3_day_X3_ok : GoodIn wsX3_day wsX3_ok := goodIn_r _ [6, 7, 8, 9, 10, 11, 12, 13, 14, 15, 16, 17, 18, 19] (by decide +kernel) (by decide +kernel)
set_option maxRecDepth 20000 in
theorem gX3_day_X3_ok : GoodIn wsX3_day (wsV RX3 130 RX3 yX3_ok wsX3_ok) := goodIn_app (goodIn_of _ (by decide +kernel)) ggX3_day_X3_ok
theorem dX3_day_0 : decode cX3_day 0 = .ok (.aload_n 0, 1) := by decide +kernel
theorem dX3_day_1 : decode cX3_day 1 = .ok (.aload_n 0, 1) := by decide +kernel
theorem dX3_day_2 : decode cX3_day 2 = .ok (.getfield 95, 3) := by decide +kernel
theorem dX3_day_5 : decode cX3_day 5 = .ok (.invokevirtual 130, 3) := by decide +kernel
theorem dX3_day_8 : decode cX3_day 8 = .ok (.ireturn, 1) := by decide +kernel
set_option maxRecDepth 20000 in
theorem ggX3_colourOf_X3_isPerson : GoodIn wsX3_colourOf wsX3_isPerson := goodIn_r _ [7, 8, 9, 10, 6, 11, 31, 32, 33, 34, 35, 36, 37, 38, 39, 40, 41, 42] (by decide +kernel) (by decide +kernel)
set_option maxRecDepth 20000 in
theorem gX3_colourOf_X3_isPerson : GoodIn wsX3_colourOf (wsV RX3 67 RX3 yX3_isPerson wsX3_isPerson) := goodIn_app (goodIn_of _ (by decide +kernel)) ggX3_colourOf_X3_isPerson
set_option maxRecDepth 20000 in
theorem ggX3_colourOf_X3_wears : GoodIn wsX3_colourOf wsX3_wears := goodIn_r _ [15, 8, 16, 17, 18, 19, 20, 21, 22, 6, 23, 24, 25, 26, 31, 32, 33, 34, 35, 36, 37, 38, 39, 40, 41, 42] (by decide +kernel) (by decide +kernel)
set_option maxRecDepth 20000 in
theorem gX3_colourOf_X3_wears : GoodIn wsX3_colourOf (wsV RX3 118 RX3 yX3_wears wsX3_wears) := goodIn_app (goodIn_of _ (by decide +kernel)) ggX3_colourOf_X3_wears
set_option maxRecDepth 20000 in
theorem ggX3_colourOf_X3_no : GoodIn wsX3_colourOf wsX3_no := goodIn_r _ [30, 1, 31, 32, 33, 34, 35, 36, 37, 38, 39, 40, 41, 42] (by decide +kernel) (by decide +kernel)
set_option maxRecDepth 20000 in
theorem gX3_colourOf_X3_no : GoodIn wsX3_colourOf (wsV RX3 60 RX3 yX3_no wsX3_no) := goodIn_app (goodIn_of _ (by decide +kernel)) ggX3_colourOf_X3_no
theorem dX3_colourOf_0 : decode cX3_colourOf 0 = .ok (.aload_n 0, 1) := by decide +kernel
theorem dX3_colourOf_1 : decode cX3_colourOf 1 = .ok (.iconst 0, 1) := by decide +kernel
theorem dX3_colourOf_2 : decode cX3_colourOf 2 = .ok (.putfield 35, 3) := by decide +kernel
theorem dX3_colourOf_5 : decode cX3_colourOf 5 = .ok (.aload_n 0, 1) := by decide +kernel
theorem dX3_colourOf_6 : decode cX3_colourOf 6 = .ok (.iload_n 1, 1) := by decide +kernel
theorem dX3_colourOf_7 : decode cX3_colourOf 7 = .ok (.invokevirtual 67, 3) := by decide +kernel
theorem dX3_colourOf_10 : decode cX3_colourOf 10 = .ok (.ifCond .eq 15, 3) := by decide +kernel
theorem dX3_colourOf_13 : decode cX3_colourOf 13 = .ok (.aload_n 0, 1) := by decide +kernel
theorem dX3_colourOf_14 : decode cX3_colourOf 14 = .ok (.iload_n 1, 1) := by decide +kernel
theorem dX3_colourOf_15 : decode cX3_colourOf 15 = .ok (.aload_n 0, 1) := by decide +kernel
theorem dX3_colourOf_16 : decode cX3_colourOf 16 = .ok (.getfield 95, 3) := by decide +kernel
theorem dX3_colourOf_19 : decode cX3_colourOf 19 = .ok (.invokevirtual 118, 3) := by decide +kernel
theorem dX3_colourOf_22 : decode cX3_colourOf 22 = .ok (.goto 8, 3) := by decide +kernel
theorem dX3_colourOf_25 : decode cX3_colourOf 25 = .ok (.aload_n 0, 1) := by decide +kernel
theorem dX3_colourOf_26 : decode cX3_colourOf 26 = .ok (.iconst 1, 1) := by decide +kernel
theorem dX3_colourOf_27 : decode cX3_colourOf 27 = .ok (.invokevirtual 60, 3) := by decide +kernel
theorem dX3_colourOf_30 : decode cX3_colourOf 30 = .ok (.ireturn, 1) := by decide +kernel
set_option maxRecDepth 20000 in
theorem ggX3_colourIn_X3_isPerson : GoodIn wsX3_colourIn wsX3_isPerson := goodIn_r _ [7, 8, 9, 10, 6, 11, 31, 32, 33, 34, 35, 36, 37, 38, 39, 40, 41, 42] (by decide +kernel) (by decide +kernel)
set_option maxRecDepth 20000 in
theorem gX3_colourIn_X3_isPerson : GoodIn wsX3_colourIn (wsV RX3 67 RX3 yX3_isPerson wsX3_isPerson) := goodIn_app (goodIn_of _ (by decide +kernel)) ggX3_colourIn_X3_isPerson
set_option maxRecDepth 20000 in
theorem ggX3_colourIn_X3_no : GoodIn wsX3_colourIn wsX3_no := goodIn_r _ [15, 1, 31, 32, 33, 34, 35, 36, 37, 38, 39, 40, 41, 42] (by decide +kernel) (by decide +kernel)
set_option maxRecDepth 20000 in
theorem gX3_colourIn_X3_no : GoodIn wsX3_colourIn (wsV RX3 60 RX3 yX3_no wsX3_no) := goodIn_app (goodIn_of _ (by decide +kernel)) ggX3_colourIn_X3_no
set_option maxRecDepth 20000 in
theorem ggX3_colourIn_X3_isIn : GoodIn wsX3_colourIn wsX3_isIn := goodIn_r _ [11] (by decide +kernel) (by decide +kernel)
set_option maxRecDepth 20000 in
theorem gX3_colourIn_X3_isIn : GoodIn wsX3_colourIn (va_wsS RX3 42 yX3_isIn wsX3_isIn) := goodIn_app (goodIn_of _ (by decide +kernel)) ggX3_colourIn_X3_isIn
set_option maxRecDepth 20000 in
theorem ggX3_colourIn_X3_wears : GoodIn wsX3_colourIn wsX3_wears := goodIn_r _ [19, 8, 20, 21, 22, 23, 24, 25, 26, 6, 27, 28, 29, 30, 31, 32, 33, 34, 35, 36, 37, 38, 39, 40, 41, 42] (by decide +kernel) (by decide +kernel)
set_option maxRecDepth 20000 in
theorem gX3_colourIn_X3_wears : GoodIn wsX3_colourIn (wsV RX3 118 RX3 yX3_wears wsX3_wears) := goodIn_app (goodIn_of _ (by decide +kernel)) ggX3_colourIn_X3_wears
theorem dX3_colourIn_0 : decode cX3_colourIn 0 = .ok (.aload_n 0, 1) := by decide +kernel
theorem dX3_colourIn_1 : decode cX3_colourIn 1 = .ok (.iconst 0, 1) := by decide +kernel
theorem dX3_colourIn_2 : decode cX3_colourIn 2 = .ok (.putfield 35, 3) := by decide +kernel
theorem dX3_colourIn_5 : decode cX3_colourIn 5 = .ok (.aload_n 0, 1) := by decide +kernel
theorem dX3_colourIn_6 : decode cX3_colourIn 6 = .ok (.iload_n 1, 1) := by decide +kernel
theorem dX3_colourIn_7 : decode cX3_colourIn 7 = .ok (.invokevirtual 67, 3) := by decide +kernel
theorem dX3_colourIn_10 : decode cX3_colourIn 10 = .ok (.ifCond .ne 9, 3) := by decide +kernel
theorem dX3_colourIn_13 : decode cX3_colourIn 13 = .ok (.aload_n 0, 1) := by decide +kernel
theorem dX3_colourIn_14 : decode cX3_colourIn 14 = .ok (.iconst 1, 1) := by decide +kernel
theorem dX3_colourIn_15 : decode cX3_colourIn 15 = .ok (.invokevirtual 60, 3) := by decide +kernel
theorem dX3_colourIn_18 : decode cX3_colourIn 18 = .ok (.ireturn, 1) := by decide +kernel
theorem dX3_colourIn_19 : decode cX3_colourIn 19 = .ok (.iload_n 2, 1) := by decide +kernel
theorem dX3_colourIn_20 : decode cX3_colourIn 20 = .ok (.iconst 0, 1) := by decide +kernel
theorem dX3_colourIn_21 : decode cX3_colourIn 21 = .ok (.sipush 200, 3) := by decide +kernel
theorem dX3_colourIn_24 : decode cX3_colourIn 24 = .ok (.invokestatic 42, 3) := by decide +kernel
theorem dX3_colourIn_27 : decode cX3_colourIn 27 = .ok (.ifCond .eq 17, 3) := by decide +kernel
theorem dX3_colourIn_30 : decode cX3_colourIn 30 = .ok (.aload_n 0, 1) := by decide +kernel
theorem dX3_colourIn_31 : decode cX3_colourIn 31 = .ok (.iload_n 1, 1) := by decide +kernel
theorem dX3_colourIn_32 : decode cX3_colourIn 32 = .ok (.aload_n 0, 1) := by decide +kernel
theorem dX3_colourIn_33 : decode cX3_colourIn 33 = .ok (.getfield 95, 3) := by decide +kernel
theorem dX3_colourIn_36 : decode cX3_colourIn 36 = .ok (.iload_n 2, 1) := by decide +kernel
theorem dX3_colourIn_37 : decode cX3_colourIn 37 = .ok (.iadd, 1) := by decide +kernel
theorem dX3_colourIn_38 : decode cX3_colourIn 38 = .ok (.invokevirtual 118, 3) := by decide +kernel
theorem dX3_colourIn_41 : decode cX3_colourIn 41 = .ok (.goto 8, 3) := by decide +kernel
theorem dX3_colourIn_44 : decode cX3_colourIn 44 = .ok (.aload_n 0, 1) := by decide +kernel
theorem dX3_colourIn_45 : decode cX3_colourIn 45 = .ok (.iconst 2, 1) := by decide +kernel
theorem dX3_colourIn_46 : decode cX3_colourIn 46 = .ok (.invokevirtual 60, 3) := by decide +kernel
theorem dX3_colourIn_49 : decode cX3_colourIn 49 = .ok (.ireturn, 1) := by decide +kernel
set_option maxRecDepth 20000 in
theorem ggX3_mournings_X3_left : GoodIn wsX3_mournings wsX3_left := goodIn_r _ [6, 7, 8, 9, 10, 11, 12, 13, 14, 5, 15, 16, 17, 18, 19, 20, 21, 22, 23, 24, 25, 26, 27] (by decide +kernel) (by decide +kernel)
set_option maxRecDepth 20000 in
theorem gX3_mournings_X3_left : GoodIn wsX3_mournings (wsV RX3 115 RX3 yX3_left wsX3_left) := goodIn_app (goodIn_of _ (by decide +kernel)) ggX3_mournings_X3_left
theorem dX3_mournings_0 : decode cX3_mournings 0 = .ok (.iconst 0, 1) := by decide +kernel
theorem dX3_mournings_1 : decode cX3_mournings 1 = .ok (.istore_n 2, 1) := by decide +kernel
theorem dX3_mournings_2 : decode cX3_mournings 2 = .ok (.iconst 0, 1) := by decide +kernel
theorem dX3_mournings_3 : decode cX3_mournings 3 = .ok (.istore_n 3, 1) := by decide +kernel
theorem dX3_mournings_4 : decode cX3_mournings 4 = .ok (.iload_n 3, 1) := by decide +kernel
theorem dX3_mournings_5 : decode cX3_mournings 5 = .ok (.aload_n 0, 1) := by decide +kernel
theorem dX3_mournings_6 : decode cX3_mournings 6 = .ok (.getfield 39, 3) := by decide +kernel
theorem dX3_mournings_9 : decode cX3_mournings 9 = .ok (.if_icmp .ge 26, 3) := by decide +kernel
theorem dX3_mournings_12 : decode cX3_mournings 12 = .ok (.iload_n 2, 1) := by decide +kernel
theorem dX3_mournings_13 : decode cX3_mournings 13 = .ok (.aload_n 0, 1) := by decide +kernel
theorem dX3_mournings_14 : decode cX3_mournings 14 = .ok (.iload_n 1, 1) := by decide +kernel
theorem dX3_mournings_15 : decode cX3_mournings 15 = .ok (.iload_n 3, 1) := by decide +kernel
theorem dX3_mournings_16 : decode cX3_mournings 16 = .ok (.invokevirtual 115, 3) := by decide +kernel
theorem dX3_mournings_19 : decode cX3_mournings 19 = .ok (.ifCond .le 7, 3) := by decide +kernel
theorem dX3_mournings_22 : decode cX3_mournings 22 = .ok (.iconst 1, 1) := by decide +kernel
theorem dX3_mournings_23 : decode cX3_mournings 23 = .ok (.goto 4, 3) := by decide +kernel
theorem dX3_mournings_26 : decode cX3_mournings 26 = .ok (.iconst 0, 1) := by decide +kernel
theorem dX3_mournings_27 : decode cX3_mournings 27 = .ok (.iadd, 1) := by decide +kernel
theorem dX3_mournings_28 : decode cX3_mournings 28 = .ok (.istore_n 2, 1) := by decide +kernel
theorem dX3_mournings_29 : decode cX3_mournings 29 = .ok (.iinc 3 1, 3) := by decide +kernel
theorem dX3_mournings_32 : decode cX3_mournings 32 = .ok (.goto (-28), 3) := by decide +kernel
theorem dX3_mournings_35 : decode cX3_mournings 35 = .ok (.iload_n 2, 1) := by decide +kernel
theorem dX3_mournings_36 : decode cX3_mournings 36 = .ok (.ireturn, 1) := by decide +kernel
set_option maxRecDepth 20000 in
theorem ggX3_mourningsOf_X3_isPerson : GoodIn wsX3_mourningsOf wsX3_isPerson := goodIn_r _ [6, 7, 8, 9, 5, 10, 32, 33, 34, 35, 36, 37, 38, 39, 40, 41, 42, 43] (by decide +kernel) (by decide +kernel)
set_option maxRecDepth 20000 in
theorem gX3_mourningsOf_X3_isPerson : GoodIn wsX3_mourningsOf (wsV RX3 67 RX3 yX3_isPerson wsX3_isPerson) := goodIn_app (goodIn_of _ (by decide +kernel)) ggX3_mourningsOf_X3_isPerson
set_option maxRecDepth 20000 in
theorem ggX3_mourningsOf_X3_mournings : GoodIn wsX3_mourningsOf wsX3_mournings := goodIn_r _ [14, 7, 15, 16, 17, 5, 18, 19, 20, 21, 22, 23, 24, 25, 26, 27, 32, 33, 34, 35, 36, 37, 38, 39, 40, 41, 42, 43] (by decide +kernel) (by decide +kernel)
set_option maxRecDepth 20000 in
theorem gX3_mourningsOf_X3_mournings : GoodIn wsX3_mourningsOf (wsV RX3 142 RX3 yX3_mournings wsX3_mournings) := goodIn_app (goodIn_of _ (by decide +kernel)) ggX3_mourningsOf_X3_mournings
set_option maxRecDepth 20000 in
theorem ggX3_mourningsOf_X3_no : GoodIn wsX3_mourningsOf wsX3_no := goodIn_r _ [31, 1, 32, 33, 34, 35, 36, 37, 38, 39, 40, 41, 42, 43] (by decide +kernel) (by decide +kernel)
set_option maxRecDepth 20000 in
theorem gX3_mourningsOf_X3_no : GoodIn wsX3_mourningsOf (wsV RX3 60 RX3 yX3_no wsX3_no) := goodIn_app (goodIn_of _ (by decide +kernel)) ggX3_mourningsOf_X3_no
theorem dX3_mourningsOf_0 : decode cX3_mourningsOf 0 = .ok (.aload_n 0, 1) := by decide +kernel
theorem dX3_mourningsOf_1 : decode cX3_mourningsOf 1 = .ok (.iconst 0, 1) := by decide +kernel
theorem dX3_mourningsOf_2 : decode cX3_mourningsOf 2 = .ok (.putfield 35, 3) := by decide +kernel
theorem dX3_mourningsOf_5 : decode cX3_mourningsOf 5 = .ok (.aload_n 0, 1) := by decide +kernel
theorem dX3_mourningsOf_6 : decode cX3_mourningsOf 6 = .ok (.iload_n 1, 1) := by decide +kernel
theorem dX3_mourningsOf_7 : decode cX3_mourningsOf 7 = .ok (.invokevirtual 67, 3) := by decide +kernel
theorem dX3_mourningsOf_10 : decode cX3_mourningsOf 10 = .ok (.ifCond .eq 11, 3) := by decide +kernel
theorem dX3_mourningsOf_13 : decode cX3_mourningsOf 13 = .ok (.aload_n 0, 1) := by decide +kernel
theorem dX3_mourningsOf_14 : decode cX3_mourningsOf 14 = .ok (.iload_n 1, 1) := by decide +kernel
theorem dX3_mourningsOf_15 : decode cX3_mourningsOf 15 = .ok (.invokevirtual 142, 3) := by decide +kernel
theorem dX3_mourningsOf_18 : decode cX3_mourningsOf 18 = .ok (.goto 8, 3) := by decide +kernel
theorem dX3_mourningsOf_21 : decode cX3_mourningsOf 21 = .ok (.aload_n 0, 1) := by decide +kernel
theorem dX3_mourningsOf_22 : decode cX3_mourningsOf 22 = .ok (.iconst 1, 1) := by decide +kernel
theorem dX3_mourningsOf_23 : decode cX3_mourningsOf 23 = .ok (.invokevirtual 60, 3) := by decide +kernel
theorem dX3_mourningsOf_26 : decode cX3_mourningsOf 26 = .ok (.ireturn, 1) := by decide +kernel
set_option maxRecDepth 20000 in
theorem ggX3_daysLeftFor_X3_isPerson : GoodIn wsX3_daysLeftFor wsX3_isPerson := goodIn_r _ [6, 7, 8, 9, 5, 10, 28, 29, 30, 31, 32, 33, 34, 35, 36, 37, 38, 39] (by decide +kernel) (by decide +kernel)
set_option maxRecDepth 20000 in
theorem gX3_daysLeftFor_X3_isPerson : GoodIn wsX3_daysLeftFor (wsV RX3 67 RX3 yX3_isPerson wsX3_isPerson) := goodIn_app (goodIn_of _ (by decide +kernel)) ggX3_daysLeftFor_X3_isPerson
set_option maxRecDepth 20000 in
theorem ggX3_daysLeftFor_X3_left : GoodIn wsX3_daysLeftFor wsX3_left := goodIn_r _ [14, 15, 16, 17, 18, 19, 20, 21, 22, 5, 23, 28, 29, 30, 31, 32, 33, 34, 35, 36, 37, 38, 39] (by decide +kernel) (by decide +kernel)
set_option maxRecDepth 20000 in
theorem gX3_daysLeftFor_X3_left : GoodIn wsX3_daysLeftFor (wsV RX3 115 RX3 yX3_left wsX3_left) := goodIn_app (goodIn_of _ (by decide +kernel)) ggX3_daysLeftFor_X3_left
set_option maxRecDepth 20000 in
theorem ggX3_daysLeftFor_X3_no : GoodIn wsX3_daysLeftFor wsX3_no := goodIn_r _ [27, 1, 28, 29, 30, 31, 32, 33, 34, 35, 36, 37, 38, 39] (by decide +kernel) (by decide +kernel)
set_option maxRecDepth 20000 in
theorem gX3_daysLeftFor_X3_no : GoodIn wsX3_daysLeftFor (wsV RX3 60 RX3 yX3_no wsX3_no) := goodIn_app (goodIn_of _ (by decide +kernel)) ggX3_daysLeftFor_X3_no
theorem dX3_daysLeftFor_0 : decode cX3_daysLeftFor 0 = .ok (.aload_n 0, 1) := by decide +kernel
theorem dX3_daysLeftFor_1 : decode cX3_daysLeftFor 1 = .ok (.iconst 0, 1) := by decide +kernel
theorem dX3_daysLeftFor_2 : decode cX3_daysLeftFor 2 = .ok (.putfield 35, 3) := by decide +kernel
theorem dX3_daysLeftFor_5 : decode cX3_daysLeftFor 5 = .ok (.aload_n 0, 1) := by decide +kernel
theorem dX3_daysLeftFor_6 : decode cX3_daysLeftFor 6 = .ok (.iload_n 1, 1) := by decide +kernel
theorem dX3_daysLeftFor_7 : decode cX3_daysLeftFor 7 = .ok (.invokevirtual 67, 3) := by decide +kernel
theorem dX3_daysLeftFor_10 : decode cX3_daysLeftFor 10 = .ok (.ifCond .eq 20, 3) := by decide +kernel
theorem dX3_daysLeftFor_13 : decode cX3_daysLeftFor 13 = .ok (.aload_n 0, 1) := by decide +kernel
theorem dX3_daysLeftFor_14 : decode cX3_daysLeftFor 14 = .ok (.iload_n 2, 1) := by decide +kernel
theorem dX3_daysLeftFor_15 : decode cX3_daysLeftFor 15 = .ok (.invokevirtual 67, 3) := by decide +kernel
theorem dX3_daysLeftFor_18 : decode cX3_daysLeftFor 18 = .ok (.ifCond .eq 12, 3) := by decide +kernel
theorem dX3_daysLeftFor_21 : decode cX3_daysLeftFor 21 = .ok (.aload_n 0, 1) := by decide +kernel
theorem dX3_daysLeftFor_22 : decode cX3_daysLeftFor 22 = .ok (.iload_n 1, 1) := by decide +kernel
theorem dX3_daysLeftFor_23 : decode cX3_daysLeftFor 23 = .ok (.iload_n 2, 1) := by decide +kernel
theorem dX3_daysLeftFor_24 : decode cX3_daysLeftFor 24 = .ok (.invokevirtual 115, 3) := by decide +kernel
theorem dX3_daysLeftFor_27 : decode cX3_daysLeftFor 27 = .ok (.goto 8, 3) := by decide +kernel
theorem dX3_daysLeftFor_30 : decode cX3_daysLeftFor 30 = .ok (.aload_n 0, 1) := by decide +kernel
theorem dX3_daysLeftFor_31 : decode cX3_daysLeftFor 31 = .ok (.iconst 1, 1) := by decide +kernel
theorem dX3_daysLeftFor_32 : decode cX3_daysLeftFor 32 = .ok (.invokevirtual 60, 3) := by decide +kernel
theorem dX3_daysLeftFor_35 : decode cX3_daysLeftFor 35 = .ok (.ireturn, 1) := by decide +kernel
set_option maxRecDepth 20000 in
theorem ggX3_most_X3_left : GoodIn wsX3_most wsX3_left := goodIn_r _ [10, 11, 12, 2, 3, 4, 5, 13, 14, 9, 15, 16, 17, 18, 19, 20, 21, 22, 23, 24, 25, 26, 27] (by decide +kernel) (by decide +kernel)
set_option maxRecDepth 20000 in
theorem gX3_most_X3_left : GoodIn wsX3_most (wsV RX3 115 RX3 yX3_left wsX3_left) := goodIn_app (goodIn_of _ (by decide +kernel)) ggX3_most_X3_left
theorem dX3_most_0 : decode cX3_most 0 = .ok (.iconst 0, 1) := by decide +kernel
theorem dX3_most_1 : decode cX3_most 1 = .ok (.istore_n 2, 1) := by decide +kernel
theorem dX3_most_2 : decode cX3_most 2 = .ok (.iconst 0, 1) := by decide +kernel
theorem dX3_most_3 : decode cX3_most 3 = .ok (.istore_n 3, 1) := by decide +kernel
theorem dX3_most_4 : decode cX3_most 4 = .ok (.iload_n 3, 1) := by decide +kernel
theorem dX3_most_5 : decode cX3_most 5 = .ok (.aload_n 0, 1) := by decide +kernel
theorem dX3_most_6 : decode cX3_most 6 = .ok (.getfield 39, 3) := by decide +kernel
theorem dX3_most_9 : decode cX3_most 9 = .ok (.if_icmp .ge 20, 3) := by decide +kernel
theorem dX3_most_12 : decode cX3_most 12 = .ok (.iload_n 2, 1) := by decide +kernel
theorem dX3_most_13 : decode cX3_most 13 = .ok (.aload_n 0, 1) := by decide +kernel
theorem dX3_most_14 : decode cX3_most 14 = .ok (.iload_n 1, 1) := by decide +kernel
theorem dX3_most_15 : decode cX3_most 15 = .ok (.iload_n 3, 1) := by decide +kernel
theorem dX3_most_16 : decode cX3_most 16 = .ok (.invokevirtual 115, 3) := by decide +kernel
theorem dX3_most_19 : decode cX3_most 19 = .ok (.invokestatic 54, 3) := by decide +kernel
theorem dX3_most_22 : decode cX3_most 22 = .ok (.istore_n 2, 1) := by decide +kernel
theorem dX3_most_23 : decode cX3_most 23 = .ok (.iinc 3 1, 3) := by decide +kernel
theorem dX3_most_26 : decode cX3_most 26 = .ok (.goto (-22), 3) := by decide +kernel
theorem dX3_most_29 : decode cX3_most 29 = .ok (.iload_n 2, 1) := by decide +kernel
theorem dX3_most_30 : decode cX3_most 30 = .ok (.ireturn, 1) := by decide +kernel
set_option maxRecDepth 20000 in
theorem ggX3_daysLeft_X3_isPerson : GoodIn wsX3_daysLeft wsX3_isPerson := goodIn_r _ [6, 7, 8, 9, 5, 10, 32, 33, 34, 35, 36, 37, 38, 39, 40, 41, 42, 43] (by decide +kernel) (by decide +kernel)
set_option maxRecDepth 20000 in
theorem gX3_daysLeft_X3_isPerson : GoodIn wsX3_daysLeft (wsV RX3 67 RX3 yX3_isPerson wsX3_isPerson) := goodIn_app (goodIn_of _ (by decide +kernel)) ggX3_daysLeft_X3_isPerson
set_option maxRecDepth 20000 in
theorem ggX3_daysLeft_X3_most : GoodIn wsX3_daysLeft wsX3_most := goodIn_r _ [14, 7, 15, 16, 17, 18, 19, 20, 21, 5, 22, 23, 24, 25, 26, 27, 32, 33, 34, 35, 36, 37, 38, 39, 40, 41, 42, 43] (by decide +kernel) (by decide +kernel)
set_option maxRecDepth 20000 in
theorem gX3_daysLeft_X3_most : GoodIn wsX3_daysLeft (wsV RX3 145 RX3 yX3_most wsX3_most) := goodIn_app (goodIn_of _ (by decide +kernel)) ggX3_daysLeft_X3_most
set_option maxRecDepth 20000 in
theorem ggX3_daysLeft_X3_no : GoodIn wsX3_daysLeft wsX3_no := goodIn_r _ [31, 1, 32, 33, 34, 35, 36, 37, 38, 39, 40, 41, 42, 43] (by decide +kernel) (by decide +kernel)
set_option maxRecDepth 20000 in
theorem gX3_daysLeft_X3_no : GoodIn wsX3_daysLeft (wsV RX3 60 RX3 yX3_no wsX3_no) := goodIn_app (goodIn_of _ (by decide +kernel)) ggX3_daysLeft_X3_no
theorem dX3_daysLeft_0 : decode cX3_daysLeft 0 = .ok (.aload_n 0, 1) := by decide +kernel
theorem dX3_daysLeft_1 : decode cX3_daysLeft 1 = .ok (.iconst 0, 1) := by decide +kernel
theorem dX3_daysLeft_2 : decode cX3_daysLeft 2 = .ok (.putfield 35, 3) := by decide +kernel
theorem dX3_daysLeft_5 : decode cX3_daysLeft 5 = .ok (.aload_n 0, 1) := by decide +kernel
theorem dX3_daysLeft_6 : decode cX3_daysLeft 6 = .ok (.iload_n 1, 1) := by decide +kernel
theorem dX3_daysLeft_7 : decode cX3_daysLeft 7 = .ok (.invokevirtual 67, 3) := by decide +kernel
theorem dX3_daysLeft_10 : decode cX3_daysLeft 10 = .ok (.ifCond .eq 11, 3) := by decide +kernel
theorem dX3_daysLeft_13 : decode cX3_daysLeft 13 = .ok (.aload_n 0, 1) := by decide +kernel
theorem dX3_daysLeft_14 : decode cX3_daysLeft 14 = .ok (.iload_n 1, 1) := by decide +kernel
theorem dX3_daysLeft_15 : decode cX3_daysLeft 15 = .ok (.invokevirtual 145, 3) := by decide +kernel
theorem dX3_daysLeft_18 : decode cX3_daysLeft 18 = .ok (.goto 8, 3) := by decide +kernel
theorem dX3_daysLeft_21 : decode cX3_daysLeft 21 = .ok (.aload_n 0, 1) := by decide +kernel
theorem dX3_daysLeft_22 : decode cX3_daysLeft 22 = .ok (.iconst 1, 1) := by decide +kernel
theorem dX3_daysLeft_23 : decode cX3_daysLeft 23 = .ok (.invokevirtual 60, 3) := by decide +kernel
theorem dX3_daysLeft_26 : decode cX3_daysLeft 26 = .ok (.ireturn, 1) := by decide +kernel
set_option maxRecDepth 20000 in
theorem ggX3_untilLighter_X3_wears : GoodIn wsX3_untilLighter wsX3_wears := goodIn_r _ [6, 7, 8, 9, 10, 11, 12, 13, 14, 5, 15, 16, 17, 18, 19, 20, 21, 22, 23, 24, 25, 26, 27, 28, 29, 30] (by decide +kernel) (by decide +kernel)
set_option maxRecDepth 20000 in
theorem gX3_untilLighter_X3_wears : GoodIn wsX3_untilLighter (wsV RX3 118 RX3 yX3_wears wsX3_wears) := goodIn_app (goodIn_of _ (by decide +kernel)) ggX3_untilLighter_X3_wears
theorem dX3_untilLighter_0 : decode cX3_untilLighter 0 = .ok (.aload_n 0, 1) := by decide +kernel
theorem dX3_untilLighter_1 : decode cX3_untilLighter 1 = .ok (.iload_n 1, 1) := by decide +kernel
theorem dX3_untilLighter_2 : decode cX3_untilLighter 2 = .ok (.aload_n 0, 1) := by decide +kernel
theorem dX3_untilLighter_3 : decode cX3_untilLighter 3 = .ok (.getfield 95, 3) := by decide +kernel
theorem dX3_untilLighter_6 : decode cX3_untilLighter 6 = .ok (.invokevirtual 118, 3) := by decide +kernel
theorem dX3_untilLighter_9 : decode cX3_untilLighter 9 = .ok (.istore_n 2, 1) := by decide +kernel
theorem dX3_untilLighter_10 : decode cX3_untilLighter 10 = .ok (.iload_n 2, 1) := by decide +kernel
theorem dX3_untilLighter_11 : decode cX3_untilLighter 11 = .ok (.ifCond .ne 5, 3) := by decide +kernel
theorem dX3_untilLighter_14 : decode cX3_untilLighter 14 = .ok (.iconst (-1), 1) := by decide +kernel
theorem dX3_untilLighter_15 : decode cX3_untilLighter 15 = .ok (.ireturn, 1) := by decide +kernel
theorem dX3_untilLighter_16 : decode cX3_untilLighter 16 = .ok (.iconst 1, 1) := by decide +kernel
theorem dX3_untilLighter_17 : decode cX3_untilLighter 17 = .ok (.istore_n 3, 1) := by decide +kernel
theorem dX3_untilLighter_18 : decode cX3_untilLighter 18 = .ok (.aload_n 0, 1) := by decide +kernel
theorem dX3_untilLighter_19 : decode cX3_untilLighter 19 = .ok (.iload_n 1, 1) := by decide +kernel
theorem dX3_untilLighter_20 : decode cX3_untilLighter 20 = .ok (.aload_n 0, 1) := by decide +kernel
theorem dX3_untilLighter_21 : decode cX3_untilLighter 21 = .ok (.getfield 95, 3) := by decide +kernel
theorem dX3_untilLighter_24 : decode cX3_untilLighter 24 = .ok (.iload_n 3, 1) := by decide +kernel
theorem dX3_untilLighter_25 : decode cX3_untilLighter 25 = .ok (.iadd, 1) := by decide +kernel
theorem dX3_untilLighter_26 : decode cX3_untilLighter 26 = .ok (.invokevirtual 118, 3) := by decide +kernel
theorem dX3_untilLighter_29 : decode cX3_untilLighter 29 = .ok (.iload_n 2, 1) := by decide +kernel
theorem dX3_untilLighter_30 : decode cX3_untilLighter 30 = .ok (.if_icmp .lt 9, 3) := by decide +kernel
theorem dX3_untilLighter_33 : decode cX3_untilLighter 33 = .ok (.iinc 3 1, 3) := by decide +kernel
theorem dX3_untilLighter_36 : decode cX3_untilLighter 36 = .ok (.goto (-18), 3) := by decide +kernel
theorem dX3_untilLighter_39 : decode cX3_untilLighter 39 = .ok (.iload_n 3, 1) := by decide +kernel
theorem dX3_untilLighter_40 : decode cX3_untilLighter 40 = .ok (.ireturn, 1) := by decide +kernel
set_option maxRecDepth 20000 in
theorem ggX3_daysUntilLighter_X3_isPerson : GoodIn wsX3_daysUntilLighter wsX3_isPerson := goodIn_r _ [6, 7, 8, 9, 5, 10, 35, 36, 37, 38, 39, 40, 41, 42, 43, 44, 45, 46] (by decide +kernel) (by decide +kernel)
set_option maxRecDepth 20000 in
theorem gX3_daysUntilLighter_X3_isPerson : GoodIn wsX3_daysUntilLighter (wsV RX3 67 RX3 yX3_isPerson wsX3_isPerson) := goodIn_app (goodIn_of _ (by decide +kernel)) ggX3_daysUntilLighter_X3_isPerson
set_option maxRecDepth 20000 in
theorem ggX3_daysUntilLighter_X3_untilLighter : GoodIn wsX3_daysUntilLighter wsX3_untilLighter := goodIn_r _ [14, 15, 16, 17, 18, 5, 19, 7, 20, 21, 22, 23, 24, 25, 26, 27, 28, 29, 30, 35, 36, 37, 38, 39, 40, 41, 42, 43, 44, 45, 46] (by decide +kernel) (by decide +kernel)
set_option maxRecDepth 20000 in
theorem gX3_daysUntilLighter_X3_untilLighter : GoodIn wsX3_daysUntilLighter (wsV RX3 148 RX3 yX3_untilLighter wsX3_untilLighter) := goodIn_app (goodIn_of _ (by decide +kernel)) ggX3_daysUntilLighter_X3_untilLighter
set_option maxRecDepth 20000 in
theorem ggX3_daysUntilLighter_X3_no : GoodIn wsX3_daysUntilLighter wsX3_no := goodIn_r _ [34, 1, 35, 36, 37, 38, 39, 40, 41, 42, 43, 44, 45, 46] (by decide +kernel) (by decide +kernel)
set_option maxRecDepth 20000 in
theorem gX3_daysUntilLighter_X3_no : GoodIn wsX3_daysUntilLighter (wsV RX3 60 RX3 yX3_no wsX3_no) := goodIn_app (goodIn_of _ (by decide +kernel)) ggX3_daysUntilLighter_X3_no
theorem dX3_daysUntilLighter_0 : decode cX3_daysUntilLighter 0 = .ok (.aload_n 0, 1) := by decide +kernel
theorem dX3_daysUntilLighter_1 : decode cX3_daysUntilLighter 1 = .ok (.iconst 0, 1) := by decide +kernel
theorem dX3_daysUntilLighter_2 : decode cX3_daysUntilLighter 2 = .ok (.putfield 35, 3) := by decide +kernel
theorem dX3_daysUntilLighter_5 : decode cX3_daysUntilLighter 5 = .ok (.aload_n 0, 1) := by decide +kernel
theorem dX3_daysUntilLighter_6 : decode cX3_daysUntilLighter 6 = .ok (.iload_n 1, 1) := by decide +kernel
theorem dX3_daysUntilLighter_7 : decode cX3_daysUntilLighter 7 = .ok (.invokevirtual 67, 3) := by decide +kernel
theorem dX3_daysUntilLighter_10 : decode cX3_daysUntilLighter 10 = .ok (.ifCond .eq 11, 3) := by decide +kernel
theorem dX3_daysUntilLighter_13 : decode cX3_daysUntilLighter 13 = .ok (.aload_n 0, 1) := by decide +kernel
theorem dX3_daysUntilLighter_14 : decode cX3_daysUntilLighter 14 = .ok (.iload_n 1, 1) := by decide +kernel
theorem dX3_daysUntilLighter_15 : decode cX3_daysUntilLighter 15 = .ok (.invokevirtual 148, 3) := by decide +kernel
theorem dX3_daysUntilLighter_18 : decode cX3_daysUntilLighter 18 = .ok (.goto 8, 3) := by decide +kernel
theorem dX3_daysUntilLighter_21 : decode cX3_daysUntilLighter 21 = .ok (.aload_n 0, 1) := by decide +kernel
theorem dX3_daysUntilLighter_22 : decode cX3_daysUntilLighter 22 = .ok (.iconst 1, 1) := by decide +kernel
theorem dX3_daysUntilLighter_23 : decode cX3_daysUntilLighter 23 = .ok (.invokevirtual 60, 3) := by decide +kernel
theorem dX3_daysUntilLighter_26 : decode cX3_daysUntilLighter 26 = .ok (.ireturn, 1) := by decide +kernel
set_option maxRecDepth 20000 in
theorem ggX3_daysWith_X3_most : GoodIn wsX3_daysWith wsX3_most := goodIn_r _ [6, 7, 8, 9, 10, 11, 12, 13, 14, 5, 15, 16, 1, 17, 18, 19, 27, 28, 29, 30, 31, 32, 33, 34, 35, 36, 37, 38] (by decide +kernel) (by decide +kernel)
set_option maxRecDepth 20000 in
theorem gX3_daysWith_X3_most : GoodIn wsX3_daysWith (wsV RX3 145 RX3 yX3_most wsX3_most) := goodIn_app (goodIn_of _ (by decide +kernel)) ggX3_daysWith_X3_most
