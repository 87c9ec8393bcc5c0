theorem dX2_die_14 : decode cX2_die 14 = .ok (.getfield 101, 3) := by decide +kernel
theorem dX2_die_17 : decode cX2_die 17 = .ok (.iload_n 1, 1) := by decide +kernel
theorem dX2_die_18 : decode cX2_die 18 = .ok (.iconst 0, 1) := by decide +kernel
theorem dX2_die_19 : decode cX2_die 19 = .ok (.bastore, 1) := by decide +kernel
theorem dX2_die_20 : decode cX2_die 20 = .ok (.aload_n 0, 1) := by decide +kernel
theorem dX2_die_21 : decode cX2_die 21 = .ok (.getfield 27, 3) := by decide +kernel
theorem dX2_die_24 : decode cX2_die 24 = .ok (.iload_n 1, 1) := by decide +kernel
theorem dX2_die_25 : decode cX2_die 25 = .ok (.aload_n 0, 1) := by decide +kernel
theorem dX2_die_26 : decode cX2_die 26 = .ok (.getfield 105, 3) := by decide +kernel
theorem dX2_die_29 : decode cX2_die 29 = .ok (.iastore, 1) := by decide +kernel
theorem dX2_die_30 : decode cX2_die 30 = .ok (.aload_n 0, 1) := by decide +kernel
theorem dX2_die_31 : decode cX2_die 31 = .ok (.getfield 19, 3) := by decide +kernel
theorem dX2_die_34 : decode cX2_die 34 = .ok (.iload_n 1, 1) := by decide +kernel
theorem dX2_die_35 : decode cX2_die 35 = .ok (.invokevirtual 109, 3) := by decide +kernel
theorem dX2_die_38 : decode cX2_die 38 = .ok (.aload_n 0, 1) := by decide +kernel
theorem dX2_die_39 : decode cX2_die 39 = .ok (.iload_n 1, 1) := by decide +kernel
theorem dX2_die_40 : decode cX2_die 40 = .ok (.invokevirtual 112, 3) := by decide +kernel
theorem dX2_die_43 : decode cX2_die 43 = .ok (.aload_n 0, 1) := by decide +kernel
theorem dX2_die_44 : decode cX2_die 44 = .ok (.iload_n 1, 1) := by decide +kernel
theorem dX2_die_45 : decode cX2_die 45 = .ok (.invokevirtual 115, 3) := by decide +kernel
theorem dX2_die_48 : decode cX2_die 48 = .ok (.ireturn, 1) := by decide +kernel
set_option maxRecDepth 20000 in
theorem ggX2_release_X2_needPerson : GoodIn wsX2_release wsX2_needPerson := goodIn_ca (goodIn_r _ [8, 9, 10, 11, 12, 36, 37, 38, 39, 40, 41, 42, 43, 44, 45, 46, 47, 48, 49] (by decide +kernel) (by decide +kernel)) (goodIn_sub (fun _ h => List.mem_cons_of_mem _ (List.mem_append_right _ h)) (by decide +kernel))
set_option maxRecDepth 20000 in
theorem gX2_release_X2_needPerson : GoodIn wsX2_release (wsV RX2 46 RX2 yX2_needPerson wsX2_needPerson) := goodIn_app (goodIn_of _ (by decide +kernel)) ggX2_release_X2_needPerson
set_option maxRecDepth 20000 in
theorem ggX2_release_X2_leftFor : GoodIn wsX2_release wsX2_leftFor := goodIn_r _ [16, 17, 3, 18, 19, 20, 21, 22, 23, 24, 25, 7, 26, 27, 28, 29, 30, 31, 32, 33, 34, 35, 36, 37, 38, 39, 40, 41, 42, 43, 44, 50, 51] (by decide +kernel) (by decide +kernel)
set_option maxRecDepth 20000 in
theorem gX2_release_X2_leftFor : GoodIn wsX2_release (wsV RX2 118 RX2 yX2_leftFor wsX2_leftFor) := goodIn_app (goodIn_of _ (by decide +kernel)) ggX2_release_X2_leftFor
set_option maxRecDepth 20000 in
theorem ggX2_release_X2_pair : GoodIn wsX2_release wsX2_pair := goodIn_r _ [26] (by decide +kernel) (by decide +kernel)
set_option maxRecDepth 20000 in
theorem gX2_release_X2_pair : GoodIn wsX2_release (va_wsS RX2 123 yX2_pair wsX2_pair) := goodIn_app (goodIn_of _ (by decide +kernel)) ggX2_release_X2_pair
theorem dX2_release_0 : decode cX2_release 0 = .ok (.aload_n 0, 1) := by decide +kernel
theorem dX2_release_1 : decode cX2_release 1 = .ok (.iload_n 1, 1) := by decide +kernel
theorem dX2_release_2 : decode cX2_release 2 = .ok (.invokevirtual 46, 3) := by decide +kernel
theorem dX2_release_5 : decode cX2_release 5 = .ok (.aload_n 0, 1) := by decide +kernel
theorem dX2_release_6 : decode cX2_release 6 = .ok (.iload_n 2, 1) := by decide +kernel
theorem dX2_release_7 : decode cX2_release 7 = .ok (.invokevirtual 46, 3) := by decide +kernel
theorem dX2_release_10 : decode cX2_release 10 = .ok (.aload_n 0, 1) := by decide +kernel
theorem dX2_release_11 : decode cX2_release 11 = .ok (.iload_n 1, 1) := by decide +kernel
theorem dX2_release_12 : decode cX2_release 12 = .ok (.iload_n 2, 1) := by decide +kernel
theorem dX2_release_13 : decode cX2_release 13 = .ok (.invokevirtual 118, 3) := by decide +kernel
theorem dX2_release_16 : decode cX2_release 16 = .ok (.istore_n 3, 1) := by decide +kernel
theorem dX2_release_17 : decode cX2_release 17 = .ok (.iload_n 3, 1) := by decide +kernel
theorem dX2_release_18 : decode cX2_release 18 = .ok (.ifCond .ne 13, 3) := by decide +kernel
theorem dX2_release_21 : decode cX2_release 21 = .ok (.new 61, 3) := by decide +kernel
theorem dX2_release_24 : decode cX2_release 24 = .ok (.dup, 1) := by decide +kernel
theorem dX2_release_25 : decode cX2_release 25 = .ok (.ldc 121, 2) := by decide +kernel
theorem dX2_release_27 : decode cX2_release 27 = .ok (.invokespecial 65, 3) := by decide +kernel
theorem dX2_release_30 : decode cX2_release 30 = .ok (.athrow, 1) := by decide +kernel
theorem dX2_release_31 : decode cX2_release 31 = .ok (.aload_n 0, 1) := by decide +kernel
theorem dX2_release_32 : decode cX2_release 32 = .ok (.getfield 23, 3) := by decide +kernel
theorem dX2_release_35 : decode cX2_release 35 = .ok (.iload_n 1, 1) := by decide +kernel
theorem dX2_release_36 : decode cX2_release 36 = .ok (.iload_n 2, 1) := by decide +kernel
theorem dX2_release_37 : decode cX2_release 37 = .ok (.invokestatic 123, 3) := by decide +kernel
theorem dX2_release_40 : decode cX2_release 40 = .ok (.iconst 0, 1) := by decide +kernel
theorem dX2_release_41 : decode cX2_release 41 = .ok (.iastore, 1) := by decide +kernel
theorem dX2_release_42 : decode cX2_release 42 = .ok (.iload_n 3, 1) := by decide +kernel
theorem dX2_release_43 : decode cX2_release 43 = .ok (.ireturn, 1) := by decide +kernel
set_option maxRecDepth 20000 in
theorem ggX2_pass_X2_paintAhead : GoodIn wsX2_pass wsX2_paintAhead := goodIn_r _ [11, 12, 3, 4, 13, 6, 14, 15, 16, 17, 18, 19, 20, 21, 22, 23, 24, 25, 26, 27, 28, 10, 29, 30, 31, 32, 33, 34, 35, 36, 37, 38, 39, 40, 41, 42, 43, 44, 45, 46, 47, 68, 69, 70, 71, 72, 73, 74, 75, 76, 77, 78, 79, 80, 81, 82, 83] (by decide +kernel) (by decide +kernel)
set_option maxRecDepth 20000 in
theorem gX2_pass_X2_paintAhead : GoodIn wsX2_pass (wsV RX2 131 RX2 yX2_paintAhead wsX2_paintAhead) := goodIn_app (goodIn_of _ (by decide +kernel)) ggX2_pass_X2_paintAhead
set_option maxRecDepth 20000 in
theorem ggX2_pass_X2_wornAhead : GoodIn wsX2_pass wsX2_wornAhead := goodIn_r _ [51, 12, 68, 69, 70, 71, 72, 73, 74, 75, 76] (by decide +kernel) (by decide +kernel)
set_option maxRecDepth 20000 in
theorem gX2_pass_X2_wornAhead : GoodIn wsX2_pass (wsV RX2 137 RX2 yX2_wornAhead wsX2_wornAhead) := goodIn_app (goodIn_of _ (by decide +kernel)) ggX2_pass_X2_wornAhead
set_option maxRecDepth 20000 in
theorem ggX2_pass_X1_livingCount : GoodIn wsX2_pass wsX1_livingCount := goodIn_r _ [56, 57, 58, 77, 78, 79, 80, 81] (by decide +kernel) (by decide +kernel)
set_option maxRecDepth 20000 in
theorem gX2_pass_X1_livingCount : GoodIn wsX2_pass (wsV RX2 140 RX1 yX1_livingCount wsX1_livingCount) := goodIn_app (goodIn_of _ (by decide +kernel)) ggX2_pass_X1_livingCount
set_option maxRecDepth 20000 in
theorem ggX2_pass_X2_countWearing : GoodIn wsX2_pass wsX2_countWearing := goodIn_r _ [62, 3, 4, 63, 64, 65, 66, 10, 67, 6, 14, 19, 13, 20, 21, 17, 22, 27, 28, 29, 43, 44, 45, 37, 46, 39, 47, 40, 41, 42, 68, 69, 70, 71, 72, 73, 74, 75, 76, 77, 78, 79, 80, 81, 82, 83] (by decide +kernel) (by decide +kernel)
set_option maxRecDepth 20000 in
theorem gX2_pass_X2_countWearing : GoodIn wsX2_pass (wsV RX2 144 RX2 yX2_countWearing wsX2_countWearing) := goodIn_app (goodIn_of _ (by decide +kernel)) ggX2_pass_X2_countWearing
theorem dX2_pass_0 : decode cX2_pass 0 = .ok (.iload_n 1, 1) := by decide +kernel
theorem dX2_pass_1 : decode cX2_pass 1 = .ok (.iconst 1, 1) := by decide +kernel
theorem dX2_pass_2 : decode cX2_pass 2 = .ok (.if_icmp .lt 10, 3) := by decide +kernel
theorem dX2_pass_5 : decode cX2_pass 5 = .ok (.iload_n 1, 1) := by decide +kernel
theorem dX2_pass_6 : decode cX2_pass 6 = .ok (.sipush 200, 3) := by decide +kernel
theorem dX2_pass_9 : decode cX2_pass 9 = .ok (.if_icmp .le 13, 3) := by decide +kernel
theorem dX2_pass_12 : decode cX2_pass 12 = .ok (.new 80, 3) := by decide +kernel
theorem dX2_pass_15 : decode cX2_pass 15 = .ok (.dup, 1) := by decide +kernel
theorem dX2_pass_16 : decode cX2_pass 16 = .ok (.ldc 126, 2) := by decide +kernel
theorem dX2_pass_18 : decode cX2_pass 18 = .ok (.invokespecial 84, 3) := by decide +kernel
theorem dX2_pass_21 : decode cX2_pass 21 = .ok (.athrow, 1) := by decide +kernel
theorem dX2_pass_22 : decode cX2_pass 22 = .ok (.iconst 0, 1) := by decide +kernel
theorem dX2_pass_23 : decode cX2_pass 23 = .ok (.istore_n 2, 1) := by decide +kernel
theorem dX2_pass_24 : decode cX2_pass 24 = .ok (.iload_n 2, 1) := by decide +kernel
theorem dX2_pass_25 : decode cX2_pass 25 = .ok (.aload_n 0, 1) := by decide +kernel
theorem dX2_pass_26 : decode cX2_pass 26 = .ok (.getfield 12, 3) := by decide +kernel
theorem dX2_pass_29 : decode cX2_pass 29 = .ok (.getfield 128, 3) := by decide +kernel
theorem dX2_pass_32 : decode cX2_pass 32 = .ok (.if_icmp .ge 28, 3) := by decide +kernel
theorem dX2_pass_35 : decode cX2_pass 35 = .ok (.aload_n 0, 1) := by decide +kernel
theorem dX2_pass_36 : decode cX2_pass 36 = .ok (.iload_n 2, 1) := by decide +kernel
theorem dX2_pass_37 : decode cX2_pass 37 = .ok (.invokevirtual 131, 3) := by decide +kernel
theorem dX2_pass_40 : decode cX2_pass 40 = .ok (.aload_n 0, 1) := by decide +kernel
theorem dX2_pass_41 : decode cX2_pass 41 = .ok (.dup, 1) := by decide +kernel
theorem dX2_pass_42 : decode cX2_pass 42 = .ok (.getfield 134, 3) := by decide +kernel
theorem dX2_pass_45 : decode cX2_pass 45 = .ok (.aload_n 0, 1) := by decide +kernel
theorem dX2_pass_46 : decode cX2_pass 46 = .ok (.iload_n 1, 1) := by decide +kernel
theorem dX2_pass_47 : decode cX2_pass 47 = .ok (.invokevirtual 137, 3) := by decide +kernel
theorem dX2_pass_50 : decode cX2_pass 50 = .ok (.iadd, 1) := by decide +kernel
theorem dX2_pass_51 : decode cX2_pass 51 = .ok (.putfield 134, 3) := by decide +kernel
theorem dX2_pass_54 : decode cX2_pass 54 = .ok (.iinc 2 1, 3) := by decide +kernel
theorem dX2_pass_57 : decode cX2_pass 57 = .ok (.goto (-33), 3) := by decide +kernel
theorem dX2_pass_60 : decode cX2_pass 60 = .ok (.aload_n 0, 1) := by decide +kernel
theorem dX2_pass_61 : decode cX2_pass 61 = .ok (.dup, 1) := by decide +kernel
theorem dX2_pass_62 : decode cX2_pass 62 = .ok (.getfield 105, 3) := by decide +kernel
theorem dX2_pass_65 : decode cX2_pass 65 = .ok (.iload_n 1, 1) := by decide +kernel
theorem dX2_pass_66 : decode cX2_pass 66 = .ok (.iadd, 1) := by decide +kernel
theorem dX2_pass_67 : decode cX2_pass 67 = .ok (.putfield 105, 3) := by decide +kernel
theorem dX2_pass_70 : decode cX2_pass 70 = .ok (.aload_n 0, 1) := by decide +kernel
theorem dX2_pass_71 : decode cX2_pass 71 = .ok (.getfield 12, 3) := by decide +kernel
theorem dX2_pass_74 : decode cX2_pass 74 = .ok (.invokevirtual 140, 3) := by decide +kernel
theorem dX2_pass_77 : decode cX2_pass 77 = .ok (.aload_n 0, 1) := by decide +kernel
theorem dX2_pass_78 : decode cX2_pass 78 = .ok (.iconst 0, 1) := by decide +kernel
theorem dX2_pass_79 : decode cX2_pass 79 = .ok (.invokevirtual 144, 3) := by decide +kernel
theorem dX2_pass_82 : decode cX2_pass 82 = .ok (.isub, 1) := by decide +kernel
theorem dX2_pass_83 : decode cX2_pass 83 = .ok (.ireturn, 1) := by decide +kernel
theorem dX2_people_0 : decode cX2_people 0 = .ok (.aload_n 0, 1) := by decide +kernel
theorem dX2_people_1 : decode cX2_people 1 = .ok (.getfield 12, 3) := by decide +kernel
theorem dX2_people_4 : decode cX2_people 4 = .ok (.getfield 128, 3) := by decide +kernel
theorem dX2_people_7 : decode cX2_people 7 = .ok (.ireturn, 1) := by decide +kernel
set_option maxRecDepth 20000 in
theorem ggX2_living_X1_livingCount : GoodIn wsX2_living wsX1_livingCount := goodIn_r _ [6, 7, 8, 18, 19, 20, 21, 22] (by decide +kernel) (by decide +kernel)
set_option maxRecDepth 20000 in
theorem gX2_living_X1_livingCount : GoodIn wsX2_living (wsV RX2 140 RX1 yX1_livingCount wsX1_livingCount) := goodIn_app (goodIn_of _ (by decide +kernel)) ggX2_living_X1_livingCount
theorem dX2_living_0 : decode cX2_living 0 = .ok (.aload_n 0, 1) := by decide +kernel
theorem dX2_living_1 : decode cX2_living 1 = .ok (.getfield 12, 3) := by decide +kernel
theorem dX2_living_4 : decode cX2_living 4 = .ok (.invokevirtual 140, 3) := by decide +kernel
theorem dX2_living_7 : decode cX2_living 7 = .ok (.ireturn, 1) := by decide +kernel
set_option maxRecDepth 20000 in
theorem ggX2_isAlive_X2_needPerson : GoodIn wsX2_isAlive wsX2_needPerson := goodIn_ca (goodIn_r _ [7, 8, 9, 1, 10, 11, 12, 13, 14, 15, 16, 17, 18, 19, 20, 21, 22, 23, 24] (by decide +kernel) (by decide +kernel)) (goodIn_sub (fun _ h => List.mem_cons_of_mem _ (List.mem_append_right _ h)) (by decide +kernel))
set_option maxRecDepth 20000 in
theorem gX2_isAlive_X2_needPerson : GoodIn wsX2_isAlive (wsV RX2 46 RX2 yX2_needPerson wsX2_needPerson) := goodIn_app (goodIn_of _ (by decide +kernel)) ggX2_isAlive_X2_needPerson
theorem dX2_isAlive_0 : decode cX2_isAlive 0 = .ok (.aload_n 0, 1) := by decide +kernel
theorem dX2_isAlive_1 : decode cX2_isAlive 1 = .ok (.iload_n 1, 1) := by decide +kernel
theorem dX2_isAlive_2 : decode cX2_isAlive 2 = .ok (.invokevirtual 46, 3) := by decide +kernel
theorem dX2_isAlive_5 : decode cX2_isAlive 5 = .ok (.aload_n 0, 1) := by decide +kernel
theorem dX2_isAlive_6 : decode cX2_isAlive 6 = .ok (.getfield 12, 3) := by decide +kernel
theorem dX2_isAlive_9 : decode cX2_isAlive 9 = .ok (.getfield 101, 3) := by decide +kernel
theorem dX2_isAlive_12 : decode cX2_isAlive 12 = .ok (.iload_n 1, 1) := by decide +kernel
theorem dX2_isAlive_13 : decode cX2_isAlive 13 = .ok (.baload, 1) := by decide +kernel
theorem dX2_isAlive_14 : decode cX2_isAlive 14 = .ok (.ireturn, 1) := by decide +kernel
set_option maxRecDepth 20000 in
theorem ggX2_parentOf_X2_needPerson : GoodIn wsX2_parentOf wsX2_needPerson := goodIn_ca (goodIn_r _ [7, 8, 9, 1, 10, 11, 12, 13, 14, 15, 16, 17, 18, 19, 20, 21, 22, 23, 24] (by decide +kernel) (by decide +kernel)) (goodIn_sub (fun _ h => List.mem_cons_of_mem _ (List.mem_append_right _ h)) (by decide +kernel))
set_option maxRecDepth 20000 in
theorem gX2_parentOf_X2_needPerson : GoodIn wsX2_parentOf (wsV RX2 46 RX2 yX2_needPerson wsX2_needPerson) := goodIn_app (goodIn_of _ (by decide +kernel)) ggX2_parentOf_X2_needPerson
theorem dX2_parentOf_0 : decode cX2_parentOf 0 = .ok (.aload_n 0, 1) := by decide +kernel
theorem dX2_parentOf_1 : decode cX2_parentOf 1 = .ok (.iload_n 1, 1) := by decide +kernel
theorem dX2_parentOf_2 : decode cX2_parentOf 2 = .ok (.invokevirtual 46, 3) := by decide +kernel
theorem dX2_parentOf_5 : decode cX2_parentOf 5 = .ok (.aload_n 0, 1) := by decide +kernel
theorem dX2_parentOf_6 : decode cX2_parentOf 6 = .ok (.getfield 12, 3) := by decide +kernel
theorem dX2_parentOf_9 : decode cX2_parentOf 9 = .ok (.getfield 147, 3) := by decide +kernel
theorem dX2_parentOf_12 : decode cX2_parentOf 12 = .ok (.iload_n 1, 1) := by decide +kernel
theorem dX2_parentOf_13 : decode cX2_parentOf 13 = .ok (.iaload, 1) := by decide +kernel
theorem dX2_parentOf_14 : decode cX2_parentOf 14 = .ok (.ireturn, 1) := by decide +kernel
set_option maxRecDepth 20000 in
theorem ggX2_marriedTo_X2_needPerson : GoodIn wsX2_marriedTo wsX2_needPerson := goodIn_ca (goodIn_r _ [7, 8, 9, 1, 10, 11, 12, 13, 14, 15, 16, 17, 18, 19, 20, 21, 22, 23, 24] (by decide +kernel) (by decide +kernel)) (goodIn_sub (fun _ h => List.mem_cons_of_mem _ (List.mem_append_right _ h)) (by decide +kernel))
set_option maxRecDepth 20000 in
theorem gX2_marriedTo_X2_needPerson : GoodIn wsX2_marriedTo (wsV RX2 46 RX2 yX2_needPerson wsX2_needPerson) := goodIn_app (goodIn_of _ (by decide +kernel)) ggX2_marriedTo_X2_needPerson
theorem dX2_marriedTo_0 : decode cX2_marriedTo 0 = .ok (.aload_n 0, 1) := by decide +kernel
theorem dX2_marriedTo_1 : decode cX2_marriedTo 1 = .ok (.iload_n 1, 1) := by decide +kernel
theorem dX2_marriedTo_2 : decode cX2_marriedTo 2 = .ok (.invokevirtual 46, 3) := by decide +kernel
theorem dX2_marriedTo_5 : decode cX2_marriedTo 5 = .ok (.aload_n 0, 1) := by decide +kernel
theorem dX2_marriedTo_6 : decode cX2_marriedTo 6 = .ok (.getfield 12, 3) := by decide +kernel
theorem dX2_marriedTo_9 : decode cX2_marriedTo 9 = .ok (.getfield 150, 3) := by decide +kernel
theorem dX2_marriedTo_12 : decode cX2_marriedTo 12 = .ok (.iload_n 1, 1) := by decide +kernel
theorem dX2_marriedTo_13 : decode cX2_marriedTo 13 = .ok (.iaload, 1) := by decide +kernel
theorem dX2_marriedTo_14 : decode cX2_marriedTo 14 = .ok (.ireturn, 1) := by decide +kernel
set_option maxRecDepth 20000 in
theorem ggX2_degreeOf_X2_needPerson : GoodIn wsX2_degreeOf wsX2_needPerson := goodIn_ca (goodIn_r _ [7, 8, 9, 1, 10, 32, 33, 34, 35, 36, 37, 38, 39, 40, 41, 42, 43, 44, 45] (by decide +kernel) (by decide +kernel)) (goodIn_sub (fun _ h => List.mem_cons_of_mem _ (List.mem_append_right _ h)) (by decide +kernel))
set_option maxRecDepth 20000 in
theorem gX2_degreeOf_X2_needPerson : GoodIn wsX2_degreeOf (wsV RX2 46 RX2 yX2_needPerson wsX2_needPerson) := goodIn_app (goodIn_of _ (by decide +kernel)) ggX2_degreeOf_X2_needPerson
set_option maxRecDepth 20000 in
theorem ggX2_degreeOf_X1_findDegrees : GoodIn wsX2_degreeOf wsX1_findDegrees := goodIn_r _ [15, 16, 17, 18, 19, 20, 21, 22, 23, 24, 14, 25, 26, 27, 28, 29, 30, 31, 41, 42, 43, 44, 45] (by decide +kernel) (by decide +kernel)
set_option maxRecDepth 20000 in
theorem gX2_degreeOf_X1_findDegrees : GoodIn wsX2_degreeOf (wsV RX2 68 RX1 yX1_findDegrees wsX1_findDegrees) := goodIn_app (goodIn_of _ (by decide +kernel)) ggX2_degreeOf_X1_findDegrees
theorem dX2_degreeOf_0 : decode cX2_degreeOf 0 = .ok (.aload_n 0, 1) := by decide +kernel
theorem dX2_degreeOf_1 : decode cX2_degreeOf 1 = .ok (.iload_n 1, 1) := by decide +kernel
theorem dX2_degreeOf_2 : decode cX2_degreeOf 2 = .ok (.invokevirtual 46, 3) := by decide +kernel
theorem dX2_degreeOf_5 : decode cX2_degreeOf 5 = .ok (.aload_n 0, 1) := by decide +kernel
theorem dX2_degreeOf_6 : decode cX2_degreeOf 6 = .ok (.iload_n 2, 1) := by decide +kernel
theorem dX2_degreeOf_7 : decode cX2_degreeOf 7 = .ok (.invokevirtual 46, 3) := by decide +kernel
theorem dX2_degreeOf_10 : decode cX2_degreeOf 10 = .ok (.aload_n 0, 1) := by decide +kernel
theorem dX2_degreeOf_11 : decode cX2_degreeOf 11 = .ok (.getfield 12, 3) := by decide +kernel
theorem dX2_degreeOf_14 : decode cX2_degreeOf 14 = .ok (.iload_n 1, 1) := by decide +kernel
theorem dX2_degreeOf_15 : decode cX2_degreeOf 15 = .ok (.invokevirtual 68, 3) := by decide +kernel
theorem dX2_degreeOf_18 : decode cX2_degreeOf 18 = .ok (.aload_n 0, 1) := by decide +kernel
theorem dX2_degreeOf_19 : decode cX2_degreeOf 19 = .ok (.getfield 12, 3) := by decide +kernel
theorem dX2_degreeOf_22 : decode cX2_degreeOf 22 = .ok (.getfield 71, 3) := by decide +kernel
theorem dX2_degreeOf_25 : decode cX2_degreeOf 25 = .ok (.iload_n 2, 1) := by decide +kernel
theorem dX2_degreeOf_26 : decode cX2_degreeOf 26 = .ok (.iaload, 1) := by decide +kernel
theorem dX2_degreeOf_27 : decode cX2_degreeOf 27 = .ok (.ireturn, 1) := by decide +kernel
set_option maxRecDepth 20000 in
theorem ggX2_kinOf_X2_needPerson : GoodIn wsX2_kinOf wsX2_needPerson := goodIn_ca (goodIn_r _ [6, 7, 8, 1, 9, 40, 41, 42, 43, 44, 45, 46, 47, 48, 49, 50, 51, 52, 53] (by decide +kernel) (by decide +kernel)) (goodIn_sub (fun _ h => List.mem_cons_of_mem _ (List.mem_append_right _ h)) (by decide +kernel))
set_option maxRecDepth 20000 in
theorem gX2_kinOf_X2_needPerson : GoodIn wsX2_kinOf (wsV RX2 46 RX2 yX2_needPerson wsX2_needPerson) := goodIn_app (goodIn_of _ (by decide +kernel)) ggX2_kinOf_X2_needPerson
set_option maxRecDepth 20000 in
theorem ggX2_kinOf_X2_needDegree : GoodIn wsX2_kinOf wsX2_needDegree := goodIn_ca (goodIn_r _ [13, 7, 8] (by decide +kernel) (by decide +kernel)) (goodIn_sub (fun _ h => List.mem_cons_of_mem _ (List.mem_append_right _ h)) (by decide +kernel))
set_option maxRecDepth 20000 in
theorem gX2_kinOf_X2_needDegree : GoodIn wsX2_kinOf (wsV RX2 153 RX2 yX2_needDegree wsX2_needDegree) := goodIn_app (goodIn_of _ (by decide +kernel)) ggX2_kinOf_X2_needDegree
set_option maxRecDepth 20000 in
theorem ggX2_kinOf_X1_findDegrees : GoodIn wsX2_kinOf wsX1_findDegrees := goodIn_r _ [18, 19, 20, 21, 22, 23, 24, 25, 26, 27, 17, 28, 29, 30, 31, 32, 33, 34, 49, 50, 51, 52, 53] (by decide +kernel) (by decide +kernel)
set_option maxRecDepth 20000 in
theorem gX2_kinOf_X1_findDegrees : GoodIn wsX2_kinOf (wsV RX2 68 RX1 yX1_findDegrees wsX1_findDegrees) := goodIn_app (goodIn_of _ (by decide +kernel)) ggX2_kinOf_X1_findDegrees
set_option maxRecDepth 20000 in
theorem ggX2_kinOf_X1_countKin : GoodIn wsX2_kinOf wsX1_countKin := goodIn_r _ [38, 20, 39, 19, 49, 50, 51, 52, 53] (by decide +kernel) (by decide +kernel)
set_option maxRecDepth 20000 in
theorem gX2_kinOf_X1_countKin : GoodIn wsX2_kinOf (wsV RX2 156 RX1 yX1_countKin wsX1_countKin) := goodIn_app (goodIn_of _ (by decide +kernel)) ggX2_kinOf_X1_countKin
theorem dX2_kinOf_0 : decode cX2_kinOf 0 = .ok (.aload_n 0, 1) := by decide +kernel
theorem dX2_kinOf_1 : decode cX2_kinOf 1 = .ok (.iload_n 1, 1) := by decide +kernel
theorem dX2_kinOf_2 : decode cX2_kinOf 2 = .ok (.invokevirtual 46, 3) := by decide +kernel
theorem dX2_kinOf_5 : decode cX2_kinOf 5 = .ok (.aload_n 0, 1) := by decide +kernel
theorem dX2_kinOf_6 : decode cX2_kinOf 6 = .ok (.iload_n 2, 1) := by decide +kernel
theorem dX2_kinOf_7 : decode cX2_kinOf 7 = .ok (.invokevirtual 153, 3) := by decide +kernel
theorem dX2_kinOf_10 : decode cX2_kinOf 10 = .ok (.aload_n 0, 1) := by decide +kernel
theorem dX2_kinOf_11 : decode cX2_kinOf 11 = .ok (.getfield 12, 3) := by decide +kernel
theorem dX2_kinOf_14 : decode cX2_kinOf 14 = .ok (.iload_n 1, 1) := by decide +kernel
theorem dX2_kinOf_15 : decode cX2_kinOf 15 = .ok (.invokevirtual 68, 3) := by decide +kernel
theorem dX2_kinOf_18 : decode cX2_kinOf 18 = .ok (.aload_n 0, 1) := by decide +kernel
theorem dX2_kinOf_19 : decode cX2_kinOf 19 = .ok (.getfield 12, 3) := by decide +kernel
theorem dX2_kinOf_22 : decode cX2_kinOf 22 = .ok (.iload_n 2, 1) := by decide +kernel
theorem dX2_kinOf_23 : decode cX2_kinOf 23 = .ok (.invokevirtual 156, 3) := by decide +kernel
theorem dX2_kinOf_26 : decode cX2_kinOf 26 = .ok (.ireturn, 1) := by decide +kernel
set_option maxRecDepth 20000 in
theorem ggX2_stageColour_X2_needStage : GoodIn wsX2_stageColour wsX2_needStage := goodIn_ca (goodIn_r _ [7, 8, 9, 10, 11, 12, 6, 13] (by decide +kernel) (by decide +kernel)) (goodIn_sub (fun _ h => List.mem_cons_of_mem _ (List.mem_append_right _ h)) (by decide +kernel))
set_option maxRecDepth 20000 in
theorem gX2_stageColour_X2_needStage : GoodIn wsX2_stageColour (wsV RX2 77 RX2 yX2_needStage wsX2_needStage) := goodIn_app (goodIn_of _ (by decide +kernel)) ggX2_stageColour_X2_needStage
set_option maxRecDepth 20000 in
theorem ggX2_stageColour_X0_place : GoodIn wsX2_stageColour wsX0_place := goodIn_r _ [17] (by decide +kernel) (by decide +kernel)
set_option maxRecDepth 20000 in
theorem gX2_stageColour_X0_place : GoodIn wsX2_stageColour (va_wsS RX2 87 yX0_place wsX0_place) := goodIn_app (goodIn_of _ (by decide +kernel)) ggX2_stageColour_X0_place
theorem dX2_stageColour_0 : decode cX2_stageColour 0 = .ok (.aload_n 0, 1) := by decide +kernel
theorem dX2_stageColour_1 : decode cX2_stageColour 1 = .ok (.iload_n 1, 1) := by decide +kernel
theorem dX2_stageColour_2 : decode cX2_stageColour 2 = .ok (.iload_n 2, 1) := by decide +kernel
theorem dX2_stageColour_3 : decode cX2_stageColour 3 = .ok (.invokevirtual 77, 3) := by decide +kernel
theorem dX2_stageColour_6 : decode cX2_stageColour 6 = .ok (.aload_n 0, 1) := by decide +kernel
theorem dX2_stageColour_7 : decode cX2_stageColour 7 = .ok (.getfield 19, 3) := by decide +kernel
theorem dX2_stageColour_10 : decode cX2_stageColour 10 = .ok (.getfield 91, 3) := by decide +kernel
theorem dX2_stageColour_13 : decode cX2_stageColour 13 = .ok (.bipush 16, 2) := by decide +kernel
theorem dX2_stageColour_15 : decode cX2_stageColour 15 = .ok (.iload_n 1, 1) := by decide +kernel
theorem dX2_stageColour_16 : decode cX2_stageColour 16 = .ok (.iload_n 2, 1) := by decide +kernel
theorem dX2_stageColour_17 : decode cX2_stageColour 17 = .ok (.invokestatic 87, 3) := by decide +kernel
theorem dX2_stageColour_20 : decode cX2_stageColour 20 = .ok (.iaload, 1) := by decide +kernel
theorem dX2_stageColour_21 : decode cX2_stageColour 21 = .ok (.ireturn, 1) := by decide +kernel
set_option maxRecDepth 20000 in
theorem ggX2_stageDays_X2_needStage : GoodIn wsX2_stageDays wsX2_needStage := goodIn_ca (goodIn_r _ [7, 8, 9, 10, 11, 12, 6, 13] (by decide +kernel) (by decide +kernel)) (goodIn_sub (fun _ h => List.mem_cons_of_mem _ (List.mem_append_right _ h)) (by decide +kernel))
set_option maxRecDepth 20000 in
theorem gX2_stageDays_X2_needStage : GoodIn wsX2_stageDays (wsV RX2 77 RX2 yX2_needStage wsX2_needStage) := goodIn_app (goodIn_of _ (by decide +kernel)) ggX2_stageDays_X2_needStage
set_option maxRecDepth 20000 in
theorem ggX2_stageDays_X0_place : GoodIn wsX2_stageDays wsX0_place := goodIn_r _ [17] (by decide +kernel) (by decide +kernel)
set_option maxRecDepth 20000 in
theorem gX2_stageDays_X0_place : GoodIn wsX2_stageDays (va_wsS RX2 87 yX0_place wsX0_place) := goodIn_app (goodIn_of _ (by decide +kernel)) ggX2_stageDays_X0_place
theorem dX2_stageDays_0 : decode cX2_stageDays 0 = .ok (.aload_n 0, 1) := by decide +kernel
theorem dX2_stageDays_1 : decode cX2_stageDays 1 = .ok (.iload_n 1, 1) := by decide +kernel
theorem dX2_stageDays_2 : decode cX2_stageDays 2 = .ok (.iload_n 2, 1) := by decide +kernel
theorem dX2_stageDays_3 : decode cX2_stageDays 3 = .ok (.invokevirtual 77, 3) := by decide +kernel
theorem dX2_stageDays_6 : decode cX2_stageDays 6 = .ok (.aload_n 0, 1) := by decide +kernel
theorem dX2_stageDays_7 : decode cX2_stageDays 7 = .ok (.getfield 19, 3) := by decide +kernel
theorem dX2_stageDays_10 : decode cX2_stageDays 10 = .ok (.getfield 94, 3) := by decide +kernel
theorem dX2_stageDays_13 : decode cX2_stageDays 13 = .ok (.bipush 16, 2) := by decide +kernel
theorem dX2_stageDays_15 : decode cX2_stageDays 15 = .ok (.iload_n 1, 1) := by decide +kernel
theorem dX2_stageDays_16 : decode cX2_stageDays 16 = .ok (.iload_n 2, 1) := by decide +kernel
theorem dX2_stageDays_17 : decode cX2_stageDays 17 = .ok (.invokestatic 87, 3) := by decide +kernel
theorem dX2_stageDays_20 : decode cX2_stageDays 20 = .ok (.iaload, 1) := by decide +kernel
theorem dX2_stageDays_21 : decode cX2_stageDays 21 = .ok (.ireturn, 1) := by decide +kernel
theorem dX2_day_0 : decode cX2_day 0 = .ok (.aload_n 0, 1) := by decide +kernel
theorem dX2_day_1 : decode cX2_day 1 = .ok (.getfield 105, 3) := by decide +kernel
theorem dX2_day_4 : decode cX2_day 4 = .ok (.ireturn, 1) := by decide +kernel
set_option maxRecDepth 20000 in
theorem ggX2_colourOf_X2_needPerson : GoodIn wsX2_colourOf wsX2_needPerson := goodIn_ca (goodIn_r _ [5, 6, 7, 8, 9, 35, 36, 37, 38, 39, 40, 41, 42, 43, 44, 45, 46, 47, 48] (by decide +kernel) (by decide +kernel)) (goodIn_sub (fun _ h => List.mem_cons_of_mem _ (List.mem_append_right _ h)) (by decide +kernel))
set_option maxRecDepth 20000 in
theorem gX2_colourOf_X2_needPerson : GoodIn wsX2_colourOf (wsV RX2 46 RX2 yX2_needPerson wsX2_needPerson) := goodIn_app (goodIn_of _ (by decide +kernel)) ggX2_colourOf_X2_needPerson
set_option maxRecDepth 20000 in
theorem ggX2_colourOf_X2_colourAfter : GoodIn wsX2_colourOf wsX2_colourAfter := goodIn_r _ [13, 8, 9, 14, 15, 16, 17, 18, 19, 20, 21, 22, 23, 4, 24, 25, 26, 27, 28, 29, 30, 31, 32, 33, 34, 35, 36, 37, 38, 39, 40, 41, 42, 43, 44, 45, 46, 47, 48, 49, 50] (by decide +kernel) (by decide +kernel)
set_option maxRecDepth 20000 in
theorem gX2_colourOf_X2_colourAfter : GoodIn wsX2_colourOf (wsV RX2 159 RX2 yX2_colourAfter wsX2_colourAfter) := goodIn_app (goodIn_of _ (by decide +kernel)) ggX2_colourOf_X2_colourAfter
theorem dX2_colourOf_0 : decode cX2_colourOf 0 = .ok (.aload_n 0, 1) := by decide +kernel
theorem dX2_colourOf_1 : decode cX2_colourOf 1 = .ok (.iload_n 1, 1) := by decide +kernel
theorem dX2_colourOf_2 : decode cX2_colourOf 2 = .ok (.invokevirtual 46, 3) := by decide +kernel
theorem dX2_colourOf_5 : decode cX2_colourOf 5 = .ok (.aload_n 0, 1) := by decide +kernel
theorem dX2_colourOf_6 : decode cX2_colourOf 6 = .ok (.iload_n 1, 1) := by decide +kernel
theorem dX2_colourOf_7 : decode cX2_colourOf 7 = .ok (.iconst 0, 1) := by decide +kernel
theorem dX2_colourOf_8 : decode cX2_colourOf 8 = .ok (.invokevirtual 159, 3) := by decide +kernel
theorem dX2_colourOf_11 : decode cX2_colourOf 11 = .ok (.ireturn, 1) := by decide +kernel
set_option maxRecDepth 20000 in
theorem ggX2_colourIn_X2_needPerson : GoodIn wsX2_colourIn wsX2_needPerson := goodIn_ca (goodIn_r _ [7, 8, 9, 10, 11, 37, 38, 39, 40, 41, 42, 43, 44, 45, 46, 47, 48, 49, 50] (by decide +kernel) (by decide +kernel)) (goodIn_sub (fun _ h => List.mem_cons_of_mem _ (List.mem_append_right _ h)) (by decide +kernel))
set_option maxRecDepth 20000 in
theorem gX2_colourIn_X2_needPerson : GoodIn wsX2_colourIn (wsV RX2 46 RX2 yX2_needPerson wsX2_needPerson) := goodIn_app (goodIn_of _ (by decide +kernel)) ggX2_colourIn_X2_needPerson
set_option maxRecDepth 20000 in
theorem ggX2_colourIn_X2_colourAfter : GoodIn wsX2_colourIn wsX2_colourAfter := goodIn_r _ [15, 10, 11, 16, 17, 18, 19, 20, 21, 22, 23, 24, 25, 6, 26, 27, 28, 29, 30, 31, 32, 33, 34, 35, 36, 37, 38, 39, 40, 41, 42, 43, 44, 45, 46, 47, 48, 49, 50, 51, 52] (by decide +kernel) (by decide +kernel)
set_option maxRecDepth 20000 in
theorem gX2_colourIn_X2_colourAfter : GoodIn wsX2_colourIn (wsV RX2 159 RX2 yX2_colourAfter wsX2_colourAfter) := goodIn_app (goodIn_of _ (by decide +kernel)) ggX2_colourIn_X2_colourAfter
theorem dX2_colourIn_0 : decode cX2_colourIn 0 = .ok (.aload_n 0, 1) := by decide +kernel
theorem dX2_colourIn_1 : decode cX2_colourIn 1 = .ok (.iload_n 1, 1) := by decide +kernel
theorem dX2_colourIn_2 : decode cX2_colourIn 2 = .ok (.invokevirtual 46, 3) := by decide +kernel
theorem dX2_colourIn_5 : decode cX2_colourIn 5 = .ok (.iload_n 2, 1) := by decide +kernel
theorem dX2_colourIn_6 : decode cX2_colourIn 6 = .ok (.ifCond .lt 10, 3) := by decide +kernel
theorem dX2_colourIn_9 : decode cX2_colourIn 9 = .ok (.iload_n 2, 1) := by decide +kernel
theorem dX2_colourIn_10 : decode cX2_colourIn 10 = .ok (.sipush 200, 3) := by decide +kernel
theorem dX2_colourIn_13 : decode cX2_colourIn 13 = .ok (.if_icmp .le 13, 3) := by decide +kernel
theorem dX2_colourIn_16 : decode cX2_colourIn 16 = .ok (.new 80, 3) := by decide +kernel
theorem dX2_colourIn_19 : decode cX2_colourIn 19 = .ok (.dup, 1) := by decide +kernel
theorem dX2_colourIn_20 : decode cX2_colourIn 20 = .ok (.ldc 162, 2) := by decide +kernel
theorem dX2_colourIn_22 : decode cX2_colourIn 22 = .ok (.invokespecial 84, 3) := by decide +kernel
theorem dX2_colourIn_25 : decode cX2_colourIn 25 = .ok (.athrow, 1) := by decide +kernel
theorem dX2_colourIn_26 : decode cX2_colourIn 26 = .ok (.aload_n 0, 1) := by decide +kernel
theorem dX2_colourIn_27 : decode cX2_colourIn 27 = .ok (.iload_n 1, 1) := by decide +kernel
theorem dX2_colourIn_28 : decode cX2_colourIn 28 = .ok (.iload_n 2, 1) := by decide +kernel
theorem dX2_colourIn_29 : decode cX2_colourIn 29 = .ok (.invokevirtual 159, 3) := by decide +kernel
theorem dX2_colourIn_32 : decode cX2_colourIn 32 = .ok (.ireturn, 1) := by decide +kernel
set_option maxRecDepth 20000 in
theorem ggX2_mourningsOf_X2_needPerson : GoodIn wsX2_mourningsOf wsX2_needPerson := goodIn_ca (goodIn_r _ [5, 6, 7, 8, 9, 38, 39, 40, 41, 42, 43, 44, 45, 46, 47, 48, 49, 50, 51] (by decide +kernel) (by decide +kernel)) (goodIn_sub (fun _ h => List.mem_cons_of_mem _ (List.mem_append_right _ h)) (by decide +kernel))
set_option maxRecDepth 20000 in
theorem gX2_mourningsOf_X2_needPerson : GoodIn wsX2_mourningsOf (wsV RX2 46 RX2 yX2_needPerson wsX2_needPerson) := goodIn_app (goodIn_of _ (by decide +kernel)) ggX2_mourningsOf_X2_needPerson
set_option maxRecDepth 20000 in
theorem ggX2_mourningsOf_X2_countMournings : GoodIn wsX2_mourningsOf wsX2_countMournings := goodIn_r _ [13, 8, 9, 14, 15, 16, 4, 17, 18, 19, 20, 21, 22, 23, 24, 25, 26, 27, 28, 29, 30, 31, 32, 33, 34, 35, 36, 37, 38, 39, 40, 41, 42, 43, 44, 45, 46, 47, 48, 49, 50, 51, 52, 53] (by decide +kernel) (by decide +kernel)
set_option maxRecDepth 20000 in
theorem gX2_mourningsOf_X2_countMournings : GoodIn wsX2_mourningsOf (wsV RX2 164 RX2 yX2_countMournings wsX2_countMournings) := goodIn_app (goodIn_of _ (by decide +kernel)) ggX2_mourningsOf_X2_countMournings
theorem dX2_mourningsOf_0 : decode cX2_mourningsOf 0 = .ok (.aload_n 0, 1) := by decide +kernel
theorem dX2_mourningsOf_1 : decode cX2_mourningsOf 1 = .ok (.iload_n 1, 1) := by decide +kernel
theorem dX2_mourningsOf_2 : decode cX2_mourningsOf 2 = .ok (.invokevirtual 46, 3) := by decide +kernel
theorem dX2_mourningsOf_5 : decode cX2_mourningsOf 5 = .ok (.aload_n 0, 1) := by decide +kernel
theorem dX2_mourningsOf_6 : decode cX2_mourningsOf 6 = .ok (.iload_n 1, 1) := by decide +kernel
theorem dX2_mourningsOf_7 : decode cX2_mourningsOf 7 = .ok (.invokevirtual 164, 3) := by decide +kernel
theorem dX2_mourningsOf_10 : decode cX2_mourningsOf 10 = .ok (.ireturn, 1) := by decide +kernel
set_option maxRecDepth 20000 in
theorem ggX2_daysLeftFor_X2_needPerson : GoodIn wsX2_daysLeftFor wsX2_needPerson := goodIn_ca (goodIn_r _ [5, 6, 7, 8, 9, 34, 35, 36, 37, 38, 39, 40, 41, 42, 43, 44, 45, 46, 47] (by decide +kernel) (by decide +kernel)) (goodIn_sub (fun _ h => List.mem_cons_of_mem _ (List.mem_append_right _ h)) (by decide +kernel))
set_option maxRecDepth 20000 in
theorem gX2_daysLeftFor_X2_needPerson : GoodIn wsX2_daysLeftFor (wsV RX2 46 RX2 yX2_needPerson wsX2_needPerson) := goodIn_app (goodIn_of _ (by decide +kernel)) ggX2_daysLeftFor_X2_needPerson
set_option maxRecDepth 20000 in
theorem ggX2_daysLeftFor_X2_leftFor : GoodIn wsX2_daysLeftFor wsX2_leftFor := goodIn_r _ [13, 14, 15, 16, 17, 18, 19, 20, 21, 22, 23, 4, 24, 25, 26, 27, 28, 29, 30, 31, 32, 33, 34, 35, 36, 37, 38, 39, 40, 41, 42, 48, 49] (by decide +kernel) (by decide +kernel)
set_option maxRecDepth 20000 in
theorem gX2_daysLeftFor_X2_leftFor : GoodIn wsX2_daysLeftFor (wsV RX2 118 RX2 yX2_leftFor wsX2_leftFor) := goodIn_app (goodIn_of _ (by decide +kernel)) ggX2_daysLeftFor_X2_leftFor
theorem dX2_daysLeftFor_0 : decode cX2_daysLeftFor 0 = .ok (.aload_n 0, 1) := by decide +kernel
theorem dX2_daysLeftFor_1 : decode cX2_daysLeftFor 1 = .ok (.iload_n 1, 1) := by decide +kernel
theorem dX2_daysLeftFor_2 : decode cX2_daysLeftFor 2 = .ok (.invokevirtual 46, 3) := by decide +kernel
theorem dX2_daysLeftFor_5 : decode cX2_daysLeftFor 5 = .ok (.aload_n 0, 1) := by decide +kernel
theorem dX2_daysLeftFor_6 : decode cX2_daysLeftFor 6 = .ok (.iload_n 2, 1) := by decide +kernel
theorem dX2_daysLeftFor_7 : decode cX2_daysLeftFor 7 = .ok (.invokevirtual 46, 3) := by decide +kernel
theorem dX2_daysLeftFor_10 : decode cX2_daysLeftFor 10 = .ok (.aload_n 0, 1) := by decide +kernel
theorem dX2_daysLeftFor_11 : decode cX2_daysLeftFor 11 = .ok (.iload_n 1, 1) := by decide +kernel
theorem dX2_daysLeftFor_12 : decode cX2_daysLeftFor 12 = .ok (.iload_n 2, 1) := by decide +kernel
theorem dX2_daysLeftFor_13 : decode cX2_daysLeftFor 13 = .ok (.invokevirtual 118, 3) := by decide +kernel
theorem dX2_daysLeftFor_16 : decode cX2_daysLeftFor 16 = .ok (.ireturn, 1) := by decide +kernel
set_option maxRecDepth 20000 in
theorem ggX2_daysLeft_X2_needPerson : GoodIn wsX2_daysLeft wsX2_needPerson := goodIn_ca (goodIn_r _ [5, 6, 7, 8, 9, 38, 39, 40, 41, 42, 43, 44, 45, 46, 47, 48, 49, 50, 51] (by decide +kernel) (by decide +kernel)) (goodIn_sub (fun _ h => List.mem_cons_of_mem _ (List.mem_append_right _ h)) (by decide +kernel))
set_option maxRecDepth 20000 in
theorem gX2_daysLeft_X2_needPerson : GoodIn wsX2_daysLeft (wsV RX2 46 RX2 yX2_needPerson wsX2_needPerson) := goodIn_app (goodIn_of _ (by decide +kernel)) ggX2_daysLeft_X2_needPerson
set_option maxRecDepth 20000 in
theorem ggX2_daysLeft_X2_longestLeft : GoodIn wsX2_daysLeft wsX2_longestLeft := goodIn_r _ [13, 8, 9, 14, 15, 16, 17, 18, 19, 20, 4, 21, 22, 23, 24, 25, 26, 27, 28, 29, 30, 31, 32, 33, 34, 35, 36, 37, 38, 39, 40, 41, 42, 43, 44, 45, 46, 47, 48, 49, 50, 51, 52, 53] (by decide +kernel) (by decide +kernel)
set_option maxRecDepth 20000 in
theorem gX2_daysLeft_X2_longestLeft : GoodIn wsX2_daysLeft (wsV RX2 167 RX2 yX2_longestLeft wsX2_longestLeft) := goodIn_app (goodIn_of _ (by decide +kernel)) ggX2_daysLeft_X2_longestLeft
theorem dX2_daysLeft_0 : decode cX2_daysLeft 0 = .ok (.aload_n 0, 1) := by decide +kernel
theorem dX2_daysLeft_1 : decode cX2_daysLeft 1 = .ok (.iload_n 1, 1) := by decide +kernel
theorem dX2_daysLeft_2 : decode cX2_daysLeft 2 = .ok (.invokevirtual 46, 3) := by decide +kernel
theorem dX2_daysLeft_5 : decode cX2_daysLeft 5 = .ok (.aload_n 0, 1) := by decide +kernel
theorem dX2_daysLeft_6 : decode cX2_daysLeft 6 = .ok (.iload_n 1, 1) := by decide +kernel
theorem dX2_daysLeft_7 : decode cX2_daysLeft 7 = .ok (.invokevirtual 167, 3) := by decide +kernel
theorem dX2_daysLeft_10 : decode cX2_daysLeft 10 = .ok (.ireturn, 1) := by decide +kernel
set_option maxRecDepth 20000 in
theorem ggX2_daysUntilLighter_X2_needPerson : GoodIn wsX2_daysUntilLighter wsX2_needPerson := goodIn_ca (goodIn_r _ [5, 6, 7, 8, 9, 55, 56, 57, 58, 59, 60, 61, 62, 63, 64, 65, 66, 67, 68] (by decide +kernel) (by decide +kernel)) (goodIn_sub (fun _ h => List.mem_cons_of_mem _ (List.mem_append_right _ h)) (by decide +kernel))
set_option maxRecDepth 20000 in
theorem gX2_daysUntilLighter_X2_needPerson : GoodIn wsX2_daysUntilLighter (wsV RX2 46 RX2 yX2_needPerson wsX2_needPerson) := goodIn_app (goodIn_of _ (by decide +kernel)) ggX2_daysUntilLighter_X2_needPerson
set_option maxRecDepth 20000 in
theorem ggX2_daysUntilLighter_X2_paintAhead : GoodIn wsX2_daysUntilLighter wsX2_paintAhead := goodIn_r _ [13, 14, 8, 9, 15, 16, 17, 18, 19, 20, 21, 22, 23, 24, 25, 26, 27, 28, 29, 30, 31, 4, 32, 33, 34, 35, 36, 37, 38, 39, 40, 41, 42, 43, 44, 45, 46, 47, 48, 49, 50, 55, 56, 57, 58, 59, 60, 61, 62, 63, 64, 65, 66, 67, 68, 69, 70] (by decide +kernel) (by decide +kernel)
set_option maxRecDepth 20000 in
theorem gX2_daysUntilLighter_X2_paintAhead : GoodIn wsX2_daysUntilLighter (wsV RX2 131 RX2 yX2_paintAhead wsX2_paintAhead) := goodIn_app (goodIn_of _ (by decide +kernel)) ggX2_daysUntilLighter_X2_paintAhead
set_option maxRecDepth 20000 in
theorem ggX2_daysUntilLighter_X2_firstLighterDay : GoodIn wsX2_daysUntilLighter wsX2_firstLighterDay := goodIn_r _ [54, 14, 55, 56, 57, 58, 59, 60, 61, 62, 63] (by decide +kernel) (by decide +kernel)
set_option maxRecDepth 20000 in
theorem gX2_daysUntilLighter_X2_firstLighterDay : GoodIn wsX2_daysUntilLighter (wsV RX2 170 RX2 yX2_firstLighterDay wsX2_firstLighterDay) := goodIn_app (goodIn_of _ (by decide +kernel)) ggX2_daysUntilLighter_X2_firstLighterDay
theorem dX2_daysUntilLighter_0 : decode cX2_daysUntilLighter 0 = .ok (.aload_n 0, 1) := by decide +kernel
theorem dX2_daysUntilLighter_1 : decode cX2_daysUntilLighter 1 = .ok (.iload_n 1, 1) := by decide +kernel
theorem dX2_daysUntilLighter_2 : decode cX2_daysUntilLighter 2 = .ok (.invokevirtual 46, 3) := by decide +kernel
theorem dX2_daysUntilLighter_5 : decode cX2_daysUntilLighter 5 = .ok (.aload_n 0, 1) := by decide +kernel
theorem dX2_daysUntilLighter_6 : decode cX2_daysUntilLighter 6 = .ok (.iload_n 1, 1) := by decide +kernel
theorem dX2_daysUntilLighter_7 : decode cX2_daysUntilLighter 7 = .ok (.invokevirtual 131, 3) := by decide +kernel
theorem dX2_daysUntilLighter_10 : decode cX2_daysUntilLighter 10 = .ok (.aload_n 0, 1) := by decide +kernel
theorem dX2_daysUntilLighter_11 : decode cX2_daysUntilLighter 11 = .ok (.invokevirtual 170, 3) := by decide +kernel
theorem dX2_daysUntilLighter_14 : decode cX2_daysUntilLighter 14 = .ok (.ireturn, 1) := by decide +kernel
set_option maxRecDepth 20000 in
theorem ggX2_daysIn_X2_needPerson : GoodIn wsX2_daysIn wsX2_needPerson := goodIn_ca (goodIn_r _ [7, 1, 2, 8, 9, 55, 56, 57, 58, 59, 60, 61, 62, 63, 64, 65, 66, 67, 68] (by decide +kernel) (by decide +kernel)) (goodIn_sub (fun _ h => List.mem_cons_of_mem _ (List.mem_append_right _ h)) (by decide +kernel))
set_option maxRecDepth 20000 in
theorem gX2_daysIn_X2_needPerson : GoodIn wsX2_daysIn (wsV RX2 46 RX2 yX2_needPerson wsX2_needPerson) := goodIn_app (goodIn_of _ (by decide +kernel)) ggX2_daysIn_X2_needPerson
set_option maxRecDepth 20000 in
theorem ggX2_daysIn_X2_paintAhead : GoodIn wsX2_daysIn wsX2_paintAhead := goodIn_r _ [13, 14, 8, 9, 15, 16, 17, 18, 19, 20, 21, 22, 23, 24, 25, 26, 27, 28, 29, 30, 31, 6, 32, 33, 34, 35, 36, 37, 38, 39, 40, 41, 42, 43, 44, 45, 46, 47, 48, 49, 50, 55, 56, 57, 58, 59, 60, 61, 62, 63, 64, 65, 66, 67, 68, 69, 70] (by decide +kernel) (by decide +kernel)
set_option maxRecDepth 20000 in
theorem gX2_daysIn_X2_paintAhead : GoodIn wsX2_daysIn (wsV RX2 131 RX2 yX2_paintAhead wsX2_paintAhead) := goodIn_app (goodIn_of _ (by decide +kernel)) ggX2_daysIn_X2_paintAhead
set_option maxRecDepth 20000 in
theorem ggX2_daysIn_X2_countAhead : GoodIn wsX2_daysIn wsX2_countAhead := goodIn_r _ [54, 14, 55, 56, 57, 58, 59, 60, 61, 62, 63] (by decide +kernel) (by decide +kernel)
set_option maxRecDepth 20000 in
theorem gX2_daysIn_X2_countAhead : GoodIn wsX2_daysIn (wsV RX2 178 RX2 yX2_countAhead wsX2_countAhead) := goodIn_app (goodIn_of _ (by decide +kernel)) ggX2_daysIn_X2_countAhead
theorem dX2_daysIn_0 : decode cX2_daysIn 0 = .ok (.aload_n 0, 1) := by decide +kernel
theorem dX2_daysIn_1 : decode cX2_daysIn 1 = .ok (.iload_n 1, 1) := by decide +kernel
theorem dX2_daysIn_2 : decode cX2_daysIn 2 = .ok (.invokevirtual 46, 3) := by decide +kernel
theorem dX2_daysIn_5 : decode cX2_daysIn 5 = .ok (.iload_n 2, 1) := by decide +kernel
theorem dX2_daysIn_6 : decode cX2_daysIn 6 = .ok (.ifCond .le 8, 3) := by decide +kernel
theorem dX2_daysIn_9 : decode cX2_daysIn 9 = .ok (.iload_n 2, 1) := by decide +kernel
theorem dX2_daysIn_10 : decode cX2_daysIn 10 = .ok (.iconst 5, 1) := by decide +kernel
theorem dX2_daysIn_11 : decode cX2_daysIn 11 = .ok (.if_icmp .le 13, 3) := by decide +kernel
theorem dX2_daysIn_14 : decode cX2_daysIn 14 = .ok (.new 173, 3) := by decide +kernel
theorem dX2_daysIn_17 : decode cX2_daysIn 17 = .ok (.dup, 1) := by decide +kernel
theorem dX2_daysIn_18 : decode cX2_daysIn 18 = .ok (.ldc 175, 2) := by decide +kernel
theorem dX2_daysIn_20 : decode cX2_daysIn 20 = .ok (.invokespecial 177, 3) := by decide +kernel
theorem dX2_daysIn_23 : decode cX2_daysIn 23 = .ok (.athrow, 1) := by decide +kernel
theorem dX2_daysIn_24 : decode cX2_daysIn 24 = .ok (.aload_n 0, 1) := by decide +kernel
theorem dX2_daysIn_25 : decode cX2_daysIn 25 = .ok (.iload_n 1, 1) := by decide +kernel
theorem dX2_daysIn_26 : decode cX2_daysIn 26 = .ok (.invokevirtual 131, 3) := by decide +kernel
theorem dX2_daysIn_29 : decode cX2_daysIn 29 = .ok (.aload_n 0, 1) := by decide +kernel
theorem dX2_daysIn_30 : decode cX2_daysIn 30 = .ok (.iload_n 2, 1) := by decide +kernel
theorem dX2_daysIn_31 : decode cX2_daysIn 31 = .ok (.invokevirtual 178, 3) := by decide +kernel
theorem dX2_daysIn_34 : decode cX2_daysIn 34 = .ok (.ireturn, 1) := by decide +kernel
set_option maxRecDepth 20000 in
theorem ggX2_wearing_X2_countWearing : GoodIn wsX2_wearing wsX2_countWearing := goodIn_r _ [7, 8, 9, 10, 11, 12, 13, 6, 14, 15, 16, 17, 18, 19, 20, 21, 22, 23, 24, 25, 26, 27, 28, 29, 30, 31, 32, 33, 34, 35, 36, 37, 38, 39, 40, 41, 42, 43, 44, 45, 46, 47, 48, 49, 50, 51] (by decide +kernel) (by decide +kernel)
set_option maxRecDepth 20000 in
theorem gX2_wearing_X2_countWearing : GoodIn wsX2_wearing (wsV RX2 144 RX2 yX2_countWearing wsX2_countWearing) := goodIn_app (goodIn_of _ (by decide +kernel)) ggX2_wearing_X2_countWearing
theorem dX2_wearing_0 : decode cX2_wearing 0 = .ok (.iload_n 1, 1) := by decide +kernel
theorem dX2_wearing_1 : decode cX2_wearing 1 = .ok (.ifCond .lt 8, 3) := by decide +kernel
theorem dX2_wearing_4 : decode cX2_wearing 4 = .ok (.iload_n 1, 1) := by decide +kernel
theorem dX2_wearing_5 : decode cX2_wearing 5 = .ok (.iconst 5, 1) := by decide +kernel
theorem dX2_wearing_6 : decode cX2_wearing 6 = .ok (.if_icmp .le 13, 3) := by decide +kernel
theorem dX2_wearing_9 : decode cX2_wearing 9 = .ok (.new 173, 3) := by decide +kernel
theorem dX2_wearing_12 : decode cX2_wearing 12 = .ok (.dup, 1) := by decide +kernel
theorem dX2_wearing_13 : decode cX2_wearing 13 = .ok (.ldc 82, 2) := by decide +kernel
theorem dX2_wearing_15 : decode cX2_wearing 15 = .ok (.invokespecial 177, 3) := by decide +kernel
theorem dX2_wearing_18 : decode cX2_wearing 18 = .ok (.athrow, 1) := by decide +kernel
theorem dX2_wearing_19 : decode cX2_wearing 19 = .ok (.aload_n 0, 1) := by decide +kernel
theorem dX2_wearing_20 : decode cX2_wearing 20 = .ok (.iload_n 1, 1) := by decide +kernel
theorem dX2_wearing_21 : decode cX2_wearing 21 = .ok (.invokevirtual 144, 3) := by decide +kernel
theorem dX2_wearing_24 : decode cX2_wearing 24 = .ok (.ireturn, 1) := by decide +kernel
set_option maxRecDepth 20000 in
theorem ggX2_strictest_X2_colourAfter : GoodIn wsX2_strictest wsX2_colourAfter := goodIn_r _ [11, 1, 2, 12, 13, 14, 15, 3, 4, 5, 6, 16, 17, 10, 18, 19, 20, 21, 22, 23, 24, 25, 26, 27, 28, 29, 30, 31, 32, 33, 34, 35, 36, 37, 38, 39, 40, 41, 42, 43, 44] (by decide +kernel) (by decide +kernel)
set_option maxRecDepth 20000 in
theorem gX2_strictest_X2_colourAfter : GoodIn wsX2_strictest (wsV RX2 159 RX2 yX2_colourAfter wsX2_colourAfter) := goodIn_app (goodIn_of _ (by decide +kernel)) ggX2_strictest_X2_colourAfter
theorem dX2_strictest_0 : decode cX2_strictest 0 = .ok (.iconst 0, 1) := by decide +kernel
theorem dX2_strictest_1 : decode cX2_strictest 1 = .ok (.istore_n 1, 1) := by decide +kernel
theorem dX2_strictest_2 : decode cX2_strictest 2 = .ok (.iconst 0, 1) := by decide +kernel
theorem dX2_strictest_3 : decode cX2_strictest 3 = .ok (.istore_n 2, 1) := by decide +kernel
theorem dX2_strictest_4 : decode cX2_strictest 4 = .ok (.iload_n 2, 1) := by decide +kernel
theorem dX2_strictest_5 : decode cX2_strictest 5 = .ok (.aload_n 0, 1) := by decide +kernel
theorem dX2_strictest_6 : decode cX2_strictest 6 = .ok (.getfield 12, 3) := by decide +kernel
theorem dX2_strictest_9 : decode cX2_strictest 9 = .ok (.getfield 128, 3) := by decide +kernel
theorem dX2_strictest_12 : decode cX2_strictest 12 = .ok (.if_icmp .ge 20, 3) := by decide +kernel
theorem dX2_strictest_15 : decode cX2_strictest 15 = .ok (.iload_n 1, 1) := by decide +kernel
theorem dX2_strictest_16 : decode cX2_strictest 16 = .ok (.aload_n 0, 1) := by decide +kernel
theorem dX2_strictest_17 : decode cX2_strictest 17 = .ok (.iload_n 2, 1) := by decide +kernel
theorem dX2_strictest_18 : decode cX2_strictest 18 = .ok (.iconst 0, 1) := by decide +kernel
theorem dX2_strictest_19 : decode cX2_strictest 19 = .ok (.invokevirtual 159, 3) := by decide +kernel
theorem dX2_strictest_22 : decode cX2_strictest 22 = .ok (.invokestatic 181, 3) := by decide +kernel
theorem dX2_strictest_25 : decode cX2_strictest 25 = .ok (.istore_n 1, 1) := by decide +kernel
theorem dX2_strictest_26 : decode cX2_strictest 26 = .ok (.iinc 2 1, 3) := by decide +kernel
theorem dX2_strictest_29 : decode cX2_strictest 29 = .ok (.goto (-25), 3) := by decide +kernel
theorem dX2_strictest_32 : decode cX2_strictest 32 = .ok (.iload_n 1, 1) := by decide +kernel
theorem dX2_strictest_33 : decode cX2_strictest 33 = .ok (.ireturn, 1) := by decide +kernel
set_option maxRecDepth 20000 in
theorem ggX2_longestMourner_X2_longestLeft : GoodIn wsX2_longestMourner wsX2_longestLeft := goodIn_r _ [7, 1, 2, 8, 9, 10, 11, 12, 13, 14, 6, 15, 16, 17, 18, 19, 20, 21, 22, 23, 24, 25, 26, 27, 28, 29, 30, 31, 32, 33, 34, 35, 36, 37, 38, 39, 40, 41, 42, 43, 44, 45, 46, 47] (by decide +kernel) (by decide +kernel)
set_option maxRecDepth 20000 in
theorem gX2_longestMourner_X2_longestLeft : GoodIn wsX2_longestMourner (wsV RX2 167 RX2 yX2_longestLeft wsX2_longestLeft) := goodIn_app (goodIn_of _ (by decide +kernel)) ggX2_longestMourner_X2_longestLeft
theorem dX2_longestMourner_0 : decode cX2_longestMourner 0 = .ok (.iconst (-1), 1) := by decide +kernel
theorem dX2_longestMourner_1 : decode cX2_longestMourner 1 = .ok (.istore_n 1, 1) := by decide +kernel
theorem dX2_longestMourner_2 : decode cX2_longestMourner 2 = .ok (.iconst 0, 1) := by decide +kernel
theorem dX2_longestMourner_3 : decode cX2_longestMourner 3 = .ok (.istore_n 2, 1) := by decide +kernel
theorem dX2_longestMourner_4 : decode cX2_longestMourner 4 = .ok (.iconst 0, 1) := by decide +kernel
theorem dX2_longestMourner_5 : decode cX2_longestMourner 5 = .ok (.istore_n 3, 1) := by decide +kernel
theorem dX2_longestMourner_6 : decode cX2_longestMourner 6 = .ok (.iload_n 3, 1) := by decide +kernel
theorem dX2_longestMourner_7 : decode cX2_longestMourner 7 = .ok (.aload_n 0, 1) := by decide +kernel
theorem dX2_longestMourner_8 : decode cX2_longestMourner 8 = .ok (.getfield 12, 3) := by decide +kernel
theorem dX2_longestMourner_11 : decode cX2_longestMourner 11 = .ok (.getfield 128, 3) := by decide +kernel
theorem dX2_longestMourner_14 : decode cX2_longestMourner 14 = .ok (.if_icmp .ge 27, 3) := by decide +kernel
theorem dX2_longestMourner_17 : decode cX2_longestMourner 17 = .ok (.aload_n 0, 1) := by decide +kernel
theorem dX2_longestMourner_18 : decode cX2_longestMourner 18 = .ok (.iload_n 3, 1) := by decide +kernel
theorem dX2_longestMourner_19 : decode cX2_longestMourner 19 = .ok (.invokevirtual 167, 3) := by decide +kernel
theorem dX2_longestMourner_22 : decode cX2_longestMourner 22 = .ok (.istore 4, 2) := by decide +kernel
theorem dX2_longestMourner_24 : decode cX2_longestMourner 24 = .ok (.iload 4, 2) := by decide +kernel
theorem dX2_longestMourner_26 : decode cX2_longestMourner 26 = .ok (.iload_n 2, 1) := by decide +kernel
theorem dX2_longestMourner_27 : decode cX2_longestMourner 27 = .ok (.if_icmp .le 8, 3) := by decide +kernel
theorem dX2_longestMourner_30 : decode cX2_longestMourner 30 = .ok (.iload 4, 2) := by decide +kernel
theorem dX2_longestMourner_32 : decode cX2_longestMourner 32 = .ok (.istore_n 2, 1) := by decide +kernel
theorem dX2_longestMourner_33 : decode cX2_longestMourner 33 = .ok (.iload_n 3, 1) := by decide +kernel
theorem dX2_longestMourner_34 : decode cX2_longestMourner 34 = .ok (.istore_n 1, 1) := by decide +kernel
theorem dX2_longestMourner_35 : decode cX2_longestMourner 35 = .ok (.iinc 3 1, 3) := by decide +kernel
theorem dX2_longestMourner_38 : decode cX2_longestMourner 38 = .ok (.goto (-32), 3) := by decide +kernel
theorem dX2_longestMourner_41 : decode cX2_longestMourner 41 = .ok (.iload_n 1, 1) := by decide +kernel
theorem dX2_longestMourner_42 : decode cX2_longestMourner 42 = .ok (.ireturn, 1) := by decide +kernel
theorem dX2_daysWorn_0 : decode cX2_daysWorn 0 = .ok (.aload_n 0, 1) := by decide +kernel
theorem dX2_daysWorn_1 : decode cX2_daysWorn 1 = .ok (.getfield 134, 3) := by decide +kernel
theorem dX2_daysWorn_4 : decode cX2_daysWorn 4 = .ok (.ireturn, 1) := by decide +kernel
set_option maxRecDepth 20000 in
theorem ggX2_wouldMourn_X2_needPerson : GoodIn wsX2_wouldMourn wsX2_needPerson := goodIn_ca (goodIn_r _ [7, 8, 9, 1, 2, 53, 54, 55, 56, 57, 58, 59, 60, 61, 62, 63, 64, 65, 66] (by decide +kernel) (by decide +kernel)) (goodIn_sub (fun _ h => List.mem_cons_of_mem _ (List.mem_append_left _ (List.mem_append_right _ h))) (by decide +kernel))
set_option maxRecDepth 20000 in
theorem gX2_wouldMourn_X2_needPerson : GoodIn wsX2_wouldMourn (wsV RX2 46 RX2 yX2_needPerson wsX2_needPerson) := goodIn_app (goodIn_of _ (by decide +kernel)) ggX2_wouldMourn_X2_needPerson
set_option maxRecDepth 20000 in
theorem ggX2_wouldMourn_X2_needAlive : GoodIn wsX2_wouldMourn wsX2_needAlive := goodIn_ca (goodIn_r _ [13, 14, 15, 1, 16, 53, 54, 55, 56, 57, 58, 59, 60, 61, 62, 63, 64, 65, 66] (by decide +kernel) (by decide +kernel)) (goodIn_sub (fun _ h => List.mem_cons_of_mem _ (List.mem_append_right _ h)) (by decide +kernel))
set_option maxRecDepth 20000 in
theorem gX2_wouldMourn_X2_needAlive : GoodIn wsX2_wouldMourn (wsV RX2 50 RX2 yX2_needAlive wsX2_needAlive) := goodIn_app (goodIn_of _ (by decide +kernel)) ggX2_wouldMourn_X2_needAlive
set_option maxRecDepth 20000 in
theorem ggX2_wouldMourn_X1_findDegrees : GoodIn wsX2_wouldMourn wsX1_findDegrees := goodIn_r _ [21, 22, 23, 24, 25, 26, 27, 28, 29, 30, 20, 31, 32, 33, 34, 35, 36, 37, 62, 63, 64, 65, 66] (by decide +kernel) (by decide +kernel)
set_option maxRecDepth 20000 in
theorem gX2_wouldMourn_X1_findDegrees : GoodIn wsX2_wouldMourn (wsV RX2 68 RX1 yX1_findDegrees wsX1_findDegrees) := goodIn_app (goodIn_of _ (by decide +kernel)) ggX2_wouldMourn_X1_findDegrees
set_option maxRecDepth 20000 in
theorem ggX2_wouldMourn_X2_wouldBegin : GoodIn wsX2_wouldMourn wsX2_wouldBegin := goodIn_r _ [41, 1, 16, 42, 43, 44, 45, 46, 47, 48, 49, 50, 51, 52, 53, 54, 55, 56, 57, 58, 59, 60, 61, 62, 63, 64, 65, 66, 67, 68] (by decide +kernel) (by decide +kernel)
set_option maxRecDepth 20000 in
theorem gX2_wouldMourn_X2_wouldBegin : GoodIn wsX2_wouldMourn (wsV RX2 186 RX2 yX2_wouldBegin wsX2_wouldBegin) := goodIn_app (goodIn_of _ (by decide +kernel)) ggX2_wouldMourn_X2_wouldBegin
theorem dX2_wouldMourn_0 : decode cX2_wouldMourn 0 = .ok (.aload_n 0, 1) := by decide +kernel
theorem dX2_wouldMourn_1 : decode cX2_wouldMourn 1 = .ok (.iload_n 1, 1) := by decide +kernel
theorem dX2_wouldMourn_2 : decode cX2_wouldMourn 2 = .ok (.invokevirtual 46, 3) := by decide +kernel
theorem dX2_wouldMourn_5 : decode cX2_wouldMourn 5 = .ok (.aload_n 0, 1) := by decide +kernel
theorem dX2_wouldMourn_6 : decode cX2_wouldMourn 6 = .ok (.iload_n 1, 1) := by decide +kernel
theorem dX2_wouldMourn_7 : decode cX2_wouldMourn 7 = .ok (.invokevirtual 50, 3) := by decide +kernel
theorem dX2_wouldMourn_10 : decode cX2_wouldMourn 10 = .ok (.aload_n 0, 1) := by decide +kernel
theorem dX2_wouldMourn_11 : decode cX2_wouldMourn 11 = .ok (.getfield 12, 3) := by decide +kernel
theorem dX2_wouldMourn_14 : decode cX2_wouldMourn 14 = .ok (.iload_n 1, 1) := by decide +kernel
theorem dX2_wouldMourn_15 : decode cX2_wouldMourn 15 = .ok (.invokevirtual 68, 3) := by decide +kernel
theorem dX2_wouldMourn_18 : decode cX2_wouldMourn 18 = .ok (.iconst 0, 1) := by decide +kernel
theorem dX2_wouldMourn_19 : decode cX2_wouldMourn 19 = .ok (.istore_n 2, 1) := by decide +kernel
theorem dX2_wouldMourn_20 : decode cX2_wouldMourn 20 = .ok (.iconst 0, 1) := by decide +kernel
theorem dX2_wouldMourn_21 : decode cX2_wouldMourn 21 = .ok (.istore_n 3, 1) := by decide +kernel
theorem dX2_wouldMourn_22 : decode cX2_wouldMourn 22 = .ok (.iload_n 3, 1) := by decide +kernel
theorem dX2_wouldMourn_23 : decode cX2_wouldMourn 23 = .ok (.aload_n 0, 1) := by decide +kernel
theorem dX2_wouldMourn_24 : decode cX2_wouldMourn 24 = .ok (.getfield 12, 3) := by decide +kernel
theorem dX2_wouldMourn_27 : decode cX2_wouldMourn 27 = .ok (.getfield 128, 3) := by decide +kernel
theorem dX2_wouldMourn_30 : decode cX2_wouldMourn 30 = .ok (.if_icmp .ge 20, 3) := by decide +kernel
theorem dX2_wouldMourn_33 : decode cX2_wouldMourn 33 = .ok (.aload_n 0, 1) := by decide +kernel
theorem dX2_wouldMourn_34 : decode cX2_wouldMourn 34 = .ok (.iload_n 3, 1) := by decide +kernel
theorem dX2_wouldMourn_35 : decode cX2_wouldMourn 35 = .ok (.invokevirtual 186, 3) := by decide +kernel
theorem dX2_wouldMourn_38 : decode cX2_wouldMourn 38 = .ok (.ifCond .eq 6, 3) := by decide +kernel
theorem dX2_wouldMourn_41 : decode cX2_wouldMourn 41 = .ok (.iinc 2 1, 3) := by decide +kernel
theorem dX2_wouldMourn_44 : decode cX2_wouldMourn 44 = .ok (.iinc 3 1, 3) := by decide +kernel
theorem dX2_wouldMourn_47 : decode cX2_wouldMourn 47 = .ok (.goto (-25), 3) := by decide +kernel
theorem dX2_wouldMourn_50 : decode cX2_wouldMourn 50 = .ok (.iload_n 2, 1) := by decide +kernel
theorem dX2_wouldMourn_51 : decode cX2_wouldMourn 51 = .ok (.ireturn, 1) := by decide +kernel
set_option maxRecDepth 20000 in
theorem ggX2_wouldWear_X2_needPerson : GoodIn wsX2_wouldWear wsX2_needPerson := goodIn_ca (goodIn_r _ [12, 13, 14, 1, 15, 70, 71, 72, 73, 74, 75, 76, 77, 78, 79, 80, 81, 82, 83] (by decide +kernel) (by decide +kernel)) (goodIn_sub (fun _ h => List.mem_cons_of_mem _ (List.mem_append_left _ (List.mem_append_left _ (List.mem_append_right _ h)))) (by decide +kernel))
set_option maxRecDepth 20000 in
theorem gX2_wouldWear_X2_needPerson : GoodIn wsX2_wouldWear (wsV RX2 46 RX2 yX2_needPerson wsX2_needPerson) := goodIn_app (goodIn_of _ (by decide +kernel)) ggX2_wouldWear_X2_needPerson
set_option maxRecDepth 20000 in
theorem ggX2_wouldWear_X2_needTwo : GoodIn wsX2_wouldWear wsX2_needTwo := goodIn_ca (goodIn_r _ [19, 20, 21] (by decide +kernel) (by decide +kernel)) (goodIn_sub (fun _ h => List.mem_cons_of_mem _ (List.mem_append_left _ (List.mem_append_right _ h))) (by decide +kernel))
set_option maxRecDepth 20000 in
theorem gX2_wouldWear_X2_needTwo : GoodIn wsX2_wouldWear (wsV RX2 53 RX2 yX2_needTwo wsX2_needTwo) := goodIn_app (goodIn_of _ (by decide +kernel)) ggX2_wouldWear_X2_needTwo
set_option maxRecDepth 20000 in
theorem ggX2_wouldWear_X2_needAlive : GoodIn wsX2_wouldWear wsX2_needAlive := goodIn_ca (goodIn_r _ [25, 26, 27, 1, 28, 70, 71, 72, 73, 74, 75, 76, 77, 78, 79, 80, 81, 82, 83] (by decide +kernel) (by decide +kernel)) (goodIn_sub (fun _ h => List.mem_cons_of_mem _ (List.mem_append_right _ h)) (by decide +kernel))
set_option maxRecDepth 20000 in
theorem gX2_wouldWear_X2_needAlive : GoodIn wsX2_wouldWear (wsV RX2 50 RX2 yX2_needAlive wsX2_needAlive) := goodIn_app (goodIn_of _ (by decide +kernel)) ggX2_wouldWear_X2_needAlive
set_option maxRecDepth 20000 in
theorem ggX2_wouldWear_X1_findDegrees : GoodIn wsX2_wouldWear wsX1_findDegrees := goodIn_r _ [33, 34, 35, 36, 37, 38, 39, 40, 41, 42, 32, 43, 44, 45, 46, 47, 48, 49, 79, 80, 81, 82, 83] (by decide +kernel) (by decide +kernel)
set_option maxRecDepth 20000 in
theorem gX2_wouldWear_X1_findDegrees : GoodIn wsX2_wouldWear (wsV RX2 68 RX1 yX1_findDegrees wsX1_findDegrees) := goodIn_app (goodIn_of _ (by decide +kernel)) ggX2_wouldWear_X1_findDegrees
set_option maxRecDepth 20000 in
theorem ggX2_wouldWear_X0_colourOn : GoodIn wsX2_wouldWear wsX0_colourOn := goodIn_r _ [54, 55, 56, 57, 58, 53, 59, 84, 85] (by decide +kernel) (by decide +kernel)
set_option maxRecDepth 20000 in
theorem gX2_wouldWear_X0_colourOn : GoodIn wsX2_wouldWear (wsV RX2 189 RX0 yX0_colourOn wsX0_colourOn) := goodIn_app (goodIn_of _ (by decide +kernel)) ggX2_wouldWear_X0_colourOn
set_option maxRecDepth 20000 in
theorem ggX2_wouldWear_X2_colourAfter : GoodIn wsX2_wouldWear wsX2_colourAfter := goodIn_r _ [63, 1, 15, 64, 65, 2, 66, 4, 5, 6, 7, 67, 68, 11, 69, 50, 51, 52, 53, 54, 55, 56, 57, 58, 59, 70, 71, 72, 73, 74, 75, 76, 77, 78, 79, 80, 81, 82, 83, 84, 85] (by decide +kernel) (by decide +kernel)
set_option maxRecDepth 20000 in
theorem gX2_wouldWear_X2_colourAfter : GoodIn wsX2_wouldWear (wsV RX2 159 RX2 yX2_colourAfter wsX2_colourAfter) := goodIn_app (goodIn_of _ (by decide +kernel)) ggX2_wouldWear_X2_colourAfter
theorem dX2_wouldWear_0 : decode cX2_wouldWear 0 = .ok (.aload_n 0, 1) := by decide +kernel
theorem dX2_wouldWear_1 : decode cX2_wouldWear 1 = .ok (.iload_n 1, 1) := by decide +kernel
theorem dX2_wouldWear_2 : decode cX2_wouldWear 2 = .ok (.invokevirtual 46, 3) := by decide +kernel
theorem dX2_wouldWear_5 : decode cX2_wouldWear 5 = .ok (.aload_n 0, 1) := by decide +kernel
theorem dX2_wouldWear_6 : decode cX2_wouldWear 6 = .ok (.iload_n 2, 1) := by decide +kernel
theorem dX2_wouldWear_7 : decode cX2_wouldWear 7 = .ok (.invokevirtual 46, 3) := by decide +kernel
theorem dX2_wouldWear_10 : decode cX2_wouldWear 10 = .ok (.aload_n 0, 1) := by decide +kernel
theorem dX2_wouldWear_11 : decode cX2_wouldWear 11 = .ok (.iload_n 1, 1) := by decide +kernel
theorem dX2_wouldWear_12 : decode cX2_wouldWear 12 = .ok (.iload_n 2, 1) := by decide +kernel
theorem dX2_wouldWear_13 : decode cX2_wouldWear 13 = .ok (.invokevirtual 53, 3) := by decide +kernel
theorem dX2_wouldWear_16 : decode cX2_wouldWear 16 = .ok (.aload_n 0, 1) := by decide +kernel
theorem dX2_wouldWear_17 : decode cX2_wouldWear 17 = .ok (.iload_n 1, 1) := by decide +kernel
theorem dX2_wouldWear_18 : decode cX2_wouldWear 18 = .ok (.invokevirtual 50, 3) := by decide +kernel
theorem dX2_wouldWear_21 : decode cX2_wouldWear 21 = .ok (.aload_n 0, 1) := by decide +kernel
theorem dX2_wouldWear_22 : decode cX2_wouldWear 22 = .ok (.iload_n 2, 1) := by decide +kernel
theorem dX2_wouldWear_23 : decode cX2_wouldWear 23 = .ok (.invokevirtual 50, 3) := by decide +kernel
theorem dX2_wouldWear_26 : decode cX2_wouldWear 26 = .ok (.aload_n 0, 1) := by decide +kernel
theorem dX2_wouldWear_27 : decode cX2_wouldWear 27 = .ok (.getfield 12, 3) := by decide +kernel
theorem dX2_wouldWear_30 : decode cX2_wouldWear 30 = .ok (.iload_n 2, 1) := by decide +kernel
theorem dX2_wouldWear_31 : decode cX2_wouldWear 31 = .ok (.invokevirtual 68, 3) := by decide +kernel
theorem dX2_wouldWear_34 : decode cX2_wouldWear 34 = .ok (.aload_n 0, 1) := by decide +kernel
theorem dX2_wouldWear_35 : decode cX2_wouldWear 35 = .ok (.getfield 19, 3) := by decide +kernel
theorem dX2_wouldWear_38 : decode cX2_wouldWear 38 = .ok (.bipush 16, 2) := by decide +kernel
theorem dX2_wouldWear_40 : decode cX2_wouldWear 40 = .ok (.aload_n 0, 1) := by decide +kernel
theorem dX2_wouldWear_41 : decode cX2_wouldWear 41 = .ok (.getfield 12, 3) := by decide +kernel
theorem dX2_wouldWear_44 : decode cX2_wouldWear 44 = .ok (.getfield 71, 3) := by decide +kernel
theorem dX2_wouldWear_47 : decode cX2_wouldWear 47 = .ok (.iload_n 1, 1) := by decide +kernel
theorem dX2_wouldWear_48 : decode cX2_wouldWear 48 = .ok (.iaload, 1) := by decide +kernel
theorem dX2_wouldWear_49 : decode cX2_wouldWear 49 = .ok (.iconst 0, 1) := by decide +kernel
theorem dX2_wouldWear_50 : decode cX2_wouldWear 50 = .ok (.invokevirtual 189, 3) := by decide +kernel
theorem dX2_wouldWear_53 : decode cX2_wouldWear 53 = .ok (.istore_n 3, 1) := by decide +kernel
theorem dX2_wouldWear_54 : decode cX2_wouldWear 54 = .ok (.aload_n 0, 1) := by decide +kernel
theorem dX2_wouldWear_55 : decode cX2_wouldWear 55 = .ok (.iload_n 1, 1) := by decide +kernel
theorem dX2_wouldWear_56 : decode cX2_wouldWear 56 = .ok (.iconst 0, 1) := by decide +kernel
theorem dX2_wouldWear_57 : decode cX2_wouldWear 57 = .ok (.invokevirtual 159, 3) := by decide +kernel
theorem dX2_wouldWear_60 : decode cX2_wouldWear 60 = .ok (.iload_n 3, 1) := by decide +kernel
theorem dX2_wouldWear_61 : decode cX2_wouldWear 61 = .ok (.invokestatic 181, 3) := by decide +kernel
theorem dX2_wouldWear_64 : decode cX2_wouldWear 64 = .ok (.ireturn, 1) := by decide +kernel
set_option maxRecDepth 20000 in
theorem ggX2_heaviestLoss_J7_fill_53178 : GoodIn wsX2_heaviestLoss wsJ7_fill_53178 := goodIn_r _ [8] (by decide +kernel) (by decide +kernel)
