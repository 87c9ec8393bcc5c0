theorem wsL_law_x0 : ∀ w ∈ (vx_atS RX2 65 "java/lang/IllegalStateException" ["java/lang/RuntimeException", "java/lang/Exception"]).filter goodWord, w ∈ lw_tbl := by decide +kernel
theorem wsL_law_x1 : ∀ w ∈ (vx_atS RX2 177 "java/lang/IndexOutOfBoundsException" ["java/lang/RuntimeException", "java/lang/Exception"]).filter goodWord, w ∈ lw_tbl := by decide +kernel
theorem wsL_law_x2 : ∀ w ∈ (vx_atS RX2 84 "java/lang/IllegalArgumentException" ["java/lang/RuntimeException", "java/lang/Exception"]).filter goodWord, w ∈ lw_tbl := by decide +kernel
theorem wsL_law_in : ∀ w ∈ wsL_law, w ∈ lw_tbl := fun w h => (List.mem_append.mp h).elim (fun h => (List.mem_append.mp h).elim (fun h => (List.mem_append.mp h).elim (fun h => wsL_law_in0 w h) (fun h => wsL_law_x0 w h)) (fun h => wsL_law_x1 w h)) (fun h => wsL_law_x2 w h)
theorem inlX0 : ∀ w ∈ wsX00, w ∈ wsL_law := fun _ h => List.mem_append_left _ (List.mem_append_left _ (List.mem_append_left _ (List.mem_append_left _ (List.mem_append_left _ (List.mem_append_right _ h)))))
theorem inX0 : ∀ w ∈ wsX00, w ∈ lw_tbl := fun w h => wsL_law_in w (inlX0 w h)
theorem inlX1 : ∀ w ∈ wsX10, w ∈ wsL_law := fun _ h => List.mem_append_left _ (List.mem_append_left _ (List.mem_append_left _ (List.mem_append_left _ (List.mem_append_left _ (List.mem_append_left _ (List.mem_append_right _ h))))))
theorem inX1 : ∀ w ∈ wsX10, w ∈ lw_tbl := fun w h => wsL_law_in w (inlX1 w h)
theorem inlX2 : ∀ w ∈ wsX20, w ∈ wsL_law := fun _ h => List.mem_append_left _ (List.mem_append_left _ (List.mem_append_left _ (List.mem_append_left _ (List.mem_append_left _ (List.mem_append_left _ (List.mem_append_left _ (List.mem_append_right _ h)))))))
theorem inX2 : ∀ w ∈ wsX20, w ∈ lw_tbl := fun w h => wsL_law_in w (inlX2 w h)
theorem inlX3 : ∀ w ∈ wsX30, w ∈ wsL_law := fun _ h => List.mem_append_left _ (List.mem_append_left _ (List.mem_append_left _ (List.mem_append_left _ (List.mem_append_right _ h))))
theorem inX3 : ∀ w ∈ wsX30, w ∈ lw_tbl := fun w h => wsL_law_in w (inlX3 w h)
theorem inX4 : ∀ w ∈ wsX40, w ∈ lw_tbl := by decide +kernel
theorem inJx145de : ∀ w ∈ wsJx145de0, w ∈ lw_tbl := by decide +kernel
theorem inJ9 : ∀ w ∈ wsJ90, w ∈ lw_tbl := by decide +kernel
theorem inJ0 : ∀ w ∈ wsJ00, w ∈ lw_tbl := by decide +kernel
theorem inJ10 : ∀ w ∈ wsJ100, w ∈ lw_tbl := by decide +kernel
theorem inJ7 : ∀ w ∈ wsJ70, w ∈ lw_tbl := by decide +kernel
theorem dX0_init_0 : decode cX0_init 0 = .ok (.aload_n 0, 1) := by decide +kernel
theorem dX0_init_1 : decode cX0_init 1 = .ok (.invokespecial 3, 3) := by decide +kernel
theorem dX0_init_4 : decode cX0_init 4 = .ok (.aload_n 0, 1) := by decide +kernel
theorem dX0_init_5 : decode cX0_init 5 = .ok (.sipush 204, 3) := by decide +kernel
theorem dX0_init_8 : decode cX0_init 8 = .ok (.newarray .int, 2) := by decide +kernel
theorem dX0_init_10 : decode cX0_init 10 = .ok (.putfield 11, 3) := by decide +kernel
theorem dX0_init_13 : decode cX0_init 13 = .ok (.aload_n 0, 1) := by decide +kernel
theorem dX0_init_14 : decode cX0_init 14 = .ok (.sipush 204, 3) := by decide +kernel
theorem dX0_init_17 : decode cX0_init 17 = .ok (.newarray .int, 2) := by decide +kernel
theorem dX0_init_19 : decode cX0_init 19 = .ok (.putfield 15, 3) := by decide +kernel
theorem dX0_init_22 : decode cX0_init 22 = .ok (.return_, 1) := by decide +kernel
theorem dX0_place_0 : decode cX0_place 0 = .ok (.iload_n 0, 1) := by decide +kernel
theorem dX0_place_1 : decode cX0_place 1 = .ok (.bipush 12, 2) := by decide +kernel
theorem dX0_place_3 : decode cX0_place 3 = .ok (.imul, 1) := by decide +kernel
theorem dX0_place_4 : decode cX0_place 4 = .ok (.iload_n 1, 1) := by decide +kernel
theorem dX0_place_5 : decode cX0_place 5 = .ok (.iconst 1, 1) := by decide +kernel
theorem dX0_place_6 : decode cX0_place 6 = .ok (.isub, 1) := by decide +kernel
theorem dX0_place_7 : decode cX0_place 7 = .ok (.iconst 3, 1) := by decide +kernel
theorem dX0_place_8 : decode cX0_place 8 = .ok (.imul, 1) := by decide +kernel
theorem dX0_place_9 : decode cX0_place 9 = .ok (.iadd, 1) := by decide +kernel
theorem dX0_place_10 : decode cX0_place 10 = .ok (.iload_n 2, 1) := by decide +kernel
theorem dX0_place_11 : decode cX0_place 11 = .ok (.iadd, 1) := by decide +kernel
theorem dX0_place_12 : decode cX0_place 12 = .ok (.ireturn, 1) := by decide +kernel
set_option maxRecDepth 20000 in
theorem ggX0_keepFor_X0_place : GoodIn wsX0_keepFor wsX0_place := goodIn_r _ [10] (by decide +kernel) (by decide +kernel)
set_option maxRecDepth 20000 in
theorem gX0_keepFor_X0_place : GoodIn wsX0_keepFor (va_wsS RX0 18 yX0_place wsX0_place) := goodIn_app (goodIn_of _ (by decide +kernel)) ggX0_keepFor_X0_place
theorem dX0_keepFor_0 : decode cX0_keepFor 0 = .ok (.bipush 16, 2) := by decide +kernel
theorem dX0_keepFor_2 : decode cX0_keepFor 2 = .ok (.iconst 1, 1) := by decide +kernel
theorem dX0_keepFor_3 : decode cX0_keepFor 3 = .ok (.iconst 0, 1) := by decide +kernel
theorem dX0_keepFor_4 : decode cX0_keepFor 4 = .ok (.invokestatic 18, 3) := by decide +kernel
theorem dX0_keepFor_7 : decode cX0_keepFor 7 = .ok (.istore_n 2, 1) := by decide +kernel
theorem dX0_keepFor_8 : decode cX0_keepFor 8 = .ok (.iload_n 1, 1) := by decide +kernel
theorem dX0_keepFor_9 : decode cX0_keepFor 9 = .ok (.iconst 1, 1) := by decide +kernel
theorem dX0_keepFor_10 : decode cX0_keepFor 10 = .ok (.iconst 0, 1) := by decide +kernel
theorem dX0_keepFor_11 : decode cX0_keepFor 11 = .ok (.invokestatic 18, 3) := by decide +kernel
theorem dX0_keepFor_14 : decode cX0_keepFor 14 = .ok (.istore_n 3, 1) := by decide +kernel
theorem dX0_keepFor_15 : decode cX0_keepFor 15 = .ok (.aload_n 0, 1) := by decide +kernel
theorem dX0_keepFor_16 : decode cX0_keepFor 16 = .ok (.getfield 11, 3) := by decide +kernel
theorem dX0_keepFor_19 : decode cX0_keepFor 19 = .ok (.iload_n 2, 1) := by decide +kernel
theorem dX0_keepFor_20 : decode cX0_keepFor 20 = .ok (.aload_n 0, 1) := by decide +kernel
theorem dX0_keepFor_21 : decode cX0_keepFor 21 = .ok (.getfield 11, 3) := by decide +kernel
theorem dX0_keepFor_24 : decode cX0_keepFor 24 = .ok (.iload_n 3, 1) := by decide +kernel
theorem dX0_keepFor_25 : decode cX0_keepFor 25 = .ok (.bipush 12, 2) := by decide +kernel
theorem dX0_keepFor_27 : decode cX0_keepFor 27 = .ok (.invokestatic 22, 3) := by decide +kernel
theorem dX0_keepFor_30 : decode cX0_keepFor 30 = .ok (.aload_n 0, 1) := by decide +kernel
theorem dX0_keepFor_31 : decode cX0_keepFor 31 = .ok (.getfield 15, 3) := by decide +kernel
theorem dX0_keepFor_34 : decode cX0_keepFor 34 = .ok (.iload_n 2, 1) := by decide +kernel
theorem dX0_keepFor_35 : decode cX0_keepFor 35 = .ok (.aload_n 0, 1) := by decide +kernel
theorem dX0_keepFor_36 : decode cX0_keepFor 36 = .ok (.getfield 15, 3) := by decide +kernel
theorem dX0_keepFor_39 : decode cX0_keepFor 39 = .ok (.iload_n 3, 1) := by decide +kernel
theorem dX0_keepFor_40 : decode cX0_keepFor 40 = .ok (.bipush 12, 2) := by decide +kernel
theorem dX0_keepFor_42 : decode cX0_keepFor 42 = .ok (.invokestatic 22, 3) := by decide +kernel
theorem dX0_keepFor_45 : decode cX0_keepFor 45 = .ok (.return_, 1) := by decide +kernel
set_option maxRecDepth 20000 in
theorem ggX0_daysOfAll_X0_place : GoodIn wsX0_daysOfAll wsX0_place := goodIn_r _ [5] (by decide +kernel) (by decide +kernel)
set_option maxRecDepth 20000 in
theorem gX0_daysOfAll_X0_place : GoodIn wsX0_daysOfAll (va_wsS RX0 18 yX0_place wsX0_place) := goodIn_app (goodIn_of _ (by decide +kernel)) ggX0_daysOfAll_X0_place
theorem dX0_daysOfAll_0 : decode cX0_daysOfAll 0 = .ok (.iload_n 2, 1) := by decide +kernel
theorem dX0_daysOfAll_1 : decode cX0_daysOfAll 1 = .ok (.iconst 1, 1) := by decide +kernel
theorem dX0_daysOfAll_2 : decode cX0_daysOfAll 2 = .ok (.if_icmp .lt 8, 3) := by decide +kernel
theorem dX0_daysOfAll_5 : decode cX0_daysOfAll 5 = .ok (.iload_n 2, 1) := by decide +kernel
theorem dX0_daysOfAll_6 : decode cX0_daysOfAll 6 = .ok (.iconst 4, 1) := by decide +kernel
theorem dX0_daysOfAll_7 : decode cX0_daysOfAll 7 = .ok (.if_icmp .le 5, 3) := by decide +kernel
theorem dX0_daysOfAll_10 : decode cX0_daysOfAll 10 = .ok (.iconst 0, 1) := by decide +kernel
theorem dX0_daysOfAll_11 : decode cX0_daysOfAll 11 = .ok (.ireturn, 1) := by decide +kernel
theorem dX0_daysOfAll_12 : decode cX0_daysOfAll 12 = .ok (.iconst 0, 1) := by decide +kernel
theorem dX0_daysOfAll_13 : decode cX0_daysOfAll 13 = .ok (.istore_n 3, 1) := by decide +kernel
theorem dX0_daysOfAll_14 : decode cX0_daysOfAll 14 = .ok (.iconst 0, 1) := by decide +kernel
theorem dX0_daysOfAll_15 : decode cX0_daysOfAll 15 = .ok (.istore 4, 2) := by decide +kernel
theorem dX0_daysOfAll_17 : decode cX0_daysOfAll 17 = .ok (.iload 4, 2) := by decide +kernel
theorem dX0_daysOfAll_19 : decode cX0_daysOfAll 19 = .ok (.iconst 3, 1) := by decide +kernel
theorem dX0_daysOfAll_20 : decode cX0_daysOfAll 20 = .ok (.if_icmp .ge 24, 3) := by decide +kernel
theorem dX0_daysOfAll_23 : decode cX0_daysOfAll 23 = .ok (.iload_n 3, 1) := by decide +kernel
theorem dX0_daysOfAll_24 : decode cX0_daysOfAll 24 = .ok (.aload_n 0, 1) := by decide +kernel
theorem dX0_daysOfAll_25 : decode cX0_daysOfAll 25 = .ok (.getfield 15, 3) := by decide +kernel
theorem dX0_daysOfAll_28 : decode cX0_daysOfAll 28 = .ok (.iload_n 1, 1) := by decide +kernel
theorem dX0_daysOfAll_29 : decode cX0_daysOfAll 29 = .ok (.iload_n 2, 1) := by decide +kernel
theorem dX0_daysOfAll_30 : decode cX0_daysOfAll 30 = .ok (.iload 4, 2) := by decide +kernel
theorem dX0_daysOfAll_32 : decode cX0_daysOfAll 32 = .ok (.invokestatic 18, 3) := by decide +kernel
theorem dX0_daysOfAll_35 : decode cX0_daysOfAll 35 = .ok (.iaload, 1) := by decide +kernel
theorem dX0_daysOfAll_36 : decode cX0_daysOfAll 36 = .ok (.iadd, 1) := by decide +kernel
theorem dX0_daysOfAll_37 : decode cX0_daysOfAll 37 = .ok (.istore_n 3, 1) := by decide +kernel
theorem dX0_daysOfAll_38 : decode cX0_daysOfAll 38 = .ok (.iinc 4 1, 3) := by decide +kernel
theorem dX0_daysOfAll_41 : decode cX0_daysOfAll 41 = .ok (.goto (-24), 3) := by decide +kernel
theorem dX0_daysOfAll_44 : decode cX0_daysOfAll 44 = .ok (.iload_n 3, 1) := by decide +kernel
theorem dX0_daysOfAll_45 : decode cX0_daysOfAll 45 = .ok (.ireturn, 1) := by decide +kernel
set_option maxRecDepth 20000 in
theorem ggX0_colourOn_X0_place : GoodIn wsX0_colourOn wsX0_place := goodIn_r _ [6] (by decide +kernel) (by decide +kernel)
set_option maxRecDepth 20000 in
theorem gX0_colourOn_X0_place : GoodIn wsX0_colourOn (va_wsS RX0 18 yX0_place wsX0_place) := goodIn_app (goodIn_of _ (by decide +kernel)) ggX0_colourOn_X0_place
theorem dX0_colourOn_0 : decode cX0_colourOn 0 = .ok (.iload_n 2, 1) := by decide +kernel
theorem dX0_colourOn_1 : decode cX0_colourOn 1 = .ok (.iconst 1, 1) := by decide +kernel
theorem dX0_colourOn_2 : decode cX0_colourOn 2 = .ok (.if_icmp .lt 12, 3) := by decide +kernel
theorem dX0_colourOn_5 : decode cX0_colourOn 5 = .ok (.iload_n 2, 1) := by decide +kernel
theorem dX0_colourOn_6 : decode cX0_colourOn 6 = .ok (.iconst 4, 1) := by decide +kernel
theorem dX0_colourOn_7 : decode cX0_colourOn 7 = .ok (.if_icmp .gt 7, 3) := by decide +kernel
theorem dX0_colourOn_10 : decode cX0_colourOn 10 = .ok (.iload_n 3, 1) := by decide +kernel
theorem dX0_colourOn_11 : decode cX0_colourOn 11 = .ok (.ifCond .ge 5, 3) := by decide +kernel
theorem dX0_colourOn_14 : decode cX0_colourOn 14 = .ok (.iconst 0, 1) := by decide +kernel
theorem dX0_colourOn_15 : decode cX0_colourOn 15 = .ok (.ireturn, 1) := by decide +kernel
theorem dX0_colourOn_16 : decode cX0_colourOn 16 = .ok (.iconst 0, 1) := by decide +kernel
theorem dX0_colourOn_17 : decode cX0_colourOn 17 = .ok (.istore 4, 2) := by decide +kernel
theorem dX0_colourOn_19 : decode cX0_colourOn 19 = .ok (.iconst 0, 1) := by decide +kernel
theorem dX0_colourOn_20 : decode cX0_colourOn 20 = .ok (.istore 5, 2) := by decide +kernel
theorem dX0_colourOn_22 : decode cX0_colourOn 22 = .ok (.iload 5, 2) := by decide +kernel
theorem dX0_colourOn_24 : decode cX0_colourOn 24 = .ok (.iconst 3, 1) := by decide +kernel
theorem dX0_colourOn_25 : decode cX0_colourOn 25 = .ok (.if_icmp .ge 44, 3) := by decide +kernel
theorem dX0_colourOn_28 : decode cX0_colourOn 28 = .ok (.iload_n 1, 1) := by decide +kernel
theorem dX0_colourOn_29 : decode cX0_colourOn 29 = .ok (.iload_n 2, 1) := by decide +kernel
theorem dX0_colourOn_30 : decode cX0_colourOn 30 = .ok (.iload 5, 2) := by decide +kernel
theorem dX0_colourOn_32 : decode cX0_colourOn 32 = .ok (.invokestatic 18, 3) := by decide +kernel
theorem dX0_colourOn_35 : decode cX0_colourOn 35 = .ok (.istore 6, 2) := by decide +kernel
theorem dX0_colourOn_37 : decode cX0_colourOn 37 = .ok (.iload 4, 2) := by decide +kernel
theorem dX0_colourOn_39 : decode cX0_colourOn 39 = .ok (.aload_n 0, 1) := by decide +kernel
theorem dX0_colourOn_40 : decode cX0_colourOn 40 = .ok (.getfield 15, 3) := by decide +kernel
theorem dX0_colourOn_43 : decode cX0_colourOn 43 = .ok (.iload 6, 2) := by decide +kernel
theorem dX0_colourOn_45 : decode cX0_colourOn 45 = .ok (.iaload, 1) := by decide +kernel
theorem dX0_colourOn_46 : decode cX0_colourOn 46 = .ok (.iadd, 1) := by decide +kernel
theorem dX0_colourOn_47 : decode cX0_colourOn 47 = .ok (.istore 4, 2) := by decide +kernel
theorem dX0_colourOn_49 : decode cX0_colourOn 49 = .ok (.iload_n 3, 1) := by decide +kernel
theorem dX0_colourOn_50 : decode cX0_colourOn 50 = .ok (.iload 4, 2) := by decide +kernel
theorem dX0_colourOn_52 : decode cX0_colourOn 52 = .ok (.if_icmp .ge 11, 3) := by decide +kernel
theorem dX0_colourOn_55 : decode cX0_colourOn 55 = .ok (.aload_n 0, 1) := by decide +kernel
theorem dX0_colourOn_56 : decode cX0_colourOn 56 = .ok (.getfield 11, 3) := by decide +kernel
theorem dX0_colourOn_59 : decode cX0_colourOn 59 = .ok (.iload 6, 2) := by decide +kernel
theorem dX0_colourOn_61 : decode cX0_colourOn 61 = .ok (.iaload, 1) := by decide +kernel
theorem dX0_colourOn_62 : decode cX0_colourOn 62 = .ok (.ireturn, 1) := by decide +kernel
theorem dX0_colourOn_63 : decode cX0_colourOn 63 = .ok (.iinc 5 1, 3) := by decide +kernel
theorem dX0_colourOn_66 : decode cX0_colourOn 66 = .ok (.goto (-44), 3) := by decide +kernel
theorem dX0_colourOn_69 : decode cX0_colourOn 69 = .ok (.iconst 0, 1) := by decide +kernel
theorem dX0_colourOn_70 : decode cX0_colourOn 70 = .ok (.ireturn, 1) := by decide +kernel
theorem dX1_init_0 : decode cX1_init 0 = .ok (.aload_n 0, 1) := by decide +kernel
theorem dX1_init_1 : decode cX1_init 1 = .ok (.invokespecial 3, 3) := by decide +kernel
theorem dX1_init_4 : decode cX1_init 4 = .ok (.aload_n 0, 1) := by decide +kernel
theorem dX1_init_5 : decode cX1_init 5 = .ok (.bipush 16, 2) := by decide +kernel
theorem dX1_init_7 : decode cX1_init 7 = .ok (.newarray .int, 2) := by decide +kernel
theorem dX1_init_9 : decode cX1_init 9 = .ok (.putfield 9, 3) := by decide +kernel
theorem dX1_init_12 : decode cX1_init 12 = .ok (.aload_n 0, 1) := by decide +kernel
theorem dX1_init_13 : decode cX1_init 13 = .ok (.bipush 16, 2) := by decide +kernel
theorem dX1_init_15 : decode cX1_init 15 = .ok (.newarray .int, 2) := by decide +kernel
theorem dX1_init_17 : decode cX1_init 17 = .ok (.putfield 15, 3) := by decide +kernel
theorem dX1_init_20 : decode cX1_init 20 = .ok (.aload_n 0, 1) := by decide +kernel
theorem dX1_init_21 : decode cX1_init 21 = .ok (.bipush 16, 2) := by decide +kernel
theorem dX1_init_23 : decode cX1_init 23 = .ok (.newarray .boolean, 2) := by decide +kernel
theorem dX1_init_25 : decode cX1_init 25 = .ok (.putfield 18, 3) := by decide +kernel
theorem dX1_init_28 : decode cX1_init 28 = .ok (.aload_n 0, 1) := by decide +kernel
theorem dX1_init_29 : decode cX1_init 29 = .ok (.bipush 16, 2) := by decide +kernel
theorem dX1_init_31 : decode cX1_init 31 = .ok (.newarray .int, 2) := by decide +kernel
theorem dX1_init_33 : decode cX1_init 33 = .ok (.putfield 22, 3) := by decide +kernel
theorem dX1_init_36 : decode cX1_init 36 = .ok (.return_, 1) := by decide +kernel
theorem dX1_isFull_0 : decode cX1_isFull 0 = .ok (.aload_n 0, 1) := by decide +kernel
theorem dX1_isFull_1 : decode cX1_isFull 1 = .ok (.getfield 25, 3) := by decide +kernel
theorem dX1_isFull_4 : decode cX1_isFull 4 = .ok (.bipush 16, 2) := by decide +kernel
theorem dX1_isFull_6 : decode cX1_isFull 6 = .ok (.if_icmp .lt 7, 3) := by decide +kernel
theorem dX1_isFull_9 : decode cX1_isFull 9 = .ok (.iconst 1, 1) := by decide +kernel
theorem dX1_isFull_10 : decode cX1_isFull 10 = .ok (.goto 4, 3) := by decide +kernel
theorem dX1_isFull_13 : decode cX1_isFull 13 = .ok (.iconst 0, 1) := by decide +kernel
theorem dX1_isFull_14 : decode cX1_isFull 14 = .ok (.ireturn, 1) := by decide +kernel
theorem dX1_add_0 : decode cX1_add 0 = .ok (.aload_n 0, 1) := by decide +kernel
theorem dX1_add_1 : decode cX1_add 1 = .ok (.getfield 25, 3) := by decide +kernel
theorem dX1_add_4 : decode cX1_add 4 = .ok (.istore_n 2, 1) := by decide +kernel
theorem dX1_add_5 : decode cX1_add 5 = .ok (.aload_n 0, 1) := by decide +kernel
theorem dX1_add_6 : decode cX1_add 6 = .ok (.getfield 9, 3) := by decide +kernel
theorem dX1_add_9 : decode cX1_add 9 = .ok (.iload_n 2, 1) := by decide +kernel
theorem dX1_add_10 : decode cX1_add 10 = .ok (.iload_n 1, 1) := by decide +kernel
theorem dX1_add_11 : decode cX1_add 11 = .ok (.iastore, 1) := by decide +kernel
theorem dX1_add_12 : decode cX1_add 12 = .ok (.aload_n 0, 1) := by decide +kernel
theorem dX1_add_13 : decode cX1_add 13 = .ok (.getfield 15, 3) := by decide +kernel
theorem dX1_add_16 : decode cX1_add 16 = .ok (.iload_n 2, 1) := by decide +kernel
theorem dX1_add_17 : decode cX1_add 17 = .ok (.iconst (-1), 1) := by decide +kernel
theorem dX1_add_18 : decode cX1_add 18 = .ok (.iastore, 1) := by decide +kernel
theorem dX1_add_19 : decode cX1_add 19 = .ok (.aload_n 0, 1) := by decide +kernel
theorem dX1_add_20 : decode cX1_add 20 = .ok (.getfield 18, 3) := by decide +kernel
theorem dX1_add_23 : decode cX1_add 23 = .ok (.iload_n 2, 1) := by decide +kernel
theorem dX1_add_24 : decode cX1_add 24 = .ok (.iconst 1, 1) := by decide +kernel
theorem dX1_add_25 : decode cX1_add 25 = .ok (.bastore, 1) := by decide +kernel
theorem dX1_add_26 : decode cX1_add 26 = .ok (.aload_n 0, 1) := by decide +kernel
theorem dX1_add_27 : decode cX1_add 27 = .ok (.dup, 1) := by decide +kernel
theorem dX1_add_28 : decode cX1_add 28 = .ok (.getfield 25, 3) := by decide +kernel
theorem dX1_add_31 : decode cX1_add 31 = .ok (.iconst 1, 1) := by decide +kernel
theorem dX1_add_32 : decode cX1_add 32 = .ok (.iadd, 1) := by decide +kernel
theorem dX1_add_33 : decode cX1_add 33 = .ok (.putfield 25, 3) := by decide +kernel
theorem dX1_add_36 : decode cX1_add 36 = .ok (.iload_n 2, 1) := by decide +kernel
theorem dX1_add_37 : decode cX1_add 37 = .ok (.ireturn, 1) := by decide +kernel
theorem dX1_livingCount_0 : decode cX1_livingCount 0 = .ok (.iconst 0, 1) := by decide +kernel
theorem dX1_livingCount_1 : decode cX1_livingCount 1 = .ok (.istore_n 1, 1) := by decide +kernel
theorem dX1_livingCount_2 : decode cX1_livingCount 2 = .ok (.iconst 0, 1) := by decide +kernel
theorem dX1_livingCount_3 : decode cX1_livingCount 3 = .ok (.istore_n 2, 1) := by decide +kernel
theorem dX1_livingCount_4 : decode cX1_livingCount 4 = .ok (.iload_n 2, 1) := by decide +kernel
theorem dX1_livingCount_5 : decode cX1_livingCount 5 = .ok (.aload_n 0, 1) := by decide +kernel
theorem dX1_livingCount_6 : decode cX1_livingCount 6 = .ok (.getfield 25, 3) := by decide +kernel
theorem dX1_livingCount_9 : decode cX1_livingCount 9 = .ok (.if_icmp .ge 21, 3) := by decide +kernel
theorem dX1_livingCount_12 : decode cX1_livingCount 12 = .ok (.aload_n 0, 1) := by decide +kernel
theorem dX1_livingCount_13 : decode cX1_livingCount 13 = .ok (.getfield 18, 3) := by decide +kernel
theorem dX1_livingCount_16 : decode cX1_livingCount 16 = .ok (.iload_n 2, 1) := by decide +kernel
theorem dX1_livingCount_17 : decode cX1_livingCount 17 = .ok (.baload, 1) := by decide +kernel
theorem dX1_livingCount_18 : decode cX1_livingCount 18 = .ok (.ifCond .eq 6, 3) := by decide +kernel
theorem dX1_livingCount_21 : decode cX1_livingCount 21 = .ok (.iinc 1 1, 3) := by decide +kernel
theorem dX1_livingCount_24 : decode cX1_livingCount 24 = .ok (.iinc 2 1, 3) := by decide +kernel
theorem dX1_livingCount_27 : decode cX1_livingCount 27 = .ok (.goto (-23), 3) := by decide +kernel
theorem dX1_livingCount_30 : decode cX1_livingCount 30 = .ok (.iload_n 1, 1) := by decide +kernel
theorem dX1_livingCount_31 : decode cX1_livingCount 31 = .ok (.ireturn, 1) := by decide +kernel
theorem dX1_hasLivingSpouse_0 : decode cX1_hasLivingSpouse 0 = .ok (.aload_n 0, 1) := by decide +kernel
theorem dX1_hasLivingSpouse_1 : decode cX1_hasLivingSpouse 1 = .ok (.getfield 15, 3) := by decide +kernel
theorem dX1_hasLivingSpouse_4 : decode cX1_hasLivingSpouse 4 = .ok (.iload_n 1, 1) := by decide +kernel
theorem dX1_hasLivingSpouse_5 : decode cX1_hasLivingSpouse 5 = .ok (.iaload, 1) := by decide +kernel
theorem dX1_hasLivingSpouse_6 : decode cX1_hasLivingSpouse 6 = .ok (.iconst (-1), 1) := by decide +kernel
theorem dX1_hasLivingSpouse_7 : decode cX1_hasLivingSpouse 7 = .ok (.if_icmp .eq 21, 3) := by decide +kernel
theorem dX1_hasLivingSpouse_10 : decode cX1_hasLivingSpouse 10 = .ok (.aload_n 0, 1) := by decide +kernel
theorem dX1_hasLivingSpouse_11 : decode cX1_hasLivingSpouse 11 = .ok (.getfield 18, 3) := by decide +kernel
theorem dX1_hasLivingSpouse_14 : decode cX1_hasLivingSpouse 14 = .ok (.aload_n 0, 1) := by decide +kernel
theorem dX1_hasLivingSpouse_15 : decode cX1_hasLivingSpouse 15 = .ok (.getfield 15, 3) := by decide +kernel
theorem dX1_hasLivingSpouse_18 : decode cX1_hasLivingSpouse 18 = .ok (.iload_n 1, 1) := by decide +kernel
theorem dX1_hasLivingSpouse_19 : decode cX1_hasLivingSpouse 19 = .ok (.iaload, 1) := by decide +kernel
theorem dX1_hasLivingSpouse_20 : decode cX1_hasLivingSpouse 20 = .ok (.baload, 1) := by decide +kernel
theorem dX1_hasLivingSpouse_21 : decode cX1_hasLivingSpouse 21 = .ok (.ifCond .eq 7, 3) := by decide +kernel
theorem dX1_hasLivingSpouse_24 : decode cX1_hasLivingSpouse 24 = .ok (.iconst 1, 1) := by decide +kernel
theorem dX1_hasLivingSpouse_25 : decode cX1_hasLivingSpouse 25 = .ok (.goto 4, 3) := by decide +kernel
theorem dX1_hasLivingSpouse_28 : decode cX1_hasLivingSpouse 28 = .ok (.iconst 0, 1) := by decide +kernel
theorem dX1_hasLivingSpouse_29 : decode cX1_hasLivingSpouse 29 = .ok (.ireturn, 1) := by decide +kernel
set_option maxRecDepth 20000 in
theorem ggX1_wed_X1_leaveSpouse : GoodIn wsX1_wed wsX1_leaveSpouse := goodIn_r _ [6, 1, 7, 8, 9, 10, 11] (by decide +kernel) (by decide +kernel)
set_option maxRecDepth 20000 in
theorem gX1_wed_X1_leaveSpouse : GoodIn wsX1_wed (wsV RX1 29 RX1 yX1_leaveSpouse wsX1_leaveSpouse) := goodIn_app (goodIn_of _ (by decide +kernel)) ggX1_wed_X1_leaveSpouse
theorem dX1_wed_0 : decode cX1_wed 0 = .ok (.aload_n 0, 1) := by decide +kernel
theorem dX1_wed_1 : decode cX1_wed 1 = .ok (.iload_n 1, 1) := by decide +kernel
theorem dX1_wed_2 : decode cX1_wed 2 = .ok (.invokevirtual 29, 3) := by decide +kernel
theorem dX1_wed_5 : decode cX1_wed 5 = .ok (.aload_n 0, 1) := by decide +kernel
theorem dX1_wed_6 : decode cX1_wed 6 = .ok (.iload_n 2, 1) := by decide +kernel
theorem dX1_wed_7 : decode cX1_wed 7 = .ok (.invokevirtual 29, 3) := by decide +kernel
theorem dX1_wed_10 : decode cX1_wed 10 = .ok (.aload_n 0, 1) := by decide +kernel
theorem dX1_wed_11 : decode cX1_wed 11 = .ok (.getfield 15, 3) := by decide +kernel
theorem dX1_wed_14 : decode cX1_wed 14 = .ok (.iload_n 1, 1) := by decide +kernel
theorem dX1_wed_15 : decode cX1_wed 15 = .ok (.iload_n 2, 1) := by decide +kernel
theorem dX1_wed_16 : decode cX1_wed 16 = .ok (.iastore, 1) := by decide +kernel
theorem dX1_wed_17 : decode cX1_wed 17 = .ok (.aload_n 0, 1) := by decide +kernel
theorem dX1_wed_18 : decode cX1_wed 18 = .ok (.getfield 15, 3) := by decide +kernel
theorem dX1_wed_21 : decode cX1_wed 21 = .ok (.iload_n 2, 1) := by decide +kernel
theorem dX1_wed_22 : decode cX1_wed 22 = .ok (.iload_n 1, 1) := by decide +kernel
theorem dX1_wed_23 : decode cX1_wed 23 = .ok (.iastore, 1) := by decide +kernel
theorem dX1_wed_24 : decode cX1_wed 24 = .ok (.return_, 1) := by decide +kernel
theorem dX1_leaveSpouse_0 : decode cX1_leaveSpouse 0 = .ok (.aload_n 0, 1) := by decide +kernel
theorem dX1_leaveSpouse_1 : decode cX1_leaveSpouse 1 = .ok (.getfield 15, 3) := by decide +kernel
theorem dX1_leaveSpouse_4 : decode cX1_leaveSpouse 4 = .ok (.iload_n 1, 1) := by decide +kernel
theorem dX1_leaveSpouse_5 : decode cX1_leaveSpouse 5 = .ok (.iaload, 1) := by decide +kernel
theorem dX1_leaveSpouse_6 : decode cX1_leaveSpouse 6 = .ok (.iconst (-1), 1) := by decide +kernel
theorem dX1_leaveSpouse_7 : decode cX1_leaveSpouse 7 = .ok (.if_icmp .eq 15, 3) := by decide +kernel
theorem dX1_leaveSpouse_10 : decode cX1_leaveSpouse 10 = .ok (.aload_n 0, 1) := by decide +kernel
theorem dX1_leaveSpouse_11 : decode cX1_leaveSpouse 11 = .ok (.getfield 15, 3) := by decide +kernel
theorem dX1_leaveSpouse_14 : decode cX1_leaveSpouse 14 = .ok (.aload_n 0, 1) := by decide +kernel
theorem dX1_leaveSpouse_15 : decode cX1_leaveSpouse 15 = .ok (.getfield 15, 3) := by decide +kernel
theorem dX1_leaveSpouse_18 : decode cX1_leaveSpouse 18 = .ok (.iload_n 1, 1) := by decide +kernel
theorem dX1_leaveSpouse_19 : decode cX1_leaveSpouse 19 = .ok (.iaload, 1) := by decide +kernel
theorem dX1_leaveSpouse_20 : decode cX1_leaveSpouse 20 = .ok (.iconst (-1), 1) := by decide +kernel
theorem dX1_leaveSpouse_21 : decode cX1_leaveSpouse 21 = .ok (.iastore, 1) := by decide +kernel
theorem dX1_leaveSpouse_22 : decode cX1_leaveSpouse 22 = .ok (.return_, 1) := by decide +kernel
set_option maxRecDepth 20000 in
theorem ggX1_findDegrees_J7_fill_53178 : GoodIn wsX1_findDegrees wsJ7_fill_53178 := goodIn_r _ [6] (by decide +kernel) (by decide +kernel)
set_option maxRecDepth 20000 in
theorem gX1_findDegrees_J7_fill_53178 : GoodIn wsX1_findDegrees (va_wsS RX1 33 yJ7_fill_53178 wsJ7_fill_53178) := goodIn_app (goodIn_of _ (by decide +kernel)) ggX1_findDegrees_J7_fill_53178
set_option maxRecDepth 20000 in
theorem ggX1_findDegrees_X1_reachFrom : GoodIn wsX1_findDegrees wsX1_reachFrom := goodIn_r _ [11, 2, 1, 12, 13, 14, 10, 15, 16, 17, 18, 19, 20, 21, 22] (by decide +kernel) (by decide +kernel)
set_option maxRecDepth 20000 in
theorem gX1_findDegrees_X1_reachFrom : GoodIn wsX1_findDegrees (wsV RX1 39 RX1 yX1_reachFrom wsX1_reachFrom) := goodIn_app (goodIn_of _ (by decide +kernel)) ggX1_findDegrees_X1_reachFrom
theorem dX1_findDegrees_0 : decode cX1_findDegrees 0 = .ok (.aload_n 0, 1) := by decide +kernel
theorem dX1_findDegrees_1 : decode cX1_findDegrees 1 = .ok (.getfield 22, 3) := by decide +kernel
theorem dX1_findDegrees_4 : decode cX1_findDegrees 4 = .ok (.iconst 0, 1) := by decide +kernel
theorem dX1_findDegrees_5 : decode cX1_findDegrees 5 = .ok (.invokestatic 33, 3) := by decide +kernel
theorem dX1_findDegrees_8 : decode cX1_findDegrees 8 = .ok (.aload_n 0, 1) := by decide +kernel
theorem dX1_findDegrees_9 : decode cX1_findDegrees 9 = .ok (.iload_n 1, 1) := by decide +kernel
theorem dX1_findDegrees_10 : decode cX1_findDegrees 10 = .ok (.iload_n 1, 1) := by decide +kernel
theorem dX1_findDegrees_11 : decode cX1_findDegrees 11 = .ok (.iconst 1, 1) := by decide +kernel
theorem dX1_findDegrees_12 : decode cX1_findDegrees 12 = .ok (.invokevirtual 39, 3) := by decide +kernel
theorem dX1_findDegrees_15 : decode cX1_findDegrees 15 = .ok (.iconst 2, 1) := by decide +kernel
theorem dX1_findDegrees_16 : decode cX1_findDegrees 16 = .ok (.istore_n 2, 1) := by decide +kernel
theorem dX1_findDegrees_17 : decode cX1_findDegrees 17 = .ok (.iload_n 2, 1) := by decide +kernel
theorem dX1_findDegrees_18 : decode cX1_findDegrees 18 = .ok (.iconst 4, 1) := by decide +kernel
theorem dX1_findDegrees_19 : decode cX1_findDegrees 19 = .ok (.if_icmp .gt 44, 3) := by decide +kernel
theorem dX1_findDegrees_22 : decode cX1_findDegrees 22 = .ok (.iconst 0, 1) := by decide +kernel
theorem dX1_findDegrees_23 : decode cX1_findDegrees 23 = .ok (.istore_n 3, 1) := by decide +kernel
theorem dX1_findDegrees_24 : decode cX1_findDegrees 24 = .ok (.iload_n 3, 1) := by decide +kernel
theorem dX1_findDegrees_25 : decode cX1_findDegrees 25 = .ok (.aload_n 0, 1) := by decide +kernel
theorem dX1_findDegrees_26 : decode cX1_findDegrees 26 = .ok (.getfield 25, 3) := by decide +kernel
theorem dX1_findDegrees_29 : decode cX1_findDegrees 29 = .ok (.if_icmp .ge 28, 3) := by decide +kernel
theorem dX1_findDegrees_32 : decode cX1_findDegrees 32 = .ok (.aload_n 0, 1) := by decide +kernel
theorem dX1_findDegrees_33 : decode cX1_findDegrees 33 = .ok (.getfield 22, 3) := by decide +kernel
theorem dX1_findDegrees_36 : decode cX1_findDegrees 36 = .ok (.iload_n 3, 1) := by decide +kernel
theorem dX1_findDegrees_37 : decode cX1_findDegrees 37 = .ok (.iaload, 1) := by decide +kernel
theorem dX1_findDegrees_38 : decode cX1_findDegrees 38 = .ok (.iload_n 2, 1) := by decide +kernel
theorem dX1_findDegrees_39 : decode cX1_findDegrees 39 = .ok (.iconst 1, 1) := by decide +kernel
theorem dX1_findDegrees_40 : decode cX1_findDegrees 40 = .ok (.isub, 1) := by decide +kernel
theorem dX1_findDegrees_41 : decode cX1_findDegrees 41 = .ok (.if_icmp .ne 10, 3) := by decide +kernel
theorem dX1_findDegrees_44 : decode cX1_findDegrees 44 = .ok (.aload_n 0, 1) := by decide +kernel
theorem dX1_findDegrees_45 : decode cX1_findDegrees 45 = .ok (.iload_n 1, 1) := by decide +kernel
theorem dX1_findDegrees_46 : decode cX1_findDegrees 46 = .ok (.iload_n 3, 1) := by decide +kernel
theorem dX1_findDegrees_47 : decode cX1_findDegrees 47 = .ok (.iload_n 2, 1) := by decide +kernel
theorem dX1_findDegrees_48 : decode cX1_findDegrees 48 = .ok (.invokevirtual 39, 3) := by decide +kernel
theorem dX1_findDegrees_51 : decode cX1_findDegrees 51 = .ok (.iinc 3 1, 3) := by decide +kernel
theorem dX1_findDegrees_54 : decode cX1_findDegrees 54 = .ok (.goto (-30), 3) := by decide +kernel
theorem dX1_findDegrees_57 : decode cX1_findDegrees 57 = .ok (.iinc 2 1, 3) := by decide +kernel
theorem dX1_findDegrees_60 : decode cX1_findDegrees 60 = .ok (.goto (-43), 3) := by decide +kernel
theorem dX1_findDegrees_63 : decode cX1_findDegrees 63 = .ok (.return_, 1) := by decide +kernel
set_option maxRecDepth 20000 in
theorem ggX1_reachFrom_X1_isStep : GoodIn wsX1_reachFrom wsX1_isStep := goodIn_r _ [7, 8, 9, 10, 11, 12, 13, 14] (by decide +kernel) (by decide +kernel)
set_option maxRecDepth 20000 in
theorem gX1_reachFrom_X1_isStep : GoodIn wsX1_reachFrom (wsV RX1 43 RX1 yX1_isStep wsX1_isStep) := goodIn_app (goodIn_of _ (by decide +kernel)) ggX1_reachFrom_X1_isStep
theorem dX1_reachFrom_0 : decode cX1_reachFrom 0 = .ok (.iconst 0, 1) := by decide +kernel
theorem dX1_reachFrom_1 : decode cX1_reachFrom 1 = .ok (.istore 4, 2) := by decide +kernel
theorem dX1_reachFrom_3 : decode cX1_reachFrom 3 = .ok (.iload 4, 2) := by decide +kernel
theorem dX1_reachFrom_5 : decode cX1_reachFrom 5 = .ok (.aload_n 0, 1) := by decide +kernel
theorem dX1_reachFrom_6 : decode cX1_reachFrom 6 = .ok (.getfield 25, 3) := by decide +kernel
theorem dX1_reachFrom_9 : decode cX1_reachFrom 9 = .ok (.if_icmp .ge 43, 3) := by decide +kernel
theorem dX1_reachFrom_12 : decode cX1_reachFrom 12 = .ok (.iload 4, 2) := by decide +kernel
theorem dX1_reachFrom_14 : decode cX1_reachFrom 14 = .ok (.iload_n 1, 1) := by decide +kernel
theorem dX1_reachFrom_15 : decode cX1_reachFrom 15 = .ok (.if_icmp .eq 31, 3) := by decide +kernel
theorem dX1_reachFrom_18 : decode cX1_reachFrom 18 = .ok (.aload_n 0, 1) := by decide +kernel
theorem dX1_reachFrom_19 : decode cX1_reachFrom 19 = .ok (.getfield 22, 3) := by decide +kernel
theorem dX1_reachFrom_22 : decode cX1_reachFrom 22 = .ok (.iload 4, 2) := by decide +kernel
theorem dX1_reachFrom_24 : decode cX1_reachFrom 24 = .ok (.iaload, 1) := by decide +kernel
theorem dX1_reachFrom_25 : decode cX1_reachFrom 25 = .ok (.ifCond .ne 21, 3) := by decide +kernel
theorem dX1_reachFrom_28 : decode cX1_reachFrom 28 = .ok (.aload_n 0, 1) := by decide +kernel
theorem dX1_reachFrom_29 : decode cX1_reachFrom 29 = .ok (.iload_n 2, 1) := by decide +kernel
theorem dX1_reachFrom_30 : decode cX1_reachFrom 30 = .ok (.iload 4, 2) := by decide +kernel
theorem dX1_reachFrom_32 : decode cX1_reachFrom 32 = .ok (.invokevirtual 43, 3) := by decide +kernel
theorem dX1_reachFrom_35 : decode cX1_reachFrom 35 = .ok (.ifCond .eq 11, 3) := by decide +kernel
theorem dX1_reachFrom_38 : decode cX1_reachFrom 38 = .ok (.aload_n 0, 1) := by decide +kernel
theorem dX1_reachFrom_39 : decode cX1_reachFrom 39 = .ok (.getfield 22, 3) := by decide +kernel
theorem dX1_reachFrom_42 : decode cX1_reachFrom 42 = .ok (.iload 4, 2) := by decide +kernel
theorem dX1_reachFrom_44 : decode cX1_reachFrom 44 = .ok (.iload_n 3, 1) := by decide +kernel
theorem dX1_reachFrom_45 : decode cX1_reachFrom 45 = .ok (.iastore, 1) := by decide +kernel
theorem dX1_reachFrom_46 : decode cX1_reachFrom 46 = .ok (.iinc 4 1, 3) := by decide +kernel
theorem dX1_reachFrom_49 : decode cX1_reachFrom 49 = .ok (.goto (-46), 3) := by decide +kernel
theorem dX1_reachFrom_52 : decode cX1_reachFrom 52 = .ok (.return_, 1) := by decide +kernel
theorem dX1_isStep_0 : decode cX1_isStep 0 = .ok (.aload_n 0, 1) := by decide +kernel
theorem dX1_isStep_1 : decode cX1_isStep 1 = .ok (.getfield 9, 3) := by decide +kernel
theorem dX1_isStep_4 : decode cX1_isStep 4 = .ok (.iload_n 1, 1) := by decide +kernel
theorem dX1_isStep_5 : decode cX1_isStep 5 = .ok (.iaload, 1) := by decide +kernel
theorem dX1_isStep_6 : decode cX1_isStep 6 = .ok (.iload_n 2, 1) := by decide +kernel
theorem dX1_isStep_7 : decode cX1_isStep 7 = .ok (.if_icmp .eq 23, 3) := by decide +kernel
theorem dX1_isStep_10 : decode cX1_isStep 10 = .ok (.aload_n 0, 1) := by decide +kernel
theorem dX1_isStep_11 : decode cX1_isStep 11 = .ok (.getfield 9, 3) := by decide +kernel
theorem dX1_isStep_14 : decode cX1_isStep 14 = .ok (.iload_n 2, 1) := by decide +kernel
theorem dX1_isStep_15 : decode cX1_isStep 15 = .ok (.iaload, 1) := by decide +kernel
theorem dX1_isStep_16 : decode cX1_isStep 16 = .ok (.iload_n 1, 1) := by decide +kernel
theorem dX1_isStep_17 : decode cX1_isStep 17 = .ok (.if_icmp .eq 13, 3) := by decide +kernel
theorem dX1_isStep_20 : decode cX1_isStep 20 = .ok (.aload_n 0, 1) := by decide +kernel
theorem dX1_isStep_21 : decode cX1_isStep 21 = .ok (.getfield 15, 3) := by decide +kernel
theorem dX1_isStep_24 : decode cX1_isStep 24 = .ok (.iload_n 1, 1) := by decide +kernel
theorem dX1_isStep_25 : decode cX1_isStep 25 = .ok (.iaload, 1) := by decide +kernel
theorem dX1_isStep_26 : decode cX1_isStep 26 = .ok (.iload_n 2, 1) := by decide +kernel
theorem dX1_isStep_27 : decode cX1_isStep 27 = .ok (.if_icmp .ne 7, 3) := by decide +kernel
theorem dX1_isStep_30 : decode cX1_isStep 30 = .ok (.iconst 1, 1) := by decide +kernel
theorem dX1_isStep_31 : decode cX1_isStep 31 = .ok (.goto 4, 3) := by decide +kernel
theorem dX1_isStep_34 : decode cX1_isStep 34 = .ok (.iconst 0, 1) := by decide +kernel
theorem dX1_isStep_35 : decode cX1_isStep 35 = .ok (.ireturn, 1) := by decide +kernel
theorem dX1_countKin_0 : decode cX1_countKin 0 = .ok (.iconst 0, 1) := by decide +kernel
theorem dX1_countKin_1 : decode cX1_countKin 1 = .ok (.istore_n 2, 1) := by decide +kernel
theorem dX1_countKin_2 : decode cX1_countKin 2 = .ok (.iconst 0, 1) := by decide +kernel
theorem dX1_countKin_3 : decode cX1_countKin 3 = .ok (.istore_n 3, 1) := by decide +kernel
theorem dX1_countKin_4 : decode cX1_countKin 4 = .ok (.iload_n 3, 1) := by decide +kernel
theorem dX1_countKin_5 : decode cX1_countKin 5 = .ok (.aload_n 0, 1) := by decide +kernel
theorem dX1_countKin_6 : decode cX1_countKin 6 = .ok (.getfield 25, 3) := by decide +kernel
theorem dX1_countKin_9 : decode cX1_countKin 9 = .ok (.if_icmp .ge 31, 3) := by decide +kernel
theorem dX1_countKin_12 : decode cX1_countKin 12 = .ok (.aload_n 0, 1) := by decide +kernel
theorem dX1_countKin_13 : decode cX1_countKin 13 = .ok (.getfield 18, 3) := by decide +kernel
theorem dX1_countKin_16 : decode cX1_countKin 16 = .ok (.iload_n 3, 1) := by decide +kernel
theorem dX1_countKin_17 : decode cX1_countKin 17 = .ok (.baload, 1) := by decide +kernel
theorem dX1_countKin_18 : decode cX1_countKin 18 = .ok (.ifCond .eq 16, 3) := by decide +kernel
theorem dX1_countKin_21 : decode cX1_countKin 21 = .ok (.aload_n 0, 1) := by decide +kernel
theorem dX1_countKin_22 : decode cX1_countKin 22 = .ok (.getfield 22, 3) := by decide +kernel
theorem dX1_countKin_25 : decode cX1_countKin 25 = .ok (.iload_n 3, 1) := by decide +kernel
theorem dX1_countKin_26 : decode cX1_countKin 26 = .ok (.iaload, 1) := by decide +kernel
theorem dX1_countKin_27 : decode cX1_countKin 27 = .ok (.iload_n 1, 1) := by decide +kernel
theorem dX1_countKin_28 : decode cX1_countKin 28 = .ok (.if_icmp .ne 6, 3) := by decide +kernel
theorem dX1_countKin_31 : decode cX1_countKin 31 = .ok (.iinc 2 1, 3) := by decide +kernel
theorem dX1_countKin_34 : decode cX1_countKin 34 = .ok (.iinc 3 1, 3) := by decide +kernel
theorem dX1_countKin_37 : decode cX1_countKin 37 = .ok (.goto (-33), 3) := by decide +kernel
theorem dX1_countKin_40 : decode cX1_countKin 40 = .ok (.iload_n 2, 1) := by decide +kernel
theorem dX1_countKin_41 : decode cX1_countKin 41 = .ok (.ireturn, 1) := by decide +kernel
set_option maxRecDepth 20000 in
theorem ggX2_init_X1_init : GoodIn wsX2_init wsX1_init := goodIn_r _ [19, 20, 2, 3, 12, 21, 22, 23, 24, 25, 31, 32, 33, 34, 35] (by decide +kernel) (by decide +kernel)
set_option maxRecDepth 20000 in
theorem gX2_init_X1_init_n11 : GoodIn wsX2_init (wsX1_init) := ggX2_init_X1_init
set_option maxRecDepth 20000 in
theorem ggX2_init_X0_init : GoodIn wsX2_init wsX0_init := goodIn_r _ [27, 28, 2, 3, 12, 29, 30, 45, 46] (by decide +kernel) (by decide +kernel)
set_option maxRecDepth 20000 in
theorem gX2_init_X0_init_n18 : GoodIn wsX2_init (wsX0_init) := ggX2_init_X0_init
theorem dX2_init_0 : decode cX2_init 0 = .ok (.aload_n 0, 1) := by decide +kernel
theorem dX2_init_1 : decode cX2_init 1 = .ok (.invokespecial 3, 3) := by decide +kernel
theorem dX2_init_4 : decode cX2_init 4 = .ok (.aload_n 0, 1) := by decide +kernel
theorem dX2_init_5 : decode cX2_init 5 = .ok (.new 9, 3) := by decide +kernel
theorem dX2_init_8 : decode cX2_init 8 = .ok (.dup, 1) := by decide +kernel
theorem dX2_init_9 : decode cX2_init 9 = .ok (.invokespecial 11, 3) := by decide +kernel
theorem dX2_init_12 : decode cX2_init 12 = .ok (.putfield 12, 3) := by decide +kernel
theorem dX2_init_15 : decode cX2_init 15 = .ok (.aload_n 0, 1) := by decide +kernel
theorem dX2_init_16 : decode cX2_init 16 = .ok (.new 16, 3) := by decide +kernel
theorem dX2_init_19 : decode cX2_init 19 = .ok (.dup, 1) := by decide +kernel
theorem dX2_init_20 : decode cX2_init 20 = .ok (.invokespecial 18, 3) := by decide +kernel
theorem dX2_init_23 : decode cX2_init 23 = .ok (.putfield 19, 3) := by decide +kernel
theorem dX2_init_26 : decode cX2_init 26 = .ok (.aload_n 0, 1) := by decide +kernel
theorem dX2_init_27 : decode cX2_init 27 = .ok (.sipush 256, 3) := by decide +kernel
theorem dX2_init_30 : decode cX2_init 30 = .ok (.newarray .int, 2) := by decide +kernel
theorem dX2_init_32 : decode cX2_init 32 = .ok (.putfield 23, 3) := by decide +kernel
theorem dX2_init_35 : decode cX2_init 35 = .ok (.aload_n 0, 1) := by decide +kernel
theorem dX2_init_36 : decode cX2_init 36 = .ok (.bipush 16, 2) := by decide +kernel
theorem dX2_init_38 : decode cX2_init 38 = .ok (.newarray .int, 2) := by decide +kernel
theorem dX2_init_40 : decode cX2_init 40 = .ok (.putfield 27, 3) := by decide +kernel
theorem dX2_init_43 : decode cX2_init 43 = .ok (.aload_n 0, 1) := by decide +kernel
theorem dX2_init_44 : decode cX2_init 44 = .ok (.sipush 180, 3) := by decide +kernel
theorem dX2_init_47 : decode cX2_init 47 = .ok (.newarray .int, 2) := by decide +kernel
theorem dX2_init_49 : decode cX2_init 49 = .ok (.putfield 30, 3) := by decide +kernel
theorem dX2_init_52 : decode cX2_init 52 = .ok (.aload_n 0, 1) := by decide +kernel
theorem dX2_init_53 : decode cX2_init 53 = .ok (.iconst 5, 1) := by decide +kernel
theorem dX2_init_54 : decode cX2_init 54 = .ok (.newarray .int, 2) := by decide +kernel
theorem dX2_init_56 : decode cX2_init 56 = .ok (.putfield 33, 3) := by decide +kernel
theorem dX2_init_59 : decode cX2_init 59 = .ok (.aload_n 0, 1) := by decide +kernel
theorem dX2_init_60 : decode cX2_init 60 = .ok (.bipush 16, 2) := by decide +kernel
theorem dX2_init_62 : decode cX2_init 62 = .ok (.newarray .int, 2) := by decide +kernel
theorem dX2_init_64 : decode cX2_init 64 = .ok (.putfield 36, 3) := by decide +kernel
theorem dX2_init_67 : decode cX2_init 67 = .ok (.return_, 1) := by decide +kernel
set_option maxRecDepth 20000 in
theorem ggX2_addPerson_X2_needRoom : GoodIn wsX2_addPerson wsX2_needRoom := goodIn_ca (goodIn_r _ [6, 7, 8, 1, 9, 10, 11, 12, 13, 14, 22, 23, 24, 25, 26, 27, 28, 29, 30, 31, 32, 33, 34, 35] (by decide +kernel) (by decide +kernel)) (goodIn_sub (fun _ h => List.mem_cons_of_mem _ (List.mem_append_right _ h)) (by decide +kernel))
set_option maxRecDepth 20000 in
theorem gX2_addPerson_X2_needRoom : GoodIn wsX2_addPerson (wsV RX2 39 RX2 yX2_needRoom wsX2_needRoom) := goodIn_app (goodIn_of _ (by decide +kernel)) ggX2_addPerson_X2_needRoom
set_option maxRecDepth 20000 in
theorem ggX2_addPerson_X1_add : GoodIn wsX2_addPerson wsX1_add := goodIn_r _ [18, 14, 19, 20, 21, 31, 32, 33, 34, 35] (by decide +kernel) (by decide +kernel)
set_option maxRecDepth 20000 in
theorem gX2_addPerson_X1_add : GoodIn wsX2_addPerson (wsV RX2 42 RX1 yX1_add wsX1_add) := goodIn_app (goodIn_of _ (by decide +kernel)) ggX2_addPerson_X1_add
theorem dX2_addPerson_0 : decode cX2_addPerson 0 = .ok (.aload_n 0, 1) := by decide +kernel
theorem dX2_addPerson_1 : decode cX2_addPerson 1 = .ok (.invokevirtual 39, 3) := by decide +kernel
theorem dX2_addPerson_4 : decode cX2_addPerson 4 = .ok (.aload_n 0, 1) := by decide +kernel
theorem dX2_addPerson_5 : decode cX2_addPerson 5 = .ok (.getfield 12, 3) := by decide +kernel
theorem dX2_addPerson_8 : decode cX2_addPerson 8 = .ok (.iconst (-1), 1) := by decide +kernel
theorem dX2_addPerson_9 : decode cX2_addPerson 9 = .ok (.invokevirtual 42, 3) := by decide +kernel
theorem dX2_addPerson_12 : decode cX2_addPerson 12 = .ok (.ireturn, 1) := by decide +kernel
set_option maxRecDepth 20000 in
theorem ggX2_addChild_X2_needPerson : GoodIn wsX2_addChild wsX2_needPerson := goodIn_ca (goodIn_r _ [6, 7, 8, 1, 9, 34, 35, 36, 37, 38, 39, 40, 41, 42, 43, 44, 45, 46, 47] (by decide +kernel) (by decide +kernel)) (goodIn_sub (fun _ h => List.mem_cons_of_mem _ (List.mem_append_left _ (List.mem_append_right _ h))) (by decide +kernel))
set_option maxRecDepth 20000 in
theorem gX2_addChild_X2_needPerson : GoodIn wsX2_addChild (wsV RX2 46 RX2 yX2_needPerson wsX2_needPerson) := goodIn_app (goodIn_of _ (by decide +kernel)) ggX2_addChild_X2_needPerson
set_option maxRecDepth 20000 in
theorem ggX2_addChild_X2_needAlive : GoodIn wsX2_addChild wsX2_needAlive := goodIn_ca (goodIn_r _ [13, 14, 15, 1, 16, 34, 35, 36, 37, 38, 39, 40, 41, 42, 43, 44, 45, 46, 47] (by decide +kernel) (by decide +kernel)) (goodIn_sub (fun _ h => List.mem_cons_of_mem _ (List.mem_append_right _ h)) (by decide +kernel))
set_option maxRecDepth 20000 in
theorem gX2_addChild_X2_needAlive : GoodIn wsX2_addChild (wsV RX2 50 RX2 yX2_needAlive wsX2_needAlive) := goodIn_app (goodIn_of _ (by decide +kernel)) ggX2_addChild_X2_needAlive
set_option maxRecDepth 20000 in
theorem ggX2_addChild_X2_needRoom : GoodIn wsX2_addChild wsX2_needRoom := goodIn_ca (goodIn_r _ [20, 14, 15, 1, 21, 22, 23, 24, 25, 26, 34, 35, 36, 37, 38, 39, 40, 41, 42, 43, 44, 45, 46, 47] (by decide +kernel) (by decide +kernel)) (goodIn_sub (fun _ h => List.mem_cons_of_mem _ (List.mem_append_right _ h)) (by decide +kernel))
set_option maxRecDepth 20000 in
theorem gX2_addChild_X2_needRoom : GoodIn wsX2_addChild (wsV RX2 39 RX2 yX2_needRoom wsX2_needRoom) := goodIn_app (goodIn_of _ (by decide +kernel)) ggX2_addChild_X2_needRoom
set_option maxRecDepth 20000 in
theorem ggX2_addChild_X1_add : GoodIn wsX2_addChild wsX1_add := goodIn_r _ [30, 26, 31, 32, 33, 43, 44, 45, 46, 47] (by decide +kernel) (by decide +kernel)
set_option maxRecDepth 20000 in
theorem gX2_addChild_X1_add : GoodIn wsX2_addChild (wsV RX2 42 RX1 yX1_add wsX1_add) := goodIn_app (goodIn_of _ (by decide +kernel)) ggX2_addChild_X1_add
theorem dX2_addChild_0 : decode cX2_addChild 0 = .ok (.aload_n 0, 1) := by decide +kernel
theorem dX2_addChild_1 : decode cX2_addChild 1 = .ok (.iload_n 1, 1) := by decide +kernel
theorem dX2_addChild_2 : decode cX2_addChild 2 = .ok (.invokevirtual 46, 3) := by decide +kernel
theorem dX2_addChild_5 : decode cX2_addChild 5 = .ok (.aload_n 0, 1) := by decide +kernel
theorem dX2_addChild_6 : decode cX2_addChild 6 = .ok (.iload_n 1, 1) := by decide +kernel
theorem dX2_addChild_7 : decode cX2_addChild 7 = .ok (.invokevirtual 50, 3) := by decide +kernel
theorem dX2_addChild_10 : decode cX2_addChild 10 = .ok (.aload_n 0, 1) := by decide +kernel
theorem dX2_addChild_11 : decode cX2_addChild 11 = .ok (.invokevirtual 39, 3) := by decide +kernel
theorem dX2_addChild_14 : decode cX2_addChild 14 = .ok (.aload_n 0, 1) := by decide +kernel
theorem dX2_addChild_15 : decode cX2_addChild 15 = .ok (.getfield 12, 3) := by decide +kernel
theorem dX2_addChild_18 : decode cX2_addChild 18 = .ok (.iload_n 1, 1) := by decide +kernel
theorem dX2_addChild_19 : decode cX2_addChild 19 = .ok (.invokevirtual 42, 3) := by decide +kernel
theorem dX2_addChild_22 : decode cX2_addChild 22 = .ok (.ireturn, 1) := by decide +kernel
set_option maxRecDepth 20000 in
theorem ggX2_marry_X2_needPerson : GoodIn wsX2_marry wsX2_needPerson := goodIn_ca (goodIn_r _ [9, 10, 11, 3, 12, 58, 59, 60, 61, 62, 63, 64, 65, 66, 67, 68, 69, 70, 71] (by decide +kernel) (by decide +kernel)) (goodIn_sub (fun _ h => List.mem_cons_of_mem _ (List.mem_append_left _ (List.mem_append_right _ h))) (by decide +kernel))
set_option maxRecDepth 20000 in
theorem gX2_marry_X2_needPerson : GoodIn wsX2_marry (wsV RX2 46 RX2 yX2_needPerson wsX2_needPerson) := goodIn_app (goodIn_of _ (by decide +kernel)) ggX2_marry_X2_needPerson
set_option maxRecDepth 20000 in
theorem ggX2_marry_X2_needTwo : GoodIn wsX2_marry wsX2_needTwo := goodIn_ca (goodIn_r _ [16, 17, 18] (by decide +kernel) (by decide +kernel)) (goodIn_sub (fun _ h => List.mem_cons_of_mem _ (List.mem_append_right _ h)) (by decide +kernel))
set_option maxRecDepth 20000 in
theorem gX2_marry_X2_needTwo : GoodIn wsX2_marry (wsV RX2 53 RX2 yX2_needTwo wsX2_needTwo) := goodIn_app (goodIn_of _ (by decide +kernel)) ggX2_marry_X2_needTwo
set_option maxRecDepth 20000 in
theorem ggX2_marry_X2_needAlive : GoodIn wsX2_marry wsX2_needAlive := goodIn_ca (goodIn_r _ [22, 1, 2, 3, 23, 58, 59, 60, 61, 62, 63, 64, 65, 66, 67, 68, 69, 70, 71] (by decide +kernel) (by decide +kernel)) (goodIn_sub (fun _ h => List.mem_cons_of_mem _ (List.mem_append_left _ (List.mem_append_left _ (List.mem_append_right _ h)))) (by decide +kernel))
set_option maxRecDepth 20000 in
theorem gX2_marry_X2_needAlive : GoodIn wsX2_marry (wsV RX2 50 RX2 yX2_needAlive wsX2_needAlive) := goodIn_app (goodIn_of _ (by decide +kernel)) ggX2_marry_X2_needAlive
set_option maxRecDepth 20000 in
theorem ggX2_marry_X1_hasLivingSpouse : GoodIn wsX2_marry wsX1_hasLivingSpouse := goodIn_r _ [28, 29, 30, 67, 68, 69, 70, 71] (by decide +kernel) (by decide +kernel)
set_option maxRecDepth 20000 in
theorem gX2_marry_X1_hasLivingSpouse : GoodIn wsX2_marry (wsV RX2 57 RX1 yX1_hasLivingSpouse wsX1_hasLivingSpouse) := goodIn_app (goodIn_of _ (by decide +kernel)) ggX2_marry_X1_hasLivingSpouse
set_option maxRecDepth 20000 in
theorem ggX2_marry_X1_findDegrees : GoodIn wsX2_marry wsX1_findDegrees := goodIn_r _ [34, 35, 36, 37, 38, 39, 40, 41, 42, 43, 27, 44, 45, 46, 47, 48, 49, 29, 67, 68, 69, 70, 71] (by decide +kernel) (by decide +kernel)
set_option maxRecDepth 20000 in
theorem gX2_marry_X1_findDegrees : GoodIn wsX2_marry (wsV RX2 68 RX1 yX1_findDegrees wsX1_findDegrees) := goodIn_app (goodIn_of _ (by decide +kernel)) ggX2_marry_X1_findDegrees
set_option maxRecDepth 20000 in
theorem ggX2_marry_X1_wed : GoodIn wsX2_marry wsX1_wed := goodIn_r _ [53, 29, 54, 55, 56, 27, 57, 67, 68, 69, 70, 71] (by decide +kernel) (by decide +kernel)
set_option maxRecDepth 20000 in
theorem gX2_marry_X1_wed : GoodIn wsX2_marry (wsV RX2 74 RX1 yX1_wed wsX1_wed) := goodIn_app (goodIn_of _ (by decide +kernel)) ggX2_marry_X1_wed
theorem dX2_marry_0 : decode cX2_marry 0 = .ok (.aload_n 0, 1) := by decide +kernel
theorem dX2_marry_1 : decode cX2_marry 1 = .ok (.iload_n 1, 1) := by decide +kernel
theorem dX2_marry_2 : decode cX2_marry 2 = .ok (.invokevirtual 46, 3) := by decide +kernel
theorem dX2_marry_5 : decode cX2_marry 5 = .ok (.aload_n 0, 1) := by decide +kernel
theorem dX2_marry_6 : decode cX2_marry 6 = .ok (.iload_n 2, 1) := by decide +kernel
theorem dX2_marry_7 : decode cX2_marry 7 = .ok (.invokevirtual 46, 3) := by decide +kernel
theorem dX2_marry_10 : decode cX2_marry 10 = .ok (.aload_n 0, 1) := by decide +kernel
theorem dX2_marry_11 : decode cX2_marry 11 = .ok (.iload_n 1, 1) := by decide +kernel
theorem dX2_marry_12 : decode cX2_marry 12 = .ok (.iload_n 2, 1) := by decide +kernel
theorem dX2_marry_13 : decode cX2_marry 13 = .ok (.invokevirtual 53, 3) := by decide +kernel
theorem dX2_marry_16 : decode cX2_marry 16 = .ok (.aload_n 0, 1) := by decide +kernel
theorem dX2_marry_17 : decode cX2_marry 17 = .ok (.iload_n 1, 1) := by decide +kernel
theorem dX2_marry_18 : decode cX2_marry 18 = .ok (.invokevirtual 50, 3) := by decide +kernel
theorem dX2_marry_21 : decode cX2_marry 21 = .ok (.aload_n 0, 1) := by decide +kernel
theorem dX2_marry_22 : decode cX2_marry 22 = .ok (.iload_n 2, 1) := by decide +kernel
theorem dX2_marry_23 : decode cX2_marry 23 = .ok (.invokevirtual 50, 3) := by decide +kernel
theorem dX2_marry_26 : decode cX2_marry 26 = .ok (.aload_n 0, 1) := by decide +kernel
theorem dX2_marry_27 : decode cX2_marry 27 = .ok (.getfield 12, 3) := by decide +kernel
theorem dX2_marry_30 : decode cX2_marry 30 = .ok (.iload_n 1, 1) := by decide +kernel
theorem dX2_marry_31 : decode cX2_marry 31 = .ok (.invokevirtual 57, 3) := by decide +kernel
theorem dX2_marry_34 : decode cX2_marry 34 = .ok (.ifCond .ne 14, 3) := by decide +kernel
theorem dX2_marry_37 : decode cX2_marry 37 = .ok (.aload_n 0, 1) := by decide +kernel
theorem dX2_marry_38 : decode cX2_marry 38 = .ok (.getfield 12, 3) := by decide +kernel
theorem dX2_marry_41 : decode cX2_marry 41 = .ok (.iload_n 2, 1) := by decide +kernel
theorem dX2_marry_42 : decode cX2_marry 42 = .ok (.invokevirtual 57, 3) := by decide +kernel
theorem dX2_marry_45 : decode cX2_marry 45 = .ok (.ifCond .eq 13, 3) := by decide +kernel
theorem dX2_marry_48 : decode cX2_marry 48 = .ok (.new 61, 3) := by decide +kernel
theorem dX2_marry_51 : decode cX2_marry 51 = .ok (.dup, 1) := by decide +kernel
theorem dX2_marry_52 : decode cX2_marry 52 = .ok (.ldc 63, 2) := by decide +kernel
theorem dX2_marry_54 : decode cX2_marry 54 = .ok (.invokespecial 65, 3) := by decide +kernel
theorem dX2_marry_57 : decode cX2_marry 57 = .ok (.athrow, 1) := by decide +kernel
theorem dX2_marry_58 : decode cX2_marry 58 = .ok (.aload_n 0, 1) := by decide +kernel
theorem dX2_marry_59 : decode cX2_marry 59 = .ok (.getfield 12, 3) := by decide +kernel
theorem dX2_marry_62 : decode cX2_marry 62 = .ok (.iload_n 1, 1) := by decide +kernel
theorem dX2_marry_63 : decode cX2_marry 63 = .ok (.invokevirtual 68, 3) := by decide +kernel
theorem dX2_marry_66 : decode cX2_marry 66 = .ok (.aload_n 0, 1) := by decide +kernel
theorem dX2_marry_67 : decode cX2_marry 67 = .ok (.getfield 12, 3) := by decide +kernel
theorem dX2_marry_70 : decode cX2_marry 70 = .ok (.getfield 71, 3) := by decide +kernel
theorem dX2_marry_73 : decode cX2_marry 73 = .ok (.iload_n 2, 1) := by decide +kernel
theorem dX2_marry_74 : decode cX2_marry 74 = .ok (.iaload, 1) := by decide +kernel
theorem dX2_marry_75 : decode cX2_marry 75 = .ok (.istore_n 3, 1) := by decide +kernel
theorem dX2_marry_76 : decode cX2_marry 76 = .ok (.aload_n 0, 1) := by decide +kernel
theorem dX2_marry_77 : decode cX2_marry 77 = .ok (.getfield 12, 3) := by decide +kernel
theorem dX2_marry_80 : decode cX2_marry 80 = .ok (.iload_n 1, 1) := by decide +kernel
theorem dX2_marry_81 : decode cX2_marry 81 = .ok (.iload_n 2, 1) := by decide +kernel
theorem dX2_marry_82 : decode cX2_marry 82 = .ok (.invokevirtual 74, 3) := by decide +kernel
theorem dX2_marry_85 : decode cX2_marry 85 = .ok (.iload_n 3, 1) := by decide +kernel
theorem dX2_marry_86 : decode cX2_marry 86 = .ok (.ireturn, 1) := by decide +kernel
set_option maxRecDepth 20000 in
theorem ggX2_setStage_X2_needStage : GoodIn wsX2_setStage wsX2_needStage := goodIn_ca (goodIn_r _ [10, 11, 12, 13, 14, 15, 9, 16] (by decide +kernel) (by decide +kernel)) (goodIn_sub (fun _ h => List.mem_cons_of_mem _ (List.mem_append_right _ h)) (by decide +kernel))
set_option maxRecDepth 20000 in
theorem gX2_setStage_X2_needStage : GoodIn wsX2_setStage (wsV RX2 77 RX2 yX2_needStage wsX2_needStage) := goodIn_app (goodIn_of _ (by decide +kernel)) ggX2_setStage_X2_needStage
set_option maxRecDepth 20000 in
theorem ggX2_setStage_X0_place : GoodIn wsX2_setStage wsX0_place := goodIn_r _ [20] (by decide +kernel) (by decide +kernel)
set_option maxRecDepth 20000 in
theorem gX2_setStage_X0_place : GoodIn wsX2_setStage (va_wsS RX2 87 yX0_place wsX0_place) := goodIn_app (goodIn_of _ (by decide +kernel)) ggX2_setStage_X0_place
set_option maxRecDepth 20000 in
theorem ggX2_setStage_X0_daysOfAll : GoodIn wsX2_setStage wsX0_daysOfAll := goodIn_r _ [24, 25, 26, 18, 19, 20, 36, 37] (by decide +kernel) (by decide +kernel)
set_option maxRecDepth 20000 in
theorem gX2_setStage_X0_daysOfAll : GoodIn wsX2_setStage (wsV RX2 97 RX0 yX0_daysOfAll wsX0_daysOfAll) := goodIn_app (goodIn_of _ (by decide +kernel)) ggX2_setStage_X0_daysOfAll
theorem dX2_setStage_0 : decode cX2_setStage 0 = .ok (.aload_n 0, 1) := by decide +kernel
theorem dX2_setStage_1 : decode cX2_setStage 1 = .ok (.iload_n 1, 1) := by decide +kernel
theorem dX2_setStage_2 : decode cX2_setStage 2 = .ok (.iload_n 2, 1) := by decide +kernel
theorem dX2_setStage_3 : decode cX2_setStage 3 = .ok (.invokevirtual 77, 3) := by decide +kernel
theorem dX2_setStage_6 : decode cX2_setStage 6 = .ok (.iload_n 3, 1) := by decide +kernel
theorem dX2_setStage_7 : decode cX2_setStage 7 = .ok (.ifCond .lt 8, 3) := by decide +kernel
theorem dX2_setStage_10 : decode cX2_setStage 10 = .ok (.iload_n 3, 1) := by decide +kernel
theorem dX2_setStage_11 : decode cX2_setStage 11 = .ok (.iconst 5, 1) := by decide +kernel
theorem dX2_setStage_12 : decode cX2_setStage 12 = .ok (.if_icmp .le 13, 3) := by decide +kernel
theorem dX2_setStage_15 : decode cX2_setStage 15 = .ok (.new 80, 3) := by decide +kernel
theorem dX2_setStage_18 : decode cX2_setStage 18 = .ok (.dup, 1) := by decide +kernel
theorem dX2_setStage_19 : decode cX2_setStage 19 = .ok (.ldc 82, 2) := by decide +kernel
theorem dX2_setStage_21 : decode cX2_setStage 21 = .ok (.invokespecial 84, 3) := by decide +kernel
theorem dX2_setStage_24 : decode cX2_setStage 24 = .ok (.athrow, 1) := by decide +kernel
theorem dX2_setStage_25 : decode cX2_setStage 25 = .ok (.iload 4, 2) := by decide +kernel
theorem dX2_setStage_27 : decode cX2_setStage 27 = .ok (.ifCond .lt 10, 3) := by decide +kernel
theorem dX2_setStage_30 : decode cX2_setStage 30 = .ok (.iload 4, 2) := by decide +kernel
theorem dX2_setStage_32 : decode cX2_setStage 32 = .ok (.bipush 60, 2) := by decide +kernel
theorem dX2_setStage_34 : decode cX2_setStage 34 = .ok (.if_icmp .le 13, 3) := by decide +kernel
theorem dX2_setStage_37 : decode cX2_setStage 37 = .ok (.new 80, 3) := by decide +kernel
theorem dX2_setStage_40 : decode cX2_setStage 40 = .ok (.dup, 1) := by decide +kernel
theorem dX2_setStage_41 : decode cX2_setStage 41 = .ok (.ldc 85, 2) := by decide +kernel
theorem dX2_setStage_43 : decode cX2_setStage 43 = .ok (.invokespecial 84, 3) := by decide +kernel
theorem dX2_setStage_46 : decode cX2_setStage 46 = .ok (.athrow, 1) := by decide +kernel
theorem dX2_setStage_47 : decode cX2_setStage 47 = .ok (.bipush 16, 2) := by decide +kernel
theorem dX2_setStage_49 : decode cX2_setStage 49 = .ok (.iload_n 1, 1) := by decide +kernel
theorem dX2_setStage_50 : decode cX2_setStage 50 = .ok (.iload_n 2, 1) := by decide +kernel
theorem dX2_setStage_51 : decode cX2_setStage 51 = .ok (.invokestatic 87, 3) := by decide +kernel
theorem dX2_setStage_54 : decode cX2_setStage 54 = .ok (.istore 5, 2) := by decide +kernel
theorem dX2_setStage_56 : decode cX2_setStage 56 = .ok (.aload_n 0, 1) := by decide +kernel
theorem dX2_setStage_57 : decode cX2_setStage 57 = .ok (.getfield 19, 3) := by decide +kernel
theorem dX2_setStage_60 : decode cX2_setStage 60 = .ok (.getfield 91, 3) := by decide +kernel
theorem dX2_setStage_63 : decode cX2_setStage 63 = .ok (.iload 5, 2) := by decide +kernel
theorem dX2_setStage_65 : decode cX2_setStage 65 = .ok (.iload_n 3, 1) := by decide +kernel
theorem dX2_setStage_66 : decode cX2_setStage 66 = .ok (.iastore, 1) := by decide +kernel
theorem dX2_setStage_67 : decode cX2_setStage 67 = .ok (.aload_n 0, 1) := by decide +kernel
theorem dX2_setStage_68 : decode cX2_setStage 68 = .ok (.getfield 19, 3) := by decide +kernel
theorem dX2_setStage_71 : decode cX2_setStage 71 = .ok (.getfield 94, 3) := by decide +kernel
theorem dX2_setStage_74 : decode cX2_setStage 74 = .ok (.iload 5, 2) := by decide +kernel
theorem dX2_setStage_76 : decode cX2_setStage 76 = .ok (.iload 4, 2) := by decide +kernel
theorem dX2_setStage_78 : decode cX2_setStage 78 = .ok (.iastore, 1) := by decide +kernel
theorem dX2_setStage_79 : decode cX2_setStage 79 = .ok (.aload_n 0, 1) := by decide +kernel
theorem dX2_setStage_80 : decode cX2_setStage 80 = .ok (.getfield 19, 3) := by decide +kernel
theorem dX2_setStage_83 : decode cX2_setStage 83 = .ok (.bipush 16, 2) := by decide +kernel
theorem dX2_setStage_85 : decode cX2_setStage 85 = .ok (.iload_n 1, 1) := by decide +kernel
theorem dX2_setStage_86 : decode cX2_setStage 86 = .ok (.invokevirtual 97, 3) := by decide +kernel
theorem dX2_setStage_89 : decode cX2_setStage 89 = .ok (.ireturn, 1) := by decide +kernel
set_option maxRecDepth 20000 in
theorem ggX2_die_X2_needPerson : GoodIn wsX2_die wsX2_needPerson := goodIn_ca (goodIn_r _ [10, 11, 12, 1, 13, 76, 77, 78, 79, 80, 81, 82, 83, 84, 85, 86, 87, 88, 89] (by decide +kernel) (by decide +kernel)) (goodIn_sub (fun _ h => List.mem_cons_of_mem _ (List.mem_append_left _ (List.mem_append_right _ h))) (by decide +kernel))
set_option maxRecDepth 20000 in
theorem gX2_die_X2_needPerson : GoodIn wsX2_die (wsV RX2 46 RX2 yX2_needPerson wsX2_needPerson) := goodIn_app (goodIn_of _ (by decide +kernel)) ggX2_die_X2_needPerson
set_option maxRecDepth 20000 in
theorem ggX2_die_X2_needAlive : GoodIn wsX2_die wsX2_needAlive := goodIn_ca (goodIn_r _ [17, 18, 19, 1, 2, 76, 77, 78, 79, 80, 81, 82, 83, 84, 85, 86, 87, 88, 89] (by decide +kernel) (by decide +kernel)) (goodIn_sub (fun _ h => List.mem_cons_of_mem _ (List.mem_append_right _ h)) (by decide +kernel))
set_option maxRecDepth 20000 in
theorem gX2_die_X2_needAlive : GoodIn wsX2_die (wsV RX2 50 RX2 yX2_needAlive wsX2_needAlive) := goodIn_app (goodIn_of _ (by decide +kernel)) ggX2_die_X2_needAlive
set_option maxRecDepth 20000 in
theorem ggX2_die_X0_keepFor : GoodIn wsX2_die wsX0_keepFor := goodIn_r _ [24, 25, 26, 27, 28, 29, 30, 31, 32, 23, 33, 90, 91] (by decide +kernel) (by decide +kernel)
set_option maxRecDepth 20000 in
theorem gX2_die_X0_keepFor : GoodIn wsX2_die (wsV RX2 109 RX0 yX0_keepFor wsX0_keepFor) := goodIn_app (goodIn_of _ (by decide +kernel)) ggX2_die_X0_keepFor
set_option maxRecDepth 20000 in
theorem ggX2_die_X2_endMourningsOf : GoodIn wsX2_die wsX2_endMourningsOf := goodIn_r _ [37, 38, 39, 40, 9, 41, 76, 77, 78, 79, 80, 81, 82, 83, 84] (by decide +kernel) (by decide +kernel)
set_option maxRecDepth 20000 in
theorem gX2_die_X2_endMourningsOf : GoodIn wsX2_die (wsV RX2 112 RX2 yX2_endMourningsOf wsX2_endMourningsOf) := goodIn_app (goodIn_of _ (by decide +kernel)) ggX2_die_X2_endMourningsOf
set_option maxRecDepth 20000 in
theorem ggX2_die_X2_beginMourningsFor : GoodIn wsX2_die wsX2_beginMourningsFor := goodIn_r _ [45, 1, 13, 38, 46, 47, 48, 49, 50, 51, 52, 53, 54, 55, 56, 57, 58, 59, 60, 61, 62, 63, 64, 65, 66, 67, 68, 69, 70, 9, 71, 2, 5, 72, 73, 74, 23, 75, 30, 31, 32, 33, 39, 40, 41, 76, 77, 78, 79, 80, 81, 82, 83, 84, 85, 86, 87, 88, 89, 90, 91] (by decide +kernel) (by decide +kernel)
set_option maxRecDepth 20000 in
theorem gX2_die_X2_beginMourningsFor : GoodIn wsX2_die (wsV RX2 115 RX2 yX2_beginMourningsFor wsX2_beginMourningsFor) := goodIn_app (goodIn_of _ (by decide +kernel)) ggX2_die_X2_beginMourningsFor
theorem dX2_die_0 : decode cX2_die 0 = .ok (.aload_n 0, 1) := by decide +kernel
theorem dX2_die_1 : decode cX2_die 1 = .ok (.iload_n 1, 1) := by decide +kernel
theorem dX2_die_2 : decode cX2_die 2 = .ok (.invokevirtual 46, 3) := by decide +kernel
theorem dX2_die_5 : decode cX2_die 5 = .ok (.aload_n 0, 1) := by decide +kernel
theorem dX2_die_6 : decode cX2_die 6 = .ok (.iload_n 1, 1) := by decide +kernel
theorem dX2_die_7 : decode cX2_die 7 = .ok (.invokevirtual 50, 3) := by decide +kernel
theorem dX2_die_10 : decode cX2_die 10 = .ok (.aload_n 0, 1) := by decide +kernel
theorem dX2_die_11 : decode cX2_die 11 = .ok (.getfield 12, 3) := by decide +kernel
