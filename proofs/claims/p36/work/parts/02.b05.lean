set_option maxRecDepth 20000 in
theorem gX2_heaviestLoss_J7_fill_53178 : GoodIn wsX2_heaviestLoss (va_wsS RX2 192 yJ7_fill_53178 wsJ7_fill_53178) := goodIn_app (goodIn_of _ (by decide +kernel)) ggX2_heaviestLoss_J7_fill_53178
set_option maxRecDepth 20000 in
theorem ggX2_heaviestLoss_X2_addLossesOf : GoodIn wsX2_heaviestLoss wsX2_addLossesOf := goodIn_r _ [13, 14, 2, 3, 1, 15, 16, 17, 18, 12, 19, 20, 21, 22, 23, 24, 25, 26, 27, 28, 29, 30, 31, 5, 6, 7, 8, 32, 33, 34, 35, 36, 37, 38, 39, 40, 41, 42, 43, 44, 45, 46, 47, 48, 49, 50, 51, 52, 53, 54, 55, 56, 57, 58, 59, 60, 61, 62, 63, 64, 65, 66, 67, 68, 69, 70, 71, 72, 73, 74, 75, 76, 77, 78, 79, 80, 81, 82, 83, 84, 85, 86, 87, 88, 89, 90] (by decide +kernel) (by decide +kernel)
set_option maxRecDepth 20000 in
theorem gX2_heaviestLoss_X2_addLossesOf : GoodIn wsX2_heaviestLoss (wsV RX2 198 RX2 yX2_addLossesOf wsX2_addLossesOf) := goodIn_app (goodIn_of _ (by decide +kernel)) ggX2_heaviestLoss_X2_addLossesOf
theorem dX2_heaviestLoss_0 : decode cX2_heaviestLoss 0 = .ok (.aload_n 0, 1) := by decide +kernel
theorem dX2_heaviestLoss_1 : decode cX2_heaviestLoss 1 = .ok (.getfield 36, 3) := by decide +kernel
theorem dX2_heaviestLoss_4 : decode cX2_heaviestLoss 4 = .ok (.iconst 0, 1) := by decide +kernel
theorem dX2_heaviestLoss_5 : decode cX2_heaviestLoss 5 = .ok (.invokestatic 192, 3) := by decide +kernel
theorem dX2_heaviestLoss_8 : decode cX2_heaviestLoss 8 = .ok (.iconst 0, 1) := by decide +kernel
theorem dX2_heaviestLoss_9 : decode cX2_heaviestLoss 9 = .ok (.istore_n 1, 1) := by decide +kernel
theorem dX2_heaviestLoss_10 : decode cX2_heaviestLoss 10 = .ok (.iload_n 1, 1) := by decide +kernel
theorem dX2_heaviestLoss_11 : decode cX2_heaviestLoss 11 = .ok (.aload_n 0, 1) := by decide +kernel
theorem dX2_heaviestLoss_12 : decode cX2_heaviestLoss 12 = .ok (.getfield 12, 3) := by decide +kernel
theorem dX2_heaviestLoss_15 : decode cX2_heaviestLoss 15 = .ok (.getfield 128, 3) := by decide +kernel
theorem dX2_heaviestLoss_18 : decode cX2_heaviestLoss 18 = .ok (.if_icmp .ge 26, 3) := by decide +kernel
theorem dX2_heaviestLoss_21 : decode cX2_heaviestLoss 21 = .ok (.aload_n 0, 1) := by decide +kernel
theorem dX2_heaviestLoss_22 : decode cX2_heaviestLoss 22 = .ok (.getfield 12, 3) := by decide +kernel
theorem dX2_heaviestLoss_25 : decode cX2_heaviestLoss 25 = .ok (.getfield 101, 3) := by decide +kernel
theorem dX2_heaviestLoss_28 : decode cX2_heaviestLoss 28 = .ok (.iload_n 1, 1) := by decide +kernel
theorem dX2_heaviestLoss_29 : decode cX2_heaviestLoss 29 = .ok (.baload, 1) := by decide +kernel
theorem dX2_heaviestLoss_30 : decode cX2_heaviestLoss 30 = .ok (.ifCond .eq 8, 3) := by decide +kernel
theorem dX2_heaviestLoss_33 : decode cX2_heaviestLoss 33 = .ok (.aload_n 0, 1) := by decide +kernel
theorem dX2_heaviestLoss_34 : decode cX2_heaviestLoss 34 = .ok (.iload_n 1, 1) := by decide +kernel
theorem dX2_heaviestLoss_35 : decode cX2_heaviestLoss 35 = .ok (.invokevirtual 198, 3) := by decide +kernel
theorem dX2_heaviestLoss_38 : decode cX2_heaviestLoss 38 = .ok (.iinc 1 1, 3) := by decide +kernel
theorem dX2_heaviestLoss_41 : decode cX2_heaviestLoss 41 = .ok (.goto (-31), 3) := by decide +kernel
theorem dX2_heaviestLoss_44 : decode cX2_heaviestLoss 44 = .ok (.iconst (-1), 1) := by decide +kernel
theorem dX2_heaviestLoss_45 : decode cX2_heaviestLoss 45 = .ok (.istore_n 1, 1) := by decide +kernel
theorem dX2_heaviestLoss_46 : decode cX2_heaviestLoss 46 = .ok (.iconst 0, 1) := by decide +kernel
theorem dX2_heaviestLoss_47 : decode cX2_heaviestLoss 47 = .ok (.istore_n 2, 1) := by decide +kernel
theorem dX2_heaviestLoss_48 : decode cX2_heaviestLoss 48 = .ok (.iload_n 2, 1) := by decide +kernel
theorem dX2_heaviestLoss_49 : decode cX2_heaviestLoss 49 = .ok (.aload_n 0, 1) := by decide +kernel
theorem dX2_heaviestLoss_50 : decode cX2_heaviestLoss 50 = .ok (.getfield 12, 3) := by decide +kernel
theorem dX2_heaviestLoss_53 : decode cX2_heaviestLoss 53 = .ok (.getfield 128, 3) := by decide +kernel
theorem dX2_heaviestLoss_56 : decode cX2_heaviestLoss 56 = .ok (.if_icmp .ge 43, 3) := by decide +kernel
theorem dX2_heaviestLoss_59 : decode cX2_heaviestLoss 59 = .ok (.aload_n 0, 1) := by decide +kernel
theorem dX2_heaviestLoss_60 : decode cX2_heaviestLoss 60 = .ok (.getfield 12, 3) := by decide +kernel
theorem dX2_heaviestLoss_63 : decode cX2_heaviestLoss 63 = .ok (.getfield 101, 3) := by decide +kernel
theorem dX2_heaviestLoss_66 : decode cX2_heaviestLoss 66 = .ok (.iload_n 2, 1) := by decide +kernel
theorem dX2_heaviestLoss_67 : decode cX2_heaviestLoss 67 = .ok (.baload, 1) := by decide +kernel
theorem dX2_heaviestLoss_68 : decode cX2_heaviestLoss 68 = .ok (.ifCond .eq 25, 3) := by decide +kernel
theorem dX2_heaviestLoss_71 : decode cX2_heaviestLoss 71 = .ok (.iload_n 1, 1) := by decide +kernel
theorem dX2_heaviestLoss_72 : decode cX2_heaviestLoss 72 = .ok (.iconst (-1), 1) := by decide +kernel
theorem dX2_heaviestLoss_73 : decode cX2_heaviestLoss 73 = .ok (.if_icmp .eq 18, 3) := by decide +kernel
theorem dX2_heaviestLoss_76 : decode cX2_heaviestLoss 76 = .ok (.aload_n 0, 1) := by decide +kernel
theorem dX2_heaviestLoss_77 : decode cX2_heaviestLoss 77 = .ok (.getfield 36, 3) := by decide +kernel
theorem dX2_heaviestLoss_80 : decode cX2_heaviestLoss 80 = .ok (.iload_n 2, 1) := by decide +kernel
theorem dX2_heaviestLoss_81 : decode cX2_heaviestLoss 81 = .ok (.iaload, 1) := by decide +kernel
theorem dX2_heaviestLoss_82 : decode cX2_heaviestLoss 82 = .ok (.aload_n 0, 1) := by decide +kernel
theorem dX2_heaviestLoss_83 : decode cX2_heaviestLoss 83 = .ok (.getfield 36, 3) := by decide +kernel
theorem dX2_heaviestLoss_86 : decode cX2_heaviestLoss 86 = .ok (.iload_n 1, 1) := by decide +kernel
theorem dX2_heaviestLoss_87 : decode cX2_heaviestLoss 87 = .ok (.iaload, 1) := by decide +kernel
theorem dX2_heaviestLoss_88 : decode cX2_heaviestLoss 88 = .ok (.if_icmp .le 5, 3) := by decide +kernel
theorem dX2_heaviestLoss_91 : decode cX2_heaviestLoss 91 = .ok (.iload_n 2, 1) := by decide +kernel
theorem dX2_heaviestLoss_92 : decode cX2_heaviestLoss 92 = .ok (.istore_n 1, 1) := by decide +kernel
theorem dX2_heaviestLoss_93 : decode cX2_heaviestLoss 93 = .ok (.iinc 2 1, 3) := by decide +kernel
theorem dX2_heaviestLoss_96 : decode cX2_heaviestLoss 96 = .ok (.goto (-48), 3) := by decide +kernel
theorem dX2_heaviestLoss_99 : decode cX2_heaviestLoss 99 = .ok (.iload_n 1, 1) := by decide +kernel
theorem dX2_heaviestLoss_100 : decode cX2_heaviestLoss 100 = .ok (.ireturn, 1) := by decide +kernel
set_option maxRecDepth 20000 in
theorem ggX2_meanDaysLeft_X1_livingCount : GoodIn wsX2_meanDaysLeft wsX1_livingCount := goodIn_r _ [7, 8, 9, 48, 49, 50, 51, 52] (by decide +kernel) (by decide +kernel)
set_option maxRecDepth 20000 in
theorem gX2_meanDaysLeft_X1_livingCount : GoodIn wsX2_meanDaysLeft (wsV RX2 140 RX1 yX1_livingCount wsX1_livingCount) := goodIn_app (goodIn_of _ (by decide +kernel)) ggX2_meanDaysLeft_X1_livingCount
set_option maxRecDepth 20000 in
theorem ggX2_meanDaysLeft_X2_longestLeft : GoodIn wsX2_meanDaysLeft wsX2_longestLeft := goodIn_r _ [14, 1, 2, 15, 16, 17, 18, 19, 20, 21, 13, 22, 23, 24, 25, 26, 27, 28, 29, 30, 31, 32, 33, 34, 35, 36, 37, 38, 39, 40, 41, 42, 43, 44, 45, 46, 47, 48, 49, 50, 51, 52, 53, 54] (by decide +kernel) (by decide +kernel)
set_option maxRecDepth 20000 in
theorem gX2_meanDaysLeft_X2_longestLeft : GoodIn wsX2_meanDaysLeft (wsV RX2 167 RX2 yX2_longestLeft wsX2_longestLeft) := goodIn_app (goodIn_of _ (by decide +kernel)) ggX2_meanDaysLeft_X2_longestLeft
theorem dX2_meanDaysLeft_0 : decode cX2_meanDaysLeft 0 = .ok (.aload_n 0, 1) := by decide +kernel
theorem dX2_meanDaysLeft_1 : decode cX2_meanDaysLeft 1 = .ok (.getfield 12, 3) := by decide +kernel
theorem dX2_meanDaysLeft_4 : decode cX2_meanDaysLeft 4 = .ok (.invokevirtual 140, 3) := by decide +kernel
theorem dX2_meanDaysLeft_7 : decode cX2_meanDaysLeft 7 = .ok (.istore_n 1, 1) := by decide +kernel
theorem dX2_meanDaysLeft_8 : decode cX2_meanDaysLeft 8 = .ok (.iload_n 1, 1) := by decide +kernel
theorem dX2_meanDaysLeft_9 : decode cX2_meanDaysLeft 9 = .ok (.ifCond .ne 5, 3) := by decide +kernel
theorem dX2_meanDaysLeft_12 : decode cX2_meanDaysLeft 12 = .ok (.dconst 0, 1) := by decide +kernel
theorem dX2_meanDaysLeft_13 : decode cX2_meanDaysLeft 13 = .ok (.dreturn, 1) := by decide +kernel
theorem dX2_meanDaysLeft_14 : decode cX2_meanDaysLeft 14 = .ok (.iconst 0, 1) := by decide +kernel
theorem dX2_meanDaysLeft_15 : decode cX2_meanDaysLeft 15 = .ok (.istore_n 2, 1) := by decide +kernel
theorem dX2_meanDaysLeft_16 : decode cX2_meanDaysLeft 16 = .ok (.iconst 0, 1) := by decide +kernel
theorem dX2_meanDaysLeft_17 : decode cX2_meanDaysLeft 17 = .ok (.istore_n 3, 1) := by decide +kernel
theorem dX2_meanDaysLeft_18 : decode cX2_meanDaysLeft 18 = .ok (.iload_n 3, 1) := by decide +kernel
theorem dX2_meanDaysLeft_19 : decode cX2_meanDaysLeft 19 = .ok (.aload_n 0, 1) := by decide +kernel
theorem dX2_meanDaysLeft_20 : decode cX2_meanDaysLeft 20 = .ok (.getfield 12, 3) := by decide +kernel
theorem dX2_meanDaysLeft_23 : decode cX2_meanDaysLeft 23 = .ok (.getfield 128, 3) := by decide +kernel
theorem dX2_meanDaysLeft_26 : decode cX2_meanDaysLeft 26 = .ok (.if_icmp .ge 17, 3) := by decide +kernel
theorem dX2_meanDaysLeft_29 : decode cX2_meanDaysLeft 29 = .ok (.iload_n 2, 1) := by decide +kernel
theorem dX2_meanDaysLeft_30 : decode cX2_meanDaysLeft 30 = .ok (.aload_n 0, 1) := by decide +kernel
theorem dX2_meanDaysLeft_31 : decode cX2_meanDaysLeft 31 = .ok (.iload_n 3, 1) := by decide +kernel
theorem dX2_meanDaysLeft_32 : decode cX2_meanDaysLeft 32 = .ok (.invokevirtual 167, 3) := by decide +kernel
theorem dX2_meanDaysLeft_35 : decode cX2_meanDaysLeft 35 = .ok (.iadd, 1) := by decide +kernel
theorem dX2_meanDaysLeft_36 : decode cX2_meanDaysLeft 36 = .ok (.istore_n 2, 1) := by decide +kernel
theorem dX2_meanDaysLeft_37 : decode cX2_meanDaysLeft 37 = .ok (.iinc 3 1, 3) := by decide +kernel
theorem dX2_meanDaysLeft_40 : decode cX2_meanDaysLeft 40 = .ok (.goto (-22), 3) := by decide +kernel
theorem dX2_meanDaysLeft_43 : decode cX2_meanDaysLeft 43 = .ok (.iload_n 2, 1) := by decide +kernel
theorem dX2_meanDaysLeft_44 : decode cX2_meanDaysLeft 44 = .ok (.i2d, 1) := by decide +kernel
theorem dX2_meanDaysLeft_45 : decode cX2_meanDaysLeft 45 = .ok (.iload_n 1, 1) := by decide +kernel
theorem dX2_meanDaysLeft_46 : decode cX2_meanDaysLeft 46 = .ok (.i2d, 1) := by decide +kernel
theorem dX2_meanDaysLeft_47 : decode cX2_meanDaysLeft 47 = .ok (.ddiv, 1) := by decide +kernel
theorem dX2_meanDaysLeft_48 : decode cX2_meanDaysLeft 48 = .ok (.dreturn, 1) := by decide +kernel
set_option maxRecDepth 20000 in
theorem ggX2_digest_X2_people : GoodIn wsX2_digest wsX2_people := goodIn_r _ [9, 3, 4, 179, 180, 181, 182, 183, 184, 185, 186, 187, 188, 189, 190, 191, 192] (by decide +kernel) (by decide +kernel)
set_option maxRecDepth 20000 in
theorem gX2_digest_X2_people : GoodIn wsX2_digest (wsV RX2 205 RX2 yX2_people wsX2_people) := goodIn_app (goodIn_of _ (by decide +kernel)) ggX2_digest_X2_people
set_option maxRecDepth 20000 in
theorem ggX2_digest_X2_living : GoodIn wsX2_digest wsX2_living := goodIn_r _ [13, 3, 14, 15, 16, 17, 18, 19, 20, 179, 180, 181, 182, 183, 184, 185, 186, 187, 188, 189, 190, 191, 192] (by decide +kernel) (by decide +kernel)
set_option maxRecDepth 20000 in
theorem gX2_digest_X2_living : GoodIn wsX2_digest (wsV RX2 208 RX2 yX2_living wsX2_living) := goodIn_app (goodIn_of _ (by decide +kernel)) ggX2_digest_X2_living
set_option maxRecDepth 20000 in
theorem ggX2_digest_X2_day : GoodIn wsX2_digest wsX2_day := goodIn_r _ [24, 25, 179, 180, 181, 182, 183, 184, 185, 186, 187] (by decide +kernel) (by decide +kernel)
set_option maxRecDepth 20000 in
theorem gX2_digest_X2_day : GoodIn wsX2_digest (wsV RX2 211 RX2 yX2_day wsX2_day) := goodIn_app (goodIn_of _ (by decide +kernel)) ggX2_digest_X2_day
set_option maxRecDepth 20000 in
theorem ggX2_digest_X2_strictest : GoodIn wsX2_digest wsX2_strictest := goodIn_r _ [29, 3, 4, 30, 31, 32, 33, 34, 35, 36, 8, 37, 25, 38, 39, 40, 41, 42, 43, 44, 45, 46, 47, 48, 49, 50, 51, 52, 53, 179, 180, 181, 182, 183, 184, 185, 186, 187, 188, 189, 190, 191, 192, 193, 194] (by decide +kernel) (by decide +kernel)
set_option maxRecDepth 20000 in
theorem gX2_digest_X2_strictest : GoodIn wsX2_digest (wsV RX2 214 RX2 yX2_strictest wsX2_strictest) := goodIn_app (goodIn_of _ (by decide +kernel)) ggX2_digest_X2_strictest
set_option maxRecDepth 20000 in
theorem ggX2_digest_X2_longestMourner : GoodIn wsX2_digest wsX2_longestMourner := goodIn_r _ [57, 3, 4, 58, 59, 60, 8, 61, 30, 31, 32, 33, 62, 63, 64, 65, 39, 40, 25, 38, 41, 42, 43, 66, 67, 68, 47, 69, 49, 51, 52, 53, 179, 180, 181, 182, 183, 184, 185, 186, 187, 188, 189, 190, 191, 192, 193, 194] (by decide +kernel) (by decide +kernel)
set_option maxRecDepth 20000 in
theorem gX2_digest_X2_longestMourner : GoodIn wsX2_digest (wsV RX2 217 RX2 yX2_longestMourner wsX2_longestMourner) := goodIn_app (goodIn_of _ (by decide +kernel)) ggX2_digest_X2_longestMourner
set_option maxRecDepth 20000 in
theorem ggX2_digest_X2_daysWorn : GoodIn wsX2_digest wsX2_daysWorn := goodIn_r _ [73, 74, 179, 180, 181, 182, 183, 184, 185, 186, 187] (by decide +kernel) (by decide +kernel)
set_option maxRecDepth 20000 in
theorem gX2_digest_X2_daysWorn : GoodIn wsX2_digest (wsV RX2 220 RX2 yX2_daysWorn wsX2_daysWorn) := goodIn_app (goodIn_of _ (by decide +kernel)) ggX2_digest_X2_daysWorn
set_option maxRecDepth 20000 in
theorem ggX2_digest_X2_digestCode : GoodIn wsX2_digest wsX2_digestCode := goodIn_ca (goodIn_r _ [78, 2, 79, 80, 81, 8, 82, 39, 83, 84, 85, 86, 87, 88, 89, 90, 91, 92, 93, 94, 52, 47, 53, 95, 96, 97, 98, 99, 179, 180, 181, 182, 183, 184, 185, 186, 187, 193, 194] (by decide +kernel) (by decide +kernel)) (goodIn_sub (fun _ h => List.mem_cons_of_mem _ (List.mem_append_right _ h)) (by decide +kernel))
set_option maxRecDepth 20000 in
theorem gX2_digest_X2_digestCode : GoodIn wsX2_digest (wsV RX2 223 RX2 yX2_digestCode wsX2_digestCode) := goodIn_app (goodIn_of _ (by decide +kernel)) ggX2_digest_X2_digestCode
set_option maxRecDepth 20000 in
theorem ggX2_digest_X2_digestPerson : GoodIn wsX2_digest wsX2_digestPerson := goodIn_ca (goodIn_r _ [103, 2, 3, 104, 105, 106, 8, 107, 108, 109, 110, 111, 112, 88, 89, 4, 113, 114, 115, 116, 117, 118, 119, 120, 121, 122, 123, 124, 125, 126, 34, 35, 36, 37, 25, 38, 39, 40, 30, 31, 32, 33, 41, 42, 43, 44, 45, 46, 47, 48, 49, 50, 51, 52, 53, 127, 128, 129, 130, 131, 132, 133, 134, 62, 63, 64, 65, 66, 67, 68, 69, 135, 136, 137, 138, 58, 59, 60, 61, 139, 140, 141, 142, 143, 144, 145, 146, 147, 148, 149, 150, 151, 152, 153, 154, 155, 156, 157, 158, 159, 160, 161, 17, 162, 163, 19, 164, 165, 166, 167, 168, 169, 170, 171, 172, 173, 174, 175, 176, 177, 178, 20, 179, 180, 181, 182, 183, 184, 185, 186, 187, 188, 189, 190, 191, 192, 193, 194] (by decide +kernel) (by decide +kernel)) (goodIn_sub (fun _ h => List.mem_cons_of_mem _ (List.mem_append_right _ h)) (by decide +kernel))
set_option maxRecDepth 20000 in
theorem gX2_digest_X2_digestPerson : GoodIn wsX2_digest (wsV RX2 227 RX2 yX2_digestPerson wsX2_digestPerson) := goodIn_app (goodIn_of _ (by decide +kernel)) ggX2_digest_X2_digestPerson
theorem dX2_digest_0 : decode cX2_digest 0 = .ok (.ldc2_w 201, 3) := by decide +kernel
theorem dX2_digest_3 : decode cX2_digest 3 = .ok (.lstore_n 1, 1) := by decide +kernel
theorem dX2_digest_4 : decode cX2_digest 4 = .ok (.lload_n 1, 1) := by decide +kernel
theorem dX2_digest_5 : decode cX2_digest 5 = .ok (.ldc2_w 203, 3) := by decide +kernel
theorem dX2_digest_8 : decode cX2_digest 8 = .ok (.lmul, 1) := by decide +kernel
theorem dX2_digest_9 : decode cX2_digest 9 = .ok (.aload_n 0, 1) := by decide +kernel
theorem dX2_digest_10 : decode cX2_digest 10 = .ok (.invokevirtual 205, 3) := by decide +kernel
theorem dX2_digest_13 : decode cX2_digest 13 = .ok (.i2l, 1) := by decide +kernel
theorem dX2_digest_14 : decode cX2_digest 14 = .ok (.ladd, 1) := by decide +kernel
theorem dX2_digest_15 : decode cX2_digest 15 = .ok (.lstore_n 1, 1) := by decide +kernel
theorem dX2_digest_16 : decode cX2_digest 16 = .ok (.lload_n 1, 1) := by decide +kernel
theorem dX2_digest_17 : decode cX2_digest 17 = .ok (.ldc2_w 203, 3) := by decide +kernel
theorem dX2_digest_20 : decode cX2_digest 20 = .ok (.lmul, 1) := by decide +kernel
theorem dX2_digest_21 : decode cX2_digest 21 = .ok (.aload_n 0, 1) := by decide +kernel
theorem dX2_digest_22 : decode cX2_digest 22 = .ok (.invokevirtual 208, 3) := by decide +kernel
theorem dX2_digest_25 : decode cX2_digest 25 = .ok (.i2l, 1) := by decide +kernel
theorem dX2_digest_26 : decode cX2_digest 26 = .ok (.ladd, 1) := by decide +kernel
theorem dX2_digest_27 : decode cX2_digest 27 = .ok (.lstore_n 1, 1) := by decide +kernel
theorem dX2_digest_28 : decode cX2_digest 28 = .ok (.lload_n 1, 1) := by decide +kernel
theorem dX2_digest_29 : decode cX2_digest 29 = .ok (.ldc2_w 203, 3) := by decide +kernel
theorem dX2_digest_32 : decode cX2_digest 32 = .ok (.lmul, 1) := by decide +kernel
theorem dX2_digest_33 : decode cX2_digest 33 = .ok (.aload_n 0, 1) := by decide +kernel
theorem dX2_digest_34 : decode cX2_digest 34 = .ok (.invokevirtual 211, 3) := by decide +kernel
theorem dX2_digest_37 : decode cX2_digest 37 = .ok (.i2l, 1) := by decide +kernel
theorem dX2_digest_38 : decode cX2_digest 38 = .ok (.ladd, 1) := by decide +kernel
theorem dX2_digest_39 : decode cX2_digest 39 = .ok (.lstore_n 1, 1) := by decide +kernel
theorem dX2_digest_40 : decode cX2_digest 40 = .ok (.lload_n 1, 1) := by decide +kernel
theorem dX2_digest_41 : decode cX2_digest 41 = .ok (.ldc2_w 203, 3) := by decide +kernel
theorem dX2_digest_44 : decode cX2_digest 44 = .ok (.lmul, 1) := by decide +kernel
theorem dX2_digest_45 : decode cX2_digest 45 = .ok (.aload_n 0, 1) := by decide +kernel
theorem dX2_digest_46 : decode cX2_digest 46 = .ok (.invokevirtual 214, 3) := by decide +kernel
theorem dX2_digest_49 : decode cX2_digest 49 = .ok (.i2l, 1) := by decide +kernel
theorem dX2_digest_50 : decode cX2_digest 50 = .ok (.ladd, 1) := by decide +kernel
theorem dX2_digest_51 : decode cX2_digest 51 = .ok (.lstore_n 1, 1) := by decide +kernel
theorem dX2_digest_52 : decode cX2_digest 52 = .ok (.lload_n 1, 1) := by decide +kernel
theorem dX2_digest_53 : decode cX2_digest 53 = .ok (.ldc2_w 203, 3) := by decide +kernel
theorem dX2_digest_56 : decode cX2_digest 56 = .ok (.lmul, 1) := by decide +kernel
theorem dX2_digest_57 : decode cX2_digest 57 = .ok (.aload_n 0, 1) := by decide +kernel
theorem dX2_digest_58 : decode cX2_digest 58 = .ok (.invokevirtual 217, 3) := by decide +kernel
theorem dX2_digest_61 : decode cX2_digest 61 = .ok (.i2l, 1) := by decide +kernel
theorem dX2_digest_62 : decode cX2_digest 62 = .ok (.ladd, 1) := by decide +kernel
theorem dX2_digest_63 : decode cX2_digest 63 = .ok (.lstore_n 1, 1) := by decide +kernel
theorem dX2_digest_64 : decode cX2_digest 64 = .ok (.lload_n 1, 1) := by decide +kernel
theorem dX2_digest_65 : decode cX2_digest 65 = .ok (.ldc2_w 203, 3) := by decide +kernel
theorem dX2_digest_68 : decode cX2_digest 68 = .ok (.lmul, 1) := by decide +kernel
theorem dX2_digest_69 : decode cX2_digest 69 = .ok (.aload_n 0, 1) := by decide +kernel
theorem dX2_digest_70 : decode cX2_digest 70 = .ok (.invokevirtual 220, 3) := by decide +kernel
theorem dX2_digest_73 : decode cX2_digest 73 = .ok (.i2l, 1) := by decide +kernel
theorem dX2_digest_74 : decode cX2_digest 74 = .ok (.ladd, 1) := by decide +kernel
theorem dX2_digest_75 : decode cX2_digest 75 = .ok (.lstore_n 1, 1) := by decide +kernel
theorem dX2_digest_76 : decode cX2_digest 76 = .ok (.aload_n 0, 1) := by decide +kernel
theorem dX2_digest_77 : decode cX2_digest 77 = .ok (.lload_n 1, 1) := by decide +kernel
theorem dX2_digest_78 : decode cX2_digest 78 = .ok (.invokevirtual 223, 3) := by decide +kernel
theorem dX2_digest_81 : decode cX2_digest 81 = .ok (.lstore_n 1, 1) := by decide +kernel
theorem dX2_digest_82 : decode cX2_digest 82 = .ok (.iconst 0, 1) := by decide +kernel
theorem dX2_digest_83 : decode cX2_digest 83 = .ok (.istore_n 3, 1) := by decide +kernel
theorem dX2_digest_84 : decode cX2_digest 84 = .ok (.iload_n 3, 1) := by decide +kernel
theorem dX2_digest_85 : decode cX2_digest 85 = .ok (.aload_n 0, 1) := by decide +kernel
theorem dX2_digest_86 : decode cX2_digest 86 = .ok (.getfield 12, 3) := by decide +kernel
theorem dX2_digest_89 : decode cX2_digest 89 = .ok (.getfield 128, 3) := by decide +kernel
theorem dX2_digest_92 : decode cX2_digest 92 = .ok (.if_icmp .ge 16, 3) := by decide +kernel
theorem dX2_digest_95 : decode cX2_digest 95 = .ok (.aload_n 0, 1) := by decide +kernel
theorem dX2_digest_96 : decode cX2_digest 96 = .ok (.lload_n 1, 1) := by decide +kernel
theorem dX2_digest_97 : decode cX2_digest 97 = .ok (.iload_n 3, 1) := by decide +kernel
theorem dX2_digest_98 : decode cX2_digest 98 = .ok (.invokevirtual 227, 3) := by decide +kernel
theorem dX2_digest_101 : decode cX2_digest 101 = .ok (.lstore_n 1, 1) := by decide +kernel
theorem dX2_digest_102 : decode cX2_digest 102 = .ok (.iinc 3 1, 3) := by decide +kernel
theorem dX2_digest_105 : decode cX2_digest 105 = .ok (.goto (-21), 3) := by decide +kernel
theorem dX2_digest_108 : decode cX2_digest 108 = .ok (.lload_n 1, 1) := by decide +kernel
theorem dX2_digest_109 : decode cX2_digest 109 = .ok (.lreturn, 1) := by decide +kernel
set_option maxRecDepth 20000 in
theorem ggX2_digestCode_X2_stageColour : GoodIn wsX2_digestCode wsX2_stageColour := goodIn_ca (goodIn_r _ [6, 7, 8, 9, 10, 11, 5, 12, 13, 14, 15, 16, 17, 18, 19, 20, 21, 22, 28, 29, 30, 31, 32, 33, 34, 35, 36, 37, 38] (by decide +kernel) (by decide +kernel)) (goodIn_sub (fun _ h => List.mem_cons_of_mem _ (List.mem_append_right _ h)) (by decide +kernel))
set_option maxRecDepth 20000 in
theorem gX2_digestCode_X2_stageColour : GoodIn wsX2_digestCode (wsV RX2 231 RX2 yX2_stageColour wsX2_stageColour) := goodIn_app (goodIn_of _ (by decide +kernel)) ggX2_digestCode_X2_stageColour
set_option maxRecDepth 20000 in
theorem ggX2_digestCode_X2_stageDays : GoodIn wsX2_digestCode wsX2_stageDays := goodIn_ca (goodIn_r _ [26, 7, 27, 9, 10, 11, 5, 12, 13, 14, 15, 16, 17, 18, 19, 20, 21, 22, 28, 29, 30, 31, 32, 33, 34, 35, 36, 37, 38] (by decide +kernel) (by decide +kernel)) (goodIn_sub (fun _ h => List.mem_cons_of_mem _ (List.mem_append_right _ h)) (by decide +kernel))
set_option maxRecDepth 20000 in
theorem gX2_digestCode_X2_stageDays : GoodIn wsX2_digestCode (wsV RX2 234 RX2 yX2_stageDays wsX2_stageDays) := goodIn_app (goodIn_of _ (by decide +kernel)) ggX2_digestCode_X2_stageDays
theorem dX2_digestCode_0 : decode cX2_digestCode 0 = .ok (.lload_n 1, 1) := by decide +kernel
theorem dX2_digestCode_1 : decode cX2_digestCode 1 = .ok (.lstore_n 3, 1) := by decide +kernel
theorem dX2_digestCode_2 : decode cX2_digestCode 2 = .ok (.iconst 1, 1) := by decide +kernel
theorem dX2_digestCode_3 : decode cX2_digestCode 3 = .ok (.istore 5, 2) := by decide +kernel
theorem dX2_digestCode_5 : decode cX2_digestCode 5 = .ok (.iload 5, 2) := by decide +kernel
theorem dX2_digestCode_7 : decode cX2_digestCode 7 = .ok (.iconst 4, 1) := by decide +kernel
theorem dX2_digestCode_8 : decode cX2_digestCode 8 = .ok (.if_icmp .gt 56, 3) := by decide +kernel
theorem dX2_digestCode_11 : decode cX2_digestCode 11 = .ok (.iconst 0, 1) := by decide +kernel
theorem dX2_digestCode_12 : decode cX2_digestCode 12 = .ok (.istore 6, 2) := by decide +kernel
theorem dX2_digestCode_14 : decode cX2_digestCode 14 = .ok (.iload 6, 2) := by decide +kernel
theorem dX2_digestCode_16 : decode cX2_digestCode 16 = .ok (.iconst 3, 1) := by decide +kernel
theorem dX2_digestCode_17 : decode cX2_digestCode 17 = .ok (.if_icmp .ge 41, 3) := by decide +kernel
theorem dX2_digestCode_20 : decode cX2_digestCode 20 = .ok (.lload_n 3, 1) := by decide +kernel
theorem dX2_digestCode_21 : decode cX2_digestCode 21 = .ok (.ldc2_w 203, 3) := by decide +kernel
theorem dX2_digestCode_24 : decode cX2_digestCode 24 = .ok (.lmul, 1) := by decide +kernel
theorem dX2_digestCode_25 : decode cX2_digestCode 25 = .ok (.aload_n 0, 1) := by decide +kernel
theorem dX2_digestCode_26 : decode cX2_digestCode 26 = .ok (.iload 5, 2) := by decide +kernel
theorem dX2_digestCode_28 : decode cX2_digestCode 28 = .ok (.iload 6, 2) := by decide +kernel
theorem dX2_digestCode_30 : decode cX2_digestCode 30 = .ok (.invokevirtual 231, 3) := by decide +kernel
theorem dX2_digestCode_33 : decode cX2_digestCode 33 = .ok (.i2l, 1) := by decide +kernel
theorem dX2_digestCode_34 : decode cX2_digestCode 34 = .ok (.ladd, 1) := by decide +kernel
theorem dX2_digestCode_35 : decode cX2_digestCode 35 = .ok (.lstore_n 3, 1) := by decide +kernel
theorem dX2_digestCode_36 : decode cX2_digestCode 36 = .ok (.lload_n 3, 1) := by decide +kernel
theorem dX2_digestCode_37 : decode cX2_digestCode 37 = .ok (.ldc2_w 203, 3) := by decide +kernel
theorem dX2_digestCode_40 : decode cX2_digestCode 40 = .ok (.lmul, 1) := by decide +kernel
theorem dX2_digestCode_41 : decode cX2_digestCode 41 = .ok (.aload_n 0, 1) := by decide +kernel
theorem dX2_digestCode_42 : decode cX2_digestCode 42 = .ok (.iload 5, 2) := by decide +kernel
theorem dX2_digestCode_44 : decode cX2_digestCode 44 = .ok (.iload 6, 2) := by decide +kernel
theorem dX2_digestCode_46 : decode cX2_digestCode 46 = .ok (.invokevirtual 234, 3) := by decide +kernel
theorem dX2_digestCode_49 : decode cX2_digestCode 49 = .ok (.i2l, 1) := by decide +kernel
theorem dX2_digestCode_50 : decode cX2_digestCode 50 = .ok (.ladd, 1) := by decide +kernel
theorem dX2_digestCode_51 : decode cX2_digestCode 51 = .ok (.lstore_n 3, 1) := by decide +kernel
theorem dX2_digestCode_52 : decode cX2_digestCode 52 = .ok (.iinc 6 1, 3) := by decide +kernel
theorem dX2_digestCode_55 : decode cX2_digestCode 55 = .ok (.goto (-41), 3) := by decide +kernel
theorem dX2_digestCode_58 : decode cX2_digestCode 58 = .ok (.iinc 5 1, 3) := by decide +kernel
theorem dX2_digestCode_61 : decode cX2_digestCode 61 = .ok (.goto (-56), 3) := by decide +kernel
theorem dX2_digestCode_64 : decode cX2_digestCode 64 = .ok (.lload_n 3, 1) := by decide +kernel
theorem dX2_digestCode_65 : decode cX2_digestCode 65 = .ok (.lreturn, 1) := by decide +kernel
set_option maxRecDepth 20000 in
theorem ggX2_digestPerson_X2_isAlive : GoodIn wsX2_digestPerson wsX2_isAlive := goodIn_ca (goodIn_r _ [7, 2, 8, 9, 10, 11, 6, 12, 13, 14, 15, 122, 123, 124, 125, 126, 127, 128, 129, 130, 131, 132, 133, 134, 135] (by decide +kernel) (by decide +kernel)) (goodIn_sub (fun _ h => List.mem_cons_of_mem _ (List.mem_append_right _ h)) (by decide +kernel))
set_option maxRecDepth 20000 in
theorem gX2_digestPerson_X2_isAlive : GoodIn wsX2_digestPerson (wsV RX2 237 RX2 yX2_isAlive wsX2_isAlive) := goodIn_app (goodIn_of _ (by decide +kernel)) ggX2_digestPerson_X2_isAlive
set_option maxRecDepth 20000 in
theorem ggX2_digestPerson_X2_parentOf : GoodIn wsX2_digestPerson wsX2_parentOf := goodIn_ca (goodIn_r _ [19, 2, 20, 9, 10, 11, 6, 12, 13, 14, 15, 122, 123, 124, 125, 126, 127, 128, 129, 130, 131, 132, 133, 134, 135] (by decide +kernel) (by decide +kernel)) (goodIn_sub (fun _ h => List.mem_cons_of_mem _ (List.mem_append_right _ h)) (by decide +kernel))
set_option maxRecDepth 20000 in
theorem gX2_digestPerson_X2_parentOf : GoodIn wsX2_digestPerson (wsV RX2 240 RX2 yX2_parentOf wsX2_parentOf) := goodIn_app (goodIn_of _ (by decide +kernel)) ggX2_digestPerson_X2_parentOf
set_option maxRecDepth 20000 in
theorem ggX2_digestPerson_X2_marriedTo : GoodIn wsX2_digestPerson wsX2_marriedTo := goodIn_ca (goodIn_r _ [24, 2, 25, 9, 10, 11, 6, 12, 13, 14, 15, 122, 123, 124, 125, 126, 127, 128, 129, 130, 131, 132, 133, 134, 135] (by decide +kernel) (by decide +kernel)) (goodIn_sub (fun _ h => List.mem_cons_of_mem _ (List.mem_append_right _ h)) (by decide +kernel))
set_option maxRecDepth 20000 in
theorem gX2_digestPerson_X2_marriedTo : GoodIn wsX2_digestPerson (wsV RX2 243 RX2 yX2_marriedTo wsX2_marriedTo) := goodIn_app (goodIn_of _ (by decide +kernel)) ggX2_digestPerson_X2_marriedTo
set_option maxRecDepth 20000 in
theorem ggX2_digestPerson_X2_colourOf : GoodIn wsX2_digestPerson wsX2_colourOf := goodIn_ca (goodIn_r _ [29, 9, 10, 11, 6, 12, 13, 14, 2, 15, 30, 31, 32, 33, 34, 35, 36, 37, 38, 39, 40, 41, 42, 43, 44, 45, 46, 47, 48, 49, 50, 51, 52, 53, 54, 122, 123, 124, 125, 126, 127, 128, 129, 130, 131, 132, 133, 134, 135, 136, 137] (by decide +kernel) (by decide +kernel)) (goodIn_sub (fun _ h => List.mem_cons_of_mem _ (List.mem_append_right _ h)) (by decide +kernel))
set_option maxRecDepth 20000 in
theorem gX2_digestPerson_X2_colourOf : GoodIn wsX2_digestPerson (wsV RX2 246 RX2 yX2_colourOf wsX2_colourOf) := goodIn_app (goodIn_of _ (by decide +kernel)) ggX2_digestPerson_X2_colourOf
set_option maxRecDepth 20000 in
theorem ggX2_digestPerson_X2_mourningsOf : GoodIn wsX2_digestPerson wsX2_mourningsOf := goodIn_ca (goodIn_r _ [58, 9, 10, 11, 6, 12, 13, 14, 2, 15, 59, 60, 61, 62, 63, 64, 65, 66, 36, 37, 34, 35, 38, 39, 40, 41, 42, 43, 44, 67, 68, 69, 48, 70, 50, 52, 53, 54, 122, 123, 124, 125, 126, 127, 128, 129, 130, 131, 132, 133, 134, 135, 136, 137] (by decide +kernel) (by decide +kernel)) (goodIn_sub (fun _ h => List.mem_cons_of_mem _ (List.mem_append_right _ h)) (by decide +kernel))
set_option maxRecDepth 20000 in
theorem gX2_digestPerson_X2_mourningsOf : GoodIn wsX2_digestPerson (wsV RX2 249 RX2 yX2_mourningsOf wsX2_mourningsOf) := goodIn_app (goodIn_of _ (by decide +kernel)) ggX2_digestPerson_X2_mourningsOf
set_option maxRecDepth 20000 in
theorem ggX2_digestPerson_X2_daysLeft : GoodIn wsX2_digestPerson wsX2_daysLeft := goodIn_ca (goodIn_r _ [74, 9, 10, 11, 6, 12, 13, 14, 2, 15, 75, 76, 77, 78, 38, 39, 40, 41, 63, 64, 65, 66, 36, 37, 34, 35, 42, 43, 44, 67, 68, 69, 48, 70, 50, 52, 53, 54, 122, 123, 124, 125, 126, 127, 128, 129, 130, 131, 132, 133, 134, 135, 136, 137] (by decide +kernel) (by decide +kernel)) (goodIn_sub (fun _ h => List.mem_cons_of_mem _ (List.mem_append_right _ h)) (by decide +kernel))
set_option maxRecDepth 20000 in
theorem gX2_digestPerson_X2_daysLeft : GoodIn wsX2_digestPerson (wsV RX2 252 RX2 yX2_daysLeft wsX2_daysLeft) := goodIn_app (goodIn_of _ (by decide +kernel)) ggX2_digestPerson_X2_daysLeft
set_option maxRecDepth 20000 in
theorem ggX2_digestPerson_X2_daysUntilLighter : GoodIn wsX2_digestPerson wsX2_daysUntilLighter := goodIn_ca (goodIn_r _ [82, 9, 10, 11, 6, 12, 13, 14, 2, 15, 83, 84, 85, 86, 87, 37, 34, 35, 88, 89, 40, 90, 36, 38, 39, 41, 91, 92, 93, 94, 42, 43, 44, 63, 64, 65, 66, 67, 68, 69, 48, 70, 50, 52, 53, 54, 45, 46, 47, 49, 51, 95, 96, 97, 98, 122, 123, 124, 125, 126, 127, 128, 129, 130, 131, 132, 133, 134, 135, 136, 137] (by decide +kernel) (by decide +kernel)) (goodIn_sub (fun _ h => List.mem_cons_of_mem _ (List.mem_append_right _ h)) (by decide +kernel))
set_option maxRecDepth 20000 in
theorem gX2_digestPerson_X2_daysUntilLighter : GoodIn wsX2_digestPerson (wsV RX2 255 RX2 yX2_daysUntilLighter wsX2_daysUntilLighter) := goodIn_app (goodIn_of _ (by decide +kernel)) ggX2_digestPerson_X2_daysUntilLighter
set_option maxRecDepth 20000 in
theorem ggX2_digestPerson_X1_findDegrees : GoodIn wsX2_digestPerson wsX1_findDegrees := goodIn_r _ [103, 104, 105, 106, 92, 93, 94, 107, 108, 109, 102, 110, 111, 112, 113, 114, 115, 116, 131, 132, 133, 134, 135] (by decide +kernel) (by decide +kernel)
set_option maxRecDepth 20000 in
theorem gX2_digestPerson_X1_findDegrees : GoodIn wsX2_digestPerson (wsV RX2 68 RX1 yX1_findDegrees wsX1_findDegrees) := goodIn_app (goodIn_of _ (by decide +kernel)) ggX2_digestPerson_X1_findDegrees
set_option maxRecDepth 20000 in
theorem ggX2_digestPerson_X1_countKin : GoodIn wsX2_digestPerson wsX1_countKin := goodIn_r _ [120, 105, 121, 104, 131, 132, 133, 134, 135] (by decide +kernel) (by decide +kernel)
set_option maxRecDepth 20000 in
theorem gX2_digestPerson_X1_countKin : GoodIn wsX2_digestPerson (wsV RX2 156 RX1 yX1_countKin wsX1_countKin) := goodIn_app (goodIn_of _ (by decide +kernel)) ggX2_digestPerson_X1_countKin
theorem dX2_digestPerson_0 : decode cX2_digestPerson 0 = .ok (.lload_n 1, 1) := by decide +kernel
theorem dX2_digestPerson_1 : decode cX2_digestPerson 1 = .ok (.lstore 4, 2) := by decide +kernel
theorem dX2_digestPerson_3 : decode cX2_digestPerson 3 = .ok (.lload 4, 2) := by decide +kernel
theorem dX2_digestPerson_5 : decode cX2_digestPerson 5 = .ok (.ldc2_w 203, 3) := by decide +kernel
theorem dX2_digestPerson_8 : decode cX2_digestPerson 8 = .ok (.lmul, 1) := by decide +kernel
theorem dX2_digestPerson_9 : decode cX2_digestPerson 9 = .ok (.aload_n 0, 1) := by decide +kernel
theorem dX2_digestPerson_10 : decode cX2_digestPerson 10 = .ok (.iload_n 3, 1) := by decide +kernel
theorem dX2_digestPerson_11 : decode cX2_digestPerson 11 = .ok (.invokevirtual 237, 3) := by decide +kernel
theorem dX2_digestPerson_14 : decode cX2_digestPerson 14 = .ok (.ifCond .eq 7, 3) := by decide +kernel
theorem dX2_digestPerson_17 : decode cX2_digestPerson 17 = .ok (.iconst 1, 1) := by decide +kernel
theorem dX2_digestPerson_18 : decode cX2_digestPerson 18 = .ok (.goto 4, 3) := by decide +kernel
theorem dX2_digestPerson_21 : decode cX2_digestPerson 21 = .ok (.iconst 0, 1) := by decide +kernel
theorem dX2_digestPerson_22 : decode cX2_digestPerson 22 = .ok (.i2l, 1) := by decide +kernel
theorem dX2_digestPerson_23 : decode cX2_digestPerson 23 = .ok (.ladd, 1) := by decide +kernel
theorem dX2_digestPerson_24 : decode cX2_digestPerson 24 = .ok (.lstore 4, 2) := by decide +kernel
theorem dX2_digestPerson_26 : decode cX2_digestPerson 26 = .ok (.lload 4, 2) := by decide +kernel
theorem dX2_digestPerson_28 : decode cX2_digestPerson 28 = .ok (.ldc2_w 203, 3) := by decide +kernel
theorem dX2_digestPerson_31 : decode cX2_digestPerson 31 = .ok (.lmul, 1) := by decide +kernel
theorem dX2_digestPerson_32 : decode cX2_digestPerson 32 = .ok (.aload_n 0, 1) := by decide +kernel
theorem dX2_digestPerson_33 : decode cX2_digestPerson 33 = .ok (.iload_n 3, 1) := by decide +kernel
theorem dX2_digestPerson_34 : decode cX2_digestPerson 34 = .ok (.invokevirtual 240, 3) := by decide +kernel
theorem dX2_digestPerson_37 : decode cX2_digestPerson 37 = .ok (.i2l, 1) := by decide +kernel
theorem dX2_digestPerson_38 : decode cX2_digestPerson 38 = .ok (.ladd, 1) := by decide +kernel
theorem dX2_digestPerson_39 : decode cX2_digestPerson 39 = .ok (.lstore 4, 2) := by decide +kernel
theorem dX2_digestPerson_41 : decode cX2_digestPerson 41 = .ok (.lload 4, 2) := by decide +kernel
theorem dX2_digestPerson_43 : decode cX2_digestPerson 43 = .ok (.ldc2_w 203, 3) := by decide +kernel
theorem dX2_digestPerson_46 : decode cX2_digestPerson 46 = .ok (.lmul, 1) := by decide +kernel
theorem dX2_digestPerson_47 : decode cX2_digestPerson 47 = .ok (.aload_n 0, 1) := by decide +kernel
theorem dX2_digestPerson_48 : decode cX2_digestPerson 48 = .ok (.iload_n 3, 1) := by decide +kernel
theorem dX2_digestPerson_49 : decode cX2_digestPerson 49 = .ok (.invokevirtual 243, 3) := by decide +kernel
theorem dX2_digestPerson_52 : decode cX2_digestPerson 52 = .ok (.i2l, 1) := by decide +kernel
theorem dX2_digestPerson_53 : decode cX2_digestPerson 53 = .ok (.ladd, 1) := by decide +kernel
theorem dX2_digestPerson_54 : decode cX2_digestPerson 54 = .ok (.lstore 4, 2) := by decide +kernel
theorem dX2_digestPerson_56 : decode cX2_digestPerson 56 = .ok (.lload 4, 2) := by decide +kernel
theorem dX2_digestPerson_58 : decode cX2_digestPerson 58 = .ok (.ldc2_w 203, 3) := by decide +kernel
theorem dX2_digestPerson_61 : decode cX2_digestPerson 61 = .ok (.lmul, 1) := by decide +kernel
theorem dX2_digestPerson_62 : decode cX2_digestPerson 62 = .ok (.aload_n 0, 1) := by decide +kernel
theorem dX2_digestPerson_63 : decode cX2_digestPerson 63 = .ok (.iload_n 3, 1) := by decide +kernel
theorem dX2_digestPerson_64 : decode cX2_digestPerson 64 = .ok (.invokevirtual 246, 3) := by decide +kernel
theorem dX2_digestPerson_67 : decode cX2_digestPerson 67 = .ok (.i2l, 1) := by decide +kernel
theorem dX2_digestPerson_68 : decode cX2_digestPerson 68 = .ok (.ladd, 1) := by decide +kernel
theorem dX2_digestPerson_69 : decode cX2_digestPerson 69 = .ok (.lstore 4, 2) := by decide +kernel
theorem dX2_digestPerson_71 : decode cX2_digestPerson 71 = .ok (.lload 4, 2) := by decide +kernel
theorem dX2_digestPerson_73 : decode cX2_digestPerson 73 = .ok (.ldc2_w 203, 3) := by decide +kernel
theorem dX2_digestPerson_76 : decode cX2_digestPerson 76 = .ok (.lmul, 1) := by decide +kernel
theorem dX2_digestPerson_77 : decode cX2_digestPerson 77 = .ok (.aload_n 0, 1) := by decide +kernel
theorem dX2_digestPerson_78 : decode cX2_digestPerson 78 = .ok (.iload_n 3, 1) := by decide +kernel
theorem dX2_digestPerson_79 : decode cX2_digestPerson 79 = .ok (.invokevirtual 249, 3) := by decide +kernel
theorem dX2_digestPerson_82 : decode cX2_digestPerson 82 = .ok (.i2l, 1) := by decide +kernel
theorem dX2_digestPerson_83 : decode cX2_digestPerson 83 = .ok (.ladd, 1) := by decide +kernel
theorem dX2_digestPerson_84 : decode cX2_digestPerson 84 = .ok (.lstore 4, 2) := by decide +kernel
theorem dX2_digestPerson_86 : decode cX2_digestPerson 86 = .ok (.lload 4, 2) := by decide +kernel
theorem dX2_digestPerson_88 : decode cX2_digestPerson 88 = .ok (.ldc2_w 203, 3) := by decide +kernel
theorem dX2_digestPerson_91 : decode cX2_digestPerson 91 = .ok (.lmul, 1) := by decide +kernel
theorem dX2_digestPerson_92 : decode cX2_digestPerson 92 = .ok (.aload_n 0, 1) := by decide +kernel
theorem dX2_digestPerson_93 : decode cX2_digestPerson 93 = .ok (.iload_n 3, 1) := by decide +kernel
theorem dX2_digestPerson_94 : decode cX2_digestPerson 94 = .ok (.invokevirtual 252, 3) := by decide +kernel
theorem dX2_digestPerson_97 : decode cX2_digestPerson 97 = .ok (.i2l, 1) := by decide +kernel
theorem dX2_digestPerson_98 : decode cX2_digestPerson 98 = .ok (.ladd, 1) := by decide +kernel
theorem dX2_digestPerson_99 : decode cX2_digestPerson 99 = .ok (.lstore 4, 2) := by decide +kernel
theorem dX2_digestPerson_101 : decode cX2_digestPerson 101 = .ok (.lload 4, 2) := by decide +kernel
theorem dX2_digestPerson_103 : decode cX2_digestPerson 103 = .ok (.ldc2_w 203, 3) := by decide +kernel
theorem dX2_digestPerson_106 : decode cX2_digestPerson 106 = .ok (.lmul, 1) := by decide +kernel
theorem dX2_digestPerson_107 : decode cX2_digestPerson 107 = .ok (.aload_n 0, 1) := by decide +kernel
theorem dX2_digestPerson_108 : decode cX2_digestPerson 108 = .ok (.iload_n 3, 1) := by decide +kernel
theorem dX2_digestPerson_109 : decode cX2_digestPerson 109 = .ok (.invokevirtual 255, 3) := by decide +kernel
theorem dX2_digestPerson_112 : decode cX2_digestPerson 112 = .ok (.i2l, 1) := by decide +kernel
theorem dX2_digestPerson_113 : decode cX2_digestPerson 113 = .ok (.ladd, 1) := by decide +kernel
theorem dX2_digestPerson_114 : decode cX2_digestPerson 114 = .ok (.lstore 4, 2) := by decide +kernel
theorem dX2_digestPerson_116 : decode cX2_digestPerson 116 = .ok (.aload_n 0, 1) := by decide +kernel
theorem dX2_digestPerson_117 : decode cX2_digestPerson 117 = .ok (.getfield 12, 3) := by decide +kernel
theorem dX2_digestPerson_120 : decode cX2_digestPerson 120 = .ok (.iload_n 3, 1) := by decide +kernel
theorem dX2_digestPerson_121 : decode cX2_digestPerson 121 = .ok (.invokevirtual 68, 3) := by decide +kernel
theorem dX2_digestPerson_124 : decode cX2_digestPerson 124 = .ok (.iconst 1, 1) := by decide +kernel
theorem dX2_digestPerson_125 : decode cX2_digestPerson 125 = .ok (.istore 6, 2) := by decide +kernel
theorem dX2_digestPerson_127 : decode cX2_digestPerson 127 = .ok (.iload 6, 2) := by decide +kernel
theorem dX2_digestPerson_129 : decode cX2_digestPerson 129 = .ok (.iconst 4, 1) := by decide +kernel
theorem dX2_digestPerson_130 : decode cX2_digestPerson 130 = .ok (.if_icmp .gt 28, 3) := by decide +kernel
theorem dX2_digestPerson_133 : decode cX2_digestPerson 133 = .ok (.lload 4, 2) := by decide +kernel
theorem dX2_digestPerson_135 : decode cX2_digestPerson 135 = .ok (.ldc2_w 203, 3) := by decide +kernel
theorem dX2_digestPerson_138 : decode cX2_digestPerson 138 = .ok (.lmul, 1) := by decide +kernel
theorem dX2_digestPerson_139 : decode cX2_digestPerson 139 = .ok (.aload_n 0, 1) := by decide +kernel
theorem dX2_digestPerson_140 : decode cX2_digestPerson 140 = .ok (.getfield 12, 3) := by decide +kernel
theorem dX2_digestPerson_143 : decode cX2_digestPerson 143 = .ok (.iload 6, 2) := by decide +kernel
theorem dX2_digestPerson_145 : decode cX2_digestPerson 145 = .ok (.invokevirtual 156, 3) := by decide +kernel
theorem dX2_digestPerson_148 : decode cX2_digestPerson 148 = .ok (.i2l, 1) := by decide +kernel
theorem dX2_digestPerson_149 : decode cX2_digestPerson 149 = .ok (.ladd, 1) := by decide +kernel
theorem dX2_digestPerson_150 : decode cX2_digestPerson 150 = .ok (.lstore 4, 2) := by decide +kernel
theorem dX2_digestPerson_152 : decode cX2_digestPerson 152 = .ok (.iinc 6 1, 3) := by decide +kernel
theorem dX2_digestPerson_155 : decode cX2_digestPerson 155 = .ok (.goto (-28), 3) := by decide +kernel
theorem dX2_digestPerson_158 : decode cX2_digestPerson 158 = .ok (.lload 4, 2) := by decide +kernel
theorem dX2_digestPerson_160 : decode cX2_digestPerson 160 = .ok (.lreturn, 1) := by decide +kernel
theorem dX2_needPerson_0 : decode cX2_needPerson 0 = .ok (.iload_n 1, 1) := by decide +kernel
theorem dX2_needPerson_1 : decode cX2_needPerson 1 = .ok (.ifCond .lt 14, 3) := by decide +kernel
theorem dX2_needPerson_4 : decode cX2_needPerson 4 = .ok (.iload_n 1, 1) := by decide +kernel
theorem dX2_needPerson_5 : decode cX2_needPerson 5 = .ok (.aload_n 0, 1) := by decide +kernel
theorem dX2_needPerson_6 : decode cX2_needPerson 6 = .ok (.getfield 12, 3) := by decide +kernel
theorem dX2_needPerson_9 : decode cX2_needPerson 9 = .ok (.getfield 128, 3) := by decide +kernel
theorem dX2_needPerson_12 : decode cX2_needPerson 12 = .ok (.if_icmp .lt 14, 3) := by decide +kernel
theorem dX2_needPerson_15 : decode cX2_needPerson 15 = .ok (.new 173, 3) := by decide +kernel
theorem dX2_needPerson_18 : decode cX2_needPerson 18 = .ok (.dup, 1) := by decide +kernel
theorem dX2_needPerson_19 : decode cX2_needPerson 19 = .ok (.ldc_w 258, 3) := by decide +kernel
theorem dX2_needPerson_22 : decode cX2_needPerson 22 = .ok (.invokespecial 177, 3) := by decide +kernel
theorem dX2_needPerson_25 : decode cX2_needPerson 25 = .ok (.athrow, 1) := by decide +kernel
theorem dX2_needPerson_26 : decode cX2_needPerson 26 = .ok (.return_, 1) := by decide +kernel
set_option maxRecDepth 20000 in
theorem ggX2_needRoom_X1_isFull : GoodIn wsX2_needRoom wsX1_isFull := goodIn_r _ [8, 9, 19, 20, 21, 22, 23] (by decide +kernel) (by decide +kernel)
set_option maxRecDepth 20000 in
theorem gX2_needRoom_X1_isFull : GoodIn wsX2_needRoom (wsV RX2 260 RX1 yX1_isFull wsX1_isFull) := goodIn_app (goodIn_of _ (by decide +kernel)) ggX2_needRoom_X1_isFull
theorem dX2_needRoom_0 : decode cX2_needRoom 0 = .ok (.aload_n 0, 1) := by decide +kernel
theorem dX2_needRoom_1 : decode cX2_needRoom 1 = .ok (.getfield 12, 3) := by decide +kernel
theorem dX2_needRoom_4 : decode cX2_needRoom 4 = .ok (.invokevirtual 260, 3) := by decide +kernel
theorem dX2_needRoom_7 : decode cX2_needRoom 7 = .ok (.ifCond .eq 14, 3) := by decide +kernel
theorem dX2_needRoom_10 : decode cX2_needRoom 10 = .ok (.new 61, 3) := by decide +kernel
theorem dX2_needRoom_13 : decode cX2_needRoom 13 = .ok (.dup, 1) := by decide +kernel
theorem dX2_needRoom_14 : decode cX2_needRoom 14 = .ok (.ldc_w 264, 3) := by decide +kernel
theorem dX2_needRoom_17 : decode cX2_needRoom 17 = .ok (.invokespecial 65, 3) := by decide +kernel
theorem dX2_needRoom_20 : decode cX2_needRoom 20 = .ok (.athrow, 1) := by decide +kernel
theorem dX2_needRoom_21 : decode cX2_needRoom 21 = .ok (.return_, 1) := by decide +kernel
theorem dX2_needTwo_0 : decode cX2_needTwo 0 = .ok (.iload_n 1, 1) := by decide +kernel
theorem dX2_needTwo_1 : decode cX2_needTwo 1 = .ok (.iload_n 2, 1) := by decide +kernel
theorem dX2_needTwo_2 : decode cX2_needTwo 2 = .ok (.if_icmp .ne 14, 3) := by decide +kernel
theorem dX2_needTwo_5 : decode cX2_needTwo 5 = .ok (.new 80, 3) := by decide +kernel
theorem dX2_needTwo_8 : decode cX2_needTwo 8 = .ok (.dup, 1) := by decide +kernel
theorem dX2_needTwo_9 : decode cX2_needTwo 9 = .ok (.ldc_w 266, 3) := by decide +kernel
theorem dX2_needTwo_12 : decode cX2_needTwo 12 = .ok (.invokespecial 84, 3) := by decide +kernel
theorem dX2_needTwo_15 : decode cX2_needTwo 15 = .ok (.athrow, 1) := by decide +kernel
theorem dX2_needTwo_16 : decode cX2_needTwo 16 = .ok (.return_, 1) := by decide +kernel
theorem dX2_needAlive_0 : decode cX2_needAlive 0 = .ok (.aload_n 0, 1) := by decide +kernel
theorem dX2_needAlive_1 : decode cX2_needAlive 1 = .ok (.getfield 12, 3) := by decide +kernel
theorem dX2_needAlive_4 : decode cX2_needAlive 4 = .ok (.getfield 101, 3) := by decide +kernel
theorem dX2_needAlive_7 : decode cX2_needAlive 7 = .ok (.iload_n 1, 1) := by decide +kernel
theorem dX2_needAlive_8 : decode cX2_needAlive 8 = .ok (.baload, 1) := by decide +kernel
theorem dX2_needAlive_9 : decode cX2_needAlive 9 = .ok (.ifCond .ne 14, 3) := by decide +kernel
theorem dX2_needAlive_12 : decode cX2_needAlive 12 = .ok (.new 61, 3) := by decide +kernel
theorem dX2_needAlive_15 : decode cX2_needAlive 15 = .ok (.dup, 1) := by decide +kernel
theorem dX2_needAlive_16 : decode cX2_needAlive 16 = .ok (.ldc_w 268, 3) := by decide +kernel
theorem dX2_needAlive_19 : decode cX2_needAlive 19 = .ok (.invokespecial 65, 3) := by decide +kernel
theorem dX2_needAlive_22 : decode cX2_needAlive 22 = .ok (.athrow, 1) := by decide +kernel
theorem dX2_needAlive_23 : decode cX2_needAlive 23 = .ok (.return_, 1) := by decide +kernel
theorem dX2_needDegree_0 : decode cX2_needDegree 0 = .ok (.iload_n 1, 1) := by decide +kernel
theorem dX2_needDegree_1 : decode cX2_needDegree 1 = .ok (.iconst 1, 1) := by decide +kernel
theorem dX2_needDegree_2 : decode cX2_needDegree 2 = .ok (.if_icmp .lt 8, 3) := by decide +kernel
theorem dX2_needDegree_5 : decode cX2_needDegree 5 = .ok (.iload_n 1, 1) := by decide +kernel
theorem dX2_needDegree_6 : decode cX2_needDegree 6 = .ok (.iconst 4, 1) := by decide +kernel
theorem dX2_needDegree_7 : decode cX2_needDegree 7 = .ok (.if_icmp .le 14, 3) := by decide +kernel
theorem dX2_needDegree_10 : decode cX2_needDegree 10 = .ok (.new 173, 3) := by decide +kernel
theorem dX2_needDegree_13 : decode cX2_needDegree 13 = .ok (.dup, 1) := by decide +kernel
theorem dX2_needDegree_14 : decode cX2_needDegree 14 = .ok (.ldc_w 270, 3) := by decide +kernel
theorem dX2_needDegree_17 : decode cX2_needDegree 17 = .ok (.invokespecial 177, 3) := by decide +kernel
theorem dX2_needDegree_20 : decode cX2_needDegree 20 = .ok (.athrow, 1) := by decide +kernel
theorem dX2_needDegree_21 : decode cX2_needDegree 21 = .ok (.return_, 1) := by decide +kernel
set_option maxRecDepth 20000 in
theorem ggX2_needStage_X2_needDegree : GoodIn wsX2_needStage wsX2_needDegree := goodIn_ca (goodIn_r _ [7, 1, 2] (by decide +kernel) (by decide +kernel)) (goodIn_sub (fun _ h => List.mem_cons_of_mem _ (List.mem_append_right _ h)) (by decide +kernel))
set_option maxRecDepth 20000 in
theorem gX2_needStage_X2_needDegree : GoodIn wsX2_needStage (wsV RX2 153 RX2 yX2_needDegree wsX2_needDegree) := goodIn_app (goodIn_of _ (by decide +kernel)) ggX2_needStage_X2_needDegree
theorem dX2_needStage_0 : decode cX2_needStage 0 = .ok (.aload_n 0, 1) := by decide +kernel
theorem dX2_needStage_1 : decode cX2_needStage 1 = .ok (.iload_n 1, 1) := by decide +kernel
theorem dX2_needStage_2 : decode cX2_needStage 2 = .ok (.invokevirtual 153, 3) := by decide +kernel
theorem dX2_needStage_5 : decode cX2_needStage 5 = .ok (.iload_n 2, 1) := by decide +kernel
theorem dX2_needStage_6 : decode cX2_needStage 6 = .ok (.ifCond .lt 8, 3) := by decide +kernel
theorem dX2_needStage_9 : decode cX2_needStage 9 = .ok (.iload_n 2, 1) := by decide +kernel
theorem dX2_needStage_10 : decode cX2_needStage 10 = .ok (.iconst 3, 1) := by decide +kernel
theorem dX2_needStage_11 : decode cX2_needStage 11 = .ok (.if_icmp .lt 14, 3) := by decide +kernel
theorem dX2_needStage_14 : decode cX2_needStage 14 = .ok (.new 173, 3) := by decide +kernel
theorem dX2_needStage_17 : decode cX2_needStage 17 = .ok (.dup, 1) := by decide +kernel
theorem dX2_needStage_18 : decode cX2_needStage 18 = .ok (.ldc_w 272, 3) := by decide +kernel
theorem dX2_needStage_21 : decode cX2_needStage 21 = .ok (.invokespecial 177, 3) := by decide +kernel
theorem dX2_needStage_24 : decode cX2_needStage 24 = .ok (.athrow, 1) := by decide +kernel
theorem dX2_needStage_25 : decode cX2_needStage 25 = .ok (.return_, 1) := by decide +kernel
theorem dX2_pair_0 : decode cX2_pair 0 = .ok (.iload_n 0, 1) := by decide +kernel
theorem dX2_pair_1 : decode cX2_pair 1 = .ok (.bipush 16, 2) := by decide +kernel
theorem dX2_pair_3 : decode cX2_pair 3 = .ok (.imul, 1) := by decide +kernel
theorem dX2_pair_4 : decode cX2_pair 4 = .ok (.iload_n 1, 1) := by decide +kernel
theorem dX2_pair_5 : decode cX2_pair 5 = .ok (.iadd, 1) := by decide +kernel
theorem dX2_pair_6 : decode cX2_pair 6 = .ok (.ireturn, 1) := by decide +kernel
set_option maxRecDepth 20000 in
theorem ggX2_endMourningsOf_X2_pair : GoodIn wsX2_endMourningsOf wsX2_pair := goodIn_r _ [5] (by decide +kernel) (by decide +kernel)
set_option maxRecDepth 20000 in
theorem gX2_endMourningsOf_X2_pair : GoodIn wsX2_endMourningsOf (va_wsS RX2 123 yX2_pair wsX2_pair) := goodIn_app (goodIn_of _ (by decide +kernel)) ggX2_endMourningsOf_X2_pair
theorem dX2_endMourningsOf_0 : decode cX2_endMourningsOf 0 = .ok (.iconst 0, 1) := by decide +kernel
theorem dX2_endMourningsOf_1 : decode cX2_endMourningsOf 1 = .ok (.istore_n 2, 1) := by decide +kernel
theorem dX2_endMourningsOf_2 : decode cX2_endMourningsOf 2 = .ok (.iload_n 2, 1) := by decide +kernel
theorem dX2_endMourningsOf_3 : decode cX2_endMourningsOf 3 = .ok (.bipush 16, 2) := by decide +kernel
theorem dX2_endMourningsOf_5 : decode cX2_endMourningsOf 5 = .ok (.if_icmp .ge 20, 3) := by decide +kernel
theorem dX2_endMourningsOf_8 : decode cX2_endMourningsOf 8 = .ok (.aload_n 0, 1) := by decide +kernel
theorem dX2_endMourningsOf_9 : decode cX2_endMourningsOf 9 = .ok (.getfield 23, 3) := by decide +kernel
theorem dX2_endMourningsOf_12 : decode cX2_endMourningsOf 12 = .ok (.iload_n 1, 1) := by decide +kernel
theorem dX2_endMourningsOf_13 : decode cX2_endMourningsOf 13 = .ok (.iload_n 2, 1) := by decide +kernel
theorem dX2_endMourningsOf_14 : decode cX2_endMourningsOf 14 = .ok (.invokestatic 123, 3) := by decide +kernel
theorem dX2_endMourningsOf_17 : decode cX2_endMourningsOf 17 = .ok (.iconst 0, 1) := by decide +kernel
theorem dX2_endMourningsOf_18 : decode cX2_endMourningsOf 18 = .ok (.iastore, 1) := by decide +kernel
theorem dX2_endMourningsOf_19 : decode cX2_endMourningsOf 19 = .ok (.iinc 2 1, 3) := by decide +kernel
theorem dX2_endMourningsOf_22 : decode cX2_endMourningsOf 22 = .ok (.goto (-20), 3) := by decide +kernel
theorem dX2_endMourningsOf_25 : decode cX2_endMourningsOf 25 = .ok (.return_, 1) := by decide +kernel
set_option maxRecDepth 20000 in
theorem ggX2_beginMourningsFor_X1_findDegrees : GoodIn wsX2_beginMourningsFor wsX1_findDegrees := goodIn_r _ [9, 10, 11, 12, 13, 14, 15, 16, 17, 18, 8, 19, 20, 21, 22, 23, 24, 25, 54, 55, 56, 57, 58] (by decide +kernel) (by decide +kernel)
set_option maxRecDepth 20000 in
theorem gX2_beginMourningsFor_X1_findDegrees : GoodIn wsX2_beginMourningsFor (wsV RX2 68 RX1 yX1_findDegrees wsX1_findDegrees) := goodIn_app (goodIn_of _ (by decide +kernel)) ggX2_beginMourningsFor_X1_findDegrees
set_option maxRecDepth 20000 in
theorem ggX2_beginMourningsFor_X2_wouldBegin : GoodIn wsX2_beginMourningsFor wsX2_wouldBegin := goodIn_r _ [30, 1, 31, 32, 4, 33, 34, 35, 36, 37, 38, 39, 40, 41, 45, 46, 47, 48, 49, 50, 51, 52, 53, 54, 55, 56, 57, 58, 59, 60] (by decide +kernel) (by decide +kernel)
set_option maxRecDepth 20000 in
theorem gX2_beginMourningsFor_X2_wouldBegin : GoodIn wsX2_beginMourningsFor (wsV RX2 186 RX2 yX2_wouldBegin wsX2_wouldBegin) := goodIn_app (goodIn_of _ (by decide +kernel)) ggX2_beginMourningsFor_X2_wouldBegin
set_option maxRecDepth 20000 in
theorem ggX2_beginMourningsFor_X2_pair : GoodIn wsX2_beginMourningsFor wsX2_pair := goodIn_r _ [44] (by decide +kernel) (by decide +kernel)
set_option maxRecDepth 20000 in
theorem gX2_beginMourningsFor_X2_pair : GoodIn wsX2_beginMourningsFor (va_wsS RX2 123 yX2_pair wsX2_pair) := goodIn_app (goodIn_of _ (by decide +kernel)) ggX2_beginMourningsFor_X2_pair
theorem dX2_beginMourningsFor_0 : decode cX2_beginMourningsFor 0 = .ok (.aload_n 0, 1) := by decide +kernel
theorem dX2_beginMourningsFor_1 : decode cX2_beginMourningsFor 1 = .ok (.getfield 12, 3) := by decide +kernel
theorem dX2_beginMourningsFor_4 : decode cX2_beginMourningsFor 4 = .ok (.iload_n 1, 1) := by decide +kernel
theorem dX2_beginMourningsFor_5 : decode cX2_beginMourningsFor 5 = .ok (.invokevirtual 68, 3) := by decide +kernel
theorem dX2_beginMourningsFor_8 : decode cX2_beginMourningsFor 8 = .ok (.iconst 0, 1) := by decide +kernel
theorem dX2_beginMourningsFor_9 : decode cX2_beginMourningsFor 9 = .ok (.istore_n 2, 1) := by decide +kernel
theorem dX2_beginMourningsFor_10 : decode cX2_beginMourningsFor 10 = .ok (.iconst 0, 1) := by decide +kernel
theorem dX2_beginMourningsFor_11 : decode cX2_beginMourningsFor 11 = .ok (.istore_n 3, 1) := by decide +kernel
theorem dX2_beginMourningsFor_12 : decode cX2_beginMourningsFor 12 = .ok (.iload_n 3, 1) := by decide +kernel
theorem dX2_beginMourningsFor_13 : decode cX2_beginMourningsFor 13 = .ok (.aload_n 0, 1) := by decide +kernel
theorem dX2_beginMourningsFor_14 : decode cX2_beginMourningsFor 14 = .ok (.getfield 12, 3) := by decide +kernel
theorem dX2_beginMourningsFor_17 : decode cX2_beginMourningsFor 17 = .ok (.getfield 128, 3) := by decide +kernel
theorem dX2_beginMourningsFor_20 : decode cX2_beginMourningsFor 20 = .ok (.if_icmp .ge 39, 3) := by decide +kernel
theorem dX2_beginMourningsFor_23 : decode cX2_beginMourningsFor 23 = .ok (.aload_n 0, 1) := by decide +kernel
theorem dX2_beginMourningsFor_24 : decode cX2_beginMourningsFor 24 = .ok (.iload_n 3, 1) := by decide +kernel
theorem dX2_beginMourningsFor_25 : decode cX2_beginMourningsFor 25 = .ok (.invokevirtual 186, 3) := by decide +kernel
theorem dX2_beginMourningsFor_28 : decode cX2_beginMourningsFor 28 = .ok (.ifCond .eq 25, 3) := by decide +kernel
theorem dX2_beginMourningsFor_31 : decode cX2_beginMourningsFor 31 = .ok (.aload_n 0, 1) := by decide +kernel
theorem dX2_beginMourningsFor_32 : decode cX2_beginMourningsFor 32 = .ok (.getfield 23, 3) := by decide +kernel
theorem dX2_beginMourningsFor_35 : decode cX2_beginMourningsFor 35 = .ok (.iload_n 3, 1) := by decide +kernel
theorem dX2_beginMourningsFor_36 : decode cX2_beginMourningsFor 36 = .ok (.iload_n 1, 1) := by decide +kernel
theorem dX2_beginMourningsFor_37 : decode cX2_beginMourningsFor 37 = .ok (.invokestatic 123, 3) := by decide +kernel
theorem dX2_beginMourningsFor_40 : decode cX2_beginMourningsFor 40 = .ok (.aload_n 0, 1) := by decide +kernel
theorem dX2_beginMourningsFor_41 : decode cX2_beginMourningsFor 41 = .ok (.getfield 12, 3) := by decide +kernel
theorem dX2_beginMourningsFor_44 : decode cX2_beginMourningsFor 44 = .ok (.getfield 71, 3) := by decide +kernel
theorem dX2_beginMourningsFor_47 : decode cX2_beginMourningsFor 47 = .ok (.iload_n 3, 1) := by decide +kernel
theorem dX2_beginMourningsFor_48 : decode cX2_beginMourningsFor 48 = .ok (.iaload, 1) := by decide +kernel
theorem dX2_beginMourningsFor_49 : decode cX2_beginMourningsFor 49 = .ok (.iastore, 1) := by decide +kernel
theorem dX2_beginMourningsFor_50 : decode cX2_beginMourningsFor 50 = .ok (.iinc 2 1, 3) := by decide +kernel
theorem dX2_beginMourningsFor_53 : decode cX2_beginMourningsFor 53 = .ok (.iinc 3 1, 3) := by decide +kernel
theorem dX2_beginMourningsFor_56 : decode cX2_beginMourningsFor 56 = .ok (.goto (-44), 3) := by decide +kernel
theorem dX2_beginMourningsFor_59 : decode cX2_beginMourningsFor 59 = .ok (.iload_n 2, 1) := by decide +kernel
theorem dX2_beginMourningsFor_60 : decode cX2_beginMourningsFor 60 = .ok (.ireturn, 1) := by decide +kernel
set_option maxRecDepth 20000 in
theorem ggX2_wouldBegin_X0_daysOfAll : GoodIn wsX2_wouldBegin wsX0_daysOfAll := goodIn_r _ [9, 10, 11, 12, 8, 13, 28, 29] (by decide +kernel) (by decide +kernel)
set_option maxRecDepth 20000 in
theorem gX2_wouldBegin_X0_daysOfAll : GoodIn wsX2_wouldBegin (wsV RX2 97 RX0 yX0_daysOfAll wsX0_daysOfAll) := goodIn_app (goodIn_of _ (by decide +kernel)) ggX2_wouldBegin_X0_daysOfAll
theorem dX2_wouldBegin_0 : decode cX2_wouldBegin 0 = .ok (.aload_n 0, 1) := by decide +kernel
theorem dX2_wouldBegin_1 : decode cX2_wouldBegin 1 = .ok (.getfield 12, 3) := by decide +kernel
theorem dX2_wouldBegin_4 : decode cX2_wouldBegin 4 = .ok (.getfield 101, 3) := by decide +kernel
theorem dX2_wouldBegin_7 : decode cX2_wouldBegin 7 = .ok (.iload_n 1, 1) := by decide +kernel
theorem dX2_wouldBegin_8 : decode cX2_wouldBegin 8 = .ok (.baload, 1) := by decide +kernel
theorem dX2_wouldBegin_9 : decode cX2_wouldBegin 9 = .ok (.ifCond .eq 28, 3) := by decide +kernel
theorem dX2_wouldBegin_12 : decode cX2_wouldBegin 12 = .ok (.aload_n 0, 1) := by decide +kernel
theorem dX2_wouldBegin_13 : decode cX2_wouldBegin 13 = .ok (.getfield 19, 3) := by decide +kernel
theorem dX2_wouldBegin_16 : decode cX2_wouldBegin 16 = .ok (.bipush 16, 2) := by decide +kernel
theorem dX2_wouldBegin_18 : decode cX2_wouldBegin 18 = .ok (.aload_n 0, 1) := by decide +kernel
theorem dX2_wouldBegin_19 : decode cX2_wouldBegin 19 = .ok (.getfield 12, 3) := by decide +kernel
theorem dX2_wouldBegin_22 : decode cX2_wouldBegin 22 = .ok (.getfield 71, 3) := by decide +kernel
theorem dX2_wouldBegin_25 : decode cX2_wouldBegin 25 = .ok (.iload_n 1, 1) := by decide +kernel
theorem dX2_wouldBegin_26 : decode cX2_wouldBegin 26 = .ok (.iaload, 1) := by decide +kernel
theorem dX2_wouldBegin_27 : decode cX2_wouldBegin 27 = .ok (.invokevirtual 97, 3) := by decide +kernel
theorem dX2_wouldBegin_30 : decode cX2_wouldBegin 30 = .ok (.ifCond .le 7, 3) := by decide +kernel
theorem dX2_wouldBegin_33 : decode cX2_wouldBegin 33 = .ok (.iconst 1, 1) := by decide +kernel
theorem dX2_wouldBegin_34 : decode cX2_wouldBegin 34 = .ok (.goto 4, 3) := by decide +kernel
theorem dX2_wouldBegin_37 : decode cX2_wouldBegin 37 = .ok (.iconst 0, 1) := by decide +kernel
theorem dX2_wouldBegin_38 : decode cX2_wouldBegin 38 = .ok (.ireturn, 1) := by decide +kernel
set_option maxRecDepth 20000 in
theorem ggX2_leftFor_X2_pair : GoodIn wsX2_leftFor wsX2_pair := goodIn_r _ [12] (by decide +kernel) (by decide +kernel)
set_option maxRecDepth 20000 in
theorem gX2_leftFor_X2_pair : GoodIn wsX2_leftFor (va_wsS RX2 123 yX2_pair wsX2_pair) := goodIn_app (goodIn_of _ (by decide +kernel)) ggX2_leftFor_X2_pair
set_option maxRecDepth 20000 in
theorem ggX2_leftFor_X0_daysOfAll : GoodIn wsX2_leftFor wsX0_daysOfAll := goodIn_r _ [17, 18, 19, 20, 16, 21, 31, 32] (by decide +kernel) (by decide +kernel)
set_option maxRecDepth 20000 in
theorem gX2_leftFor_X0_daysOfAll : GoodIn wsX2_leftFor (wsV RX2 97 RX0 yX0_daysOfAll wsX0_daysOfAll) := goodIn_app (goodIn_of _ (by decide +kernel)) ggX2_leftFor_X0_daysOfAll
theorem dX2_leftFor_0 : decode cX2_leftFor 0 = .ok (.aload_n 0, 1) := by decide +kernel
theorem dX2_leftFor_1 : decode cX2_leftFor 1 = .ok (.getfield 19, 3) := by decide +kernel
theorem dX2_leftFor_4 : decode cX2_leftFor 4 = .ok (.iload_n 2, 1) := by decide +kernel
theorem dX2_leftFor_5 : decode cX2_leftFor 5 = .ok (.aload_n 0, 1) := by decide +kernel
theorem dX2_leftFor_6 : decode cX2_leftFor 6 = .ok (.getfield 23, 3) := by decide +kernel
theorem dX2_leftFor_9 : decode cX2_leftFor 9 = .ok (.iload_n 1, 1) := by decide +kernel
theorem dX2_leftFor_10 : decode cX2_leftFor 10 = .ok (.iload_n 2, 1) := by decide +kernel
theorem dX2_leftFor_11 : decode cX2_leftFor 11 = .ok (.invokestatic 123, 3) := by decide +kernel
theorem dX2_leftFor_14 : decode cX2_leftFor 14 = .ok (.iaload, 1) := by decide +kernel
theorem dX2_leftFor_15 : decode cX2_leftFor 15 = .ok (.invokevirtual 97, 3) := by decide +kernel
theorem dX2_leftFor_18 : decode cX2_leftFor 18 = .ok (.istore_n 3, 1) := by decide +kernel
theorem dX2_leftFor_19 : decode cX2_leftFor 19 = .ok (.iconst 0, 1) := by decide +kernel
theorem dX2_leftFor_20 : decode cX2_leftFor 20 = .ok (.iload_n 3, 1) := by decide +kernel
theorem dX2_leftFor_21 : decode cX2_leftFor 21 = .ok (.aload_n 0, 1) := by decide +kernel
theorem dX2_leftFor_22 : decode cX2_leftFor 22 = .ok (.getfield 105, 3) := by decide +kernel
theorem dX2_leftFor_25 : decode cX2_leftFor 25 = .ok (.aload_n 0, 1) := by decide +kernel
theorem dX2_leftFor_26 : decode cX2_leftFor 26 = .ok (.getfield 27, 3) := by decide +kernel
theorem dX2_leftFor_29 : decode cX2_leftFor 29 = .ok (.iload_n 2, 1) := by decide +kernel
theorem dX2_leftFor_30 : decode cX2_leftFor 30 = .ok (.iaload, 1) := by decide +kernel
theorem dX2_leftFor_31 : decode cX2_leftFor 31 = .ok (.isub, 1) := by decide +kernel
theorem dX2_leftFor_32 : decode cX2_leftFor 32 = .ok (.isub, 1) := by decide +kernel
theorem dX2_leftFor_33 : decode cX2_leftFor 33 = .ok (.invokestatic 181, 3) := by decide +kernel
theorem dX2_leftFor_36 : decode cX2_leftFor 36 = .ok (.ireturn, 1) := by decide +kernel
set_option maxRecDepth 20000 in
theorem ggX2_longestLeft_X2_leftFor : GoodIn wsX2_longestLeft wsX2_leftFor := goodIn_r _ [11, 12, 13, 14, 15, 3, 4, 5, 6, 16, 17, 10, 18, 19, 20, 21, 22, 23, 24, 25, 26, 27, 28, 29, 30, 31, 32, 33, 34, 35, 36, 42, 43] (by decide +kernel) (by decide +kernel)
set_option maxRecDepth 20000 in
theorem gX2_longestLeft_X2_leftFor : GoodIn wsX2_longestLeft (wsV RX2 118 RX2 yX2_leftFor wsX2_leftFor) := goodIn_app (goodIn_of _ (by decide +kernel)) ggX2_longestLeft_X2_leftFor
theorem dX2_longestLeft_0 : decode cX2_longestLeft 0 = .ok (.iconst 0, 1) := by decide +kernel
theorem dX2_longestLeft_1 : decode cX2_longestLeft 1 = .ok (.istore_n 2, 1) := by decide +kernel
theorem dX2_longestLeft_2 : decode cX2_longestLeft 2 = .ok (.iconst 0, 1) := by decide +kernel
theorem dX2_longestLeft_3 : decode cX2_longestLeft 3 = .ok (.istore_n 3, 1) := by decide +kernel
theorem dX2_longestLeft_4 : decode cX2_longestLeft 4 = .ok (.iload_n 3, 1) := by decide +kernel
theorem dX2_longestLeft_5 : decode cX2_longestLeft 5 = .ok (.aload_n 0, 1) := by decide +kernel
theorem dX2_longestLeft_6 : decode cX2_longestLeft 6 = .ok (.getfield 12, 3) := by decide +kernel
theorem dX2_longestLeft_9 : decode cX2_longestLeft 9 = .ok (.getfield 128, 3) := by decide +kernel
theorem dX2_longestLeft_12 : decode cX2_longestLeft 12 = .ok (.if_icmp .ge 20, 3) := by decide +kernel
theorem dX2_longestLeft_15 : decode cX2_longestLeft 15 = .ok (.iload_n 2, 1) := by decide +kernel
theorem dX2_longestLeft_16 : decode cX2_longestLeft 16 = .ok (.aload_n 0, 1) := by decide +kernel
theorem dX2_longestLeft_17 : decode cX2_longestLeft 17 = .ok (.iload_n 1, 1) := by decide +kernel
theorem dX2_longestLeft_18 : decode cX2_longestLeft 18 = .ok (.iload_n 3, 1) := by decide +kernel
theorem dX2_longestLeft_19 : decode cX2_longestLeft 19 = .ok (.invokevirtual 118, 3) := by decide +kernel
theorem dX2_longestLeft_22 : decode cX2_longestLeft 22 = .ok (.invokestatic 181, 3) := by decide +kernel
theorem dX2_longestLeft_25 : decode cX2_longestLeft 25 = .ok (.istore_n 2, 1) := by decide +kernel
theorem dX2_longestLeft_26 : decode cX2_longestLeft 26 = .ok (.iinc 3 1, 3) := by decide +kernel
theorem dX2_longestLeft_29 : decode cX2_longestLeft 29 = .ok (.goto (-25), 3) := by decide +kernel
theorem dX2_longestLeft_32 : decode cX2_longestLeft 32 = .ok (.iload_n 2, 1) := by decide +kernel
theorem dX2_longestLeft_33 : decode cX2_longestLeft 33 = .ok (.ireturn, 1) := by decide +kernel
set_option maxRecDepth 20000 in
theorem ggX2_countMournings_X2_leftFor : GoodIn wsX2_countMournings wsX2_leftFor := goodIn_r _ [7, 8, 9, 10, 11, 12, 13, 14, 15, 16, 17, 6, 18, 19, 20, 21, 22, 23, 24, 25, 26, 27, 28, 29, 30, 31, 32, 33, 34, 35, 36, 42, 43] (by decide +kernel) (by decide +kernel)
set_option maxRecDepth 20000 in
theorem gX2_countMournings_X2_leftFor : GoodIn wsX2_countMournings (wsV RX2 118 RX2 yX2_leftFor wsX2_leftFor) := goodIn_app (goodIn_of _ (by decide +kernel)) ggX2_countMournings_X2_leftFor
theorem dX2_countMournings_0 : decode cX2_countMournings 0 = .ok (.iconst 0, 1) := by decide +kernel
theorem dX2_countMournings_1 : decode cX2_countMournings 1 = .ok (.istore_n 2, 1) := by decide +kernel
theorem dX2_countMournings_2 : decode cX2_countMournings 2 = .ok (.iconst 0, 1) := by decide +kernel
theorem dX2_countMournings_3 : decode cX2_countMournings 3 = .ok (.istore_n 3, 1) := by decide +kernel
theorem dX2_countMournings_4 : decode cX2_countMournings 4 = .ok (.iload_n 3, 1) := by decide +kernel
theorem dX2_countMournings_5 : decode cX2_countMournings 5 = .ok (.aload_n 0, 1) := by decide +kernel
theorem dX2_countMournings_6 : decode cX2_countMournings 6 = .ok (.getfield 12, 3) := by decide +kernel
theorem dX2_countMournings_9 : decode cX2_countMournings 9 = .ok (.getfield 128, 3) := by decide +kernel
theorem dX2_countMournings_12 : decode cX2_countMournings 12 = .ok (.if_icmp .ge 21, 3) := by decide +kernel
theorem dX2_countMournings_15 : decode cX2_countMournings 15 = .ok (.aload_n 0, 1) := by decide +kernel
theorem dX2_countMournings_16 : decode cX2_countMournings 16 = .ok (.iload_n 1, 1) := by decide +kernel
theorem dX2_countMournings_17 : decode cX2_countMournings 17 = .ok (.iload_n 3, 1) := by decide +kernel
theorem dX2_countMournings_18 : decode cX2_countMournings 18 = .ok (.invokevirtual 118, 3) := by decide +kernel
theorem dX2_countMournings_21 : decode cX2_countMournings 21 = .ok (.ifCond .le 6, 3) := by decide +kernel
theorem dX2_countMournings_24 : decode cX2_countMournings 24 = .ok (.iinc 2 1, 3) := by decide +kernel
theorem dX2_countMournings_27 : decode cX2_countMournings 27 = .ok (.iinc 3 1, 3) := by decide +kernel
theorem dX2_countMournings_30 : decode cX2_countMournings 30 = .ok (.goto (-26), 3) := by decide +kernel
theorem dX2_countMournings_33 : decode cX2_countMournings 33 = .ok (.iload_n 2, 1) := by decide +kernel
theorem dX2_countMournings_34 : decode cX2_countMournings 34 = .ok (.ireturn, 1) := by decide +kernel
set_option maxRecDepth 20000 in
theorem ggX2_colourAfter_X2_pair : GoodIn wsX2_colourAfter wsX2_pair := goodIn_r _ [14] (by decide +kernel) (by decide +kernel)
set_option maxRecDepth 20000 in
theorem gX2_colourAfter_X2_pair : GoodIn wsX2_colourAfter (va_wsS RX2 123 yX2_pair wsX2_pair) := goodIn_app (goodIn_of _ (by decide +kernel)) ggX2_colourAfter_X2_pair
