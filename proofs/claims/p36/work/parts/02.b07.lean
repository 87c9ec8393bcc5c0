theorem dX3_brought_24 : decode cX3_brought 24 = .ok (.iload_n 1, 1) := by decide +kernel
theorem dX3_brought_25 : decode cX3_brought 25 = .ok (.aaload, 1) := by decide +kernel
theorem dX3_brought_26 : decode cX3_brought 26 = .ok (.iload 4, 2) := by decide +kernel
theorem dX3_brought_28 : decode cX3_brought 28 = .ok (.iaload, 1) := by decide +kernel
theorem dX3_brought_29 : decode cX3_brought 29 = .ok (.istore 5, 2) := by decide +kernel
theorem dX3_brought_31 : decode cX3_brought 31 = .ok (.aload_n 0, 1) := by decide +kernel
theorem dX3_brought_32 : decode cX3_brought 32 = .ok (.getfield 9, 3) := by decide +kernel
theorem dX3_brought_35 : decode cX3_brought 35 = .ok (.iload 4, 2) := by decide +kernel
theorem dX3_brought_37 : decode cX3_brought 37 = .ok (.aaload, 1) := by decide +kernel
theorem dX3_brought_38 : decode cX3_brought 38 = .ok (.iconst 2, 1) := by decide +kernel
theorem dX3_brought_39 : decode cX3_brought 39 = .ok (.iaload, 1) := by decide +kernel
theorem dX3_brought_40 : decode cX3_brought 40 = .ok (.ifCond .eq 111, 3) := by decide +kernel
theorem dX3_brought_43 : decode cX3_brought 43 = .ok (.iload 5, 2) := by decide +kernel
theorem dX3_brought_45 : decode cX3_brought 45 = .ok (.ifCond .eq 106, 3) := by decide +kernel
theorem dX3_brought_48 : decode cX3_brought 48 = .ok (.aload_n 0, 1) := by decide +kernel
theorem dX3_brought_49 : decode cX3_brought 49 = .ok (.iload 5, 2) := by decide +kernel
theorem dX3_brought_51 : decode cX3_brought 51 = .ok (.invokevirtual 46, 3) := by decide +kernel
theorem dX3_brought_54 : decode cX3_brought 54 = .ok (.ifCond .ne 6, 3) := by decide +kernel
theorem dX3_brought_57 : decode cX3_brought 57 = .ok (.goto 94, 3) := by decide +kernel
theorem dX3_brought_60 : decode cX3_brought 60 = .ok (.aload_n 0, 1) := by decide +kernel
theorem dX3_brought_61 : decode cX3_brought 61 = .ok (.getfield 17, 3) := by decide +kernel
theorem dX3_brought_64 : decode cX3_brought 64 = .ok (.iload 5, 2) := by decide +kernel
theorem dX3_brought_66 : decode cX3_brought 66 = .ok (.aaload, 1) := by decide +kernel
theorem dX3_brought_67 : decode cX3_brought 67 = .ok (.astore 6, 2) := by decide +kernel
theorem dX3_brought_69 : decode cX3_brought 69 = .ok (.aload_n 3, 1) := by decide +kernel
theorem dX3_brought_70 : decode cX3_brought 70 = .ok (.bipush 9, 2) := by decide +kernel
theorem dX3_brought_72 : decode cX3_brought 72 = .ok (.newarray .int, 2) := by decide +kernel
theorem dX3_brought_74 : decode cX3_brought 74 = .ok (.dup, 1) := by decide +kernel
theorem dX3_brought_75 : decode cX3_brought 75 = .ok (.iconst 0, 1) := by decide +kernel
theorem dX3_brought_76 : decode cX3_brought 76 = .ok (.iload 4, 2) := by decide +kernel
theorem dX3_brought_78 : decode cX3_brought 78 = .ok (.iastore, 1) := by decide +kernel
theorem dX3_brought_79 : decode cX3_brought 79 = .ok (.dup, 1) := by decide +kernel
theorem dX3_brought_80 : decode cX3_brought 80 = .ok (.iconst 1, 1) := by decide +kernel
theorem dX3_brought_81 : decode cX3_brought 81 = .ok (.iload_n 1, 1) := by decide +kernel
theorem dX3_brought_82 : decode cX3_brought 82 = .ok (.iastore, 1) := by decide +kernel
theorem dX3_brought_83 : decode cX3_brought 83 = .ok (.dup, 1) := by decide +kernel
theorem dX3_brought_84 : decode cX3_brought 84 = .ok (.iconst 2, 1) := by decide +kernel
theorem dX3_brought_85 : decode cX3_brought 85 = .ok (.aload_n 0, 1) := by decide +kernel
theorem dX3_brought_86 : decode cX3_brought 86 = .ok (.getfield 38, 3) := by decide +kernel
theorem dX3_brought_89 : decode cX3_brought 89 = .ok (.iastore, 1) := by decide +kernel
theorem dX3_brought_90 : decode cX3_brought 90 = .ok (.dup, 1) := by decide +kernel
theorem dX3_brought_91 : decode cX3_brought 91 = .ok (.iconst 3, 1) := by decide +kernel
theorem dX3_brought_92 : decode cX3_brought 92 = .ok (.aload 6, 2) := by decide +kernel
theorem dX3_brought_94 : decode cX3_brought 94 = .ok (.iconst 0, 1) := by decide +kernel
theorem dX3_brought_95 : decode cX3_brought 95 = .ok (.aaload, 1) := by decide +kernel
theorem dX3_brought_96 : decode cX3_brought 96 = .ok (.iconst 0, 1) := by decide +kernel
theorem dX3_brought_97 : decode cX3_brought 97 = .ok (.iaload, 1) := by decide +kernel
theorem dX3_brought_98 : decode cX3_brought 98 = .ok (.iastore, 1) := by decide +kernel
theorem dX3_brought_99 : decode cX3_brought 99 = .ok (.dup, 1) := by decide +kernel
theorem dX3_brought_100 : decode cX3_brought 100 = .ok (.iconst 4, 1) := by decide +kernel
theorem dX3_brought_101 : decode cX3_brought 101 = .ok (.aload 6, 2) := by decide +kernel
theorem dX3_brought_103 : decode cX3_brought 103 = .ok (.iconst 0, 1) := by decide +kernel
theorem dX3_brought_104 : decode cX3_brought 104 = .ok (.aaload, 1) := by decide +kernel
theorem dX3_brought_105 : decode cX3_brought 105 = .ok (.iconst 1, 1) := by decide +kernel
theorem dX3_brought_106 : decode cX3_brought 106 = .ok (.iaload, 1) := by decide +kernel
theorem dX3_brought_107 : decode cX3_brought 107 = .ok (.iastore, 1) := by decide +kernel
theorem dX3_brought_108 : decode cX3_brought 108 = .ok (.dup, 1) := by decide +kernel
theorem dX3_brought_109 : decode cX3_brought 109 = .ok (.iconst 5, 1) := by decide +kernel
theorem dX3_brought_110 : decode cX3_brought 110 = .ok (.aload 6, 2) := by decide +kernel
theorem dX3_brought_112 : decode cX3_brought 112 = .ok (.iconst 1, 1) := by decide +kernel
theorem dX3_brought_113 : decode cX3_brought 113 = .ok (.aaload, 1) := by decide +kernel
theorem dX3_brought_114 : decode cX3_brought 114 = .ok (.iconst 0, 1) := by decide +kernel
theorem dX3_brought_115 : decode cX3_brought 115 = .ok (.iaload, 1) := by decide +kernel
theorem dX3_brought_116 : decode cX3_brought 116 = .ok (.iastore, 1) := by decide +kernel
theorem dX3_brought_117 : decode cX3_brought 117 = .ok (.dup, 1) := by decide +kernel
theorem dX3_brought_118 : decode cX3_brought 118 = .ok (.bipush 6, 2) := by decide +kernel
theorem dX3_brought_120 : decode cX3_brought 120 = .ok (.aload 6, 2) := by decide +kernel
theorem dX3_brought_122 : decode cX3_brought 122 = .ok (.iconst 1, 1) := by decide +kernel
theorem dX3_brought_123 : decode cX3_brought 123 = .ok (.aaload, 1) := by decide +kernel
theorem dX3_brought_124 : decode cX3_brought 124 = .ok (.iconst 1, 1) := by decide +kernel
theorem dX3_brought_125 : decode cX3_brought 125 = .ok (.iaload, 1) := by decide +kernel
theorem dX3_brought_126 : decode cX3_brought 126 = .ok (.iastore, 1) := by decide +kernel
theorem dX3_brought_127 : decode cX3_brought 127 = .ok (.dup, 1) := by decide +kernel
theorem dX3_brought_128 : decode cX3_brought 128 = .ok (.bipush 7, 2) := by decide +kernel
theorem dX3_brought_130 : decode cX3_brought 130 = .ok (.aload 6, 2) := by decide +kernel
theorem dX3_brought_132 : decode cX3_brought 132 = .ok (.iconst 2, 1) := by decide +kernel
theorem dX3_brought_133 : decode cX3_brought 133 = .ok (.aaload, 1) := by decide +kernel
theorem dX3_brought_134 : decode cX3_brought 134 = .ok (.iconst 0, 1) := by decide +kernel
theorem dX3_brought_135 : decode cX3_brought 135 = .ok (.iaload, 1) := by decide +kernel
theorem dX3_brought_136 : decode cX3_brought 136 = .ok (.iastore, 1) := by decide +kernel
theorem dX3_brought_137 : decode cX3_brought 137 = .ok (.dup, 1) := by decide +kernel
theorem dX3_brought_138 : decode cX3_brought 138 = .ok (.bipush 8, 2) := by decide +kernel
theorem dX3_brought_140 : decode cX3_brought 140 = .ok (.aload 6, 2) := by decide +kernel
theorem dX3_brought_142 : decode cX3_brought 142 = .ok (.iconst 2, 1) := by decide +kernel
theorem dX3_brought_143 : decode cX3_brought 143 = .ok (.aaload, 1) := by decide +kernel
theorem dX3_brought_144 : decode cX3_brought 144 = .ok (.iconst 1, 1) := by decide +kernel
theorem dX3_brought_145 : decode cX3_brought 145 = .ok (.iaload, 1) := by decide +kernel
theorem dX3_brought_146 : decode cX3_brought 146 = .ok (.iastore, 1) := by decide +kernel
theorem dX3_brought_147 : decode cX3_brought 147 = .ok (.invokestatic 50, 3) := by decide +kernel
theorem dX3_brought_150 : decode cX3_brought 150 = .ok (.astore_n 3, 1) := by decide +kernel
theorem dX3_brought_151 : decode cX3_brought 151 = .ok (.iinc 4 1, 3) := by decide +kernel
theorem dX3_brought_154 : decode cX3_brought 154 = .ok (.goto (-141), 3) := by decide +kernel
theorem dX3_brought_157 : decode cX3_brought 157 = .ok (.aload_n 3, 1) := by decide +kernel
theorem dX3_brought_158 : decode cX3_brought 158 = .ok (.areturn, 1) := by decide +kernel
set_option maxRecDepth 20000 in
theorem ggX3_die_X3_brought : GoodIn wsX3_die wsX3_brought := goodIn_r _ [8, 1, 3, 9, 10, 11, 12, 13, 14, 7, 15, 16, 17, 18, 19, 20, 21, 22, 23, 24, 25, 26, 27, 28] (by decide +kernel) (by decide +kernel)
set_option maxRecDepth 20000 in
theorem gX3_die_X3_brought : GoodIn wsX3_die (wsV RX3 54 RX3 yX3_brought wsX3_brought) := goodIn_app (goodIn_of _ (by decide +kernel)) ggX3_die_X3_brought
set_option maxRecDepth 20000 in
theorem ggX3_die_X3_more : GoodIn wsX3_die wsX3_more := goodIn_r _ [23, 1] (by decide +kernel) (by decide +kernel)
set_option maxRecDepth 20000 in
theorem gX3_die_X3_more : GoodIn wsX3_die (va_wsS RX3 50 yX3_more wsX3_more) := goodIn_app (goodIn_of _ (by decide +kernel)) ggX3_die_X3_more
theorem dX3_die_0 : decode cX3_die 0 = .ok (.aload_n 0, 1) := by decide +kernel
theorem dX3_die_1 : decode cX3_die 1 = .ok (.iload_n 1, 1) := by decide +kernel
theorem dX3_die_2 : decode cX3_die 2 = .ok (.invokevirtual 54, 3) := by decide +kernel
theorem dX3_die_5 : decode cX3_die 5 = .ok (.astore_n 2, 1) := by decide +kernel
theorem dX3_die_6 : decode cX3_die 6 = .ok (.iconst 0, 1) := by decide +kernel
theorem dX3_die_7 : decode cX3_die 7 = .ok (.anewarray 7, 3) := by decide +kernel
theorem dX3_die_10 : decode cX3_die 10 = .ok (.astore_n 3, 1) := by decide +kernel
theorem dX3_die_11 : decode cX3_die 11 = .ok (.aload_n 0, 1) := by decide +kernel
theorem dX3_die_12 : decode cX3_die 12 = .ok (.getfield 20, 3) := by decide +kernel
theorem dX3_die_15 : decode cX3_die 15 = .ok (.astore 4, 2) := by decide +kernel
theorem dX3_die_17 : decode cX3_die 17 = .ok (.aload 4, 2) := by decide +kernel
theorem dX3_die_19 : decode cX3_die 19 = .ok (.arraylength, 1) := by decide +kernel
theorem dX3_die_20 : decode cX3_die 20 = .ok (.istore 5, 2) := by decide +kernel
theorem dX3_die_22 : decode cX3_die 22 = .ok (.iconst 0, 1) := by decide +kernel
theorem dX3_die_23 : decode cX3_die 23 = .ok (.istore 6, 2) := by decide +kernel
theorem dX3_die_25 : decode cX3_die 25 = .ok (.iload 6, 2) := by decide +kernel
theorem dX3_die_27 : decode cX3_die 27 = .ok (.iload 5, 2) := by decide +kernel
theorem dX3_die_29 : decode cX3_die 29 = .ok (.if_icmp .ge 31, 3) := by decide +kernel
theorem dX3_die_32 : decode cX3_die 32 = .ok (.aload 4, 2) := by decide +kernel
theorem dX3_die_34 : decode cX3_die 34 = .ok (.iload 6, 2) := by decide +kernel
theorem dX3_die_36 : decode cX3_die 36 = .ok (.aaload, 1) := by decide +kernel
theorem dX3_die_37 : decode cX3_die 37 = .ok (.astore 7, 2) := by decide +kernel
theorem dX3_die_39 : decode cX3_die 39 = .ok (.aload 7, 2) := by decide +kernel
theorem dX3_die_41 : decode cX3_die 41 = .ok (.iconst 0, 1) := by decide +kernel
theorem dX3_die_42 : decode cX3_die 42 = .ok (.iaload, 1) := by decide +kernel
theorem dX3_die_43 : decode cX3_die 43 = .ok (.iload_n 1, 1) := by decide +kernel
theorem dX3_die_44 : decode cX3_die 44 = .ok (.if_icmp .eq 10, 3) := by decide +kernel
theorem dX3_die_47 : decode cX3_die 47 = .ok (.aload_n 3, 1) := by decide +kernel
theorem dX3_die_48 : decode cX3_die 48 = .ok (.aload 7, 2) := by decide +kernel
theorem dX3_die_50 : decode cX3_die 50 = .ok (.invokestatic 50, 3) := by decide +kernel
theorem dX3_die_53 : decode cX3_die 53 = .ok (.astore_n 3, 1) := by decide +kernel
theorem dX3_die_54 : decode cX3_die 54 = .ok (.iinc 6 1, 3) := by decide +kernel
theorem dX3_die_57 : decode cX3_die 57 = .ok (.goto (-32), 3) := by decide +kernel
theorem dX3_die_60 : decode cX3_die 60 = .ok (.aload_n 2, 1) := by decide +kernel
theorem dX3_die_61 : decode cX3_die 61 = .ok (.astore 4, 2) := by decide +kernel
theorem dX3_die_63 : decode cX3_die 63 = .ok (.aload 4, 2) := by decide +kernel
theorem dX3_die_65 : decode cX3_die 65 = .ok (.arraylength, 1) := by decide +kernel
theorem dX3_die_66 : decode cX3_die 66 = .ok (.istore 5, 2) := by decide +kernel
theorem dX3_die_68 : decode cX3_die 68 = .ok (.iconst 0, 1) := by decide +kernel
theorem dX3_die_69 : decode cX3_die 69 = .ok (.istore 6, 2) := by decide +kernel
theorem dX3_die_71 : decode cX3_die 71 = .ok (.iload 6, 2) := by decide +kernel
theorem dX3_die_73 : decode cX3_die 73 = .ok (.iload 5, 2) := by decide +kernel
theorem dX3_die_75 : decode cX3_die 75 = .ok (.if_icmp .ge 23, 3) := by decide +kernel
theorem dX3_die_78 : decode cX3_die 78 = .ok (.aload 4, 2) := by decide +kernel
theorem dX3_die_80 : decode cX3_die 80 = .ok (.iload 6, 2) := by decide +kernel
theorem dX3_die_82 : decode cX3_die 82 = .ok (.aaload, 1) := by decide +kernel
theorem dX3_die_83 : decode cX3_die 83 = .ok (.astore 7, 2) := by decide +kernel
theorem dX3_die_85 : decode cX3_die 85 = .ok (.aload_n 3, 1) := by decide +kernel
theorem dX3_die_86 : decode cX3_die 86 = .ok (.aload 7, 2) := by decide +kernel
theorem dX3_die_88 : decode cX3_die 88 = .ok (.invokestatic 50, 3) := by decide +kernel
theorem dX3_die_91 : decode cX3_die 91 = .ok (.astore_n 3, 1) := by decide +kernel
theorem dX3_die_92 : decode cX3_die 92 = .ok (.iinc 6 1, 3) := by decide +kernel
theorem dX3_die_95 : decode cX3_die 95 = .ok (.goto (-24), 3) := by decide +kernel
theorem dX3_die_98 : decode cX3_die 98 = .ok (.aload_n 0, 1) := by decide +kernel
theorem dX3_die_99 : decode cX3_die 99 = .ok (.aload_n 3, 1) := by decide +kernel
theorem dX3_die_100 : decode cX3_die 100 = .ok (.putfield 20, 3) := by decide +kernel
theorem dX3_die_103 : decode cX3_die 103 = .ok (.aload_n 0, 1) := by decide +kernel
theorem dX3_die_104 : decode cX3_die 104 = .ok (.getfield 9, 3) := by decide +kernel
theorem dX3_die_107 : decode cX3_die 107 = .ok (.iload_n 1, 1) := by decide +kernel
theorem dX3_die_108 : decode cX3_die 108 = .ok (.aaload, 1) := by decide +kernel
theorem dX3_die_109 : decode cX3_die 109 = .ok (.iconst 2, 1) := by decide +kernel
theorem dX3_die_110 : decode cX3_die 110 = .ok (.iconst 0, 1) := by decide +kernel
theorem dX3_die_111 : decode cX3_die 111 = .ok (.iastore, 1) := by decide +kernel
theorem dX3_die_112 : decode cX3_die 112 = .ok (.aload_n 2, 1) := by decide +kernel
theorem dX3_die_113 : decode cX3_die 113 = .ok (.arraylength, 1) := by decide +kernel
theorem dX3_die_114 : decode cX3_die 114 = .ok (.ireturn, 1) := by decide +kernel
set_option maxRecDepth 20000 in
theorem ggX3_drop_X3_more : GoodIn wsX3_drop wsX3_more := goodIn_r _ [6, 1] (by decide +kernel) (by decide +kernel)
set_option maxRecDepth 20000 in
theorem gX3_drop_X3_more : GoodIn wsX3_drop (va_wsS RX3 50 yX3_more wsX3_more) := goodIn_app (goodIn_of _ (by decide +kernel)) ggX3_drop_X3_more
theorem dX3_drop_0 : decode cX3_drop 0 = .ok (.iconst 0, 1) := by decide +kernel
theorem dX3_drop_1 : decode cX3_drop 1 = .ok (.anewarray 7, 3) := by decide +kernel
theorem dX3_drop_4 : decode cX3_drop 4 = .ok (.astore_n 3, 1) := by decide +kernel
theorem dX3_drop_5 : decode cX3_drop 5 = .ok (.aload_n 0, 1) := by decide +kernel
theorem dX3_drop_6 : decode cX3_drop 6 = .ok (.getfield 20, 3) := by decide +kernel
theorem dX3_drop_9 : decode cX3_drop 9 = .ok (.astore 4, 2) := by decide +kernel
theorem dX3_drop_11 : decode cX3_drop 11 = .ok (.aload 4, 2) := by decide +kernel
theorem dX3_drop_13 : decode cX3_drop 13 = .ok (.arraylength, 1) := by decide +kernel
theorem dX3_drop_14 : decode cX3_drop 14 = .ok (.istore 5, 2) := by decide +kernel
theorem dX3_drop_16 : decode cX3_drop 16 = .ok (.iconst 0, 1) := by decide +kernel
theorem dX3_drop_17 : decode cX3_drop 17 = .ok (.istore 6, 2) := by decide +kernel
theorem dX3_drop_19 : decode cX3_drop 19 = .ok (.iload 6, 2) := by decide +kernel
theorem dX3_drop_21 : decode cX3_drop 21 = .ok (.iload 5, 2) := by decide +kernel
theorem dX3_drop_23 : decode cX3_drop 23 = .ok (.if_icmp .ge 39, 3) := by decide +kernel
theorem dX3_drop_26 : decode cX3_drop 26 = .ok (.aload 4, 2) := by decide +kernel
theorem dX3_drop_28 : decode cX3_drop 28 = .ok (.iload 6, 2) := by decide +kernel
theorem dX3_drop_30 : decode cX3_drop 30 = .ok (.aaload, 1) := by decide +kernel
theorem dX3_drop_31 : decode cX3_drop 31 = .ok (.astore 7, 2) := by decide +kernel
theorem dX3_drop_33 : decode cX3_drop 33 = .ok (.aload 7, 2) := by decide +kernel
theorem dX3_drop_35 : decode cX3_drop 35 = .ok (.iconst 0, 1) := by decide +kernel
theorem dX3_drop_36 : decode cX3_drop 36 = .ok (.iaload, 1) := by decide +kernel
theorem dX3_drop_37 : decode cX3_drop 37 = .ok (.iload_n 1, 1) := by decide +kernel
theorem dX3_drop_38 : decode cX3_drop 38 = .ok (.if_icmp .ne 11, 3) := by decide +kernel
theorem dX3_drop_41 : decode cX3_drop 41 = .ok (.aload 7, 2) := by decide +kernel
theorem dX3_drop_43 : decode cX3_drop 43 = .ok (.iconst 1, 1) := by decide +kernel
theorem dX3_drop_44 : decode cX3_drop 44 = .ok (.iaload, 1) := by decide +kernel
theorem dX3_drop_45 : decode cX3_drop 45 = .ok (.iload_n 2, 1) := by decide +kernel
theorem dX3_drop_46 : decode cX3_drop 46 = .ok (.if_icmp .eq 10, 3) := by decide +kernel
theorem dX3_drop_49 : decode cX3_drop 49 = .ok (.aload_n 3, 1) := by decide +kernel
theorem dX3_drop_50 : decode cX3_drop 50 = .ok (.aload 7, 2) := by decide +kernel
theorem dX3_drop_52 : decode cX3_drop 52 = .ok (.invokestatic 50, 3) := by decide +kernel
theorem dX3_drop_55 : decode cX3_drop 55 = .ok (.astore_n 3, 1) := by decide +kernel
theorem dX3_drop_56 : decode cX3_drop 56 = .ok (.iinc 6 1, 3) := by decide +kernel
theorem dX3_drop_59 : decode cX3_drop 59 = .ok (.goto (-40), 3) := by decide +kernel
theorem dX3_drop_62 : decode cX3_drop 62 = .ok (.aload_n 0, 1) := by decide +kernel
theorem dX3_drop_63 : decode cX3_drop 63 = .ok (.aload_n 3, 1) := by decide +kernel
theorem dX3_drop_64 : decode cX3_drop 64 = .ok (.putfield 20, 3) := by decide +kernel
theorem dX3_drop_67 : decode cX3_drop 67 = .ok (.return_, 1) := by decide +kernel
set_option maxRecDepth 20000 in
theorem ggX3_inColour_X3_wears : GoodIn wsX3_inColour wsX3_wears := goodIn_r _ [7, 8, 9, 10, 11, 12, 13, 14, 6, 15, 16, 17, 18, 19, 20] (by decide +kernel) (by decide +kernel)
set_option maxRecDepth 20000 in
theorem gX3_inColour_X3_wears : GoodIn wsX3_inColour (wsV RX3 58 RX3 yX3_wears wsX3_wears) := goodIn_app (goodIn_of _ (by decide +kernel)) ggX3_inColour_X3_wears
theorem dX3_inColour_0 : decode cX3_inColour 0 = .ok (.iconst 0, 1) := by decide +kernel
theorem dX3_inColour_1 : decode cX3_inColour 1 = .ok (.istore_n 1, 1) := by decide +kernel
theorem dX3_inColour_2 : decode cX3_inColour 2 = .ok (.iconst 0, 1) := by decide +kernel
theorem dX3_inColour_3 : decode cX3_inColour 3 = .ok (.istore_n 2, 1) := by decide +kernel
theorem dX3_inColour_4 : decode cX3_inColour 4 = .ok (.iload_n 2, 1) := by decide +kernel
theorem dX3_inColour_5 : decode cX3_inColour 5 = .ok (.aload_n 0, 1) := by decide +kernel
theorem dX3_inColour_6 : decode cX3_inColour 6 = .ok (.getfield 9, 3) := by decide +kernel
theorem dX3_inColour_9 : decode cX3_inColour 9 = .ok (.arraylength, 1) := by decide +kernel
theorem dX3_inColour_10 : decode cX3_inColour 10 = .ok (.if_icmp .ge 29, 3) := by decide +kernel
theorem dX3_inColour_13 : decode cX3_inColour 13 = .ok (.iload_n 1, 1) := by decide +kernel
theorem dX3_inColour_14 : decode cX3_inColour 14 = .ok (.aload_n 0, 1) := by decide +kernel
theorem dX3_inColour_15 : decode cX3_inColour 15 = .ok (.iload_n 2, 1) := by decide +kernel
theorem dX3_inColour_16 : decode cX3_inColour 16 = .ok (.aload_n 0, 1) := by decide +kernel
theorem dX3_inColour_17 : decode cX3_inColour 17 = .ok (.getfield 38, 3) := by decide +kernel
theorem dX3_inColour_20 : decode cX3_inColour 20 = .ok (.invokevirtual 58, 3) := by decide +kernel
theorem dX3_inColour_23 : decode cX3_inColour 23 = .ok (.ifCond .le 7, 3) := by decide +kernel
theorem dX3_inColour_26 : decode cX3_inColour 26 = .ok (.iconst 1, 1) := by decide +kernel
theorem dX3_inColour_27 : decode cX3_inColour 27 = .ok (.goto 4, 3) := by decide +kernel
theorem dX3_inColour_30 : decode cX3_inColour 30 = .ok (.iconst 0, 1) := by decide +kernel
theorem dX3_inColour_31 : decode cX3_inColour 31 = .ok (.iadd, 1) := by decide +kernel
theorem dX3_inColour_32 : decode cX3_inColour 32 = .ok (.istore_n 1, 1) := by decide +kernel
theorem dX3_inColour_33 : decode cX3_inColour 33 = .ok (.iinc 2 1, 3) := by decide +kernel
theorem dX3_inColour_36 : decode cX3_inColour 36 = .ok (.goto (-32), 3) := by decide +kernel
theorem dX3_inColour_39 : decode cX3_inColour 39 = .ok (.iload_n 1, 1) := by decide +kernel
theorem dX3_inColour_40 : decode cX3_inColour 40 = .ok (.ireturn, 1) := by decide +kernel
set_option maxRecDepth 20000 in
theorem ggX3_pass_X3_inColour : GoodIn wsX3_pass wsX3_inColour := goodIn_r _ [9, 10, 2, 11, 12, 13, 8, 14, 4, 15, 16, 17, 18, 19, 20, 21, 28, 29, 30, 31, 32] (by decide +kernel) (by decide +kernel)
set_option maxRecDepth 20000 in
theorem gX3_pass_X3_inColour : GoodIn wsX3_pass (wsV RX3 64 RX3 yX3_inColour wsX3_inColour) := goodIn_app (goodIn_of _ (by decide +kernel)) ggX3_pass_X3_inColour
set_option maxRecDepth 20000 in
theorem ggX3_pass_X3_end : GoodIn wsX3_pass wsX3_end := goodIn_r _ [24] (by decide +kernel) (by decide +kernel)
set_option maxRecDepth 20000 in
theorem gX3_pass_X3_end : GoodIn wsX3_pass (va_wsS RX3 34 yX3_end wsX3_end) := goodIn_app (goodIn_of _ (by decide +kernel)) ggX3_pass_X3_end
set_option maxRecDepth 20000 in
theorem ggX3_pass_X3_more : GoodIn wsX3_pass wsX3_more := goodIn_r _ [27, 3] (by decide +kernel) (by decide +kernel)
set_option maxRecDepth 20000 in
theorem gX3_pass_X3_more : GoodIn wsX3_pass (va_wsS RX3 50 yX3_more wsX3_more) := goodIn_app (goodIn_of _ (by decide +kernel)) ggX3_pass_X3_more
theorem dX3_pass_0 : decode cX3_pass 0 = .ok (.iconst 0, 1) := by decide +kernel
theorem dX3_pass_1 : decode cX3_pass 1 = .ok (.istore_n 2, 1) := by decide +kernel
theorem dX3_pass_2 : decode cX3_pass 2 = .ok (.iload_n 2, 1) := by decide +kernel
theorem dX3_pass_3 : decode cX3_pass 3 = .ok (.iload_n 1, 1) := by decide +kernel
theorem dX3_pass_4 : decode cX3_pass 4 = .ok (.if_icmp .ge 32, 3) := by decide +kernel
theorem dX3_pass_7 : decode cX3_pass 7 = .ok (.aload_n 0, 1) := by decide +kernel
theorem dX3_pass_8 : decode cX3_pass 8 = .ok (.dup, 1) := by decide +kernel
theorem dX3_pass_9 : decode cX3_pass 9 = .ok (.getfield 61, 3) := by decide +kernel
theorem dX3_pass_12 : decode cX3_pass 12 = .ok (.aload_n 0, 1) := by decide +kernel
theorem dX3_pass_13 : decode cX3_pass 13 = .ok (.invokevirtual 64, 3) := by decide +kernel
theorem dX3_pass_16 : decode cX3_pass 16 = .ok (.iadd, 1) := by decide +kernel
theorem dX3_pass_17 : decode cX3_pass 17 = .ok (.putfield 61, 3) := by decide +kernel
theorem dX3_pass_20 : decode cX3_pass 20 = .ok (.aload_n 0, 1) := by decide +kernel
theorem dX3_pass_21 : decode cX3_pass 21 = .ok (.dup, 1) := by decide +kernel
theorem dX3_pass_22 : decode cX3_pass 22 = .ok (.getfield 38, 3) := by decide +kernel
theorem dX3_pass_25 : decode cX3_pass 25 = .ok (.iconst 1, 1) := by decide +kernel
theorem dX3_pass_26 : decode cX3_pass 26 = .ok (.iadd, 1) := by decide +kernel
theorem dX3_pass_27 : decode cX3_pass 27 = .ok (.putfield 38, 3) := by decide +kernel
theorem dX3_pass_30 : decode cX3_pass 30 = .ok (.iinc 2 1, 3) := by decide +kernel
theorem dX3_pass_33 : decode cX3_pass 33 = .ok (.goto (-31), 3) := by decide +kernel
theorem dX3_pass_36 : decode cX3_pass 36 = .ok (.iconst 0, 1) := by decide +kernel
theorem dX3_pass_37 : decode cX3_pass 37 = .ok (.anewarray 7, 3) := by decide +kernel
theorem dX3_pass_40 : decode cX3_pass 40 = .ok (.astore_n 2, 1) := by decide +kernel
theorem dX3_pass_41 : decode cX3_pass 41 = .ok (.aload_n 0, 1) := by decide +kernel
theorem dX3_pass_42 : decode cX3_pass 42 = .ok (.getfield 20, 3) := by decide +kernel
theorem dX3_pass_45 : decode cX3_pass 45 = .ok (.astore_n 3, 1) := by decide +kernel
theorem dX3_pass_46 : decode cX3_pass 46 = .ok (.aload_n 3, 1) := by decide +kernel
theorem dX3_pass_47 : decode cX3_pass 47 = .ok (.arraylength, 1) := by decide +kernel
theorem dX3_pass_48 : decode cX3_pass 48 = .ok (.istore 4, 2) := by decide +kernel
theorem dX3_pass_50 : decode cX3_pass 50 = .ok (.iconst 0, 1) := by decide +kernel
theorem dX3_pass_51 : decode cX3_pass 51 = .ok (.istore 5, 2) := by decide +kernel
theorem dX3_pass_53 : decode cX3_pass 53 = .ok (.iload 5, 2) := by decide +kernel
theorem dX3_pass_55 : decode cX3_pass 55 = .ok (.iload 4, 2) := by decide +kernel
theorem dX3_pass_57 : decode cX3_pass 57 = .ok (.if_icmp .ge 34, 3) := by decide +kernel
theorem dX3_pass_60 : decode cX3_pass 60 = .ok (.aload_n 3, 1) := by decide +kernel
theorem dX3_pass_61 : decode cX3_pass 61 = .ok (.iload 5, 2) := by decide +kernel
theorem dX3_pass_63 : decode cX3_pass 63 = .ok (.aaload, 1) := by decide +kernel
theorem dX3_pass_64 : decode cX3_pass 64 = .ok (.astore 6, 2) := by decide +kernel
theorem dX3_pass_66 : decode cX3_pass 66 = .ok (.aload 6, 2) := by decide +kernel
theorem dX3_pass_68 : decode cX3_pass 68 = .ok (.invokestatic 34, 3) := by decide +kernel
theorem dX3_pass_71 : decode cX3_pass 71 = .ok (.aload_n 0, 1) := by decide +kernel
theorem dX3_pass_72 : decode cX3_pass 72 = .ok (.getfield 38, 3) := by decide +kernel
theorem dX3_pass_75 : decode cX3_pass 75 = .ok (.if_icmp .le 10, 3) := by decide +kernel
theorem dX3_pass_78 : decode cX3_pass 78 = .ok (.aload_n 2, 1) := by decide +kernel
theorem dX3_pass_79 : decode cX3_pass 79 = .ok (.aload 6, 2) := by decide +kernel
theorem dX3_pass_81 : decode cX3_pass 81 = .ok (.invokestatic 50, 3) := by decide +kernel
theorem dX3_pass_84 : decode cX3_pass 84 = .ok (.astore_n 2, 1) := by decide +kernel
theorem dX3_pass_85 : decode cX3_pass 85 = .ok (.iinc 5 1, 3) := by decide +kernel
theorem dX3_pass_88 : decode cX3_pass 88 = .ok (.goto (-35), 3) := by decide +kernel
theorem dX3_pass_91 : decode cX3_pass 91 = .ok (.aload_n 0, 1) := by decide +kernel
theorem dX3_pass_92 : decode cX3_pass 92 = .ok (.aload_n 2, 1) := by decide +kernel
theorem dX3_pass_93 : decode cX3_pass 93 = .ok (.putfield 20, 3) := by decide +kernel
theorem dX3_pass_96 : decode cX3_pass 96 = .ok (.aload_n 0, 1) := by decide +kernel
theorem dX3_pass_97 : decode cX3_pass 97 = .ok (.invokevirtual 64, 3) := by decide +kernel
theorem dX3_pass_100 : decode cX3_pass 100 = .ok (.ireturn, 1) := by decide +kernel
theorem dX3_canMarry_0 : decode cX3_canMarry 0 = .ok (.aload_n 0, 1) := by decide +kernel
theorem dX3_canMarry_1 : decode cX3_canMarry 1 = .ok (.getfield 9, 3) := by decide +kernel
theorem dX3_canMarry_4 : decode cX3_canMarry 4 = .ok (.iload_n 1, 1) := by decide +kernel
theorem dX3_canMarry_5 : decode cX3_canMarry 5 = .ok (.aaload, 1) := by decide +kernel
theorem dX3_canMarry_6 : decode cX3_canMarry 6 = .ok (.iconst 2, 1) := by decide +kernel
theorem dX3_canMarry_7 : decode cX3_canMarry 7 = .ok (.iaload, 1) := by decide +kernel
theorem dX3_canMarry_8 : decode cX3_canMarry 8 = .ok (.iconst 1, 1) := by decide +kernel
theorem dX3_canMarry_9 : decode cX3_canMarry 9 = .ok (.if_icmp .ne 36, 3) := by decide +kernel
theorem dX3_canMarry_12 : decode cX3_canMarry 12 = .ok (.aload_n 0, 1) := by decide +kernel
theorem dX3_canMarry_13 : decode cX3_canMarry 13 = .ok (.getfield 9, 3) := by decide +kernel
theorem dX3_canMarry_16 : decode cX3_canMarry 16 = .ok (.iload_n 1, 1) := by decide +kernel
theorem dX3_canMarry_17 : decode cX3_canMarry 17 = .ok (.aaload, 1) := by decide +kernel
theorem dX3_canMarry_18 : decode cX3_canMarry 18 = .ok (.iconst 1, 1) := by decide +kernel
theorem dX3_canMarry_19 : decode cX3_canMarry 19 = .ok (.iaload, 1) := by decide +kernel
theorem dX3_canMarry_20 : decode cX3_canMarry 20 = .ok (.ifCond .lt 21, 3) := by decide +kernel
theorem dX3_canMarry_23 : decode cX3_canMarry 23 = .ok (.aload_n 0, 1) := by decide +kernel
theorem dX3_canMarry_24 : decode cX3_canMarry 24 = .ok (.getfield 9, 3) := by decide +kernel
theorem dX3_canMarry_27 : decode cX3_canMarry 27 = .ok (.aload_n 0, 1) := by decide +kernel
theorem dX3_canMarry_28 : decode cX3_canMarry 28 = .ok (.getfield 9, 3) := by decide +kernel
theorem dX3_canMarry_31 : decode cX3_canMarry 31 = .ok (.iload_n 1, 1) := by decide +kernel
theorem dX3_canMarry_32 : decode cX3_canMarry 32 = .ok (.aaload, 1) := by decide +kernel
theorem dX3_canMarry_33 : decode cX3_canMarry 33 = .ok (.iconst 1, 1) := by decide +kernel
theorem dX3_canMarry_34 : decode cX3_canMarry 34 = .ok (.iaload, 1) := by decide +kernel
theorem dX3_canMarry_35 : decode cX3_canMarry 35 = .ok (.aaload, 1) := by decide +kernel
theorem dX3_canMarry_36 : decode cX3_canMarry 36 = .ok (.iconst 2, 1) := by decide +kernel
theorem dX3_canMarry_37 : decode cX3_canMarry 37 = .ok (.iaload, 1) := by decide +kernel
theorem dX3_canMarry_38 : decode cX3_canMarry 38 = .ok (.ifCond .ne 7, 3) := by decide +kernel
theorem dX3_canMarry_41 : decode cX3_canMarry 41 = .ok (.iconst 1, 1) := by decide +kernel
theorem dX3_canMarry_42 : decode cX3_canMarry 42 = .ok (.goto 4, 3) := by decide +kernel
theorem dX3_canMarry_45 : decode cX3_canMarry 45 = .ok (.iconst 0, 1) := by decide +kernel
theorem dX3_canMarry_46 : decode cX3_canMarry 46 = .ok (.ireturn, 1) := by decide +kernel
theorem dX3_marry_0 : decode cX3_marry 0 = .ok (.aload_n 0, 1) := by decide +kernel
theorem dX3_marry_1 : decode cX3_marry 1 = .ok (.getfield 9, 3) := by decide +kernel
theorem dX3_marry_4 : decode cX3_marry 4 = .ok (.iload_n 1, 1) := by decide +kernel
theorem dX3_marry_5 : decode cX3_marry 5 = .ok (.aaload, 1) := by decide +kernel
theorem dX3_marry_6 : decode cX3_marry 6 = .ok (.iconst 1, 1) := by decide +kernel
theorem dX3_marry_7 : decode cX3_marry 7 = .ok (.iaload, 1) := by decide +kernel
theorem dX3_marry_8 : decode cX3_marry 8 = .ok (.ifCond .lt 19, 3) := by decide +kernel
theorem dX3_marry_11 : decode cX3_marry 11 = .ok (.aload_n 0, 1) := by decide +kernel
theorem dX3_marry_12 : decode cX3_marry 12 = .ok (.getfield 9, 3) := by decide +kernel
theorem dX3_marry_15 : decode cX3_marry 15 = .ok (.aload_n 0, 1) := by decide +kernel
theorem dX3_marry_16 : decode cX3_marry 16 = .ok (.getfield 9, 3) := by decide +kernel
theorem dX3_marry_19 : decode cX3_marry 19 = .ok (.iload_n 1, 1) := by decide +kernel
theorem dX3_marry_20 : decode cX3_marry 20 = .ok (.aaload, 1) := by decide +kernel
theorem dX3_marry_21 : decode cX3_marry 21 = .ok (.iconst 1, 1) := by decide +kernel
theorem dX3_marry_22 : decode cX3_marry 22 = .ok (.iaload, 1) := by decide +kernel
theorem dX3_marry_23 : decode cX3_marry 23 = .ok (.aaload, 1) := by decide +kernel
theorem dX3_marry_24 : decode cX3_marry 24 = .ok (.iconst 1, 1) := by decide +kernel
theorem dX3_marry_25 : decode cX3_marry 25 = .ok (.iconst (-1), 1) := by decide +kernel
theorem dX3_marry_26 : decode cX3_marry 26 = .ok (.iastore, 1) := by decide +kernel
theorem dX3_marry_27 : decode cX3_marry 27 = .ok (.aload_n 0, 1) := by decide +kernel
theorem dX3_marry_28 : decode cX3_marry 28 = .ok (.getfield 9, 3) := by decide +kernel
theorem dX3_marry_31 : decode cX3_marry 31 = .ok (.iload_n 2, 1) := by decide +kernel
theorem dX3_marry_32 : decode cX3_marry 32 = .ok (.aaload, 1) := by decide +kernel
theorem dX3_marry_33 : decode cX3_marry 33 = .ok (.iconst 1, 1) := by decide +kernel
theorem dX3_marry_34 : decode cX3_marry 34 = .ok (.iaload, 1) := by decide +kernel
theorem dX3_marry_35 : decode cX3_marry 35 = .ok (.ifCond .lt 19, 3) := by decide +kernel
theorem dX3_marry_38 : decode cX3_marry 38 = .ok (.aload_n 0, 1) := by decide +kernel
theorem dX3_marry_39 : decode cX3_marry 39 = .ok (.getfield 9, 3) := by decide +kernel
theorem dX3_marry_42 : decode cX3_marry 42 = .ok (.aload_n 0, 1) := by decide +kernel
theorem dX3_marry_43 : decode cX3_marry 43 = .ok (.getfield 9, 3) := by decide +kernel
theorem dX3_marry_46 : decode cX3_marry 46 = .ok (.iload_n 2, 1) := by decide +kernel
theorem dX3_marry_47 : decode cX3_marry 47 = .ok (.aaload, 1) := by decide +kernel
theorem dX3_marry_48 : decode cX3_marry 48 = .ok (.iconst 1, 1) := by decide +kernel
theorem dX3_marry_49 : decode cX3_marry 49 = .ok (.iaload, 1) := by decide +kernel
theorem dX3_marry_50 : decode cX3_marry 50 = .ok (.aaload, 1) := by decide +kernel
theorem dX3_marry_51 : decode cX3_marry 51 = .ok (.iconst 1, 1) := by decide +kernel
theorem dX3_marry_52 : decode cX3_marry 52 = .ok (.iconst (-1), 1) := by decide +kernel
theorem dX3_marry_53 : decode cX3_marry 53 = .ok (.iastore, 1) := by decide +kernel
theorem dX3_marry_54 : decode cX3_marry 54 = .ok (.aload_n 0, 1) := by decide +kernel
theorem dX3_marry_55 : decode cX3_marry 55 = .ok (.getfield 9, 3) := by decide +kernel
theorem dX3_marry_58 : decode cX3_marry 58 = .ok (.iload_n 1, 1) := by decide +kernel
theorem dX3_marry_59 : decode cX3_marry 59 = .ok (.aaload, 1) := by decide +kernel
theorem dX3_marry_60 : decode cX3_marry 60 = .ok (.iconst 1, 1) := by decide +kernel
theorem dX3_marry_61 : decode cX3_marry 61 = .ok (.iload_n 2, 1) := by decide +kernel
theorem dX3_marry_62 : decode cX3_marry 62 = .ok (.iastore, 1) := by decide +kernel
theorem dX3_marry_63 : decode cX3_marry 63 = .ok (.aload_n 0, 1) := by decide +kernel
theorem dX3_marry_64 : decode cX3_marry 64 = .ok (.getfield 9, 3) := by decide +kernel
theorem dX3_marry_67 : decode cX3_marry 67 = .ok (.iload_n 2, 1) := by decide +kernel
theorem dX3_marry_68 : decode cX3_marry 68 = .ok (.aaload, 1) := by decide +kernel
theorem dX3_marry_69 : decode cX3_marry 69 = .ok (.iconst 1, 1) := by decide +kernel
theorem dX3_marry_70 : decode cX3_marry 70 = .ok (.iload_n 1, 1) := by decide +kernel
theorem dX3_marry_71 : decode cX3_marry 71 = .ok (.iastore, 1) := by decide +kernel
theorem dX3_marry_72 : decode cX3_marry 72 = .ok (.return_, 1) := by decide +kernel
set_option maxRecDepth 20000 in
theorem ggX3_isSame_X3_degrees : GoodIn wsX3_isSame wsX3_degrees := goodIn_r _ [10, 1, 11, 2, 204, 205, 206, 207, 208] (by decide +kernel) (by decide +kernel)
set_option maxRecDepth 20000 in
theorem gX3_isSame_X3_degrees : GoodIn wsX3_isSame (wsV RX3 42 RX3 yX3_degrees wsX3_degrees) := goodIn_app (goodIn_of _ (by decide +kernel)) ggX3_isSame_X3_degrees
set_option maxRecDepth 20000 in
theorem ggX3_isSame_X3_left : GoodIn wsX3_isSame wsX3_left := goodIn_r _ [15, 16, 3, 17, 18, 19, 20, 21, 22, 9, 23, 204, 205, 206, 207, 208] (by decide +kernel) (by decide +kernel)
set_option maxRecDepth 20000 in
theorem gX3_isSame_X3_left : GoodIn wsX3_isSame (wsV RX3 68 RX3 yX3_left wsX3_left) := goodIn_app (goodIn_of _ (by decide +kernel)) ggX3_isSame_X3_left
set_option maxRecDepth 20000 in
theorem ggX3_isSame_X2_daysLeftFor : GoodIn wsX3_isSame wsX2_daysLeftFor := goodIn_ca (goodIn_r _ [28, 29, 30, 31, 27, 32, 33, 34, 35, 36, 37, 38, 39, 40, 41, 42, 43, 44, 45, 18, 19, 20, 46, 47, 48, 49, 50, 51, 52, 53, 54, 55, 56, 57, 209, 210, 211, 212, 213, 214, 215, 216, 217, 218, 219, 220, 221, 222, 223, 224] (by decide +kernel) (by decide +kernel)) (goodIn_sub (fun _ h => List.mem_cons_of_mem _ (List.mem_append_right _ h)) (by decide +kernel))
set_option maxRecDepth 20000 in
theorem gX3_isSame_X2_daysLeftFor : GoodIn wsX3_isSame (wsV RX3 71 RX2 yX2_daysLeftFor wsX2_daysLeftFor) := goodIn_app (goodIn_of _ (by decide +kernel)) ggX3_isSame_X2_daysLeftFor
set_option maxRecDepth 20000 in
theorem ggX3_isSame_X2_degreeOf : GoodIn wsX3_isSame wsX2_degreeOf := goodIn_ca (goodIn_r _ [61, 35, 62, 29, 30, 31, 27, 32, 33, 34, 36, 63, 64, 65, 66, 67, 68, 69, 70, 71, 72, 73, 74, 75, 76, 77, 78, 79, 80, 81, 82, 83, 209, 210, 211, 212, 213, 214, 215, 216, 217, 218, 219, 220, 221, 222] (by decide +kernel) (by decide +kernel)) (goodIn_sub (fun _ h => List.mem_cons_of_mem _ (List.mem_append_right _ h)) (by decide +kernel))
set_option maxRecDepth 20000 in
theorem gX3_isSame_X2_degreeOf : GoodIn wsX3_isSame (wsV RX3 76 RX2 yX2_degreeOf wsX2_degreeOf) := goodIn_app (goodIn_of _ (by decide +kernel)) ggX3_isSame_X2_degreeOf
set_option maxRecDepth 20000 in
theorem ggX3_isSame_X2_kinOf : GoodIn wsX3_isSame wsX2_kinOf := goodIn_ca (goodIn_r _ [87, 35, 29, 30, 31, 27, 32, 33, 34, 36, 88, 89, 90, 91, 63, 64, 65, 66, 67, 68, 69, 70, 71, 72, 73, 74, 75, 76, 77, 78, 79, 80, 81, 82, 83, 92, 93, 94, 95, 96, 209, 210, 211, 212, 213, 214, 215, 216, 217, 218, 219, 220, 221, 222] (by decide +kernel) (by decide +kernel)) (goodIn_sub (fun _ h => List.mem_cons_of_mem _ (List.mem_append_right _ h)) (by decide +kernel))
set_option maxRecDepth 20000 in
theorem gX3_isSame_X2_kinOf : GoodIn wsX3_isSame (wsV RX3 79 RX2 yX2_kinOf wsX2_kinOf) := goodIn_app (goodIn_of _ (by decide +kernel)) ggX3_isSame_X2_kinOf
set_option maxRecDepth 20000 in
theorem ggX3_isSame_X3_wears : GoodIn wsX3_isSame wsX3_wears := goodIn_r _ [100, 16, 17, 18, 19, 20, 101, 102, 9, 103, 204, 205, 206, 207, 208] (by decide +kernel) (by decide +kernel)
set_option maxRecDepth 20000 in
theorem gX3_isSame_X3_wears : GoodIn wsX3_isSame (wsV RX3 58 RX3 yX3_wears wsX3_wears) := goodIn_app (goodIn_of _ (by decide +kernel)) ggX3_isSame_X3_wears
set_option maxRecDepth 20000 in
theorem ggX3_isSame_X2_isAlive : GoodIn wsX3_isSame wsX2_isAlive := goodIn_ca (goodIn_r _ [107, 35, 108, 29, 30, 31, 27, 32, 33, 34, 36, 209, 210, 211, 212, 213, 214, 215, 216, 217, 218, 219, 220, 221, 222] (by decide +kernel) (by decide +kernel)) (goodIn_sub (fun _ h => List.mem_cons_of_mem _ (List.mem_append_right _ h)) (by decide +kernel))
set_option maxRecDepth 20000 in
theorem gX3_isSame_X2_isAlive : GoodIn wsX3_isSame (wsV RX3 82 RX2 yX2_isAlive wsX2_isAlive) := goodIn_app (goodIn_of _ (by decide +kernel)) ggX3_isSame_X2_isAlive
set_option maxRecDepth 20000 in
theorem ggX3_isSame_X2_parentOf : GoodIn wsX3_isSame wsX2_parentOf := goodIn_ca (goodIn_r _ [112, 35, 113, 29, 30, 31, 27, 32, 33, 34, 36, 209, 210, 211, 212, 213, 214, 215, 216, 217, 218, 219, 220, 221, 222] (by decide +kernel) (by decide +kernel)) (goodIn_sub (fun _ h => List.mem_cons_of_mem _ (List.mem_append_right _ h)) (by decide +kernel))
set_option maxRecDepth 20000 in
theorem gX3_isSame_X2_parentOf : GoodIn wsX3_isSame (wsV RX3 86 RX2 yX2_parentOf wsX2_parentOf) := goodIn_app (goodIn_of _ (by decide +kernel)) ggX3_isSame_X2_parentOf
set_option maxRecDepth 20000 in
theorem ggX3_isSame_X2_marriedTo : GoodIn wsX3_isSame wsX2_marriedTo := goodIn_ca (goodIn_r _ [117, 35, 118, 29, 30, 31, 27, 32, 33, 34, 36, 209, 210, 211, 212, 213, 214, 215, 216, 217, 218, 219, 220, 221, 222] (by decide +kernel) (by decide +kernel)) (goodIn_sub (fun _ h => List.mem_cons_of_mem _ (List.mem_append_right _ h)) (by decide +kernel))
set_option maxRecDepth 20000 in
theorem gX3_isSame_X2_marriedTo : GoodIn wsX3_isSame (wsV RX3 89 RX2 yX2_marriedTo wsX2_marriedTo) := goodIn_app (goodIn_of _ (by decide +kernel)) ggX3_isSame_X2_marriedTo
set_option maxRecDepth 20000 in
theorem ggX3_isSame_X2_colourOf : GoodIn wsX3_isSame wsX2_colourOf := goodIn_ca (goodIn_r _ [122, 29, 30, 31, 27, 32, 33, 34, 35, 36, 123, 124, 125, 126, 43, 44, 41, 42, 45, 18, 19, 20, 46, 47, 48, 127, 128, 129, 52, 130, 54, 131, 55, 56, 57, 209, 210, 211, 212, 213, 214, 215, 216, 217, 218, 219, 220, 221, 222, 223, 224] (by decide +kernel) (by decide +kernel)) (goodIn_sub (fun _ h => List.mem_cons_of_mem _ (List.mem_append_right _ h)) (by decide +kernel))
set_option maxRecDepth 20000 in
theorem gX3_isSame_X2_colourOf : GoodIn wsX3_isSame (wsV RX3 92 RX2 yX2_colourOf wsX2_colourOf) := goodIn_app (goodIn_of _ (by decide +kernel)) ggX3_isSame_X2_colourOf
set_option maxRecDepth 20000 in
theorem ggX3_isSame_X2_mourningsOf : GoodIn wsX3_isSame wsX2_mourningsOf := goodIn_ca (goodIn_r _ [135, 29, 30, 31, 27, 32, 33, 34, 35, 36, 136, 137, 138, 139, 37, 38, 39, 40, 41, 42, 43, 44, 45, 18, 19, 20, 46, 47, 48, 49, 50, 51, 52, 53, 54, 55, 56, 57, 209, 210, 211, 212, 213, 214, 215, 216, 217, 218, 219, 220, 221, 222, 223, 224] (by decide +kernel) (by decide +kernel)) (goodIn_sub (fun _ h => List.mem_cons_of_mem _ (List.mem_append_right _ h)) (by decide +kernel))
set_option maxRecDepth 20000 in
theorem gX3_isSame_X2_mourningsOf : GoodIn wsX3_isSame (wsV RX3 95 RX2 yX2_mourningsOf wsX2_mourningsOf) := goodIn_app (goodIn_of _ (by decide +kernel)) ggX3_isSame_X2_mourningsOf
set_option maxRecDepth 20000 in
theorem ggX3_isSame_X2_daysLeft : GoodIn wsX3_isSame wsX2_daysLeft := goodIn_ca (goodIn_r _ [143, 29, 30, 31, 27, 32, 33, 34, 35, 36, 144, 145, 146, 147, 45, 18, 19, 20, 37, 38, 39, 40, 41, 42, 43, 44, 46, 47, 48, 49, 50, 51, 52, 53, 54, 55, 56, 57, 209, 210, 211, 212, 213, 214, 215, 216, 217, 218, 219, 220, 221, 222, 223, 224] (by decide +kernel) (by decide +kernel)) (goodIn_sub (fun _ h => List.mem_cons_of_mem _ (List.mem_append_right _ h)) (by decide +kernel))
set_option maxRecDepth 20000 in
theorem gX3_isSame_X2_daysLeft : GoodIn wsX3_isSame (wsV RX3 98 RX2 yX2_daysLeft wsX2_daysLeft) := goodIn_app (goodIn_of _ (by decide +kernel)) ggX3_isSame_X2_daysLeft
set_option maxRecDepth 20000 in
theorem ggX3_isSame_X2_wearing : GoodIn wsX3_isSame wsX2_wearing := goodIn_ca (goodIn_r _ [151, 33, 34, 152, 153, 154, 27, 155, 35, 36, 108, 123, 124, 125, 126, 43, 44, 41, 42, 45, 18, 19, 20, 46, 47, 48, 127, 128, 129, 52, 130, 54, 131, 55, 56, 57, 209, 210, 211, 212, 213, 214, 215, 216, 217, 218, 219, 220, 221, 222, 223, 224] (by decide +kernel) (by decide +kernel)) (goodIn_sub (fun _ h => List.mem_cons_of_mem _ (List.mem_append_right _ h)) (by decide +kernel))
set_option maxRecDepth 20000 in
theorem gX3_isSame_X2_wearing : GoodIn wsX3_isSame (wsV RX3 101 RX2 yX2_wearing wsX2_wearing) := goodIn_app (goodIn_of _ (by decide +kernel)) ggX3_isSame_X2_wearing
set_option maxRecDepth 20000 in
theorem ggX3_isSame_X2_stageColour : GoodIn wsX3_isSame wsX2_stageColour := goodIn_ca (goodIn_r _ [159, 41, 160, 161, 162, 163, 27, 164, 33, 34, 88, 89, 90, 91, 165, 56, 52, 57, 209, 210, 211, 212, 213, 214, 215, 216, 217, 223, 224] (by decide +kernel) (by decide +kernel)) (goodIn_sub (fun _ h => List.mem_cons_of_mem _ (List.mem_append_right _ h)) (by decide +kernel))
set_option maxRecDepth 20000 in
theorem gX3_isSame_X2_stageColour : GoodIn wsX3_isSame (wsV RX3 104 RX2 yX2_stageColour wsX2_stageColour) := goodIn_app (goodIn_of _ (by decide +kernel)) ggX3_isSame_X2_stageColour
set_option maxRecDepth 20000 in
theorem ggX3_isSame_X2_stageDays : GoodIn wsX3_isSame wsX2_stageDays := goodIn_ca (goodIn_r _ [169, 41, 170, 161, 162, 163, 27, 164, 33, 34, 88, 89, 90, 91, 165, 56, 52, 57, 209, 210, 211, 212, 213, 214, 215, 216, 217, 223, 224] (by decide +kernel) (by decide +kernel)) (goodIn_sub (fun _ h => List.mem_cons_of_mem _ (List.mem_append_right _ h)) (by decide +kernel))
set_option maxRecDepth 20000 in
theorem gX3_isSame_X2_stageDays : GoodIn wsX3_isSame (wsV RX3 107 RX2 yX2_stageDays wsX2_stageDays) := goodIn_app (goodIn_of _ (by decide +kernel)) ggX3_isSame_X2_stageDays
set_option maxRecDepth 20000 in
theorem ggX3_isSame_X2_people : GoodIn wsX3_isSame wsX2_people := goodIn_r _ [174, 35, 36, 209, 210, 211, 212, 213, 214, 215, 216, 217, 218, 219, 220, 221, 222] (by decide +kernel) (by decide +kernel)
set_option maxRecDepth 20000 in
theorem gX3_isSame_X2_people : GoodIn wsX3_isSame (wsV RX3 110 RX2 yX2_people wsX2_people) := goodIn_app (goodIn_of _ (by decide +kernel)) ggX3_isSame_X2_people
set_option maxRecDepth 20000 in
theorem ggX3_isSame_X2_living : GoodIn wsX3_isSame wsX2_living := goodIn_r _ [178, 35, 179, 180, 181, 66, 182, 69, 96, 209, 210, 211, 212, 213, 214, 215, 216, 217, 218, 219, 220, 221, 222] (by decide +kernel) (by decide +kernel)
set_option maxRecDepth 20000 in
theorem gX3_isSame_X2_living : GoodIn wsX3_isSame (wsV RX3 112 RX2 yX2_living wsX2_living) := goodIn_app (goodIn_of _ (by decide +kernel)) ggX3_isSame_X2_living
set_option maxRecDepth 20000 in
theorem ggX3_isSame_X2_day : GoodIn wsX3_isSame wsX2_day := goodIn_r _ [186, 43, 209, 210, 211, 212, 213, 214, 215, 216, 217] (by decide +kernel) (by decide +kernel)
set_option maxRecDepth 20000 in
theorem gX3_isSame_X2_day : GoodIn wsX3_isSame (wsV RX3 115 RX2 yX2_day wsX2_day) := goodIn_app (goodIn_of _ (by decide +kernel)) ggX3_isSame_X2_day
set_option maxRecDepth 20000 in
theorem ggX3_isSame_X2_strictest : GoodIn wsX3_isSame wsX2_strictest := goodIn_r _ [190, 35, 36, 45, 18, 19, 20, 123, 124, 125, 27, 126, 43, 44, 41, 42, 46, 47, 48, 127, 128, 129, 52, 130, 54, 131, 55, 56, 57, 209, 210, 211, 212, 213, 214, 215, 216, 217, 218, 219, 220, 221, 222, 223, 224] (by decide +kernel) (by decide +kernel)
set_option maxRecDepth 20000 in
theorem gX3_isSame_X2_strictest : GoodIn wsX3_isSame (wsV RX3 117 RX2 yX2_strictest wsX2_strictest) := goodIn_app (goodIn_of _ (by decide +kernel)) ggX3_isSame_X2_strictest
set_option maxRecDepth 20000 in
theorem ggX3_isSame_X2_longestMourner : GoodIn wsX3_isSame wsX2_longestMourner := goodIn_r _ [194, 35, 36, 144, 145, 146, 27, 147, 45, 18, 19, 20, 37, 38, 39, 40, 41, 42, 43, 44, 46, 47, 48, 49, 50, 51, 52, 53, 54, 55, 56, 57, 209, 210, 211, 212, 213, 214, 215, 216, 217, 218, 219, 220, 221, 222, 223, 224] (by decide +kernel) (by decide +kernel)
set_option maxRecDepth 20000 in
theorem gX3_isSame_X2_longestMourner : GoodIn wsX3_isSame (wsV RX3 120 RX2 yX2_longestMourner wsX2_longestMourner) := goodIn_app (goodIn_of _ (by decide +kernel)) ggX3_isSame_X2_longestMourner
set_option maxRecDepth 20000 in
theorem ggX3_isSame_X2_daysWorn : GoodIn wsX3_isSame wsX2_daysWorn := goodIn_r _ [198, 199, 209, 210, 211, 212, 213, 214, 215, 216, 217] (by decide +kernel) (by decide +kernel)
set_option maxRecDepth 20000 in
theorem gX3_isSame_X2_daysWorn : GoodIn wsX3_isSame (wsV RX3 123 RX2 yX2_daysWorn wsX2_daysWorn) := goodIn_app (goodIn_of _ (by decide +kernel)) ggX3_isSame_X2_daysWorn
set_option maxRecDepth 20000 in
theorem ggX3_isSame_X2_meanDaysLeft : GoodIn wsX3_isSame wsX2_meanDaysLeft := goodIn_r _ [203, 35, 36, 179, 180, 181, 66, 182, 69, 96, 144, 145, 146, 27, 147, 45, 18, 19, 20, 37, 38, 39, 40, 41, 42, 43, 44, 46, 47, 48, 49, 50, 51, 52, 53, 54, 55, 56, 57, 209, 210, 211, 212, 213, 214, 215, 216, 217, 218, 219, 220, 221, 222, 223, 224] (by decide +kernel) (by decide +kernel)
set_option maxRecDepth 20000 in
theorem gX3_isSame_X2_meanDaysLeft : GoodIn wsX3_isSame (wsV RX3 126 RX2 yX2_meanDaysLeft wsX2_meanDaysLeft) := goodIn_app (goodIn_of _ (by decide +kernel)) ggX3_isSame_X2_meanDaysLeft
theorem dX3_isSame_0 : decode cX3_isSame 0 = .ok (.aload_n 0, 1) := by decide +kernel
theorem dX3_isSame_1 : decode cX3_isSame 1 = .ok (.getfield 9, 3) := by decide +kernel
theorem dX3_isSame_4 : decode cX3_isSame 4 = .ok (.arraylength, 1) := by decide +kernel
theorem dX3_isSame_5 : decode cX3_isSame 5 = .ok (.istore_n 2, 1) := by decide +kernel
theorem dX3_isSame_6 : decode cX3_isSame 6 = .ok (.aload_n 0, 1) := by decide +kernel
theorem dX3_isSame_7 : decode cX3_isSame 7 = .ok (.invokevirtual 42, 3) := by decide +kernel
theorem dX3_isSame_10 : decode cX3_isSame 10 = .ok (.astore_n 3, 1) := by decide +kernel
theorem dX3_isSame_11 : decode cX3_isSame 11 = .ok (.bipush 6, 2) := by decide +kernel
theorem dX3_isSame_13 : decode cX3_isSame 13 = .ok (.newarray .int, 2) := by decide +kernel
theorem dX3_isSame_15 : decode cX3_isSame 15 = .ok (.astore 4, 2) := by decide +kernel
theorem dX3_isSame_17 : decode cX3_isSame 17 = .ok (.iconst 0, 1) := by decide +kernel
theorem dX3_isSame_18 : decode cX3_isSame 18 = .ok (.istore 5, 2) := by decide +kernel
theorem dX3_isSame_20 : decode cX3_isSame 20 = .ok (.iconst 0, 1) := by decide +kernel
theorem dX3_isSame_21 : decode cX3_isSame 21 = .ok (.istore 6, 2) := by decide +kernel
theorem dX3_isSame_23 : decode cX3_isSame 23 = .ok (.iconst 0, 1) := by decide +kernel
theorem dX3_isSame_24 : decode cX3_isSame 24 = .ok (.istore 7, 2) := by decide +kernel
theorem dX3_isSame_26 : decode cX3_isSame 26 = .ok (.iconst (-1), 1) := by decide +kernel
theorem dX3_isSame_27 : decode cX3_isSame 27 = .ok (.istore 8, 2) := by decide +kernel
theorem dX3_isSame_29 : decode cX3_isSame 29 = .ok (.iconst 0, 1) := by decide +kernel
theorem dX3_isSame_30 : decode cX3_isSame 30 = .ok (.istore 9, 2) := by decide +kernel
theorem dX3_isSame_32 : decode cX3_isSame 32 = .ok (.iload 9, 2) := by decide +kernel
theorem dX3_isSame_34 : decode cX3_isSame 34 = .ok (.iload_n 2, 1) := by decide +kernel
theorem dX3_isSame_35 : decode cX3_isSame 35 = .ok (.if_icmp .ge 335, 3) := by decide +kernel
theorem dX3_isSame_38 : decode cX3_isSame 38 = .ok (.iconst 0, 1) := by decide +kernel
theorem dX3_isSame_39 : decode cX3_isSame 39 = .ok (.istore 10, 2) := by decide +kernel
theorem dX3_isSame_41 : decode cX3_isSame 41 = .ok (.aload_n 0, 1) := by decide +kernel
theorem dX3_isSame_42 : decode cX3_isSame 42 = .ok (.iload 9, 2) := by decide +kernel
theorem dX3_isSame_44 : decode cX3_isSame 44 = .ok (.iconst (-1), 1) := by decide +kernel
theorem dX3_isSame_45 : decode cX3_isSame 45 = .ok (.invokevirtual 68, 3) := by decide +kernel
theorem dX3_isSame_48 : decode cX3_isSame 48 = .ok (.istore 11, 2) := by decide +kernel
theorem dX3_isSame_50 : decode cX3_isSame 50 = .ok (.iconst 0, 1) := by decide +kernel
theorem dX3_isSame_51 : decode cX3_isSame 51 = .ok (.istore 12, 2) := by decide +kernel
theorem dX3_isSame_53 : decode cX3_isSame 53 = .ok (.iload 12, 2) := by decide +kernel
theorem dX3_isSame_55 : decode cX3_isSame 55 = .ok (.iload_n 2, 1) := by decide +kernel
theorem dX3_isSame_56 : decode cX3_isSame 56 = .ok (.if_icmp .ge 67, 3) := by decide +kernel
theorem dX3_isSame_59 : decode cX3_isSame 59 = .ok (.aload_n 0, 1) := by decide +kernel
theorem dX3_isSame_60 : decode cX3_isSame 60 = .ok (.iload 9, 2) := by decide +kernel
theorem dX3_isSame_62 : decode cX3_isSame 62 = .ok (.iload 12, 2) := by decide +kernel
theorem dX3_isSame_64 : decode cX3_isSame 64 = .ok (.invokevirtual 68, 3) := by decide +kernel
theorem dX3_isSame_67 : decode cX3_isSame 67 = .ok (.istore 13, 2) := by decide +kernel
theorem dX3_isSame_69 : decode cX3_isSame 69 = .ok (.iload 10, 2) := by decide +kernel
theorem dX3_isSame_71 : decode cX3_isSame 71 = .ok (.iload 13, 2) := by decide +kernel
theorem dX3_isSame_73 : decode cX3_isSame 73 = .ok (.ifCond .le 7, 3) := by decide +kernel
theorem dX3_isSame_76 : decode cX3_isSame 76 = .ok (.iconst 1, 1) := by decide +kernel
theorem dX3_isSame_77 : decode cX3_isSame 77 = .ok (.goto 4, 3) := by decide +kernel
theorem dX3_isSame_80 : decode cX3_isSame 80 = .ok (.iconst 0, 1) := by decide +kernel
theorem dX3_isSame_81 : decode cX3_isSame 81 = .ok (.iadd, 1) := by decide +kernel
theorem dX3_isSame_82 : decode cX3_isSame 82 = .ok (.istore 10, 2) := by decide +kernel
theorem dX3_isSame_84 : decode cX3_isSame 84 = .ok (.aload_n 1, 1) := by decide +kernel
theorem dX3_isSame_85 : decode cX3_isSame 85 = .ok (.iload 9, 2) := by decide +kernel
theorem dX3_isSame_87 : decode cX3_isSame 87 = .ok (.iload 12, 2) := by decide +kernel
theorem dX3_isSame_89 : decode cX3_isSame 89 = .ok (.invokevirtual 71, 3) := by decide +kernel
theorem dX3_isSame_92 : decode cX3_isSame 92 = .ok (.iload 13, 2) := by decide +kernel
theorem dX3_isSame_94 : decode cX3_isSame 94 = .ok (.if_icmp .ne 21, 3) := by decide +kernel
theorem dX3_isSame_97 : decode cX3_isSame 97 = .ok (.aload_n 1, 1) := by decide +kernel
theorem dX3_isSame_98 : decode cX3_isSame 98 = .ok (.iload 9, 2) := by decide +kernel
theorem dX3_isSame_100 : decode cX3_isSame 100 = .ok (.iload 12, 2) := by decide +kernel
theorem dX3_isSame_102 : decode cX3_isSame 102 = .ok (.invokevirtual 76, 3) := by decide +kernel
theorem dX3_isSame_105 : decode cX3_isSame 105 = .ok (.aload_n 3, 1) := by decide +kernel
theorem dX3_isSame_106 : decode cX3_isSame 106 = .ok (.iload 9, 2) := by decide +kernel
theorem dX3_isSame_108 : decode cX3_isSame 108 = .ok (.aaload, 1) := by decide +kernel
theorem dX3_isSame_109 : decode cX3_isSame 109 = .ok (.iload 12, 2) := by decide +kernel
theorem dX3_isSame_111 : decode cX3_isSame 111 = .ok (.iaload, 1) := by decide +kernel
theorem dX3_isSame_112 : decode cX3_isSame 112 = .ok (.if_icmp .eq 5, 3) := by decide +kernel
theorem dX3_isSame_115 : decode cX3_isSame 115 = .ok (.iconst 0, 1) := by decide +kernel
theorem dX3_isSame_116 : decode cX3_isSame 116 = .ok (.ireturn, 1) := by decide +kernel
theorem dX3_isSame_117 : decode cX3_isSame 117 = .ok (.iinc 12 1, 3) := by decide +kernel
theorem dX3_isSame_120 : decode cX3_isSame 120 = .ok (.goto (-67), 3) := by decide +kernel
theorem dX3_isSame_123 : decode cX3_isSame 123 = .ok (.iconst 5, 1) := by decide +kernel
theorem dX3_isSame_124 : decode cX3_isSame 124 = .ok (.newarray .int, 2) := by decide +kernel
theorem dX3_isSame_126 : decode cX3_isSame 126 = .ok (.astore 12, 2) := by decide +kernel
theorem dX3_isSame_128 : decode cX3_isSame 128 = .ok (.iconst 0, 1) := by decide +kernel
theorem dX3_isSame_129 : decode cX3_isSame 129 = .ok (.istore 13, 2) := by decide +kernel
theorem dX3_isSame_131 : decode cX3_isSame 131 = .ok (.iload 13, 2) := by decide +kernel
theorem dX3_isSame_133 : decode cX3_isSame 133 = .ok (.iload_n 2, 1) := by decide +kernel
theorem dX3_isSame_134 : decode cX3_isSame 134 = .ok (.if_icmp .ge 31, 3) := by decide +kernel
theorem dX3_isSame_137 : decode cX3_isSame 137 = .ok (.aload 12, 2) := by decide +kernel
theorem dX3_isSame_139 : decode cX3_isSame 139 = .ok (.aload_n 3, 1) := by decide +kernel
theorem dX3_isSame_140 : decode cX3_isSame 140 = .ok (.iload 9, 2) := by decide +kernel
theorem dX3_isSame_142 : decode cX3_isSame 142 = .ok (.aaload, 1) := by decide +kernel
theorem dX3_isSame_143 : decode cX3_isSame 143 = .ok (.iload 13, 2) := by decide +kernel
theorem dX3_isSame_145 : decode cX3_isSame 145 = .ok (.iaload, 1) := by decide +kernel
theorem dX3_isSame_146 : decode cX3_isSame 146 = .ok (.dup2, 1) := by decide +kernel
theorem dX3_isSame_147 : decode cX3_isSame 147 = .ok (.iaload, 1) := by decide +kernel
theorem dX3_isSame_148 : decode cX3_isSame 148 = .ok (.aload_n 0, 1) := by decide +kernel
theorem dX3_isSame_149 : decode cX3_isSame 149 = .ok (.getfield 9, 3) := by decide +kernel
theorem dX3_isSame_152 : decode cX3_isSame 152 = .ok (.iload 13, 2) := by decide +kernel
theorem dX3_isSame_154 : decode cX3_isSame 154 = .ok (.aaload, 1) := by decide +kernel
theorem dX3_isSame_155 : decode cX3_isSame 155 = .ok (.iconst 2, 1) := by decide +kernel
theorem dX3_isSame_156 : decode cX3_isSame 156 = .ok (.iaload, 1) := by decide +kernel
theorem dX3_isSame_157 : decode cX3_isSame 157 = .ok (.iadd, 1) := by decide +kernel
theorem dX3_isSame_158 : decode cX3_isSame 158 = .ok (.iastore, 1) := by decide +kernel
theorem dX3_isSame_159 : decode cX3_isSame 159 = .ok (.iinc 13 1, 3) := by decide +kernel
theorem dX3_isSame_162 : decode cX3_isSame 162 = .ok (.goto (-31), 3) := by decide +kernel
theorem dX3_isSame_165 : decode cX3_isSame 165 = .ok (.iconst 1, 1) := by decide +kernel
theorem dX3_isSame_166 : decode cX3_isSame 166 = .ok (.istore 13, 2) := by decide +kernel
theorem dX3_isSame_168 : decode cX3_isSame 168 = .ok (.iload 13, 2) := by decide +kernel
theorem dX3_isSame_170 : decode cX3_isSame 170 = .ok (.iconst 5, 1) := by decide +kernel
theorem dX3_isSame_171 : decode cX3_isSame 171 = .ok (.if_icmp .ge 27, 3) := by decide +kernel
theorem dX3_isSame_174 : decode cX3_isSame 174 = .ok (.aload_n 1, 1) := by decide +kernel
theorem dX3_isSame_175 : decode cX3_isSame 175 = .ok (.iload 9, 2) := by decide +kernel
theorem dX3_isSame_177 : decode cX3_isSame 177 = .ok (.iload 13, 2) := by decide +kernel
theorem dX3_isSame_179 : decode cX3_isSame 179 = .ok (.invokevirtual 79, 3) := by decide +kernel
theorem dX3_isSame_182 : decode cX3_isSame 182 = .ok (.aload 12, 2) := by decide +kernel
theorem dX3_isSame_184 : decode cX3_isSame 184 = .ok (.iload 13, 2) := by decide +kernel
theorem dX3_isSame_186 : decode cX3_isSame 186 = .ok (.iaload, 1) := by decide +kernel
theorem dX3_isSame_187 : decode cX3_isSame 187 = .ok (.if_icmp .eq 5, 3) := by decide +kernel
theorem dX3_isSame_190 : decode cX3_isSame 190 = .ok (.iconst 0, 1) := by decide +kernel
theorem dX3_isSame_191 : decode cX3_isSame 191 = .ok (.ireturn, 1) := by decide +kernel
theorem dX3_isSame_192 : decode cX3_isSame 192 = .ok (.iinc 13 1, 3) := by decide +kernel
theorem dX3_isSame_195 : decode cX3_isSame 195 = .ok (.goto (-27), 3) := by decide +kernel
theorem dX3_isSame_198 : decode cX3_isSame 198 = .ok (.aload_n 0, 1) := by decide +kernel
theorem dX3_isSame_199 : decode cX3_isSame 199 = .ok (.iload 9, 2) := by decide +kernel
theorem dX3_isSame_201 : decode cX3_isSame 201 = .ok (.aload_n 0, 1) := by decide +kernel
theorem dX3_isSame_202 : decode cX3_isSame 202 = .ok (.getfield 38, 3) := by decide +kernel
theorem dX3_isSame_205 : decode cX3_isSame 205 = .ok (.invokevirtual 58, 3) := by decide +kernel
theorem dX3_isSame_208 : decode cX3_isSame 208 = .ok (.istore 13, 2) := by decide +kernel
theorem dX3_isSame_210 : decode cX3_isSame 210 = .ok (.aload_n 1, 1) := by decide +kernel
theorem dX3_isSame_211 : decode cX3_isSame 211 = .ok (.iload 9, 2) := by decide +kernel
theorem dX3_isSame_213 : decode cX3_isSame 213 = .ok (.invokevirtual 82, 3) := by decide +kernel
theorem dX3_isSame_216 : decode cX3_isSame 216 = .ok (.aload_n 0, 1) := by decide +kernel
theorem dX3_isSame_217 : decode cX3_isSame 217 = .ok (.getfield 9, 3) := by decide +kernel
theorem dX3_isSame_220 : decode cX3_isSame 220 = .ok (.iload 9, 2) := by decide +kernel
theorem dX3_isSame_222 : decode cX3_isSame 222 = .ok (.aaload, 1) := by decide +kernel
theorem dX3_isSame_223 : decode cX3_isSame 223 = .ok (.iconst 2, 1) := by decide +kernel
theorem dX3_isSame_224 : decode cX3_isSame 224 = .ok (.iaload, 1) := by decide +kernel
theorem dX3_isSame_225 : decode cX3_isSame 225 = .ok (.iconst 1, 1) := by decide +kernel
theorem dX3_isSame_226 : decode cX3_isSame 226 = .ok (.if_icmp .ne 7, 3) := by decide +kernel
theorem dX3_isSame_229 : decode cX3_isSame 229 = .ok (.iconst 1, 1) := by decide +kernel
theorem dX3_isSame_230 : decode cX3_isSame 230 = .ok (.goto 4, 3) := by decide +kernel
theorem dX3_isSame_233 : decode cX3_isSame 233 = .ok (.iconst 0, 1) := by decide +kernel
theorem dX3_isSame_234 : decode cX3_isSame 234 = .ok (.if_icmp .ne 72, 3) := by decide +kernel
theorem dX3_isSame_237 : decode cX3_isSame 237 = .ok (.aload_n 1, 1) := by decide +kernel
theorem dX3_isSame_238 : decode cX3_isSame 238 = .ok (.iload 9, 2) := by decide +kernel
theorem dX3_isSame_240 : decode cX3_isSame 240 = .ok (.invokevirtual 86, 3) := by decide +kernel
theorem dX3_isSame_243 : decode cX3_isSame 243 = .ok (.aload_n 0, 1) := by decide +kernel
theorem dX3_isSame_244 : decode cX3_isSame 244 = .ok (.getfield 9, 3) := by decide +kernel
theorem dX3_isSame_247 : decode cX3_isSame 247 = .ok (.iload 9, 2) := by decide +kernel
theorem dX3_isSame_249 : decode cX3_isSame 249 = .ok (.aaload, 1) := by decide +kernel
theorem dX3_isSame_250 : decode cX3_isSame 250 = .ok (.iconst 0, 1) := by decide +kernel
theorem dX3_isSame_251 : decode cX3_isSame 251 = .ok (.iaload, 1) := by decide +kernel
theorem dX3_isSame_252 : decode cX3_isSame 252 = .ok (.if_icmp .ne 54, 3) := by decide +kernel
theorem dX3_isSame_255 : decode cX3_isSame 255 = .ok (.aload_n 1, 1) := by decide +kernel
theorem dX3_isSame_256 : decode cX3_isSame 256 = .ok (.iload 9, 2) := by decide +kernel
theorem dX3_isSame_258 : decode cX3_isSame 258 = .ok (.invokevirtual 89, 3) := by decide +kernel
theorem dX3_isSame_261 : decode cX3_isSame 261 = .ok (.aload_n 0, 1) := by decide +kernel
theorem dX3_isSame_262 : decode cX3_isSame 262 = .ok (.getfield 9, 3) := by decide +kernel
theorem dX3_isSame_265 : decode cX3_isSame 265 = .ok (.iload 9, 2) := by decide +kernel
theorem dX3_isSame_267 : decode cX3_isSame 267 = .ok (.aaload, 1) := by decide +kernel
theorem dX3_isSame_268 : decode cX3_isSame 268 = .ok (.iconst 1, 1) := by decide +kernel
theorem dX3_isSame_269 : decode cX3_isSame 269 = .ok (.iaload, 1) := by decide +kernel
theorem dX3_isSame_270 : decode cX3_isSame 270 = .ok (.if_icmp .ne 36, 3) := by decide +kernel
theorem dX3_isSame_273 : decode cX3_isSame 273 = .ok (.aload_n 1, 1) := by decide +kernel
theorem dX3_isSame_274 : decode cX3_isSame 274 = .ok (.iload 9, 2) := by decide +kernel
theorem dX3_isSame_276 : decode cX3_isSame 276 = .ok (.invokevirtual 92, 3) := by decide +kernel
theorem dX3_isSame_279 : decode cX3_isSame 279 = .ok (.iload 13, 2) := by decide +kernel
theorem dX3_isSame_281 : decode cX3_isSame 281 = .ok (.if_icmp .ne 25, 3) := by decide +kernel
theorem dX3_isSame_284 : decode cX3_isSame 284 = .ok (.aload_n 1, 1) := by decide +kernel
theorem dX3_isSame_285 : decode cX3_isSame 285 = .ok (.iload 9, 2) := by decide +kernel
theorem dX3_isSame_287 : decode cX3_isSame 287 = .ok (.invokevirtual 95, 3) := by decide +kernel
theorem dX3_isSame_290 : decode cX3_isSame 290 = .ok (.iload 10, 2) := by decide +kernel
theorem dX3_isSame_292 : decode cX3_isSame 292 = .ok (.if_icmp .ne 14, 3) := by decide +kernel
theorem dX3_isSame_295 : decode cX3_isSame 295 = .ok (.aload_n 1, 1) := by decide +kernel
theorem dX3_isSame_296 : decode cX3_isSame 296 = .ok (.iload 9, 2) := by decide +kernel
