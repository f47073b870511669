set_option maxRecDepth 20000 in
theorem ggX5_init_X0_init : GoodIn wsX5_init wsX0_init := goodIn_r _ [29, 30, 2, 3, 31, 32, 33, 34, 35, 36, 37, 87, 88, 89, 90, 91, 92] (by decide +kernel) (by decide +kernel)
set_option maxRecDepth 20000 in
theorem gX5_init_X0_init_n29 : GoodIn wsX5_init (wsX0_init) := ggX5_init_X0_init
set_option maxRecDepth 20000 in
theorem ggX5_init_X1_init : GoodIn wsX5_init wsX1_init := goodIn_r _ [39, 40, 2, 3, 31, 41, 42, 43, 93, 94, 95] (by decide +kernel) (by decide +kernel)
set_option maxRecDepth 20000 in
theorem gX5_init_X1_init_n36 : GoodIn wsX5_init (wsX1_init) := ggX5_init_X1_init
set_option maxRecDepth 20000 in
theorem ggX5_init_X4_init : GoodIn wsX5_init wsX4_init := goodIn_r _ [46, 47, 2, 3, 48, 49, 50, 51, 52, 53, 54, 55, 56, 96, 97, 98, 99, 100, 101, 102, 103, 104] (by decide +kernel) (by decide +kernel)
set_option maxRecDepth 20000 in
theorem gX5_init_X4_init : GoodIn wsX5_init (wsX4_init) := ggX5_init_X4_init
set_option maxRecDepth 20000 in
theorem ggX5_init_X3_init : GoodIn wsX5_init wsX3_init := goodIn_r _ [58, 59, 2, 3, 60, 61, 62, 63, 64, 105, 106, 107, 108, 109] (by decide +kernel) (by decide +kernel)
set_option maxRecDepth 20000 in
theorem gX5_init_X3_init_n57 : GoodIn wsX5_init (wsX3_init) := ggX5_init_X3_init
set_option maxRecDepth 20000 in
theorem ggX5_init_X2_init : GoodIn wsX5_init wsX2_init := goodIn_r _ [66, 67, 2, 3, 31, 68, 69, 70, 71, 72, 73, 74, 75, 76, 77, 110, 111, 112, 113, 114, 115, 116, 117, 118, 119] (by decide +kernel) (by decide +kernel)
set_option maxRecDepth 20000 in
theorem gX5_init_X2_init_n58 : GoodIn wsX5_init (wsX2_init) := ggX5_init_X2_init
theorem dX5_init_0 : decode cX5_init 0 = .ok (.aload_n 0, 1) := by decide +kernel
theorem dX5_init_1 : decode cX5_init 1 = .ok (.invokespecial 3, 3) := by decide +kernel
theorem dX5_init_4 : decode cX5_init 4 = .ok (.aload_n 0, 1) := by decide +kernel
theorem dX5_init_5 : decode cX5_init 5 = .ok (.bipush 6, 2) := by decide +kernel
theorem dX5_init_7 : decode cX5_init 7 = .ok (.anewarray 9, 3) := by decide +kernel
theorem dX5_init_10 : decode cX5_init 10 = .ok (.putfield 11, 3) := by decide +kernel
theorem dX5_init_13 : decode cX5_init 13 = .ok (.aload_n 0, 1) := by decide +kernel
theorem dX5_init_14 : decode cX5_init 14 = .ok (.bipush 6, 2) := by decide +kernel
theorem dX5_init_16 : decode cX5_init 16 = .ok (.anewarray 15, 3) := by decide +kernel
theorem dX5_init_19 : decode cX5_init 19 = .ok (.putfield 17, 3) := by decide +kernel
theorem dX5_init_22 : decode cX5_init 22 = .ok (.aload_n 0, 1) := by decide +kernel
theorem dX5_init_23 : decode cX5_init 23 = .ok (.iconst 4, 1) := by decide +kernel
theorem dX5_init_24 : decode cX5_init 24 = .ok (.anewarray 21, 3) := by decide +kernel
theorem dX5_init_27 : decode cX5_init 27 = .ok (.putfield 23, 3) := by decide +kernel
theorem dX5_init_30 : decode cX5_init 30 = .ok (.aload_n 0, 1) := by decide +kernel
theorem dX5_init_31 : decode cX5_init 31 = .ok (.new 27, 3) := by decide +kernel
theorem dX5_init_34 : decode cX5_init 34 = .ok (.dup, 1) := by decide +kernel
theorem dX5_init_35 : decode cX5_init 35 = .ok (.invokespecial 29, 3) := by decide +kernel
theorem dX5_init_38 : decode cX5_init 38 = .ok (.putfield 30, 3) := by decide +kernel
theorem dX5_init_41 : decode cX5_init 41 = .ok (.aload_n 0, 1) := by decide +kernel
theorem dX5_init_42 : decode cX5_init 42 = .ok (.new 34, 3) := by decide +kernel
theorem dX5_init_45 : decode cX5_init 45 = .ok (.dup, 1) := by decide +kernel
theorem dX5_init_46 : decode cX5_init 46 = .ok (.invokespecial 36, 3) := by decide +kernel
theorem dX5_init_49 : decode cX5_init 49 = .ok (.putfield 37, 3) := by decide +kernel
theorem dX5_init_52 : decode cX5_init 52 = .ok (.aload_n 0, 1) := by decide +kernel
theorem dX5_init_53 : decode cX5_init 53 = .ok (.iconst 0, 1) := by decide +kernel
theorem dX5_init_54 : decode cX5_init 54 = .ok (.putfield 41, 3) := by decide +kernel
theorem dX5_init_57 : decode cX5_init 57 = .ok (.aload_n 0, 1) := by decide +kernel
theorem dX5_init_58 : decode cX5_init 58 = .ok (.iconst 5, 1) := by decide +kernel
theorem dX5_init_59 : decode cX5_init 59 = .ok (.putfield 45, 3) := by decide +kernel
theorem dX5_init_62 : decode cX5_init 62 = .ok (.aload_n 0, 1) := by decide +kernel
theorem dX5_init_63 : decode cX5_init 63 = .ok (.bipush 10, 2) := by decide +kernel
theorem dX5_init_65 : decode cX5_init 65 = .ok (.putfield 48, 3) := by decide +kernel
theorem dX5_init_68 : decode cX5_init 68 = .ok (.aload_n 0, 1) := by decide +kernel
theorem dX5_init_69 : decode cX5_init 69 = .ok (.bipush 30, 2) := by decide +kernel
theorem dX5_init_71 : decode cX5_init 71 = .ok (.putfield 51, 3) := by decide +kernel
theorem dX5_init_74 : decode cX5_init 74 = .ok (.iconst 0, 1) := by decide +kernel
theorem dX5_init_75 : decode cX5_init 75 = .ok (.istore_n 1, 1) := by decide +kernel
theorem dX5_init_76 : decode cX5_init 76 = .ok (.iload_n 1, 1) := by decide +kernel
theorem dX5_init_77 : decode cX5_init 77 = .ok (.bipush 6, 2) := by decide +kernel
theorem dX5_init_79 : decode cX5_init 79 = .ok (.if_icmp .ge 27, 3) := by decide +kernel
theorem dX5_init_82 : decode cX5_init 82 = .ok (.aload_n 0, 1) := by decide +kernel
theorem dX5_init_83 : decode cX5_init 83 = .ok (.getfield 11, 3) := by decide +kernel
theorem dX5_init_86 : decode cX5_init 86 = .ok (.iload_n 1, 1) := by decide +kernel
theorem dX5_init_87 : decode cX5_init 87 = .ok (.new 9, 3) := by decide +kernel
theorem dX5_init_90 : decode cX5_init 90 = .ok (.dup, 1) := by decide +kernel
theorem dX5_init_91 : decode cX5_init 91 = .ok (.iload_n 1, 1) := by decide +kernel
theorem dX5_init_92 : decode cX5_init 92 = .ok (.aload_n 0, 1) := by decide +kernel
theorem dX5_init_93 : decode cX5_init 93 = .ok (.getfield 45, 3) := by decide +kernel
theorem dX5_init_96 : decode cX5_init 96 = .ok (.invokespecial 54, 3) := by decide +kernel
theorem dX5_init_99 : decode cX5_init 99 = .ok (.aastore, 1) := by decide +kernel
theorem dX5_init_100 : decode cX5_init 100 = .ok (.iinc 1 1, 3) := by decide +kernel
theorem dX5_init_103 : decode cX5_init 103 = .ok (.goto (-27), 3) := by decide +kernel
theorem dX5_init_106 : decode cX5_init 106 = .ok (.iconst 0, 1) := by decide +kernel
theorem dX5_init_107 : decode cX5_init 107 = .ok (.istore_n 1, 1) := by decide +kernel
theorem dX5_init_108 : decode cX5_init 108 = .ok (.iload_n 1, 1) := by decide +kernel
theorem dX5_init_109 : decode cX5_init 109 = .ok (.bipush 6, 2) := by decide +kernel
theorem dX5_init_111 : decode cX5_init 111 = .ok (.if_icmp .ge 22, 3) := by decide +kernel
theorem dX5_init_114 : decode cX5_init 114 = .ok (.aload_n 0, 1) := by decide +kernel
theorem dX5_init_115 : decode cX5_init 115 = .ok (.getfield 17, 3) := by decide +kernel
theorem dX5_init_118 : decode cX5_init 118 = .ok (.iload_n 1, 1) := by decide +kernel
theorem dX5_init_119 : decode cX5_init 119 = .ok (.new 15, 3) := by decide +kernel
theorem dX5_init_122 : decode cX5_init 122 = .ok (.dup, 1) := by decide +kernel
theorem dX5_init_123 : decode cX5_init 123 = .ok (.invokespecial 57, 3) := by decide +kernel
theorem dX5_init_126 : decode cX5_init 126 = .ok (.aastore, 1) := by decide +kernel
theorem dX5_init_127 : decode cX5_init 127 = .ok (.iinc 1 1, 3) := by decide +kernel
theorem dX5_init_130 : decode cX5_init 130 = .ok (.goto (-22), 3) := by decide +kernel
theorem dX5_init_133 : decode cX5_init 133 = .ok (.iconst 0, 1) := by decide +kernel
theorem dX5_init_134 : decode cX5_init 134 = .ok (.istore_n 1, 1) := by decide +kernel
theorem dX5_init_135 : decode cX5_init 135 = .ok (.iload_n 1, 1) := by decide +kernel
theorem dX5_init_136 : decode cX5_init 136 = .ok (.iconst 4, 1) := by decide +kernel
theorem dX5_init_137 : decode cX5_init 137 = .ok (.if_icmp .ge 22, 3) := by decide +kernel
theorem dX5_init_140 : decode cX5_init 140 = .ok (.aload_n 0, 1) := by decide +kernel
theorem dX5_init_141 : decode cX5_init 141 = .ok (.getfield 23, 3) := by decide +kernel
theorem dX5_init_144 : decode cX5_init 144 = .ok (.iload_n 1, 1) := by decide +kernel
theorem dX5_init_145 : decode cX5_init 145 = .ok (.new 21, 3) := by decide +kernel
theorem dX5_init_148 : decode cX5_init 148 = .ok (.dup, 1) := by decide +kernel
theorem dX5_init_149 : decode cX5_init 149 = .ok (.invokespecial 58, 3) := by decide +kernel
theorem dX5_init_152 : decode cX5_init 152 = .ok (.aastore, 1) := by decide +kernel
theorem dX5_init_153 : decode cX5_init 153 = .ok (.iinc 1 1, 3) := by decide +kernel
theorem dX5_init_156 : decode cX5_init 156 = .ok (.goto (-21), 3) := by decide +kernel
theorem dX5_init_159 : decode cX5_init 159 = .ok (.return_, 1) := by decide +kernel
set_option maxRecDepth 20000 in
theorem ggX5_setRate_X5_isWithin : GoodIn wsX5_setRate wsX5_isWithin := goodIn_r _ [9] (by decide +kernel) (by decide +kernel)
set_option maxRecDepth 20000 in
theorem gX5_setRate_X5_isWithin : GoodIn wsX5_setRate (va_wsS RX5 59 yX5_isWithin wsX5_isWithin) := goodIn_app (goodIn_of _ (by decide +kernel)) ggX5_setRate_X5_isWithin
set_option maxRecDepth 20000 in
theorem ggX5_setRate_X4_capTokens : GoodIn wsX5_setRate wsX4_capTokens := goodIn_r _ [14, 15, 25, 26, 27, 28, 29, 30, 31, 32, 33] (by decide +kernel) (by decide +kernel)
set_option maxRecDepth 20000 in
theorem gX5_setRate_X4_capTokens : GoodIn wsX5_setRate (wsV RX5 70 RX4 yX4_capTokens wsX4_capTokens) := goodIn_app (goodIn_of _ (by decide +kernel)) ggX5_setRate_X4_capTokens
theorem dX5_setRate_0 : decode cX5_setRate 0 = .ok (.iload_n 1, 1) := by decide +kernel
theorem dX5_setRate_1 : decode cX5_setRate 1 = .ok (.iconst 1, 1) := by decide +kernel
theorem dX5_setRate_2 : decode cX5_setRate 2 = .ok (.bipush 50, 2) := by decide +kernel
theorem dX5_setRate_4 : decode cX5_setRate 4 = .ok (.invokestatic 59, 3) := by decide +kernel
theorem dX5_setRate_7 : decode cX5_setRate 7 = .ok (.ifCond .eq 13, 3) := by decide +kernel
theorem dX5_setRate_10 : decode cX5_setRate 10 = .ok (.iload_n 2, 1) := by decide +kernel
theorem dX5_setRate_11 : decode cX5_setRate 11 = .ok (.iconst 1, 1) := by decide +kernel
theorem dX5_setRate_12 : decode cX5_setRate 12 = .ok (.bipush 60, 2) := by decide +kernel
theorem dX5_setRate_14 : decode cX5_setRate 14 = .ok (.invokestatic 59, 3) := by decide +kernel
theorem dX5_setRate_17 : decode cX5_setRate 17 = .ok (.ifCond .ne 13, 3) := by decide +kernel
theorem dX5_setRate_20 : decode cX5_setRate 20 = .ok (.new 63, 3) := by decide +kernel
theorem dX5_setRate_23 : decode cX5_setRate 23 = .ok (.dup, 1) := by decide +kernel
theorem dX5_setRate_24 : decode cX5_setRate 24 = .ok (.ldc 65, 2) := by decide +kernel
theorem dX5_setRate_26 : decode cX5_setRate 26 = .ok (.invokespecial 67, 3) := by decide +kernel
theorem dX5_setRate_29 : decode cX5_setRate 29 = .ok (.athrow, 1) := by decide +kernel
theorem dX5_setRate_30 : decode cX5_setRate 30 = .ok (.aload_n 0, 1) := by decide +kernel
theorem dX5_setRate_31 : decode cX5_setRate 31 = .ok (.getfield 45, 3) := by decide +kernel
theorem dX5_setRate_34 : decode cX5_setRate 34 = .ok (.istore_n 3, 1) := by decide +kernel
theorem dX5_setRate_35 : decode cX5_setRate 35 = .ok (.aload_n 0, 1) := by decide +kernel
theorem dX5_setRate_36 : decode cX5_setRate 36 = .ok (.iload_n 1, 1) := by decide +kernel
theorem dX5_setRate_37 : decode cX5_setRate 37 = .ok (.putfield 45, 3) := by decide +kernel
theorem dX5_setRate_40 : decode cX5_setRate 40 = .ok (.aload_n 0, 1) := by decide +kernel
theorem dX5_setRate_41 : decode cX5_setRate 41 = .ok (.iload_n 2, 1) := by decide +kernel
theorem dX5_setRate_42 : decode cX5_setRate 42 = .ok (.putfield 48, 3) := by decide +kernel
theorem dX5_setRate_45 : decode cX5_setRate 45 = .ok (.iconst 0, 1) := by decide +kernel
theorem dX5_setRate_46 : decode cX5_setRate 46 = .ok (.istore 4, 2) := by decide +kernel
theorem dX5_setRate_48 : decode cX5_setRate 48 = .ok (.iload 4, 2) := by decide +kernel
theorem dX5_setRate_50 : decode cX5_setRate 50 = .ok (.bipush 6, 2) := by decide +kernel
theorem dX5_setRate_52 : decode cX5_setRate 52 = .ok (.if_icmp .ge 20, 3) := by decide +kernel
theorem dX5_setRate_55 : decode cX5_setRate 55 = .ok (.aload_n 0, 1) := by decide +kernel
theorem dX5_setRate_56 : decode cX5_setRate 56 = .ok (.getfield 11, 3) := by decide +kernel
theorem dX5_setRate_59 : decode cX5_setRate 59 = .ok (.iload 4, 2) := by decide +kernel
theorem dX5_setRate_61 : decode cX5_setRate 61 = .ok (.aaload, 1) := by decide +kernel
theorem dX5_setRate_62 : decode cX5_setRate 62 = .ok (.iload_n 1, 1) := by decide +kernel
theorem dX5_setRate_63 : decode cX5_setRate 63 = .ok (.invokevirtual 70, 3) := by decide +kernel
theorem dX5_setRate_66 : decode cX5_setRate 66 = .ok (.iinc 4 1, 3) := by decide +kernel
theorem dX5_setRate_69 : decode cX5_setRate 69 = .ok (.goto (-21), 3) := by decide +kernel
theorem dX5_setRate_72 : decode cX5_setRate 72 = .ok (.iload_n 3, 1) := by decide +kernel
theorem dX5_setRate_73 : decode cX5_setRate 73 = .ok (.ireturn, 1) := by decide +kernel
set_option maxRecDepth 20000 in
theorem ggX5_setFold_X5_isWithin : GoodIn wsX5_setFold wsX5_isWithin := goodIn_r _ [7] (by decide +kernel) (by decide +kernel)
set_option maxRecDepth 20000 in
theorem gX5_setFold_X5_isWithin : GoodIn wsX5_setFold (va_wsS RX5 59 yX5_isWithin wsX5_isWithin) := goodIn_app (goodIn_of _ (by decide +kernel)) ggX5_setFold_X5_isWithin
theorem dX5_setFold_0 : decode cX5_setFold 0 = .ok (.iload_n 1, 1) := by decide +kernel
theorem dX5_setFold_1 : decode cX5_setFold 1 = .ok (.iconst 0, 1) := by decide +kernel
theorem dX5_setFold_2 : decode cX5_setFold 2 = .ok (.bipush 100, 2) := by decide +kernel
theorem dX5_setFold_4 : decode cX5_setFold 4 = .ok (.invokestatic 59, 3) := by decide +kernel
theorem dX5_setFold_7 : decode cX5_setFold 7 = .ok (.ifCond .ne 13, 3) := by decide +kernel
theorem dX5_setFold_10 : decode cX5_setFold 10 = .ok (.new 63, 3) := by decide +kernel
theorem dX5_setFold_13 : decode cX5_setFold 13 = .ok (.dup, 1) := by decide +kernel
theorem dX5_setFold_14 : decode cX5_setFold 14 = .ok (.ldc 74, 2) := by decide +kernel
theorem dX5_setFold_16 : decode cX5_setFold 16 = .ok (.invokespecial 67, 3) := by decide +kernel
theorem dX5_setFold_19 : decode cX5_setFold 19 = .ok (.athrow, 1) := by decide +kernel
theorem dX5_setFold_20 : decode cX5_setFold 20 = .ok (.aload_n 0, 1) := by decide +kernel
theorem dX5_setFold_21 : decode cX5_setFold 21 = .ok (.getfield 51, 3) := by decide +kernel
theorem dX5_setFold_24 : decode cX5_setFold 24 = .ok (.istore_n 2, 1) := by decide +kernel
theorem dX5_setFold_25 : decode cX5_setFold 25 = .ok (.aload_n 0, 1) := by decide +kernel
theorem dX5_setFold_26 : decode cX5_setFold 26 = .ok (.iload_n 1, 1) := by decide +kernel
theorem dX5_setFold_27 : decode cX5_setFold 27 = .ok (.putfield 51, 3) := by decide +kernel
theorem dX5_setFold_30 : decode cX5_setFold 30 = .ok (.iload_n 2, 1) := by decide +kernel
theorem dX5_setFold_31 : decode cX5_setFold 31 = .ok (.ireturn, 1) := by decide +kernel
set_option maxRecDepth 20000 in
theorem ggX5_setRule_X5_ruleAt : GoodIn wsX5_setRule wsX5_ruleAt := goodIn_ca (goodIn_r _ [9, 1, 2, 10, 29, 30, 31, 32, 33, 34, 35, 36, 37] (by decide +kernel) (by decide +kernel)) (goodIn_sub (fun _ h => List.mem_cons_of_mem _ (List.mem_append_left _ (List.mem_append_right _ h))) (by decide +kernel))
set_option maxRecDepth 20000 in
theorem gX5_setRule_X5_ruleAt : GoodIn wsX5_setRule (wsV RX5 76 RX5 yX5_ruleAt wsX5_ruleAt) := goodIn_app (goodIn_of _ (by decide +kernel)) ggX5_setRule_X5_ruleAt
set_option maxRecDepth 20000 in
theorem ggX5_setRule_X5_isWithin : GoodIn wsX5_setRule wsX5_isWithin := goodIn_r _ [13] (by decide +kernel) (by decide +kernel)
set_option maxRecDepth 20000 in
theorem gX5_setRule_X5_isWithin : GoodIn wsX5_setRule (va_wsS RX5 59 yX5_isWithin wsX5_isWithin) := goodIn_app (goodIn_of _ (by decide +kernel)) ggX5_setRule_X5_isWithin
set_option maxRecDepth 20000 in
theorem ggX5_setRule_X3_put : GoodIn wsX5_setRule wsX3_put := goodIn_r _ [18, 19, 20, 21, 22, 23, 38, 39, 40, 41, 42] (by decide +kernel) (by decide +kernel)
set_option maxRecDepth 20000 in
theorem gX5_setRule_X3_put : GoodIn wsX5_setRule (wsV RX5 87 RX3 yX3_put wsX3_put) := goodIn_app (goodIn_of _ (by decide +kernel)) ggX5_setRule_X3_put
set_option maxRecDepth 20000 in
theorem ggX5_setRule_X5_rulesThatAreSet : GoodIn wsX5_setRule wsX5_rulesThatAreSet := goodIn_r _ [27, 10, 28, 29, 30, 31, 32, 33, 34, 35, 36, 37, 38, 39, 40, 41, 42] (by decide +kernel) (by decide +kernel)
set_option maxRecDepth 20000 in
theorem gX5_setRule_X5_rulesThatAreSet : GoodIn wsX5_setRule (wsV RX5 91 RX5 yX5_rulesThatAreSet wsX5_rulesThatAreSet) := goodIn_app (goodIn_of _ (by decide +kernel)) ggX5_setRule_X5_rulesThatAreSet
theorem dX5_setRule_0 : decode cX5_setRule 0 = .ok (.aload_n 0, 1) := by decide +kernel
theorem dX5_setRule_1 : decode cX5_setRule 1 = .ok (.iload_n 1, 1) := by decide +kernel
theorem dX5_setRule_2 : decode cX5_setRule 2 = .ok (.invokevirtual 76, 3) := by decide +kernel
theorem dX5_setRule_5 : decode cX5_setRule 5 = .ok (.astore 6, 2) := by decide +kernel
theorem dX5_setRule_7 : decode cX5_setRule 7 = .ok (.iload 4, 2) := by decide +kernel
theorem dX5_setRule_9 : decode cX5_setRule 9 = .ok (.iconst (-1), 1) := by decide +kernel
theorem dX5_setRule_10 : decode cX5_setRule 10 = .ok (.iconst 5, 1) := by decide +kernel
theorem dX5_setRule_11 : decode cX5_setRule 11 = .ok (.invokestatic 59, 3) := by decide +kernel
theorem dX5_setRule_14 : decode cX5_setRule 14 = .ok (.ifCond .ne 13, 3) := by decide +kernel
theorem dX5_setRule_17 : decode cX5_setRule 17 = .ok (.new 80, 3) := by decide +kernel
theorem dX5_setRule_20 : decode cX5_setRule 20 = .ok (.dup, 1) := by decide +kernel
theorem dX5_setRule_21 : decode cX5_setRule 21 = .ok (.ldc 82, 2) := by decide +kernel
theorem dX5_setRule_23 : decode cX5_setRule 23 = .ok (.invokespecial 84, 3) := by decide +kernel
theorem dX5_setRule_26 : decode cX5_setRule 26 = .ok (.athrow, 1) := by decide +kernel
theorem dX5_setRule_27 : decode cX5_setRule 27 = .ok (.iload_n 2, 1) := by decide +kernel
theorem dX5_setRule_28 : decode cX5_setRule 28 = .ok (.iconst 0, 1) := by decide +kernel
theorem dX5_setRule_29 : decode cX5_setRule 29 = .ok (.sipush 255, 3) := by decide +kernel
theorem dX5_setRule_32 : decode cX5_setRule 32 = .ok (.invokestatic 59, 3) := by decide +kernel
theorem dX5_setRule_35 : decode cX5_setRule 35 = .ok (.ifCond .eq 23, 3) := by decide +kernel
theorem dX5_setRule_38 : decode cX5_setRule 38 = .ok (.iload_n 3, 1) := by decide +kernel
theorem dX5_setRule_39 : decode cX5_setRule 39 = .ok (.iconst 0, 1) := by decide +kernel
theorem dX5_setRule_40 : decode cX5_setRule 40 = .ok (.bipush 7, 2) := by decide +kernel
theorem dX5_setRule_42 : decode cX5_setRule 42 = .ok (.invokestatic 59, 3) := by decide +kernel
theorem dX5_setRule_45 : decode cX5_setRule 45 = .ok (.ifCond .eq 13, 3) := by decide +kernel
theorem dX5_setRule_48 : decode cX5_setRule 48 = .ok (.iload 5, 2) := by decide +kernel
theorem dX5_setRule_50 : decode cX5_setRule 50 = .ok (.iconst 0, 1) := by decide +kernel
theorem dX5_setRule_51 : decode cX5_setRule 51 = .ok (.iconst 4, 1) := by decide +kernel
theorem dX5_setRule_52 : decode cX5_setRule 52 = .ok (.invokestatic 59, 3) := by decide +kernel
theorem dX5_setRule_55 : decode cX5_setRule 55 = .ok (.ifCond .ne 13, 3) := by decide +kernel
theorem dX5_setRule_58 : decode cX5_setRule 58 = .ok (.new 63, 3) := by decide +kernel
theorem dX5_setRule_61 : decode cX5_setRule 61 = .ok (.dup, 1) := by decide +kernel
theorem dX5_setRule_62 : decode cX5_setRule 62 = .ok (.ldc 85, 2) := by decide +kernel
theorem dX5_setRule_64 : decode cX5_setRule 64 = .ok (.invokespecial 67, 3) := by decide +kernel
theorem dX5_setRule_67 : decode cX5_setRule 67 = .ok (.athrow, 1) := by decide +kernel
theorem dX5_setRule_68 : decode cX5_setRule 68 = .ok (.aload 6, 2) := by decide +kernel
theorem dX5_setRule_70 : decode cX5_setRule 70 = .ok (.iload_n 2, 1) := by decide +kernel
theorem dX5_setRule_71 : decode cX5_setRule 71 = .ok (.iload_n 3, 1) := by decide +kernel
theorem dX5_setRule_72 : decode cX5_setRule 72 = .ok (.iload 4, 2) := by decide +kernel
theorem dX5_setRule_74 : decode cX5_setRule 74 = .ok (.iload 5, 2) := by decide +kernel
theorem dX5_setRule_76 : decode cX5_setRule 76 = .ok (.invokevirtual 87, 3) := by decide +kernel
theorem dX5_setRule_79 : decode cX5_setRule 79 = .ok (.aload_n 0, 1) := by decide +kernel
theorem dX5_setRule_80 : decode cX5_setRule 80 = .ok (.invokevirtual 91, 3) := by decide +kernel
theorem dX5_setRule_83 : decode cX5_setRule 83 = .ok (.ireturn, 1) := by decide +kernel
set_option maxRecDepth 20000 in
theorem ggX5_setFile_X5_fileAt : GoodIn wsX5_setFile wsX5_fileAt := goodIn_ca (goodIn_r _ [8, 9, 10, 11, 34, 35, 36, 37, 38, 39, 40, 41, 42] (by decide +kernel) (by decide +kernel)) (goodIn_sub (fun _ h => List.mem_cons_of_mem _ (List.mem_append_right _ h)) (by decide +kernel))
set_option maxRecDepth 20000 in
theorem gX5_setFile_X5_fileAt : GoodIn wsX5_setFile (wsV RX5 99 RX5 yX5_fileAt wsX5_fileAt) := goodIn_app (goodIn_of _ (by decide +kernel)) ggX5_setFile_X5_fileAt
set_option maxRecDepth 20000 in
theorem ggX5_setFile_X5_isWithin : GoodIn wsX5_setFile wsX5_isWithin := goodIn_r _ [14] (by decide +kernel) (by decide +kernel)
set_option maxRecDepth 20000 in
theorem gX5_setFile_X5_isWithin : GoodIn wsX5_setFile (va_wsS RX5 59 yX5_isWithin wsX5_isWithin) := goodIn_app (goodIn_of _ (by decide +kernel)) ggX5_setFile_X5_isWithin
set_option maxRecDepth 20000 in
theorem ggX5_setFile_X2_limit : GoodIn wsX5_setFile wsX2_limit := goodIn_r _ [19, 20, 21, 22, 23, 24, 25, 26, 27, 28, 29, 30, 31, 32, 33] (by decide +kernel) (by decide +kernel)
set_option maxRecDepth 20000 in
theorem gX5_setFile_X2_limit : GoodIn wsX5_setFile (wsV RX5 105 RX2 yX2_limit wsX2_limit) := goodIn_app (goodIn_of _ (by decide +kernel)) ggX5_setFile_X2_limit
theorem dX5_setFile_0 : decode cX5_setFile 0 = .ok (.aload_n 0, 1) := by decide +kernel
theorem dX5_setFile_1 : decode cX5_setFile 1 = .ok (.iload_n 1, 1) := by decide +kernel
theorem dX5_setFile_2 : decode cX5_setFile 2 = .ok (.invokevirtual 99, 3) := by decide +kernel
theorem dX5_setFile_5 : decode cX5_setFile 5 = .ok (.astore 5, 2) := by decide +kernel
theorem dX5_setFile_7 : decode cX5_setFile 7 = .ok (.iload_n 2, 1) := by decide +kernel
theorem dX5_setFile_8 : decode cX5_setFile 8 = .ok (.sipush 200, 3) := by decide +kernel
theorem dX5_setFile_11 : decode cX5_setFile 11 = .ok (.sipush 5000, 3) := by decide +kernel
theorem dX5_setFile_14 : decode cX5_setFile 14 = .ok (.invokestatic 59, 3) := by decide +kernel
theorem dX5_setFile_17 : decode cX5_setFile 17 = .ok (.ifCond .eq 24, 3) := by decide +kernel
theorem dX5_setFile_20 : decode cX5_setFile 20 = .ok (.iload_n 3, 1) := by decide +kernel
theorem dX5_setFile_21 : decode cX5_setFile 21 = .ok (.iconst 0, 1) := by decide +kernel
theorem dX5_setFile_22 : decode cX5_setFile 22 = .ok (.sipush 1000, 3) := by decide +kernel
theorem dX5_setFile_25 : decode cX5_setFile 25 = .ok (.invokestatic 59, 3) := by decide +kernel
theorem dX5_setFile_28 : decode cX5_setFile 28 = .ok (.ifCond .eq 13, 3) := by decide +kernel
theorem dX5_setFile_31 : decode cX5_setFile 31 = .ok (.iload 4, 2) := by decide +kernel
theorem dX5_setFile_33 : decode cX5_setFile 33 = .ok (.iconst 0, 1) := by decide +kernel
theorem dX5_setFile_34 : decode cX5_setFile 34 = .ok (.iconst 5, 1) := by decide +kernel
theorem dX5_setFile_35 : decode cX5_setFile 35 = .ok (.invokestatic 59, 3) := by decide +kernel
theorem dX5_setFile_38 : decode cX5_setFile 38 = .ok (.ifCond .ne 13, 3) := by decide +kernel
theorem dX5_setFile_41 : decode cX5_setFile 41 = .ok (.new 63, 3) := by decide +kernel
theorem dX5_setFile_44 : decode cX5_setFile 44 = .ok (.dup, 1) := by decide +kernel
theorem dX5_setFile_45 : decode cX5_setFile 45 = .ok (.ldc 103, 2) := by decide +kernel
theorem dX5_setFile_47 : decode cX5_setFile 47 = .ok (.invokespecial 67, 3) := by decide +kernel
theorem dX5_setFile_50 : decode cX5_setFile 50 = .ok (.athrow, 1) := by decide +kernel
theorem dX5_setFile_51 : decode cX5_setFile 51 = .ok (.aload 5, 2) := by decide +kernel
theorem dX5_setFile_53 : decode cX5_setFile 53 = .ok (.iload_n 2, 1) := by decide +kernel
theorem dX5_setFile_54 : decode cX5_setFile 54 = .ok (.iload_n 3, 1) := by decide +kernel
theorem dX5_setFile_55 : decode cX5_setFile 55 = .ok (.iload 4, 2) := by decide +kernel
theorem dX5_setFile_57 : decode cX5_setFile 57 = .ok (.invokevirtual 105, 3) := by decide +kernel
theorem dX5_setFile_60 : decode cX5_setFile 60 = .ok (.aload 5, 2) := by decide +kernel
theorem dX5_setFile_62 : decode cX5_setFile 62 = .ok (.getfield 109, 3) := by decide +kernel
theorem dX5_setFile_65 : decode cX5_setFile 65 = .ok (.ireturn, 1) := by decide +kernel
set_option maxRecDepth 20000 in
theorem ggX5_message_X5_senderAt : GoodIn wsX5_message wsX5_senderAt := goodIn_ca (goodIn_r _ [15, 16, 17, 18, 114, 115, 116, 117, 118, 119, 120, 121, 122] (by decide +kernel) (by decide +kernel)) (goodIn_sub (fun _ h => List.mem_cons_of_mem _ (List.mem_append_right _ h)) (by decide +kernel))
set_option maxRecDepth 20000 in
theorem gX5_message_X5_senderAt : GoodIn wsX5_message (wsV RX5 112 RX5 yX5_senderAt wsX5_senderAt) := goodIn_app (goodIn_of _ (by decide +kernel)) ggX5_message_X5_senderAt
set_option maxRecDepth 20000 in
theorem ggX5_message_X5_isWithin : GoodIn wsX5_message wsX5_isWithin := goodIn_r _ [21] (by decide +kernel) (by decide +kernel)
set_option maxRecDepth 20000 in
theorem gX5_message_X5_isWithin : GoodIn wsX5_message (va_wsS RX5 59 yX5_isWithin wsX5_isWithin) := goodIn_app (goodIn_of _ (by decide +kernel)) ggX5_message_X5_isWithin
set_option maxRecDepth 20000 in
theorem ggX5_message_X1_isFull : GoodIn wsX5_message wsX1_isFull := goodIn_r _ [26, 27, 132, 133, 134] (by decide +kernel) (by decide +kernel)
set_option maxRecDepth 20000 in
theorem gX5_message_X1_isFull : GoodIn wsX5_message (wsV RX5 118 RX1 yX1_isFull wsX1_isFull) := goodIn_app (goodIn_of _ (by decide +kernel)) ggX5_message_X1_isFull
set_option maxRecDepth 20000 in
theorem ggX5_message_X4_lastIs : GoodIn wsX5_message wsX4_lastIs := goodIn_r _ [32, 33, 34, 35, 36, 123, 124, 125, 126, 127, 128, 129, 130, 131] (by decide +kernel) (by decide +kernel)
set_option maxRecDepth 20000 in
theorem gX5_message_X4_lastIs : GoodIn wsX5_message (wsV RX5 127 RX4 yX4_lastIs wsX4_lastIs) := goodIn_app (goodIn_of _ (by decide +kernel)) ggX5_message_X4_lastIs
set_option maxRecDepth 20000 in
theorem ggX5_message_X4_countRepeat : GoodIn wsX5_message wsX4_countRepeat := goodIn_r _ [40, 41, 42, 123, 124, 125, 126, 127, 128, 129, 130, 131] (by decide +kernel) (by decide +kernel)
set_option maxRecDepth 20000 in
theorem gX5_message_X4_countRepeat : GoodIn wsX5_message (wsV RX5 131 RX4 yX4_countRepeat wsX4_countRepeat) := goodIn_app (goodIn_of _ (by decide +kernel)) ggX5_message_X4_countRepeat
set_option maxRecDepth 20000 in
theorem ggX5_message_X1_enter : GoodIn wsX5_message wsX1_enter := goodIn_r _ [46, 27, 47, 48, 132, 133, 134] (by decide +kernel) (by decide +kernel)
set_option maxRecDepth 20000 in
theorem gX5_message_X1_enter : GoodIn wsX5_message (wsV RX5 134 RX1 yX1_enter wsX1_enter) := goodIn_app (goodIn_of _ (by decide +kernel)) ggX5_message_X1_enter
set_option maxRecDepth 20000 in
theorem ggX5_message_X5_tellRepeats : GoodIn wsX5_message wsX5_tellRepeats := goodIn_r _ [52, 53, 54, 55, 56, 57, 58, 59, 14, 60, 61, 62, 63, 7, 64, 65, 66, 67, 68, 69, 70, 71, 72, 73, 74, 75, 76, 77, 78, 79, 80, 81, 82, 83, 84, 85, 86, 87, 88, 89, 90, 91, 92, 93, 94, 95, 96, 97, 98, 99, 100, 101, 102, 103, 104, 123, 124, 125, 126, 127, 128, 129, 130, 131, 114, 115, 116, 117, 118, 119, 120, 121, 122, 135, 136, 137, 138, 139, 140, 141, 142, 143, 144, 145, 146, 147, 148, 149, 150, 151, 152, 153, 154, 155] (by decide +kernel) (by decide +kernel)
set_option maxRecDepth 20000 in
theorem gX5_message_X5_tellRepeats : GoodIn wsX5_message (wsV RX5 138 RX5 yX5_tellRepeats wsX5_tellRepeats) := goodIn_app (goodIn_of _ (by decide +kernel)) ggX5_message_X5_tellRepeats
set_option maxRecDepth 20000 in
theorem ggX5_message_X5_tellDrops : GoodIn wsX5_message wsX5_tellDrops := goodIn_r _ [108, 9, 109, 54, 57, 58, 59, 14, 60, 61, 62, 63, 7, 64, 65, 66, 67, 68, 69, 70, 71, 72, 73, 74, 75, 76, 77, 78, 79, 80, 81, 82, 83, 84, 85, 86, 87, 88, 89, 90, 91, 92, 93, 94, 95, 96, 97, 98, 99, 100, 101, 102, 103, 104, 123, 124, 125, 126, 127, 128, 129, 130, 131, 114, 115, 116, 117, 118, 119, 120, 121, 122, 135, 136, 137, 138, 139, 140, 141, 142, 143, 144, 145, 146, 147, 148, 149, 150, 151, 152, 153, 154, 155] (by decide +kernel) (by decide +kernel)
set_option maxRecDepth 20000 in
theorem gX5_message_X5_tellDrops : GoodIn wsX5_message (wsV RX5 148 RX5 yX5_tellDrops wsX5_tellDrops) := goodIn_app (goodIn_of _ (by decide +kernel)) ggX5_message_X5_tellDrops
set_option maxRecDepth 20000 in
theorem ggX5_message_X4_setLast : GoodIn wsX5_message wsX4_setLast := goodIn_r _ [113, 33, 34, 35, 36, 123, 124, 125, 126, 127, 128, 129, 130, 131] (by decide +kernel) (by decide +kernel)
set_option maxRecDepth 20000 in
theorem gX5_message_X4_setLast : GoodIn wsX5_message (wsV RX5 151 RX4 yX4_setLast wsX4_setLast) := goodIn_app (goodIn_of _ (by decide +kernel)) ggX5_message_X4_setLast
set_option maxRecDepth 20000 in
theorem ggX5_message_X5_route : GoodIn wsX5_message wsX5_route := goodIn_r _ [60, 61, 62, 63, 7, 64, 65, 66, 67, 68, 69, 70, 71, 72, 73, 74, 75, 76, 77, 78, 79, 80, 81, 82, 83, 84, 85, 86, 87, 88, 89, 90, 91, 92, 93, 94, 95, 96, 97, 98, 99, 100, 101, 102, 103, 104, 114, 115, 116, 117, 118, 119, 120, 121, 122, 135, 136, 137, 138, 139, 140, 141, 142, 143, 144, 145, 146, 147, 148, 149, 150, 151, 152, 153, 154, 155] (by decide +kernel) (by decide +kernel)
set_option maxRecDepth 20000 in
theorem gX5_message_X5_route : GoodIn wsX5_message (wsV RX5 157 RX5 yX5_route wsX5_route) := goodIn_app (goodIn_of _ (by decide +kernel)) ggX5_message_X5_route
theorem dX5_message_0 : decode cX5_message 0 = .ok (.aload_n 0, 1) := by decide +kernel
theorem dX5_message_1 : decode cX5_message 1 = .ok (.iload_n 1, 1) := by decide +kernel
theorem dX5_message_2 : decode cX5_message 2 = .ok (.invokevirtual 112, 3) := by decide +kernel
theorem dX5_message_5 : decode cX5_message 5 = .ok (.astore 6, 2) := by decide +kernel
theorem dX5_message_7 : decode cX5_message 7 = .ok (.iload_n 2, 1) := by decide +kernel
theorem dX5_message_8 : decode cX5_message 8 = .ok (.iconst 0, 1) := by decide +kernel
theorem dX5_message_9 : decode cX5_message 9 = .ok (.bipush 7, 2) := by decide +kernel
theorem dX5_message_11 : decode cX5_message 11 = .ok (.invokestatic 59, 3) := by decide +kernel
theorem dX5_message_14 : decode cX5_message 14 = .ok (.ifCond .eq 36, 3) := by decide +kernel
theorem dX5_message_17 : decode cX5_message 17 = .ok (.iload_n 3, 1) := by decide +kernel
theorem dX5_message_18 : decode cX5_message 18 = .ok (.iconst 0, 1) := by decide +kernel
theorem dX5_message_19 : decode cX5_message 19 = .ok (.bipush 7, 2) := by decide +kernel
theorem dX5_message_21 : decode cX5_message 21 = .ok (.invokestatic 59, 3) := by decide +kernel
theorem dX5_message_24 : decode cX5_message 24 = .ok (.ifCond .eq 26, 3) := by decide +kernel
theorem dX5_message_27 : decode cX5_message 27 = .ok (.iload 4, 2) := by decide +kernel
theorem dX5_message_29 : decode cX5_message 29 = .ok (.iconst 0, 1) := by decide +kernel
theorem dX5_message_30 : decode cX5_message 30 = .ok (.bipush 99, 2) := by decide +kernel
theorem dX5_message_32 : decode cX5_message 32 = .ok (.invokestatic 59, 3) := by decide +kernel
theorem dX5_message_35 : decode cX5_message 35 = .ok (.ifCond .eq 15, 3) := by decide +kernel
theorem dX5_message_38 : decode cX5_message 38 = .ok (.iload 5, 2) := by decide +kernel
theorem dX5_message_40 : decode cX5_message 40 = .ok (.iconst 1, 1) := by decide +kernel
theorem dX5_message_41 : decode cX5_message 41 = .ok (.sipush 200, 3) := by decide +kernel
theorem dX5_message_44 : decode cX5_message 44 = .ok (.invokestatic 59, 3) := by decide +kernel
theorem dX5_message_47 : decode cX5_message 47 = .ok (.ifCond .ne 13, 3) := by decide +kernel
theorem dX5_message_50 : decode cX5_message 50 = .ok (.new 63, 3) := by decide +kernel
theorem dX5_message_53 : decode cX5_message 53 = .ok (.dup, 1) := by decide +kernel
theorem dX5_message_54 : decode cX5_message 54 = .ok (.ldc 116, 2) := by decide +kernel
theorem dX5_message_56 : decode cX5_message 56 = .ok (.invokespecial 67, 3) := by decide +kernel
theorem dX5_message_59 : decode cX5_message 59 = .ok (.athrow, 1) := by decide +kernel
theorem dX5_message_60 : decode cX5_message 60 = .ok (.aload_n 0, 1) := by decide +kernel
theorem dX5_message_61 : decode cX5_message 61 = .ok (.getfield 37, 3) := by decide +kernel
theorem dX5_message_64 : decode cX5_message 64 = .ok (.invokevirtual 118, 3) := by decide +kernel
theorem dX5_message_67 : decode cX5_message 67 = .ok (.ifCond .eq 13, 3) := by decide +kernel
theorem dX5_message_70 : decode cX5_message 70 = .ok (.new 122, 3) := by decide +kernel
theorem dX5_message_73 : decode cX5_message 73 = .ok (.dup, 1) := by decide +kernel
theorem dX5_message_74 : decode cX5_message 74 = .ok (.ldc 124, 2) := by decide +kernel
theorem dX5_message_76 : decode cX5_message 76 = .ok (.invokespecial 126, 3) := by decide +kernel
theorem dX5_message_79 : decode cX5_message 79 = .ok (.athrow, 1) := by decide +kernel
theorem dX5_message_80 : decode cX5_message 80 = .ok (.aload_n 0, 1) := by decide +kernel
theorem dX5_message_81 : decode cX5_message 81 = .ok (.getfield 51, 3) := by decide +kernel
theorem dX5_message_84 : decode cX5_message 84 = .ok (.ifCond .eq 36, 3) := by decide +kernel
theorem dX5_message_87 : decode cX5_message 87 = .ok (.aload 6, 2) := by decide +kernel
theorem dX5_message_89 : decode cX5_message 89 = .ok (.iload_n 2, 1) := by decide +kernel
theorem dX5_message_90 : decode cX5_message 90 = .ok (.iload_n 3, 1) := by decide +kernel
theorem dX5_message_91 : decode cX5_message 91 = .ok (.iload 4, 2) := by decide +kernel
theorem dX5_message_93 : decode cX5_message 93 = .ok (.iload 5, 2) := by decide +kernel
theorem dX5_message_95 : decode cX5_message 95 = .ok (.invokevirtual 127, 3) := by decide +kernel
theorem dX5_message_98 : decode cX5_message 98 = .ok (.ifCond .eq 22, 3) := by decide +kernel
theorem dX5_message_101 : decode cX5_message 101 = .ok (.aload 6, 2) := by decide +kernel
theorem dX5_message_103 : decode cX5_message 103 = .ok (.aload_n 0, 1) := by decide +kernel
theorem dX5_message_104 : decode cX5_message 104 = .ok (.getfield 41, 3) := by decide +kernel
theorem dX5_message_107 : decode cX5_message 107 = .ok (.invokevirtual 131, 3) := by decide +kernel
theorem dX5_message_110 : decode cX5_message 110 = .ok (.aload_n 0, 1) := by decide +kernel
theorem dX5_message_111 : decode cX5_message 111 = .ok (.getfield 37, 3) := by decide +kernel
theorem dX5_message_114 : decode cX5_message 114 = .ok (.iconst 0, 1) := by decide +kernel
theorem dX5_message_115 : decode cX5_message 115 = .ok (.iconst 0, 1) := by decide +kernel
theorem dX5_message_116 : decode cX5_message 116 = .ok (.invokevirtual 134, 3) := by decide +kernel
theorem dX5_message_119 : decode cX5_message 119 = .ok (.ireturn, 1) := by decide +kernel
theorem dX5_message_120 : decode cX5_message 120 = .ok (.aload_n 0, 1) := by decide +kernel
theorem dX5_message_121 : decode cX5_message 121 = .ok (.aload 6, 2) := by decide +kernel
theorem dX5_message_123 : decode cX5_message 123 = .ok (.invokevirtual 138, 3) := by decide +kernel
theorem dX5_message_126 : decode cX5_message 126 = .ok (.aload 6, 2) := by decide +kernel
theorem dX5_message_128 : decode cX5_message 128 = .ok (.getfield 142, 3) := by decide +kernel
theorem dX5_message_131 : decode cX5_message 131 = .ok (.ifCond .ne 24, 3) := by decide +kernel
theorem dX5_message_134 : decode cX5_message 134 = .ok (.aload 6, 2) := by decide +kernel
theorem dX5_message_136 : decode cX5_message 136 = .ok (.dup, 1) := by decide +kernel
theorem dX5_message_137 : decode cX5_message 137 = .ok (.getfield 145, 3) := by decide +kernel
theorem dX5_message_140 : decode cX5_message 140 = .ok (.iconst 1, 1) := by decide +kernel
theorem dX5_message_141 : decode cX5_message 141 = .ok (.iadd, 1) := by decide +kernel
theorem dX5_message_142 : decode cX5_message 142 = .ok (.putfield 145, 3) := by decide +kernel
theorem dX5_message_145 : decode cX5_message 145 = .ok (.aload_n 0, 1) := by decide +kernel
theorem dX5_message_146 : decode cX5_message 146 = .ok (.getfield 37, 3) := by decide +kernel
theorem dX5_message_149 : decode cX5_message 149 = .ok (.iconst 1, 1) := by decide +kernel
theorem dX5_message_150 : decode cX5_message 150 = .ok (.iconst 0, 1) := by decide +kernel
theorem dX5_message_151 : decode cX5_message 151 = .ok (.invokevirtual 134, 3) := by decide +kernel
theorem dX5_message_154 : decode cX5_message 154 = .ok (.ireturn, 1) := by decide +kernel
theorem dX5_message_155 : decode cX5_message 155 = .ok (.aload 6, 2) := by decide +kernel
theorem dX5_message_157 : decode cX5_message 157 = .ok (.dup, 1) := by decide +kernel
theorem dX5_message_158 : decode cX5_message 158 = .ok (.getfield 142, 3) := by decide +kernel
theorem dX5_message_161 : decode cX5_message 161 = .ok (.iconst 1, 1) := by decide +kernel
theorem dX5_message_162 : decode cX5_message 162 = .ok (.isub, 1) := by decide +kernel
theorem dX5_message_163 : decode cX5_message 163 = .ok (.putfield 142, 3) := by decide +kernel
theorem dX5_message_166 : decode cX5_message 166 = .ok (.aload_n 0, 1) := by decide +kernel
theorem dX5_message_167 : decode cX5_message 167 = .ok (.aload 6, 2) := by decide +kernel
theorem dX5_message_169 : decode cX5_message 169 = .ok (.invokevirtual 148, 3) := by decide +kernel
theorem dX5_message_172 : decode cX5_message 172 = .ok (.aload 6, 2) := by decide +kernel
theorem dX5_message_174 : decode cX5_message 174 = .ok (.iload_n 2, 1) := by decide +kernel
theorem dX5_message_175 : decode cX5_message 175 = .ok (.iload_n 3, 1) := by decide +kernel
theorem dX5_message_176 : decode cX5_message 176 = .ok (.iload 4, 2) := by decide +kernel
theorem dX5_message_178 : decode cX5_message 178 = .ok (.iload 5, 2) := by decide +kernel
theorem dX5_message_180 : decode cX5_message 180 = .ok (.invokevirtual 151, 3) := by decide +kernel
theorem dX5_message_183 : decode cX5_message 183 = .ok (.aload_n 0, 1) := by decide +kernel
theorem dX5_message_184 : decode cX5_message 184 = .ok (.aload_n 0, 1) := by decide +kernel
theorem dX5_message_185 : decode cX5_message 185 = .ok (.getfield 37, 3) := by decide +kernel
theorem dX5_message_188 : decode cX5_message 188 = .ok (.getfield 154, 3) := by decide +kernel
theorem dX5_message_191 : decode cX5_message 191 = .ok (.iload_n 1, 1) := by decide +kernel
theorem dX5_message_192 : decode cX5_message 192 = .ok (.iload_n 2, 1) := by decide +kernel
theorem dX5_message_193 : decode cX5_message 193 = .ok (.iload_n 3, 1) := by decide +kernel
theorem dX5_message_194 : decode cX5_message 194 = .ok (.iload 5, 2) := by decide +kernel
theorem dX5_message_196 : decode cX5_message 196 = .ok (.invokevirtual 157, 3) := by decide +kernel
theorem dX5_message_199 : decode cX5_message 199 = .ok (.istore 7, 2) := by decide +kernel
theorem dX5_message_201 : decode cX5_message 201 = .ok (.aload_n 0, 1) := by decide +kernel
theorem dX5_message_202 : decode cX5_message 202 = .ok (.getfield 37, 3) := by decide +kernel
theorem dX5_message_205 : decode cX5_message 205 = .ok (.iload 7, 2) := by decide +kernel
theorem dX5_message_207 : decode cX5_message 207 = .ok (.ifCond .ne 7, 3) := by decide +kernel
theorem dX5_message_210 : decode cX5_message 210 = .ok (.iconst 2, 1) := by decide +kernel
theorem dX5_message_211 : decode cX5_message 211 = .ok (.goto 4, 3) := by decide +kernel
theorem dX5_message_214 : decode cX5_message 214 = .ok (.iconst 3, 1) := by decide +kernel
theorem dX5_message_215 : decode cX5_message 215 = .ok (.iload 7, 2) := by decide +kernel
theorem dX5_message_217 : decode cX5_message 217 = .ok (.invokevirtual 134, 3) := by decide +kernel
theorem dX5_message_220 : decode cX5_message 220 = .ok (.ireturn, 1) := by decide +kernel
set_option maxRecDepth 20000 in
theorem ggX5_pass_X5_isWithin : GoodIn wsX5_pass wsX5_isWithin := goodIn_r _ [6] (by decide +kernel) (by decide +kernel)
set_option maxRecDepth 20000 in
theorem gX5_pass_X5_isWithin : GoodIn wsX5_pass (va_wsS RX5 59 yX5_isWithin wsX5_isWithin) := goodIn_app (goodIn_of _ (by decide +kernel)) ggX5_pass_X5_isWithin
set_option maxRecDepth 20000 in
theorem ggX5_pass_X5_rotationsOfAllFiles : GoodIn wsX5_pass wsX5_rotationsOfAllFiles := goodIn_r _ [10, 11, 12, 106, 107, 108, 109, 110, 111, 112, 113, 114, 115, 116, 117, 118, 119, 120, 121, 122, 123, 124] (by decide +kernel) (by decide +kernel)
set_option maxRecDepth 20000 in
theorem gX5_pass_X5_rotationsOfAllFiles : GoodIn wsX5_pass (wsV RX5 161 RX5 yX5_rotationsOfAllFiles wsX5_rotationsOfAllFiles) := goodIn_app (goodIn_of _ (by decide +kernel)) ggX5_pass_X5_rotationsOfAllFiles
set_option maxRecDepth 20000 in
theorem ggX5_pass_X5_passOneSecond : GoodIn wsX5_pass wsX5_passOneSecond := goodIn_r _ [16, 17, 18, 19, 20, 21, 5, 22, 23, 24, 25, 26, 27, 28, 29, 30, 31, 32, 33, 34, 35, 36, 37, 38, 39, 40, 41, 42, 43, 44, 45, 46, 47, 48, 49, 50, 51, 52, 53, 54, 11, 55, 56, 57, 58, 59, 60, 61, 62, 63, 64, 65, 66, 67, 68, 69, 70, 71, 72, 73, 74, 75, 76, 77, 78, 79, 80, 81, 82, 83, 84, 85, 86, 87, 88, 89, 90, 91, 92, 93, 94, 95, 96, 97, 98, 99, 100, 101, 102, 103, 104, 105, 106, 107, 108, 109, 110, 111, 112, 113, 114, 125, 126, 127, 128, 129, 130, 131, 132, 133, 134, 135, 136, 137, 138, 115, 116, 117, 118, 119, 120, 121, 122, 123, 124, 139, 140, 141, 142, 143, 144] (by decide +kernel) (by decide +kernel)
set_option maxRecDepth 20000 in
theorem gX5_pass_X5_passOneSecond : GoodIn wsX5_pass (wsV RX5 164 RX5 yX5_passOneSecond wsX5_passOneSecond) := goodIn_app (goodIn_of _ (by decide +kernel)) ggX5_pass_X5_passOneSecond
theorem dX5_pass_0 : decode cX5_pass 0 = .ok (.iload_n 1, 1) := by decide +kernel
theorem dX5_pass_1 : decode cX5_pass 1 = .ok (.iconst 1, 1) := by decide +kernel
theorem dX5_pass_2 : decode cX5_pass 2 = .ok (.bipush 100, 2) := by decide +kernel
theorem dX5_pass_4 : decode cX5_pass 4 = .ok (.invokestatic 59, 3) := by decide +kernel
theorem dX5_pass_7 : decode cX5_pass 7 = .ok (.ifCond .ne 13, 3) := by decide +kernel
theorem dX5_pass_10 : decode cX5_pass 10 = .ok (.new 63, 3) := by decide +kernel
theorem dX5_pass_13 : decode cX5_pass 13 = .ok (.dup, 1) := by decide +kernel
theorem dX5_pass_14 : decode cX5_pass 14 = .ok (.ldc 74, 2) := by decide +kernel
theorem dX5_pass_16 : decode cX5_pass 16 = .ok (.invokespecial 67, 3) := by decide +kernel
theorem dX5_pass_19 : decode cX5_pass 19 = .ok (.athrow, 1) := by decide +kernel
theorem dX5_pass_20 : decode cX5_pass 20 = .ok (.aload_n 0, 1) := by decide +kernel
theorem dX5_pass_21 : decode cX5_pass 21 = .ok (.invokevirtual 161, 3) := by decide +kernel
theorem dX5_pass_24 : decode cX5_pass 24 = .ok (.istore_n 2, 1) := by decide +kernel
theorem dX5_pass_25 : decode cX5_pass 25 = .ok (.iconst 0, 1) := by decide +kernel
theorem dX5_pass_26 : decode cX5_pass 26 = .ok (.istore_n 3, 1) := by decide +kernel
theorem dX5_pass_27 : decode cX5_pass 27 = .ok (.iload_n 3, 1) := by decide +kernel
theorem dX5_pass_28 : decode cX5_pass 28 = .ok (.iload_n 1, 1) := by decide +kernel
theorem dX5_pass_29 : decode cX5_pass 29 = .ok (.if_icmp .ge 13, 3) := by decide +kernel
theorem dX5_pass_32 : decode cX5_pass 32 = .ok (.aload_n 0, 1) := by decide +kernel
theorem dX5_pass_33 : decode cX5_pass 33 = .ok (.invokevirtual 164, 3) := by decide +kernel
theorem dX5_pass_36 : decode cX5_pass 36 = .ok (.iinc 3 1, 3) := by decide +kernel
theorem dX5_pass_39 : decode cX5_pass 39 = .ok (.goto (-12), 3) := by decide +kernel
theorem dX5_pass_42 : decode cX5_pass 42 = .ok (.aload_n 0, 1) := by decide +kernel
theorem dX5_pass_43 : decode cX5_pass 43 = .ok (.invokevirtual 161, 3) := by decide +kernel
theorem dX5_pass_46 : decode cX5_pass 46 = .ok (.iload_n 2, 1) := by decide +kernel
theorem dX5_pass_47 : decode cX5_pass 47 = .ok (.isub, 1) := by decide +kernel
theorem dX5_pass_48 : decode cX5_pass 48 = .ok (.ireturn, 1) := by decide +kernel
set_option maxRecDepth 20000 in
theorem ggX5_rotate_X5_fileAt : GoodIn wsX5_rotate wsX5_fileAt := goodIn_ca (goodIn_r _ [8, 9, 10, 11, 37, 38, 39, 40, 41, 42, 43, 44, 45] (by decide +kernel) (by decide +kernel)) (goodIn_sub (fun _ h => List.mem_cons_of_mem _ (List.mem_append_right _ h)) (by decide +kernel))
set_option maxRecDepth 20000 in
theorem gX5_rotate_X5_fileAt : GoodIn wsX5_rotate (wsV RX5 99 RX5 yX5_fileAt wsX5_fileAt) := goodIn_app (goodIn_of _ (by decide +kernel)) ggX5_rotate_X5_fileAt
set_option maxRecDepth 20000 in
theorem ggX5_rotate_X2_isEmpty : GoodIn wsX5_rotate wsX2_isEmpty := goodIn_r _ [16, 17, 18, 27, 28, 29, 30, 31, 32, 33, 34, 35, 36] (by decide +kernel) (by decide +kernel)
set_option maxRecDepth 20000 in
theorem gX5_rotate_X2_isEmpty : GoodIn wsX5_rotate (wsV RX5 167 RX2 yX2_isEmpty wsX2_isEmpty) := goodIn_app (goodIn_of _ (by decide +kernel)) ggX5_rotate_X2_isEmpty
set_option maxRecDepth 20000 in
theorem ggX5_rotate_X2_turnOver : GoodIn wsX5_rotate wsX2_turnOver := goodIn_r _ [22, 18, 17, 23, 24, 25, 26, 27, 28, 29, 30, 31, 32, 33, 34, 35, 36] (by decide +kernel) (by decide +kernel)
set_option maxRecDepth 20000 in
theorem gX5_rotate_X2_turnOver : GoodIn wsX5_rotate (wsV RX5 172 RX2 yX2_turnOver wsX2_turnOver) := goodIn_app (goodIn_of _ (by decide +kernel)) ggX5_rotate_X2_turnOver
theorem dX5_rotate_0 : decode cX5_rotate 0 = .ok (.aload_n 0, 1) := by decide +kernel
theorem dX5_rotate_1 : decode cX5_rotate 1 = .ok (.iload_n 1, 1) := by decide +kernel
theorem dX5_rotate_2 : decode cX5_rotate 2 = .ok (.invokevirtual 99, 3) := by decide +kernel
theorem dX5_rotate_5 : decode cX5_rotate 5 = .ok (.astore_n 2, 1) := by decide +kernel
theorem dX5_rotate_6 : decode cX5_rotate 6 = .ok (.aload_n 2, 1) := by decide +kernel
theorem dX5_rotate_7 : decode cX5_rotate 7 = .ok (.invokevirtual 167, 3) := by decide +kernel
theorem dX5_rotate_10 : decode cX5_rotate 10 = .ok (.ifCond .eq 13, 3) := by decide +kernel
theorem dX5_rotate_13 : decode cX5_rotate 13 = .ok (.new 122, 3) := by decide +kernel
theorem dX5_rotate_16 : decode cX5_rotate 16 = .ok (.dup, 1) := by decide +kernel
theorem dX5_rotate_17 : decode cX5_rotate 17 = .ok (.ldc 170, 2) := by decide +kernel
theorem dX5_rotate_19 : decode cX5_rotate 19 = .ok (.invokespecial 126, 3) := by decide +kernel
theorem dX5_rotate_22 : decode cX5_rotate 22 = .ok (.athrow, 1) := by decide +kernel
theorem dX5_rotate_23 : decode cX5_rotate 23 = .ok (.aload_n 2, 1) := by decide +kernel
theorem dX5_rotate_24 : decode cX5_rotate 24 = .ok (.invokevirtual 172, 3) := by decide +kernel
theorem dX5_rotate_27 : decode cX5_rotate 27 = .ok (.aload_n 2, 1) := by decide +kernel
theorem dX5_rotate_28 : decode cX5_rotate 28 = .ok (.getfield 175, 3) := by decide +kernel
theorem dX5_rotate_31 : decode cX5_rotate 31 = .ok (.ireturn, 1) := by decide +kernel
set_option maxRecDepth 20000 in
theorem ggX5_connect_X0_waiting : GoodIn wsX5_connect wsX0_waiting := goodIn_r _ [9, 10, 11, 21, 22, 23, 24, 25, 26] (by decide +kernel) (by decide +kernel)
set_option maxRecDepth 20000 in
theorem gX5_connect_X0_waiting : GoodIn wsX5_connect (wsV RX5 183 RX0 yX0_waiting wsX0_waiting) := goodIn_app (goodIn_of _ (by decide +kernel)) ggX5_connect_X0_waiting
theorem dX5_connect_0 : decode cX5_connect 0 = .ok (.aload_n 0, 1) := by decide +kernel
theorem dX5_connect_1 : decode cX5_connect 1 = .ok (.getfield 30, 3) := by decide +kernel
theorem dX5_connect_4 : decode cX5_connect 4 = .ok (.getfield 178, 3) := by decide +kernel
theorem dX5_connect_7 : decode cX5_connect 7 = .ok (.ifCond .eq 13, 3) := by decide +kernel
theorem dX5_connect_10 : decode cX5_connect 10 = .ok (.new 122, 3) := by decide +kernel
theorem dX5_connect_13 : decode cX5_connect 13 = .ok (.dup, 1) := by decide +kernel
theorem dX5_connect_14 : decode cX5_connect 14 = .ok (.ldc 181, 2) := by decide +kernel
theorem dX5_connect_16 : decode cX5_connect 16 = .ok (.invokespecial 126, 3) := by decide +kernel
theorem dX5_connect_19 : decode cX5_connect 19 = .ok (.athrow, 1) := by decide +kernel
theorem dX5_connect_20 : decode cX5_connect 20 = .ok (.aload_n 0, 1) := by decide +kernel
theorem dX5_connect_21 : decode cX5_connect 21 = .ok (.getfield 30, 3) := by decide +kernel
theorem dX5_connect_24 : decode cX5_connect 24 = .ok (.iconst 1, 1) := by decide +kernel
theorem dX5_connect_25 : decode cX5_connect 25 = .ok (.putfield 178, 3) := by decide +kernel
theorem dX5_connect_28 : decode cX5_connect 28 = .ok (.aload_n 0, 1) := by decide +kernel
theorem dX5_connect_29 : decode cX5_connect 29 = .ok (.getfield 30, 3) := by decide +kernel
theorem dX5_connect_32 : decode cX5_connect 32 = .ok (.invokevirtual 183, 3) := by decide +kernel
theorem dX5_connect_35 : decode cX5_connect 35 = .ok (.ireturn, 1) := by decide +kernel
set_option maxRecDepth 20000 in
theorem ggX5_disconnect_X0_flying : GoodIn wsX5_disconnect wsX0_flying := goodIn_r _ [9, 10, 11, 26, 27, 28, 29, 30, 31] (by decide +kernel) (by decide +kernel)
set_option maxRecDepth 20000 in
theorem gX5_disconnect_X0_flying : GoodIn wsX5_disconnect (wsV RX5 188 RX0 yX0_flying wsX0_flying) := goodIn_app (goodIn_of _ (by decide +kernel)) ggX5_disconnect_X0_flying
set_option maxRecDepth 20000 in
theorem ggX5_disconnect_X0_loseConnection : GoodIn wsX5_disconnect wsX0_loseConnection := goodIn_r _ [15, 16, 11, 10, 26, 27, 28, 29, 30, 31] (by decide +kernel) (by decide +kernel)
set_option maxRecDepth 20000 in
theorem gX5_disconnect_X0_loseConnection : GoodIn wsX5_disconnect (wsV RX5 191 RX0 yX0_loseConnection wsX0_loseConnection) := goodIn_app (goodIn_of _ (by decide +kernel)) ggX5_disconnect_X0_loseConnection
theorem dX5_disconnect_0 : decode cX5_disconnect 0 = .ok (.aload_n 0, 1) := by decide +kernel
theorem dX5_disconnect_1 : decode cX5_disconnect 1 = .ok (.getfield 30, 3) := by decide +kernel
theorem dX5_disconnect_4 : decode cX5_disconnect 4 = .ok (.getfield 178, 3) := by decide +kernel
theorem dX5_disconnect_7 : decode cX5_disconnect 7 = .ok (.ifCond .ne 13, 3) := by decide +kernel
theorem dX5_disconnect_10 : decode cX5_disconnect 10 = .ok (.new 122, 3) := by decide +kernel
theorem dX5_disconnect_13 : decode cX5_disconnect 13 = .ok (.dup, 1) := by decide +kernel
theorem dX5_disconnect_14 : decode cX5_disconnect 14 = .ok (.ldc 186, 2) := by decide +kernel
theorem dX5_disconnect_16 : decode cX5_disconnect 16 = .ok (.invokespecial 126, 3) := by decide +kernel
theorem dX5_disconnect_19 : decode cX5_disconnect 19 = .ok (.athrow, 1) := by decide +kernel
theorem dX5_disconnect_20 : decode cX5_disconnect 20 = .ok (.aload_n 0, 1) := by decide +kernel
theorem dX5_disconnect_21 : decode cX5_disconnect 21 = .ok (.getfield 30, 3) := by decide +kernel
theorem dX5_disconnect_24 : decode cX5_disconnect 24 = .ok (.invokevirtual 188, 3) := by decide +kernel
theorem dX5_disconnect_27 : decode cX5_disconnect 27 = .ok (.istore_n 1, 1) := by decide +kernel
theorem dX5_disconnect_28 : decode cX5_disconnect 28 = .ok (.aload_n 0, 1) := by decide +kernel
theorem dX5_disconnect_29 : decode cX5_disconnect 29 = .ok (.getfield 30, 3) := by decide +kernel
theorem dX5_disconnect_32 : decode cX5_disconnect 32 = .ok (.invokevirtual 191, 3) := by decide +kernel
theorem dX5_disconnect_35 : decode cX5_disconnect 35 = .ok (.iload_n 1, 1) := by decide +kernel
theorem dX5_disconnect_36 : decode cX5_disconnect 36 = .ok (.ireturn, 1) := by decide +kernel
set_option maxRecDepth 20000 in
theorem ggX5_send_X0_canSend : GoodIn wsX5_send wsX0_canSend := goodIn_r _ [8, 9, 10, 11, 12, 7, 13, 14, 15, 16, 17, 18, 19, 20, 39, 40, 41, 42, 43, 44] (by decide +kernel) (by decide +kernel)
set_option maxRecDepth 20000 in
theorem gX5_send_X0_canSend : GoodIn wsX5_send (wsV RX5 194 RX0 yX0_canSend wsX0_canSend) := goodIn_app (goodIn_of _ (by decide +kernel)) ggX5_send_X0_canSend
set_option maxRecDepth 20000 in
theorem ggX5_send_X0_sendFirst : GoodIn wsX5_send wsX0_sendFirst := goodIn_r _ [24, 15, 25, 26, 27, 7, 28, 29, 39, 40, 41, 42, 43, 44] (by decide +kernel) (by decide +kernel)
set_option maxRecDepth 20000 in
theorem gX5_send_X0_sendFirst : GoodIn wsX5_send (wsV RX5 199 RX0 yX0_sendFirst wsX0_sendFirst) := goodIn_app (goodIn_of _ (by decide +kernel)) ggX5_send_X0_sendFirst
theorem dX5_send_0 : decode cX5_send 0 = .ok (.aload_n 0, 1) := by decide +kernel
theorem dX5_send_1 : decode cX5_send 1 = .ok (.getfield 30, 3) := by decide +kernel
theorem dX5_send_4 : decode cX5_send 4 = .ok (.invokevirtual 194, 3) := by decide +kernel
theorem dX5_send_7 : decode cX5_send 7 = .ok (.ifCond .ne 13, 3) := by decide +kernel
theorem dX5_send_10 : decode cX5_send 10 = .ok (.new 122, 3) := by decide +kernel
theorem dX5_send_13 : decode cX5_send 13 = .ok (.dup, 1) := by decide +kernel
theorem dX5_send_14 : decode cX5_send 14 = .ok (.ldc 197, 2) := by decide +kernel
theorem dX5_send_16 : decode cX5_send 16 = .ok (.invokespecial 126, 3) := by decide +kernel
theorem dX5_send_19 : decode cX5_send 19 = .ok (.athrow, 1) := by decide +kernel
theorem dX5_send_20 : decode cX5_send 20 = .ok (.aload_n 0, 1) := by decide +kernel
theorem dX5_send_21 : decode cX5_send 21 = .ok (.getfield 30, 3) := by decide +kernel
theorem dX5_send_24 : decode cX5_send 24 = .ok (.invokevirtual 199, 3) := by decide +kernel
theorem dX5_send_27 : decode cX5_send 27 = .ok (.ireturn, 1) := by decide +kernel
set_option maxRecDepth 20000 in
theorem ggX5_acknowledge_X0_flying : GoodIn wsX5_acknowledge wsX0_flying := goodIn_r _ [8, 9, 10, 29, 30, 31, 32, 33, 34] (by decide +kernel) (by decide +kernel)
set_option maxRecDepth 20000 in
theorem gX5_acknowledge_X0_flying : GoodIn wsX5_acknowledge (wsV RX5 188 RX0 yX0_flying wsX0_flying) := goodIn_app (goodIn_of _ (by decide +kernel)) ggX5_acknowledge_X0_flying
set_option maxRecDepth 20000 in
theorem ggX5_acknowledge_X0_acknowledgeFirst : GoodIn wsX5_acknowledge wsX0_acknowledgeFirst := goodIn_r _ [14, 10, 15, 16, 17, 7, 18, 19, 29, 30, 31, 32, 33, 34] (by decide +kernel) (by decide +kernel)
set_option maxRecDepth 20000 in
theorem gX5_acknowledge_X0_acknowledgeFirst : GoodIn wsX5_acknowledge (wsV RX5 204 RX0 yX0_acknowledgeFirst wsX0_acknowledgeFirst) := goodIn_app (goodIn_of _ (by decide +kernel)) ggX5_acknowledge_X0_acknowledgeFirst
theorem dX5_acknowledge_0 : decode cX5_acknowledge 0 = .ok (.aload_n 0, 1) := by decide +kernel
theorem dX5_acknowledge_1 : decode cX5_acknowledge 1 = .ok (.getfield 30, 3) := by decide +kernel
theorem dX5_acknowledge_4 : decode cX5_acknowledge 4 = .ok (.invokevirtual 188, 3) := by decide +kernel
theorem dX5_acknowledge_7 : decode cX5_acknowledge 7 = .ok (.ifCond .ne 13, 3) := by decide +kernel
theorem dX5_acknowledge_10 : decode cX5_acknowledge 10 = .ok (.new 122, 3) := by decide +kernel
theorem dX5_acknowledge_13 : decode cX5_acknowledge 13 = .ok (.dup, 1) := by decide +kernel
theorem dX5_acknowledge_14 : decode cX5_acknowledge 14 = .ok (.ldc 202, 2) := by decide +kernel
theorem dX5_acknowledge_16 : decode cX5_acknowledge 16 = .ok (.invokespecial 126, 3) := by decide +kernel
theorem dX5_acknowledge_19 : decode cX5_acknowledge 19 = .ok (.athrow, 1) := by decide +kernel
theorem dX5_acknowledge_20 : decode cX5_acknowledge 20 = .ok (.aload_n 0, 1) := by decide +kernel
theorem dX5_acknowledge_21 : decode cX5_acknowledge 21 = .ok (.getfield 30, 3) := by decide +kernel
theorem dX5_acknowledge_24 : decode cX5_acknowledge 24 = .ok (.invokevirtual 204, 3) := by decide +kernel
theorem dX5_acknowledge_27 : decode cX5_acknowledge 27 = .ok (.ireturn, 1) := by decide +kernel
theorem dX5_time_0 : decode cX5_time 0 = .ok (.aload_n 0, 1) := by decide +kernel
theorem dX5_time_1 : decode cX5_time 1 = .ok (.getfield 41, 3) := by decide +kernel
theorem dX5_time_4 : decode cX5_time 4 = .ok (.ireturn, 1) := by decide +kernel
set_option maxRecDepth 20000 in
theorem ggX5_tokens_X5_senderAt : GoodIn wsX5_tokens wsX5_senderAt := goodIn_ca (goodIn_r _ [6, 7, 8, 9, 19, 20, 21, 22, 23, 24, 25, 26, 27] (by decide +kernel) (by decide +kernel)) (goodIn_sub (fun _ h => List.mem_cons_of_mem _ (List.mem_append_right _ h)) (by decide +kernel))
set_option maxRecDepth 20000 in
theorem gX5_tokens_X5_senderAt : GoodIn wsX5_tokens (wsV RX5 112 RX5 yX5_senderAt wsX5_senderAt) := goodIn_app (goodIn_of _ (by decide +kernel)) ggX5_tokens_X5_senderAt
theorem dX5_tokens_0 : decode cX5_tokens 0 = .ok (.aload_n 0, 1) := by decide +kernel
theorem dX5_tokens_1 : decode cX5_tokens 1 = .ok (.iload_n 1, 1) := by decide +kernel
theorem dX5_tokens_2 : decode cX5_tokens 2 = .ok (.invokevirtual 112, 3) := by decide +kernel
theorem dX5_tokens_5 : decode cX5_tokens 5 = .ok (.getfield 142, 3) := by decide +kernel
theorem dX5_tokens_8 : decode cX5_tokens 8 = .ok (.ireturn, 1) := by decide +kernel
set_option maxRecDepth 20000 in
theorem ggX5_repeats_X5_senderAt : GoodIn wsX5_repeats wsX5_senderAt := goodIn_ca (goodIn_r _ [6, 7, 8, 9, 19, 20, 21, 22, 23, 24, 25, 26, 27] (by decide +kernel) (by decide +kernel)) (goodIn_sub (fun _ h => List.mem_cons_of_mem _ (List.mem_append_right _ h)) (by decide +kernel))
set_option maxRecDepth 20000 in
theorem gX5_repeats_X5_senderAt : GoodIn wsX5_repeats (wsV RX5 112 RX5 yX5_senderAt wsX5_senderAt) := goodIn_app (goodIn_of _ (by decide +kernel)) ggX5_repeats_X5_senderAt
theorem dX5_repeats_0 : decode cX5_repeats 0 = .ok (.aload_n 0, 1) := by decide +kernel
theorem dX5_repeats_1 : decode cX5_repeats 1 = .ok (.iload_n 1, 1) := by decide +kernel
theorem dX5_repeats_2 : decode cX5_repeats 2 = .ok (.invokevirtual 112, 3) := by decide +kernel
theorem dX5_repeats_5 : decode cX5_repeats 5 = .ok (.getfield 207, 3) := by decide +kernel
theorem dX5_repeats_8 : decode cX5_repeats 8 = .ok (.ireturn, 1) := by decide +kernel
set_option maxRecDepth 20000 in
theorem ggX5_drops_X5_senderAt : GoodIn wsX5_drops wsX5_senderAt := goodIn_ca (goodIn_r _ [6, 7, 8, 9, 19, 20, 21, 22, 23, 24, 25, 26, 27] (by decide +kernel) (by decide +kernel)) (goodIn_sub (fun _ h => List.mem_cons_of_mem _ (List.mem_append_right _ h)) (by decide +kernel))
set_option maxRecDepth 20000 in
theorem gX5_drops_X5_senderAt : GoodIn wsX5_drops (wsV RX5 112 RX5 yX5_senderAt wsX5_senderAt) := goodIn_app (goodIn_of _ (by decide +kernel)) ggX5_drops_X5_senderAt
theorem dX5_drops_0 : decode cX5_drops 0 = .ok (.aload_n 0, 1) := by decide +kernel
theorem dX5_drops_1 : decode cX5_drops 1 = .ok (.iload_n 1, 1) := by decide +kernel
theorem dX5_drops_2 : decode cX5_drops 2 = .ok (.invokevirtual 112, 3) := by decide +kernel
theorem dX5_drops_5 : decode cX5_drops 5 = .ok (.getfield 145, 3) := by decide +kernel
theorem dX5_drops_8 : decode cX5_drops 8 = .ok (.ireturn, 1) := by decide +kernel
set_option maxRecDepth 20000 in
theorem ggX5_size_X5_fileAt : GoodIn wsX5_size wsX5_fileAt := goodIn_ca (goodIn_r _ [6, 7, 8, 9, 20, 21, 22, 23, 24, 25, 26, 27, 28] (by decide +kernel) (by decide +kernel)) (goodIn_sub (fun _ h => List.mem_cons_of_mem _ (List.mem_append_right _ h)) (by decide +kernel))
set_option maxRecDepth 20000 in
theorem gX5_size_X5_fileAt : GoodIn wsX5_size (wsV RX5 99 RX5 yX5_fileAt wsX5_fileAt) := goodIn_app (goodIn_of _ (by decide +kernel)) ggX5_size_X5_fileAt
theorem dX5_size_0 : decode cX5_size 0 = .ok (.aload_n 0, 1) := by decide +kernel
theorem dX5_size_1 : decode cX5_size 1 = .ok (.iload_n 1, 1) := by decide +kernel
theorem dX5_size_2 : decode cX5_size 2 = .ok (.invokevirtual 99, 3) := by decide +kernel
theorem dX5_size_5 : decode cX5_size 5 = .ok (.getfield 109, 3) := by decide +kernel
theorem dX5_size_8 : decode cX5_size 8 = .ok (.ireturn, 1) := by decide +kernel
set_option maxRecDepth 20000 in
theorem ggX5_lines_X5_fileAt : GoodIn wsX5_lines wsX5_fileAt := goodIn_ca (goodIn_r _ [7, 1, 2, 8, 25, 26, 27, 28, 29, 30, 31, 32, 33] (by decide +kernel) (by decide +kernel)) (goodIn_sub (fun _ h => List.mem_cons_of_mem _ (List.mem_append_right _ h)) (by decide +kernel))
set_option maxRecDepth 20000 in
theorem gX5_lines_X5_fileAt : GoodIn wsX5_lines (wsV RX5 99 RX5 yX5_fileAt wsX5_fileAt) := goodIn_app (goodIn_of _ (by decide +kernel)) ggX5_lines_X5_fileAt
set_option maxRecDepth 20000 in
theorem ggX5_lines_X2_has : GoodIn wsX5_lines wsX2_has := goodIn_r _ [13, 14, 34, 35, 36, 37, 38, 39, 40, 41, 42, 43] (by decide +kernel) (by decide +kernel)
set_option maxRecDepth 20000 in
theorem gX5_lines_X2_has : GoodIn wsX5_lines (wsV RX5 210 RX2 yX2_has wsX2_has) := goodIn_app (goodIn_of _ (by decide +kernel)) ggX5_lines_X2_has
set_option maxRecDepth 20000 in
theorem ggX5_lines_X2_linesOf : GoodIn wsX5_lines wsX2_linesOf := goodIn_r _ [18, 19, 20, 21, 22, 12, 23, 24, 34, 35, 36, 37, 38, 39, 40, 41, 42, 43] (by decide +kernel) (by decide +kernel)
set_option maxRecDepth 20000 in
theorem gX5_lines_X2_linesOf : GoodIn wsX5_lines (wsV RX5 216 RX2 yX2_linesOf wsX2_linesOf) := goodIn_app (goodIn_of _ (by decide +kernel)) ggX5_lines_X2_linesOf
theorem dX5_lines_0 : decode cX5_lines 0 = .ok (.aload_n 0, 1) := by decide +kernel
theorem dX5_lines_1 : decode cX5_lines 1 = .ok (.iload_n 1, 1) := by decide +kernel
theorem dX5_lines_2 : decode cX5_lines 2 = .ok (.invokevirtual 99, 3) := by decide +kernel
theorem dX5_lines_5 : decode cX5_lines 5 = .ok (.astore_n 3, 1) := by decide +kernel
theorem dX5_lines_6 : decode cX5_lines 6 = .ok (.aload_n 3, 1) := by decide +kernel
theorem dX5_lines_7 : decode cX5_lines 7 = .ok (.iload_n 2, 1) := by decide +kernel
theorem dX5_lines_8 : decode cX5_lines 8 = .ok (.invokevirtual 210, 3) := by decide +kernel
theorem dX5_lines_11 : decode cX5_lines 11 = .ok (.ifCond .ne 13, 3) := by decide +kernel
theorem dX5_lines_14 : decode cX5_lines 14 = .ok (.new 80, 3) := by decide +kernel
theorem dX5_lines_17 : decode cX5_lines 17 = .ok (.dup, 1) := by decide +kernel
theorem dX5_lines_18 : decode cX5_lines 18 = .ok (.ldc 214, 2) := by decide +kernel
theorem dX5_lines_20 : decode cX5_lines 20 = .ok (.invokespecial 84, 3) := by decide +kernel
theorem dX5_lines_23 : decode cX5_lines 23 = .ok (.athrow, 1) := by decide +kernel
theorem dX5_lines_24 : decode cX5_lines 24 = .ok (.aload_n 3, 1) := by decide +kernel
theorem dX5_lines_25 : decode cX5_lines 25 = .ok (.iload_n 2, 1) := by decide +kernel
theorem dX5_lines_26 : decode cX5_lines 26 = .ok (.invokevirtual 216, 3) := by decide +kernel
theorem dX5_lines_29 : decode cX5_lines 29 = .ok (.ireturn, 1) := by decide +kernel
set_option maxRecDepth 20000 in
theorem ggX5_line_X5_fileAt : GoodIn wsX5_line wsX5_fileAt := goodIn_ca (goodIn_r _ [7, 1, 2, 8, 33, 34, 35, 36, 37, 38, 39, 40, 41] (by decide +kernel) (by decide +kernel)) (goodIn_sub (fun _ h => List.mem_cons_of_mem _ (List.mem_append_right _ h)) (by decide +kernel))
set_option maxRecDepth 20000 in
theorem gX5_line_X5_fileAt : GoodIn wsX5_line (wsV RX5 99 RX5 yX5_fileAt wsX5_fileAt) := goodIn_app (goodIn_of _ (by decide +kernel)) ggX5_line_X5_fileAt
set_option maxRecDepth 20000 in
theorem ggX5_line_X2_has : GoodIn wsX5_line wsX2_has := goodIn_r _ [13, 14, 42, 43, 44, 45, 46, 47, 48, 49, 50, 51] (by decide +kernel) (by decide +kernel)
set_option maxRecDepth 20000 in
theorem gX5_line_X2_has : GoodIn wsX5_line (wsV RX5 210 RX2 yX2_has wsX2_has) := goodIn_app (goodIn_of _ (by decide +kernel)) ggX5_line_X2_has
set_option maxRecDepth 20000 in
theorem ggX5_line_X2_linesOf : GoodIn wsX5_line wsX2_linesOf := goodIn_r _ [18, 19, 20, 21, 22, 12, 23, 24, 42, 43, 44, 45, 46, 47, 48, 49, 50, 51] (by decide +kernel) (by decide +kernel)
set_option maxRecDepth 20000 in
theorem gX5_line_X2_linesOf : GoodIn wsX5_line (wsV RX5 216 RX2 yX2_linesOf wsX2_linesOf) := goodIn_app (goodIn_of _ (by decide +kernel)) ggX5_line_X2_linesOf
set_option maxRecDepth 20000 in
theorem ggX5_line_X5_isWithin : GoodIn wsX5_line wsX5_isWithin := goodIn_r _ [27] (by decide +kernel) (by decide +kernel)
set_option maxRecDepth 20000 in
theorem gX5_line_X5_isWithin : GoodIn wsX5_line (va_wsS RX5 59 yX5_isWithin wsX5_isWithin) := goodIn_app (goodIn_of _ (by decide +kernel)) ggX5_line_X5_isWithin
set_option maxRecDepth 20000 in
theorem ggX5_line_X2_lineAt : GoodIn wsX5_line wsX2_lineAt := goodIn_r _ [31, 32, 20, 21, 22, 12, 23, 24, 19, 42, 43, 44, 45, 46, 47, 48, 49, 50, 51] (by decide +kernel) (by decide +kernel)
set_option maxRecDepth 20000 in
theorem gX5_line_X2_lineAt : GoodIn wsX5_line (wsV RX5 222 RX2 yX2_lineAt wsX2_lineAt) := goodIn_app (goodIn_of _ (by decide +kernel)) ggX5_line_X2_lineAt
theorem dX5_line_0 : decode cX5_line 0 = .ok (.aload_n 0, 1) := by decide +kernel
theorem dX5_line_1 : decode cX5_line 1 = .ok (.iload_n 1, 1) := by decide +kernel
theorem dX5_line_2 : decode cX5_line 2 = .ok (.invokevirtual 99, 3) := by decide +kernel
theorem dX5_line_5 : decode cX5_line 5 = .ok (.astore 4, 2) := by decide +kernel
theorem dX5_line_7 : decode cX5_line 7 = .ok (.aload 4, 2) := by decide +kernel
theorem dX5_line_9 : decode cX5_line 9 = .ok (.iload_n 2, 1) := by decide +kernel
theorem dX5_line_10 : decode cX5_line 10 = .ok (.invokevirtual 210, 3) := by decide +kernel
theorem dX5_line_13 : decode cX5_line 13 = .ok (.ifCond .ne 13, 3) := by decide +kernel
theorem dX5_line_16 : decode cX5_line 16 = .ok (.new 80, 3) := by decide +kernel
theorem dX5_line_19 : decode cX5_line 19 = .ok (.dup, 1) := by decide +kernel
theorem dX5_line_20 : decode cX5_line 20 = .ok (.ldc 214, 2) := by decide +kernel
theorem dX5_line_22 : decode cX5_line 22 = .ok (.invokespecial 84, 3) := by decide +kernel
theorem dX5_line_25 : decode cX5_line 25 = .ok (.athrow, 1) := by decide +kernel
theorem dX5_line_26 : decode cX5_line 26 = .ok (.iload_n 3, 1) := by decide +kernel
theorem dX5_line_27 : decode cX5_line 27 = .ok (.iconst 0, 1) := by decide +kernel
theorem dX5_line_28 : decode cX5_line 28 = .ok (.aload 4, 2) := by decide +kernel
theorem dX5_line_30 : decode cX5_line 30 = .ok (.iload_n 2, 1) := by decide +kernel
theorem dX5_line_31 : decode cX5_line 31 = .ok (.invokevirtual 216, 3) := by decide +kernel
theorem dX5_line_34 : decode cX5_line 34 = .ok (.iconst 1, 1) := by decide +kernel
theorem dX5_line_35 : decode cX5_line 35 = .ok (.isub, 1) := by decide +kernel
theorem dX5_line_36 : decode cX5_line 36 = .ok (.invokestatic 59, 3) := by decide +kernel
theorem dX5_line_39 : decode cX5_line 39 = .ok (.ifCond .ne 13, 3) := by decide +kernel
theorem dX5_line_42 : decode cX5_line 42 = .ok (.new 80, 3) := by decide +kernel
theorem dX5_line_45 : decode cX5_line 45 = .ok (.dup, 1) := by decide +kernel
theorem dX5_line_46 : decode cX5_line 46 = .ok (.ldc 220, 2) := by decide +kernel
theorem dX5_line_48 : decode cX5_line 48 = .ok (.invokespecial 84, 3) := by decide +kernel
theorem dX5_line_51 : decode cX5_line 51 = .ok (.athrow, 1) := by decide +kernel
theorem dX5_line_52 : decode cX5_line 52 = .ok (.aload 4, 2) := by decide +kernel
theorem dX5_line_54 : decode cX5_line 54 = .ok (.iload_n 2, 1) := by decide +kernel
theorem dX5_line_55 : decode cX5_line 55 = .ok (.iload_n 3, 1) := by decide +kernel
theorem dX5_line_56 : decode cX5_line 56 = .ok (.invokevirtual 222, 3) := by decide +kernel
theorem dX5_line_59 : decode cX5_line 59 = .ok (.ireturn, 1) := by decide +kernel
set_option maxRecDepth 20000 in
theorem ggX5_generations_X5_fileAt : GoodIn wsX5_generations wsX5_fileAt := goodIn_ca (goodIn_r _ [6, 7, 8, 9, 20, 21, 22, 23, 24, 25, 26, 27, 28] (by decide +kernel) (by decide +kernel)) (goodIn_sub (fun _ h => List.mem_cons_of_mem _ (List.mem_append_right _ h)) (by decide +kernel))
set_option maxRecDepth 20000 in
theorem gX5_generations_X5_fileAt : GoodIn wsX5_generations (wsV RX5 99 RX5 yX5_fileAt wsX5_fileAt) := goodIn_app (goodIn_of _ (by decide +kernel)) ggX5_generations_X5_fileAt
theorem dX5_generations_0 : decode cX5_generations 0 = .ok (.aload_n 0, 1) := by decide +kernel
theorem dX5_generations_1 : decode cX5_generations 1 = .ok (.iload_n 1, 1) := by decide +kernel
theorem dX5_generations_2 : decode cX5_generations 2 = .ok (.invokevirtual 99, 3) := by decide +kernel
theorem dX5_generations_5 : decode cX5_generations 5 = .ok (.getfield 175, 3) := by decide +kernel
theorem dX5_generations_8 : decode cX5_generations 8 = .ok (.ireturn, 1) := by decide +kernel
set_option maxRecDepth 20000 in
theorem ggX5_queued_X0_waiting : GoodIn wsX5_queued wsX0_waiting := goodIn_r _ [6, 7, 8, 18, 19, 20, 21, 22, 23] (by decide +kernel) (by decide +kernel)
set_option maxRecDepth 20000 in
theorem gX5_queued_X0_waiting : GoodIn wsX5_queued (wsV RX5 183 RX0 yX0_waiting wsX0_waiting) := goodIn_app (goodIn_of _ (by decide +kernel)) ggX5_queued_X0_waiting
theorem dX5_queued_0 : decode cX5_queued 0 = .ok (.aload_n 0, 1) := by decide +kernel
theorem dX5_queued_1 : decode cX5_queued 1 = .ok (.getfield 30, 3) := by decide +kernel
theorem dX5_queued_4 : decode cX5_queued 4 = .ok (.invokevirtual 183, 3) := by decide +kernel
theorem dX5_queued_7 : decode cX5_queued 7 = .ok (.ireturn, 1) := by decide +kernel
set_option maxRecDepth 20000 in
theorem ggX5_inFlight_X0_flying : GoodIn wsX5_inFlight wsX0_flying := goodIn_r _ [6, 7, 8, 18, 19, 20, 21, 22, 23] (by decide +kernel) (by decide +kernel)
set_option maxRecDepth 20000 in
theorem gX5_inFlight_X0_flying : GoodIn wsX5_inFlight (wsV RX5 188 RX0 yX0_flying wsX0_flying) := goodIn_app (goodIn_of _ (by decide +kernel)) ggX5_inFlight_X0_flying
theorem dX5_inFlight_0 : decode cX5_inFlight 0 = .ok (.aload_n 0, 1) := by decide +kernel
theorem dX5_inFlight_1 : decode cX5_inFlight 1 = .ok (.getfield 30, 3) := by decide +kernel
theorem dX5_inFlight_4 : decode cX5_inFlight 4 = .ok (.invokevirtual 188, 3) := by decide +kernel
theorem dX5_inFlight_7 : decode cX5_inFlight 7 = .ok (.ireturn, 1) := by decide +kernel
theorem dX5_acknowledged_0 : decode cX5_acknowledged 0 = .ok (.aload_n 0, 1) := by decide +kernel
theorem dX5_acknowledged_1 : decode cX5_acknowledged 1 = .ok (.getfield 30, 3) := by decide +kernel
theorem dX5_acknowledged_4 : decode cX5_acknowledged 4 = .ok (.getfield 225, 3) := by decide +kernel
theorem dX5_acknowledged_7 : decode cX5_acknowledged 7 = .ok (.ireturn, 1) := by decide +kernel
theorem dX5_lost_0 : decode cX5_lost 0 = .ok (.aload_n 0, 1) := by decide +kernel
theorem dX5_lost_1 : decode cX5_lost 1 = .ok (.getfield 30, 3) := by decide +kernel
theorem dX5_lost_4 : decode cX5_lost 4 = .ok (.getfield 228, 3) := by decide +kernel
theorem dX5_lost_7 : decode cX5_lost 7 = .ok (.ireturn, 1) := by decide +kernel
theorem dX5_messages_0 : decode cX5_messages 0 = .ok (.aload_n 0, 1) := by decide +kernel
theorem dX5_messages_1 : decode cX5_messages 1 = .ok (.getfield 37, 3) := by decide +kernel
theorem dX5_messages_4 : decode cX5_messages 4 = .ok (.getfield 154, 3) := by decide +kernel
theorem dX5_messages_7 : decode cX5_messages 7 = .ok (.ireturn, 1) := by decide +kernel
set_option maxRecDepth 20000 in
theorem ggX5_fateOf_X1_has : GoodIn wsX5_fateOf wsX1_has := goodIn_r _ [8, 9, 24, 25, 26] (by decide +kernel) (by decide +kernel)
set_option maxRecDepth 20000 in
theorem gX5_fateOf_X1_has : GoodIn wsX5_fateOf (wsV RX5 231 RX1 yX1_has wsX1_has) := goodIn_app (goodIn_of _ (by decide +kernel)) ggX5_fateOf_X1_has
set_option maxRecDepth 20000 in
theorem ggX5_fateOf_X1_fateAt : GoodIn wsX5_fateOf wsX1_fateAt := goodIn_r _ [13, 14, 24, 25, 26] (by decide +kernel) (by decide +kernel)
set_option maxRecDepth 20000 in
theorem gX5_fateOf_X1_fateAt : GoodIn wsX5_fateOf (wsV RX5 234 RX1 yX1_fateAt wsX1_fateAt) := goodIn_app (goodIn_of _ (by decide +kernel)) ggX5_fateOf_X1_fateAt
theorem dX5_fateOf_0 : decode cX5_fateOf 0 = .ok (.aload_n 0, 1) := by decide +kernel
theorem dX5_fateOf_1 : decode cX5_fateOf 1 = .ok (.getfield 37, 3) := by decide +kernel
theorem dX5_fateOf_4 : decode cX5_fateOf 4 = .ok (.iload_n 1, 1) := by decide +kernel
theorem dX5_fateOf_5 : decode cX5_fateOf 5 = .ok (.invokevirtual 231, 3) := by decide +kernel
theorem dX5_fateOf_8 : decode cX5_fateOf 8 = .ok (.ifCond .ne 13, 3) := by decide +kernel
theorem dX5_fateOf_11 : decode cX5_fateOf 11 = .ok (.new 80, 3) := by decide +kernel
theorem dX5_fateOf_14 : decode cX5_fateOf 14 = .ok (.dup, 1) := by decide +kernel
theorem dX5_fateOf_15 : decode cX5_fateOf 15 = .ok (.ldc 232, 2) := by decide +kernel
theorem dX5_fateOf_17 : decode cX5_fateOf 17 = .ok (.invokespecial 84, 3) := by decide +kernel
theorem dX5_fateOf_20 : decode cX5_fateOf 20 = .ok (.athrow, 1) := by decide +kernel
theorem dX5_fateOf_21 : decode cX5_fateOf 21 = .ok (.aload_n 0, 1) := by decide +kernel
theorem dX5_fateOf_22 : decode cX5_fateOf 22 = .ok (.getfield 37, 3) := by decide +kernel
theorem dX5_fateOf_25 : decode cX5_fateOf 25 = .ok (.iload_n 1, 1) := by decide +kernel
theorem dX5_fateOf_26 : decode cX5_fateOf 26 = .ok (.invokevirtual 234, 3) := by decide +kernel
theorem dX5_fateOf_29 : decode cX5_fateOf 29 = .ok (.ireturn, 1) := by decide +kernel
set_option maxRecDepth 20000 in
theorem ggX5_count_X5_isWithin : GoodIn wsX5_count wsX5_isWithin := goodIn_r _ [7] (by decide +kernel) (by decide +kernel)
set_option maxRecDepth 20000 in
theorem gX5_count_X5_isWithin : GoodIn wsX5_count (va_wsS RX5 59 yX5_isWithin wsX5_isWithin) := goodIn_app (goodIn_of _ (by decide +kernel)) ggX5_count_X5_isWithin
set_option maxRecDepth 20000 in
theorem ggX5_count_X1_entriesWith : GoodIn wsX5_count wsX1_entriesWith := goodIn_r _ [12, 13, 14, 24, 25, 26] (by decide +kernel) (by decide +kernel)
set_option maxRecDepth 20000 in
theorem gX5_count_X1_entriesWith : GoodIn wsX5_count (wsV RX5 239 RX1 yX1_entriesWith wsX1_entriesWith) := goodIn_app (goodIn_of _ (by decide +kernel)) ggX5_count_X1_entriesWith
theorem dX5_count_0 : decode cX5_count 0 = .ok (.iload_n 1, 1) := by decide +kernel
theorem dX5_count_1 : decode cX5_count 1 = .ok (.iconst 0, 1) := by decide +kernel
theorem dX5_count_2 : decode cX5_count 2 = .ok (.iconst 3, 1) := by decide +kernel
theorem dX5_count_3 : decode cX5_count 3 = .ok (.invokestatic 59, 3) := by decide +kernel
theorem dX5_count_6 : decode cX5_count 6 = .ok (.ifCond .ne 13, 3) := by decide +kernel
theorem dX5_count_9 : decode cX5_count 9 = .ok (.new 80, 3) := by decide +kernel
theorem dX5_count_12 : decode cX5_count 12 = .ok (.dup, 1) := by decide +kernel
theorem dX5_count_13 : decode cX5_count 13 = .ok (.ldc 237, 2) := by decide +kernel
theorem dX5_count_15 : decode cX5_count 15 = .ok (.invokespecial 84, 3) := by decide +kernel
theorem dX5_count_18 : decode cX5_count 18 = .ok (.athrow, 1) := by decide +kernel
theorem dX5_count_19 : decode cX5_count 19 = .ok (.aload_n 0, 1) := by decide +kernel
theorem dX5_count_20 : decode cX5_count 20 = .ok (.getfield 37, 3) := by decide +kernel
theorem dX5_count_23 : decode cX5_count 23 = .ok (.iload_n 1, 1) := by decide +kernel
theorem dX5_count_24 : decode cX5_count 24 = .ok (.invokevirtual 239, 3) := by decide +kernel
theorem dX5_count_27 : decode cX5_count 27 = .ok (.ireturn, 1) := by decide +kernel
set_option maxRecDepth 20000 in
theorem ggX5_targetsOf_X1_has : GoodIn wsX5_targetsOf wsX1_has := goodIn_r _ [8, 9, 24, 25, 26] (by decide +kernel) (by decide +kernel)
set_option maxRecDepth 20000 in
theorem gX5_targetsOf_X1_has : GoodIn wsX5_targetsOf (wsV RX5 231 RX1 yX1_has wsX1_has) := goodIn_app (goodIn_of _ (by decide +kernel)) ggX5_targetsOf_X1_has
set_option maxRecDepth 20000 in
theorem ggX5_targetsOf_X1_targetsAt : GoodIn wsX5_targetsOf wsX1_targetsAt := goodIn_r _ [13, 14, 24, 25, 26] (by decide +kernel) (by decide +kernel)
set_option maxRecDepth 20000 in
theorem gX5_targetsOf_X1_targetsAt : GoodIn wsX5_targetsOf (wsV RX5 242 RX1 yX1_targetsAt wsX1_targetsAt) := goodIn_app (goodIn_of _ (by decide +kernel)) ggX5_targetsOf_X1_targetsAt
theorem dX5_targetsOf_0 : decode cX5_targetsOf 0 = .ok (.aload_n 0, 1) := by decide +kernel
theorem dX5_targetsOf_1 : decode cX5_targetsOf 1 = .ok (.getfield 37, 3) := by decide +kernel
theorem dX5_targetsOf_4 : decode cX5_targetsOf 4 = .ok (.iload_n 1, 1) := by decide +kernel
theorem dX5_targetsOf_5 : decode cX5_targetsOf 5 = .ok (.invokevirtual 231, 3) := by decide +kernel
theorem dX5_targetsOf_8 : decode cX5_targetsOf 8 = .ok (.ifCond .ne 13, 3) := by decide +kernel
theorem dX5_targetsOf_11 : decode cX5_targetsOf 11 = .ok (.new 80, 3) := by decide +kernel
theorem dX5_targetsOf_14 : decode cX5_targetsOf 14 = .ok (.dup, 1) := by decide +kernel
theorem dX5_targetsOf_15 : decode cX5_targetsOf 15 = .ok (.ldc 232, 2) := by decide +kernel
theorem dX5_targetsOf_17 : decode cX5_targetsOf 17 = .ok (.invokespecial 84, 3) := by decide +kernel
theorem dX5_targetsOf_20 : decode cX5_targetsOf 20 = .ok (.athrow, 1) := by decide +kernel
theorem dX5_targetsOf_21 : decode cX5_targetsOf 21 = .ok (.aload_n 0, 1) := by decide +kernel
theorem dX5_targetsOf_22 : decode cX5_targetsOf 22 = .ok (.getfield 37, 3) := by decide +kernel
theorem dX5_targetsOf_25 : decode cX5_targetsOf 25 = .ok (.iload_n 1, 1) := by decide +kernel
theorem dX5_targetsOf_26 : decode cX5_targetsOf 26 = .ok (.invokevirtual 242, 3) := by decide +kernel
theorem dX5_targetsOf_29 : decode cX5_targetsOf 29 = .ok (.ireturn, 1) := by decide +kernel
theorem dX5_isWithin_0 : decode cX5_isWithin 0 = .ok (.iload_n 0, 1) := by decide +kernel
theorem dX5_isWithin_1 : decode cX5_isWithin 1 = .ok (.iload_n 1, 1) := by decide +kernel
theorem dX5_isWithin_2 : decode cX5_isWithin 2 = .ok (.if_icmp .lt 12, 3) := by decide +kernel
theorem dX5_isWithin_5 : decode cX5_isWithin 5 = .ok (.iload_n 0, 1) := by decide +kernel
theorem dX5_isWithin_6 : decode cX5_isWithin 6 = .ok (.iload_n 2, 1) := by decide +kernel
theorem dX5_isWithin_7 : decode cX5_isWithin 7 = .ok (.if_icmp .gt 7, 3) := by decide +kernel
theorem dX5_isWithin_10 : decode cX5_isWithin 10 = .ok (.iconst 1, 1) := by decide +kernel
theorem dX5_isWithin_11 : decode cX5_isWithin 11 = .ok (.goto 4, 3) := by decide +kernel
theorem dX5_isWithin_14 : decode cX5_isWithin 14 = .ok (.iconst 0, 1) := by decide +kernel
theorem dX5_isWithin_15 : decode cX5_isWithin 15 = .ok (.ireturn, 1) := by decide +kernel
theorem dX5_senderAt_0 : decode cX5_senderAt 0 = .ok (.iload_n 1, 1) := by decide +kernel
theorem dX5_senderAt_1 : decode cX5_senderAt 1 = .ok (.ifCond .lt 9, 3) := by decide +kernel
theorem dX5_senderAt_4 : decode cX5_senderAt 4 = .ok (.iload_n 1, 1) := by decide +kernel
theorem dX5_senderAt_5 : decode cX5_senderAt 5 = .ok (.bipush 6, 2) := by decide +kernel
theorem dX5_senderAt_7 : decode cX5_senderAt 7 = .ok (.if_icmp .lt 13, 3) := by decide +kernel
theorem dX5_senderAt_10 : decode cX5_senderAt 10 = .ok (.new 80, 3) := by decide +kernel
theorem dX5_senderAt_13 : decode cX5_senderAt 13 = .ok (.dup, 1) := by decide +kernel
theorem dX5_senderAt_14 : decode cX5_senderAt 14 = .ok (.ldc 245, 2) := by decide +kernel
theorem dX5_senderAt_16 : decode cX5_senderAt 16 = .ok (.invokespecial 84, 3) := by decide +kernel
theorem dX5_senderAt_19 : decode cX5_senderAt 19 = .ok (.athrow, 1) := by decide +kernel
theorem dX5_senderAt_20 : decode cX5_senderAt 20 = .ok (.aload_n 0, 1) := by decide +kernel
theorem dX5_senderAt_21 : decode cX5_senderAt 21 = .ok (.getfield 11, 3) := by decide +kernel
theorem dX5_senderAt_24 : decode cX5_senderAt 24 = .ok (.iload_n 1, 1) := by decide +kernel
theorem dX5_senderAt_25 : decode cX5_senderAt 25 = .ok (.aaload, 1) := by decide +kernel
theorem dX5_senderAt_26 : decode cX5_senderAt 26 = .ok (.areturn, 1) := by decide +kernel
theorem dX5_ruleAt_0 : decode cX5_ruleAt 0 = .ok (.iload_n 1, 1) := by decide +kernel
theorem dX5_ruleAt_1 : decode cX5_ruleAt 1 = .ok (.ifCond .lt 9, 3) := by decide +kernel
theorem dX5_ruleAt_4 : decode cX5_ruleAt 4 = .ok (.iload_n 1, 1) := by decide +kernel
theorem dX5_ruleAt_5 : decode cX5_ruleAt 5 = .ok (.bipush 6, 2) := by decide +kernel
theorem dX5_ruleAt_7 : decode cX5_ruleAt 7 = .ok (.if_icmp .lt 13, 3) := by decide +kernel
theorem dX5_ruleAt_10 : decode cX5_ruleAt 10 = .ok (.new 80, 3) := by decide +kernel
theorem dX5_ruleAt_13 : decode cX5_ruleAt 13 = .ok (.dup, 1) := by decide +kernel
theorem dX5_ruleAt_14 : decode cX5_ruleAt 14 = .ok (.ldc 247, 2) := by decide +kernel
theorem dX5_ruleAt_16 : decode cX5_ruleAt 16 = .ok (.invokespecial 84, 3) := by decide +kernel
theorem dX5_ruleAt_19 : decode cX5_ruleAt 19 = .ok (.athrow, 1) := by decide +kernel
theorem dX5_ruleAt_20 : decode cX5_ruleAt 20 = .ok (.aload_n 0, 1) := by decide +kernel
theorem dX5_ruleAt_21 : decode cX5_ruleAt 21 = .ok (.getfield 17, 3) := by decide +kernel
theorem dX5_ruleAt_24 : decode cX5_ruleAt 24 = .ok (.iload_n 1, 1) := by decide +kernel
theorem dX5_ruleAt_25 : decode cX5_ruleAt 25 = .ok (.aaload, 1) := by decide +kernel
theorem dX5_ruleAt_26 : decode cX5_ruleAt 26 = .ok (.areturn, 1) := by decide +kernel
theorem dX5_fileAt_0 : decode cX5_fileAt 0 = .ok (.iload_n 1, 1) := by decide +kernel
theorem dX5_fileAt_1 : decode cX5_fileAt 1 = .ok (.ifCond .lt 8, 3) := by decide +kernel
theorem dX5_fileAt_4 : decode cX5_fileAt 4 = .ok (.iload_n 1, 1) := by decide +kernel
theorem dX5_fileAt_5 : decode cX5_fileAt 5 = .ok (.iconst 4, 1) := by decide +kernel
theorem dX5_fileAt_6 : decode cX5_fileAt 6 = .ok (.if_icmp .lt 13, 3) := by decide +kernel
theorem dX5_fileAt_9 : decode cX5_fileAt 9 = .ok (.new 80, 3) := by decide +kernel
theorem dX5_fileAt_12 : decode cX5_fileAt 12 = .ok (.dup, 1) := by decide +kernel
theorem dX5_fileAt_13 : decode cX5_fileAt 13 = .ok (.ldc 249, 2) := by decide +kernel
theorem dX5_fileAt_15 : decode cX5_fileAt 15 = .ok (.invokespecial 84, 3) := by decide +kernel
theorem dX5_fileAt_18 : decode cX5_fileAt 18 = .ok (.athrow, 1) := by decide +kernel
theorem dX5_fileAt_19 : decode cX5_fileAt 19 = .ok (.aload_n 0, 1) := by decide +kernel
theorem dX5_fileAt_20 : decode cX5_fileAt 20 = .ok (.getfield 23, 3) := by decide +kernel
theorem dX5_fileAt_23 : decode cX5_fileAt 23 = .ok (.iload_n 1, 1) := by decide +kernel
theorem dX5_fileAt_24 : decode cX5_fileAt 24 = .ok (.aaload, 1) := by decide +kernel
theorem dX5_fileAt_25 : decode cX5_fileAt 25 = .ok (.areturn, 1) := by decide +kernel
theorem dX5_rulesThatAreSet_0 : decode cX5_rulesThatAreSet 0 = .ok (.iconst 0, 1) := by decide +kernel
theorem dX5_rulesThatAreSet_1 : decode cX5_rulesThatAreSet 1 = .ok (.istore_n 1, 1) := by decide +kernel
theorem dX5_rulesThatAreSet_2 : decode cX5_rulesThatAreSet 2 = .ok (.iconst 0, 1) := by decide +kernel
theorem dX5_rulesThatAreSet_3 : decode cX5_rulesThatAreSet 3 = .ok (.istore_n 2, 1) := by decide +kernel
theorem dX5_rulesThatAreSet_4 : decode cX5_rulesThatAreSet 4 = .ok (.iload_n 2, 1) := by decide +kernel
theorem dX5_rulesThatAreSet_5 : decode cX5_rulesThatAreSet 5 = .ok (.bipush 6, 2) := by decide +kernel
theorem dX5_rulesThatAreSet_7 : decode cX5_rulesThatAreSet 7 = .ok (.if_icmp .ge 24, 3) := by decide +kernel
theorem dX5_rulesThatAreSet_10 : decode cX5_rulesThatAreSet 10 = .ok (.aload_n 0, 1) := by decide +kernel
theorem dX5_rulesThatAreSet_11 : decode cX5_rulesThatAreSet 11 = .ok (.getfield 17, 3) := by decide +kernel
theorem dX5_rulesThatAreSet_14 : decode cX5_rulesThatAreSet 14 = .ok (.iload_n 2, 1) := by decide +kernel
theorem dX5_rulesThatAreSet_15 : decode cX5_rulesThatAreSet 15 = .ok (.aaload, 1) := by decide +kernel
theorem dX5_rulesThatAreSet_16 : decode cX5_rulesThatAreSet 16 = .ok (.getfield 95, 3) := by decide +kernel
theorem dX5_rulesThatAreSet_19 : decode cX5_rulesThatAreSet 19 = .ok (.ifCond .eq 6, 3) := by decide +kernel
theorem dX5_rulesThatAreSet_22 : decode cX5_rulesThatAreSet 22 = .ok (.iinc 1 1, 3) := by decide +kernel
theorem dX5_rulesThatAreSet_25 : decode cX5_rulesThatAreSet 25 = .ok (.iinc 2 1, 3) := by decide +kernel
theorem dX5_rulesThatAreSet_28 : decode cX5_rulesThatAreSet 28 = .ok (.goto (-24), 3) := by decide +kernel
theorem dX5_rulesThatAreSet_31 : decode cX5_rulesThatAreSet 31 = .ok (.iload_n 1, 1) := by decide +kernel
theorem dX5_rulesThatAreSet_32 : decode cX5_rulesThatAreSet 32 = .ok (.ireturn, 1) := by decide +kernel
set_option maxRecDepth 20000 in
theorem ggX5_tellRepeats_X5_route : GoodIn wsX5_tellRepeats wsX5_route := goodIn_r _ [9, 10, 11, 12, 13, 14, 15, 16, 17, 18, 19, 20, 21, 22, 23, 24, 25, 26, 27, 28, 29, 30, 31, 32, 33, 34, 35, 36, 37, 38, 39, 40, 41, 42, 43, 44, 45, 46, 47, 48, 49, 50, 51, 52, 53, 54, 64, 65, 66, 67, 68, 69, 70, 71, 72, 73, 74, 75, 76, 77, 78, 79, 80, 81, 82, 83, 84, 85, 86, 87, 88, 89, 90, 91, 92, 93] (by decide +kernel) (by decide +kernel)
set_option maxRecDepth 20000 in
theorem gX5_tellRepeats_X5_route : GoodIn wsX5_tellRepeats (wsV RX5 157 RX5 yX5_route wsX5_route) := goodIn_app (goodIn_of _ (by decide +kernel)) ggX5_tellRepeats_X5_route
theorem dX5_tellRepeats_0 : decode cX5_tellRepeats 0 = .ok (.aload_n 1, 1) := by decide +kernel
theorem dX5_tellRepeats_1 : decode cX5_tellRepeats 1 = .ok (.getfield 207, 3) := by decide +kernel
theorem dX5_tellRepeats_4 : decode cX5_tellRepeats 4 = .ok (.ifCond .le 44, 3) := by decide +kernel
theorem dX5_tellRepeats_7 : decode cX5_tellRepeats 7 = .ok (.sipush 10000, 3) := by decide +kernel
theorem dX5_tellRepeats_10 : decode cX5_tellRepeats 10 = .ok (.aload_n 1, 1) := by decide +kernel
theorem dX5_tellRepeats_11 : decode cX5_tellRepeats 11 = .ok (.getfield 251, 3) := by decide +kernel
theorem dX5_tellRepeats_14 : decode cX5_tellRepeats 14 = .ok (.iconst 1, 1) := by decide +kernel
theorem dX5_tellRepeats_15 : decode cX5_tellRepeats 15 = .ok (.iadd, 1) := by decide +kernel
theorem dX5_tellRepeats_16 : decode cX5_tellRepeats 16 = .ok (.imul, 1) := by decide +kernel
theorem dX5_tellRepeats_17 : decode cX5_tellRepeats 17 = .ok (.aload_n 1, 1) := by decide +kernel
theorem dX5_tellRepeats_18 : decode cX5_tellRepeats 18 = .ok (.getfield 207, 3) := by decide +kernel
theorem dX5_tellRepeats_21 : decode cX5_tellRepeats 21 = .ok (.iadd, 1) := by decide +kernel
theorem dX5_tellRepeats_22 : decode cX5_tellRepeats 22 = .ok (.istore_n 2, 1) := by decide +kernel
theorem dX5_tellRepeats_23 : decode cX5_tellRepeats 23 = .ok (.aload_n 0, 1) := by decide +kernel
theorem dX5_tellRepeats_24 : decode cX5_tellRepeats 24 = .ok (.iload_n 2, 1) := by decide +kernel
theorem dX5_tellRepeats_25 : decode cX5_tellRepeats 25 = .ok (.aload_n 1, 1) := by decide +kernel
theorem dX5_tellRepeats_26 : decode cX5_tellRepeats 26 = .ok (.getfield 251, 3) := by decide +kernel
theorem dX5_tellRepeats_29 : decode cX5_tellRepeats 29 = .ok (.aload_n 1, 1) := by decide +kernel
theorem dX5_tellRepeats_30 : decode cX5_tellRepeats 30 = .ok (.getfield 254, 3) := by decide +kernel
theorem dX5_tellRepeats_33 : decode cX5_tellRepeats 33 = .ok (.aload_n 1, 1) := by decide +kernel
theorem dX5_tellRepeats_34 : decode cX5_tellRepeats 34 = .ok (.getfield 257, 3) := by decide +kernel
theorem dX5_tellRepeats_37 : decode cX5_tellRepeats 37 = .ok (.bipush 15, 2) := by decide +kernel
theorem dX5_tellRepeats_39 : decode cX5_tellRepeats 39 = .ok (.invokevirtual 157, 3) := by decide +kernel
theorem dX5_tellRepeats_42 : decode cX5_tellRepeats 42 = .ok (.pop, 1) := by decide +kernel
theorem dX5_tellRepeats_43 : decode cX5_tellRepeats 43 = .ok (.aload_n 1, 1) := by decide +kernel
theorem dX5_tellRepeats_44 : decode cX5_tellRepeats 44 = .ok (.iconst 0, 1) := by decide +kernel
theorem dX5_tellRepeats_45 : decode cX5_tellRepeats 45 = .ok (.putfield 207, 3) := by decide +kernel
theorem dX5_tellRepeats_48 : decode cX5_tellRepeats 48 = .ok (.return_, 1) := by decide +kernel
set_option maxRecDepth 20000 in
theorem ggX5_tellDrops_X5_route : GoodIn wsX5_tellDrops wsX5_route := goodIn_r _ [8, 9, 10, 11, 12, 13, 14, 15, 16, 17, 18, 19, 20, 21, 22, 23, 24, 25, 26, 27, 28, 29, 30, 31, 32, 33, 34, 35, 36, 37, 38, 39, 40, 41, 42, 43, 44, 45, 46, 47, 48, 49, 50, 51, 52, 53, 63, 64, 65, 66, 67, 68, 69, 70, 71, 72, 73, 74, 75, 76, 77, 78, 79, 80, 81, 82, 83, 84, 85, 86, 87, 88, 89, 90, 91, 92] (by decide +kernel) (by decide +kernel)
set_option maxRecDepth 20000 in
theorem gX5_tellDrops_X5_route : GoodIn wsX5_tellDrops (wsV RX5 157 RX5 yX5_route wsX5_route) := goodIn_app (goodIn_of _ (by decide +kernel)) ggX5_tellDrops_X5_route
theorem dX5_tellDrops_0 : decode cX5_tellDrops 0 = .ok (.aload_n 1, 1) := by decide +kernel
theorem dX5_tellDrops_1 : decode cX5_tellDrops 1 = .ok (.getfield 145, 3) := by decide +kernel
theorem dX5_tellDrops_4 : decode cX5_tellDrops 4 = .ok (.ifCond .le 38, 3) := by decide +kernel
theorem dX5_tellDrops_7 : decode cX5_tellDrops 7 = .ok (.ldc_w 260, 3) := by decide +kernel
theorem dX5_tellDrops_10 : decode cX5_tellDrops 10 = .ok (.aload_n 1, 1) := by decide +kernel
theorem dX5_tellDrops_11 : decode cX5_tellDrops 11 = .ok (.getfield 251, 3) := by decide +kernel
theorem dX5_tellDrops_14 : decode cX5_tellDrops 14 = .ok (.iconst 1, 1) := by decide +kernel
theorem dX5_tellDrops_15 : decode cX5_tellDrops 15 = .ok (.iadd, 1) := by decide +kernel
theorem dX5_tellDrops_16 : decode cX5_tellDrops 16 = .ok (.imul, 1) := by decide +kernel
theorem dX5_tellDrops_17 : decode cX5_tellDrops 17 = .ok (.aload_n 1, 1) := by decide +kernel
theorem dX5_tellDrops_18 : decode cX5_tellDrops 18 = .ok (.getfield 145, 3) := by decide +kernel
theorem dX5_tellDrops_21 : decode cX5_tellDrops 21 = .ok (.iadd, 1) := by decide +kernel
theorem dX5_tellDrops_22 : decode cX5_tellDrops 22 = .ok (.istore_n 2, 1) := by decide +kernel
theorem dX5_tellDrops_23 : decode cX5_tellDrops 23 = .ok (.aload_n 0, 1) := by decide +kernel
theorem dX5_tellDrops_24 : decode cX5_tellDrops 24 = .ok (.iload_n 2, 1) := by decide +kernel
theorem dX5_tellDrops_25 : decode cX5_tellDrops 25 = .ok (.aload_n 1, 1) := by decide +kernel
theorem dX5_tellDrops_26 : decode cX5_tellDrops 26 = .ok (.getfield 251, 3) := by decide +kernel
theorem dX5_tellDrops_29 : decode cX5_tellDrops 29 = .ok (.iconst 5, 1) := by decide +kernel
theorem dX5_tellDrops_30 : decode cX5_tellDrops 30 = .ok (.iconst 4, 1) := by decide +kernel
theorem dX5_tellDrops_31 : decode cX5_tellDrops 31 = .ok (.bipush 20, 2) := by decide +kernel
theorem dX5_tellDrops_33 : decode cX5_tellDrops 33 = .ok (.invokevirtual 157, 3) := by decide +kernel
theorem dX5_tellDrops_36 : decode cX5_tellDrops 36 = .ok (.pop, 1) := by decide +kernel
theorem dX5_tellDrops_37 : decode cX5_tellDrops 37 = .ok (.aload_n 1, 1) := by decide +kernel
theorem dX5_tellDrops_38 : decode cX5_tellDrops 38 = .ok (.iconst 0, 1) := by decide +kernel
theorem dX5_tellDrops_39 : decode cX5_tellDrops 39 = .ok (.putfield 145, 3) := by decide +kernel
theorem dX5_tellDrops_42 : decode cX5_tellDrops 42 = .ok (.return_, 1) := by decide +kernel
set_option maxRecDepth 20000 in
theorem ggX5_route_X3_fits : GoodIn wsX5_route wsX3_fits := goodIn_r _ [10, 11, 12, 13, 14, 55, 56, 57, 58, 59] (by decide +kernel) (by decide +kernel)
set_option maxRecDepth 20000 in
theorem gX5_route_X3_fits : GoodIn wsX5_route (wsV RX5 264 RX3 yX3_fits wsX3_fits) := goodIn_app (goodIn_of _ (by decide +kernel)) ggX5_route_X3_fits
set_option maxRecDepth 20000 in
theorem ggX5_route_X2_add : GoodIn wsX5_route wsX2_add := goodIn_r _ [19, 20, 21, 22, 23, 24, 25, 26, 27, 18, 28, 29, 30, 31, 32, 33, 34, 35, 36, 60, 61, 62, 63, 64, 65, 66, 67, 68, 69] (by decide +kernel) (by decide +kernel)
set_option maxRecDepth 20000 in
theorem gX5_route_X2_add : GoodIn wsX5_route (wsV RX5 267 RX2 yX2_add wsX2_add) := goodIn_app (goodIn_of _ (by decide +kernel)) ggX5_route_X2_add
set_option maxRecDepth 20000 in
theorem ggX5_route_X0_take : GoodIn wsX5_route wsX0_take := goodIn_r _ [41, 42, 43, 44, 45, 70, 71, 72, 73, 74, 75] (by decide +kernel) (by decide +kernel)
set_option maxRecDepth 20000 in
theorem gX5_route_X0_take : GoodIn wsX5_route (wsV RX5 270 RX0 yX0_take wsX0_take) := goodIn_app (goodIn_of _ (by decide +kernel)) ggX5_route_X0_take
theorem dX5_route_0 : decode cX5_route 0 = .ok (.iconst 0, 1) := by decide +kernel
theorem dX5_route_1 : decode cX5_route 1 = .ok (.istore 6, 2) := by decide +kernel
theorem dX5_route_3 : decode cX5_route 3 = .ok (.iconst 0, 1) := by decide +kernel
theorem dX5_route_4 : decode cX5_route 4 = .ok (.istore 7, 2) := by decide +kernel
theorem dX5_route_6 : decode cX5_route 6 = .ok (.iload 7, 2) := by decide +kernel
theorem dX5_route_8 : decode cX5_route 8 = .ok (.bipush 6, 2) := by decide +kernel
theorem dX5_route_10 : decode cX5_route 10 = .ok (.if_icmp .ge 112, 3) := by decide +kernel
theorem dX5_route_13 : decode cX5_route 13 = .ok (.aload_n 0, 1) := by decide +kernel
theorem dX5_route_14 : decode cX5_route 14 = .ok (.getfield 17, 3) := by decide +kernel
theorem dX5_route_17 : decode cX5_route 17 = .ok (.iload 7, 2) := by decide +kernel
theorem dX5_route_19 : decode cX5_route 19 = .ok (.aaload, 1) := by decide +kernel
theorem dX5_route_20 : decode cX5_route 20 = .ok (.getfield 261, 3) := by decide +kernel
theorem dX5_route_23 : decode cX5_route 23 = .ok (.istore 8, 2) := by decide +kernel
theorem dX5_route_25 : decode cX5_route 25 = .ok (.iload 6, 2) := by decide +kernel
theorem dX5_route_27 : decode cX5_route 27 = .ok (.iload 8, 2) := by decide +kernel
theorem dX5_route_29 : decode cX5_route 29 = .ok (.ishr, 1) := by decide +kernel
theorem dX5_route_30 : decode cX5_route 30 = .ok (.iconst 1, 1) := by decide +kernel
theorem dX5_route_31 : decode cX5_route 31 = .ok (.iand, 1) := by decide +kernel
theorem dX5_route_32 : decode cX5_route 32 = .ok (.iconst 1, 1) := by decide +kernel
theorem dX5_route_33 : decode cX5_route 33 = .ok (.if_icmp .ne 7, 3) := by decide +kernel
theorem dX5_route_36 : decode cX5_route 36 = .ok (.iconst 1, 1) := by decide +kernel
theorem dX5_route_37 : decode cX5_route 37 = .ok (.goto 4, 3) := by decide +kernel
theorem dX5_route_40 : decode cX5_route 40 = .ok (.iconst 0, 1) := by decide +kernel
theorem dX5_route_41 : decode cX5_route 41 = .ok (.istore 9, 2) := by decide +kernel
theorem dX5_route_43 : decode cX5_route 43 = .ok (.iload 9, 2) := by decide +kernel
theorem dX5_route_45 : decode cX5_route 45 = .ok (.ifCond .ne 71, 3) := by decide +kernel
theorem dX5_route_48 : decode cX5_route 48 = .ok (.aload_n 0, 1) := by decide +kernel
theorem dX5_route_49 : decode cX5_route 49 = .ok (.getfield 17, 3) := by decide +kernel
theorem dX5_route_52 : decode cX5_route 52 = .ok (.iload 7, 2) := by decide +kernel
theorem dX5_route_54 : decode cX5_route 54 = .ok (.aaload, 1) := by decide +kernel
theorem dX5_route_55 : decode cX5_route 55 = .ok (.iload_n 2, 1) := by decide +kernel
theorem dX5_route_56 : decode cX5_route 56 = .ok (.iload_n 3, 1) := by decide +kernel
theorem dX5_route_57 : decode cX5_route 57 = .ok (.iload 4, 2) := by decide +kernel
theorem dX5_route_59 : decode cX5_route 59 = .ok (.invokevirtual 264, 3) := by decide +kernel
theorem dX5_route_62 : decode cX5_route 62 = .ok (.ifCond .ne 6, 3) := by decide +kernel
theorem dX5_route_65 : decode cX5_route 65 = .ok (.goto 51, 3) := by decide +kernel
theorem dX5_route_68 : decode cX5_route 68 = .ok (.iload 6, 2) := by decide +kernel
theorem dX5_route_70 : decode cX5_route 70 = .ok (.iconst 1, 1) := by decide +kernel
theorem dX5_route_71 : decode cX5_route 71 = .ok (.iload 8, 2) := by decide +kernel
theorem dX5_route_73 : decode cX5_route 73 = .ok (.ishl, 1) := by decide +kernel
theorem dX5_route_74 : decode cX5_route 74 = .ok (.ior, 1) := by decide +kernel
theorem dX5_route_75 : decode cX5_route 75 = .ok (.istore 6, 2) := by decide +kernel
theorem dX5_route_77 : decode cX5_route 77 = .ok (.iload 8, 2) := by decide +kernel
theorem dX5_route_79 : decode cX5_route 79 = .ok (.ifCond .lt 29, 3) := by decide +kernel
theorem dX5_route_82 : decode cX5_route 82 = .ok (.iload 8, 2) := by decide +kernel
theorem dX5_route_84 : decode cX5_route 84 = .ok (.iconst 4, 1) := by decide +kernel
theorem dX5_route_85 : decode cX5_route 85 = .ok (.if_icmp .ge 23, 3) := by decide +kernel
theorem dX5_route_88 : decode cX5_route 88 = .ok (.aload_n 0, 1) := by decide +kernel
theorem dX5_route_89 : decode cX5_route 89 = .ok (.getfield 23, 3) := by decide +kernel
theorem dX5_route_92 : decode cX5_route 92 = .ok (.iload 8, 2) := by decide +kernel
theorem dX5_route_94 : decode cX5_route 94 = .ok (.aaload, 1) := by decide +kernel
theorem dX5_route_95 : decode cX5_route 95 = .ok (.iload_n 1, 1) := by decide +kernel
theorem dX5_route_96 : decode cX5_route 96 = .ok (.iload 5, 2) := by decide +kernel
theorem dX5_route_98 : decode cX5_route 98 = .ok (.aload_n 0, 1) := by decide +kernel
theorem dX5_route_99 : decode cX5_route 99 = .ok (.getfield 41, 3) := by decide +kernel
theorem dX5_route_102 : decode cX5_route 102 = .ok (.invokevirtual 267, 3) := by decide +kernel
theorem dX5_route_105 : decode cX5_route 105 = .ok (.goto 11, 3) := by decide +kernel
theorem dX5_route_108 : decode cX5_route 108 = .ok (.aload_n 0, 1) := by decide +kernel
theorem dX5_route_109 : decode cX5_route 109 = .ok (.getfield 30, 3) := by decide +kernel
theorem dX5_route_112 : decode cX5_route 112 = .ok (.iload_n 1, 1) := by decide +kernel
theorem dX5_route_113 : decode cX5_route 113 = .ok (.invokevirtual 270, 3) := by decide +kernel
theorem dX5_route_116 : decode cX5_route 116 = .ok (.iinc 7 1, 3) := by decide +kernel
theorem dX5_route_119 : decode cX5_route 119 = .ok (.goto (-113), 3) := by decide +kernel
theorem dX5_route_122 : decode cX5_route 122 = .ok (.iload 6, 2) := by decide +kernel
theorem dX5_route_124 : decode cX5_route 124 = .ok (.ireturn, 1) := by decide +kernel
set_option maxRecDepth 20000 in
theorem ggX5_passOneSecond_X5_giveTokens : GoodIn wsX5_passOneSecond wsX5_giveTokens := goodIn_r _ [7, 8, 9, 10, 11, 12, 13, 14, 15, 92, 93, 94, 95, 96, 97, 98, 99, 100, 101, 102, 103, 104, 105, 106, 107, 108, 109] (by decide +kernel) (by decide +kernel)
set_option maxRecDepth 20000 in
theorem gX5_passOneSecond_X5_giveTokens : GoodIn wsX5_passOneSecond (wsV RX5 273 RX5 yX5_giveTokens wsX5_giveTokens) := goodIn_app (goodIn_of _ (by decide +kernel)) ggX5_passOneSecond_X5_giveTokens
set_option maxRecDepth 20000 in
theorem ggX5_passOneSecond_X5_tellDueRepeats : GoodIn wsX5_passOneSecond wsX5_tellDueRepeats := goodIn_r _ [19, 20, 21, 22, 6, 23, 8, 24, 1, 25, 26, 27, 28, 29, 30, 31, 32, 33, 34, 35, 36, 37, 38, 39, 40, 41, 42, 43, 44, 45, 46, 47, 48, 49, 50, 51, 52, 53, 54, 55, 56, 57, 58, 59, 60, 61, 62, 63, 64, 65, 66, 67, 68, 69, 70, 71, 72, 73, 74, 75, 76, 77, 78, 79, 80, 81, 92, 93, 94, 95, 96, 97, 98, 99, 100, 101, 102, 103, 104, 105, 106, 107, 108, 109, 110, 111, 112, 113, 114, 115, 116, 117, 118, 119, 120, 121, 122, 123, 124, 125, 126, 127, 128, 129, 130] (by decide +kernel) (by decide +kernel)
set_option maxRecDepth 20000 in
theorem gX5_passOneSecond_X5_tellDueRepeats : GoodIn wsX5_passOneSecond (wsV RX5 276 RX5 yX5_tellDueRepeats wsX5_tellDueRepeats) := goodIn_app (goodIn_of _ (by decide +kernel)) ggX5_passOneSecond_X5_tellDueRepeats
set_option maxRecDepth 20000 in
theorem ggX5_passOneSecond_X5_rotateAgedFiles : GoodIn wsX5_passOneSecond wsX5_rotateAgedFiles := goodIn_r _ [85, 40, 1, 86, 87, 88, 54, 89, 90, 58, 61, 62, 63, 64, 59, 65, 91, 67, 68, 69, 56, 70, 71, 72, 92, 93, 94, 95, 96, 97, 98, 99, 100, 115, 116, 117, 118, 119, 120, 121, 122, 123, 124] (by decide +kernel) (by decide +kernel)
set_option maxRecDepth 20000 in
theorem gX5_passOneSecond_X5_rotateAgedFiles : GoodIn wsX5_passOneSecond (wsV RX5 279 RX5 yX5_rotateAgedFiles wsX5_rotateAgedFiles) := goodIn_app (goodIn_of _ (by decide +kernel)) ggX5_passOneSecond_X5_rotateAgedFiles
theorem dX5_passOneSecond_0 : decode cX5_passOneSecond 0 = .ok (.aload_n 0, 1) := by decide +kernel
theorem dX5_passOneSecond_1 : decode cX5_passOneSecond 1 = .ok (.dup, 1) := by decide +kernel
theorem dX5_passOneSecond_2 : decode cX5_passOneSecond 2 = .ok (.getfield 41, 3) := by decide +kernel
theorem dX5_passOneSecond_5 : decode cX5_passOneSecond 5 = .ok (.iconst 1, 1) := by decide +kernel
theorem dX5_passOneSecond_6 : decode cX5_passOneSecond 6 = .ok (.iadd, 1) := by decide +kernel
theorem dX5_passOneSecond_7 : decode cX5_passOneSecond 7 = .ok (.putfield 41, 3) := by decide +kernel
theorem dX5_passOneSecond_10 : decode cX5_passOneSecond 10 = .ok (.aload_n 0, 1) := by decide +kernel
theorem dX5_passOneSecond_11 : decode cX5_passOneSecond 11 = .ok (.getfield 48, 3) := by decide +kernel
theorem dX5_passOneSecond_14 : decode cX5_passOneSecond 14 = .ok (.ifCond .le 19, 3) := by decide +kernel
theorem dX5_passOneSecond_17 : decode cX5_passOneSecond 17 = .ok (.aload_n 0, 1) := by decide +kernel
theorem dX5_passOneSecond_18 : decode cX5_passOneSecond 18 = .ok (.getfield 41, 3) := by decide +kernel
theorem dX5_passOneSecond_21 : decode cX5_passOneSecond 21 = .ok (.aload_n 0, 1) := by decide +kernel
theorem dX5_passOneSecond_22 : decode cX5_passOneSecond 22 = .ok (.getfield 48, 3) := by decide +kernel
theorem dX5_passOneSecond_25 : decode cX5_passOneSecond 25 = .ok (.irem, 1) := by decide +kernel
theorem dX5_passOneSecond_26 : decode cX5_passOneSecond 26 = .ok (.ifCond .ne 7, 3) := by decide +kernel
theorem dX5_passOneSecond_29 : decode cX5_passOneSecond 29 = .ok (.aload_n 0, 1) := by decide +kernel
theorem dX5_passOneSecond_30 : decode cX5_passOneSecond 30 = .ok (.invokevirtual 273, 3) := by decide +kernel
theorem dX5_passOneSecond_33 : decode cX5_passOneSecond 33 = .ok (.aload_n 0, 1) := by decide +kernel
theorem dX5_passOneSecond_34 : decode cX5_passOneSecond 34 = .ok (.invokevirtual 276, 3) := by decide +kernel
theorem dX5_passOneSecond_37 : decode cX5_passOneSecond 37 = .ok (.aload_n 0, 1) := by decide +kernel
theorem dX5_passOneSecond_38 : decode cX5_passOneSecond 38 = .ok (.invokevirtual 279, 3) := by decide +kernel
theorem dX5_passOneSecond_41 : decode cX5_passOneSecond 41 = .ok (.return_, 1) := by decide +kernel
set_option maxRecDepth 20000 in
theorem ggX5_giveTokens_X4_gainToken : GoodIn wsX5_giveTokens wsX4_gainToken := goodIn_r _ [7, 8, 18, 19, 20, 21, 22, 23, 24, 25, 26] (by decide +kernel) (by decide +kernel)
set_option maxRecDepth 20000 in
theorem gX5_giveTokens_X4_gainToken : GoodIn wsX5_giveTokens (wsV RX5 282 RX4 yX4_gainToken wsX4_gainToken) := goodIn_app (goodIn_of _ (by decide +kernel)) ggX5_giveTokens_X4_gainToken
theorem dX5_giveTokens_0 : decode cX5_giveTokens 0 = .ok (.iconst 0, 1) := by decide +kernel
theorem dX5_giveTokens_1 : decode cX5_giveTokens 1 = .ok (.istore_n 1, 1) := by decide +kernel
theorem dX5_giveTokens_2 : decode cX5_giveTokens 2 = .ok (.iload_n 1, 1) := by decide +kernel
theorem dX5_giveTokens_3 : decode cX5_giveTokens 3 = .ok (.bipush 6, 2) := by decide +kernel
theorem dX5_giveTokens_5 : decode cX5_giveTokens 5 = .ok (.if_icmp .ge 22, 3) := by decide +kernel
theorem dX5_giveTokens_8 : decode cX5_giveTokens 8 = .ok (.aload_n 0, 1) := by decide +kernel
theorem dX5_giveTokens_9 : decode cX5_giveTokens 9 = .ok (.getfield 11, 3) := by decide +kernel
theorem dX5_giveTokens_12 : decode cX5_giveTokens 12 = .ok (.iload_n 1, 1) := by decide +kernel
theorem dX5_giveTokens_13 : decode cX5_giveTokens 13 = .ok (.aaload, 1) := by decide +kernel
theorem dX5_giveTokens_14 : decode cX5_giveTokens 14 = .ok (.aload_n 0, 1) := by decide +kernel
theorem dX5_giveTokens_15 : decode cX5_giveTokens 15 = .ok (.getfield 45, 3) := by decide +kernel
theorem dX5_giveTokens_18 : decode cX5_giveTokens 18 = .ok (.invokevirtual 282, 3) := by decide +kernel
theorem dX5_giveTokens_21 : decode cX5_giveTokens 21 = .ok (.iinc 1 1, 3) := by decide +kernel
theorem dX5_giveTokens_24 : decode cX5_giveTokens 24 = .ok (.goto (-22), 3) := by decide +kernel
theorem dX5_giveTokens_27 : decode cX5_giveTokens 27 = .ok (.return_, 1) := by decide +kernel
set_option maxRecDepth 20000 in
theorem ggX5_tellDueRepeats_X5_firstWithDueRepeats : GoodIn wsX5_tellDueRepeats wsX5_firstWithDueRepeats := goodIn_r _ [5, 6, 7, 8, 9, 10, 66, 67, 68, 69, 70, 71, 72, 73, 74, 75, 76, 77, 78, 79, 80, 81, 82, 83] (by decide +kernel) (by decide +kernel)
set_option maxRecDepth 20000 in
theorem gX5_tellDueRepeats_X5_firstWithDueRepeats : GoodIn wsX5_tellDueRepeats (wsV RX5 285 RX5 yX5_firstWithDueRepeats wsX5_firstWithDueRepeats) := goodIn_app (goodIn_of _ (by decide +kernel)) ggX5_tellDueRepeats_X5_firstWithDueRepeats
set_option maxRecDepth 20000 in
theorem ggX5_tellDueRepeats_X5_tellRepeats : GoodIn wsX5_tellDueRepeats wsX5_tellRepeats := goodIn_r _ [14, 7, 15, 16, 17, 18, 19, 20, 4, 21, 22, 23, 24, 8, 25, 26, 27, 28, 29, 30, 31, 32, 33, 34, 35, 36, 37, 38, 39, 40, 41, 42, 43, 44, 45, 46, 47, 48, 49, 50, 51, 52, 53, 54, 55, 56, 57, 58, 59, 60, 61, 62, 63, 64, 65, 75, 76, 77, 78, 79, 80, 81, 82, 83, 66, 67, 68, 69, 70, 71, 72, 73, 74, 84, 85, 86, 87, 88, 89, 90, 91, 92, 93, 94, 95, 96, 97, 98, 99, 100, 101, 102, 103, 104] (by decide +kernel) (by decide +kernel)
set_option maxRecDepth 20000 in
theorem gX5_tellDueRepeats_X5_tellRepeats : GoodIn wsX5_tellDueRepeats (wsV RX5 138 RX5 yX5_tellRepeats wsX5_tellRepeats) := goodIn_app (goodIn_of _ (by decide +kernel)) ggX5_tellDueRepeats_X5_tellRepeats
theorem dX5_tellDueRepeats_0 : decode cX5_tellDueRepeats 0 = .ok (.iconst 0, 1) := by decide +kernel
theorem dX5_tellDueRepeats_1 : decode cX5_tellDueRepeats 1 = .ok (.istore_n 1, 1) := by decide +kernel
theorem dX5_tellDueRepeats_2 : decode cX5_tellDueRepeats 2 = .ok (.iload_n 1, 1) := by decide +kernel
theorem dX5_tellDueRepeats_3 : decode cX5_tellDueRepeats 3 = .ok (.bipush 6, 2) := by decide +kernel
theorem dX5_tellDueRepeats_5 : decode cX5_tellDueRepeats 5 = .ok (.if_icmp .ge 24, 3) := by decide +kernel
theorem dX5_tellDueRepeats_8 : decode cX5_tellDueRepeats 8 = .ok (.aload_n 0, 1) := by decide +kernel
theorem dX5_tellDueRepeats_9 : decode cX5_tellDueRepeats 9 = .ok (.invokevirtual 285, 3) := by decide +kernel
theorem dX5_tellDueRepeats_12 : decode cX5_tellDueRepeats 12 = .ok (.astore_n 2, 1) := by decide +kernel
theorem dX5_tellDueRepeats_13 : decode cX5_tellDueRepeats 13 = .ok (.aload_n 2, 1) := by decide +kernel
theorem dX5_tellDueRepeats_14 : decode cX5_tellDueRepeats 14 = .ok (.ifnonnull 4, 3) := by decide +kernel
theorem dX5_tellDueRepeats_17 : decode cX5_tellDueRepeats 17 = .ok (.return_, 1) := by decide +kernel
theorem dX5_tellDueRepeats_18 : decode cX5_tellDueRepeats 18 = .ok (.aload_n 0, 1) := by decide +kernel
theorem dX5_tellDueRepeats_19 : decode cX5_tellDueRepeats 19 = .ok (.aload_n 2, 1) := by decide +kernel
theorem dX5_tellDueRepeats_20 : decode cX5_tellDueRepeats 20 = .ok (.invokevirtual 138, 3) := by decide +kernel
theorem dX5_tellDueRepeats_23 : decode cX5_tellDueRepeats 23 = .ok (.iinc 1 1, 3) := by decide +kernel
theorem dX5_tellDueRepeats_26 : decode cX5_tellDueRepeats 26 = .ok (.goto (-24), 3) := by decide +kernel
theorem dX5_tellDueRepeats_29 : decode cX5_tellDueRepeats 29 = .ok (.return_, 1) := by decide +kernel
theorem dX5_firstWithDueRepeats_0 : decode cX5_firstWithDueRepeats 0 = .ok (.aconst_null, 1) := by decide +kernel
theorem dX5_firstWithDueRepeats_1 : decode cX5_firstWithDueRepeats 1 = .ok (.astore_n 1, 1) := by decide +kernel
theorem dX5_firstWithDueRepeats_2 : decode cX5_firstWithDueRepeats 2 = .ok (.iconst 0, 1) := by decide +kernel
theorem dX5_firstWithDueRepeats_3 : decode cX5_firstWithDueRepeats 3 = .ok (.istore_n 2, 1) := by decide +kernel
theorem dX5_firstWithDueRepeats_4 : decode cX5_firstWithDueRepeats 4 = .ok (.iload_n 2, 1) := by decide +kernel
theorem dX5_firstWithDueRepeats_5 : decode cX5_firstWithDueRepeats 5 = .ok (.bipush 6, 2) := by decide +kernel
theorem dX5_firstWithDueRepeats_7 : decode cX5_firstWithDueRepeats 7 = .ok (.if_icmp .ge 68, 3) := by decide +kernel
theorem dX5_firstWithDueRepeats_10 : decode cX5_firstWithDueRepeats 10 = .ok (.aload_n 0, 1) := by decide +kernel
theorem dX5_firstWithDueRepeats_11 : decode cX5_firstWithDueRepeats 11 = .ok (.getfield 11, 3) := by decide +kernel
theorem dX5_firstWithDueRepeats_14 : decode cX5_firstWithDueRepeats 14 = .ok (.iload_n 2, 1) := by decide +kernel
theorem dX5_firstWithDueRepeats_15 : decode cX5_firstWithDueRepeats 15 = .ok (.aaload, 1) := by decide +kernel
theorem dX5_firstWithDueRepeats_16 : decode cX5_firstWithDueRepeats 16 = .ok (.astore_n 3, 1) := by decide +kernel
theorem dX5_firstWithDueRepeats_17 : decode cX5_firstWithDueRepeats 17 = .ok (.aload_n 3, 1) := by decide +kernel
theorem dX5_firstWithDueRepeats_18 : decode cX5_firstWithDueRepeats 18 = .ok (.getfield 207, 3) := by decide +kernel
theorem dX5_firstWithDueRepeats_21 : decode cX5_firstWithDueRepeats 21 = .ok (.ifCond .le 23, 3) := by decide +kernel
theorem dX5_firstWithDueRepeats_24 : decode cX5_firstWithDueRepeats 24 = .ok (.aload_n 0, 1) := by decide +kernel
theorem dX5_firstWithDueRepeats_25 : decode cX5_firstWithDueRepeats 25 = .ok (.getfield 41, 3) := by decide +kernel
theorem dX5_firstWithDueRepeats_28 : decode cX5_firstWithDueRepeats 28 = .ok (.aload_n 3, 1) := by decide +kernel
theorem dX5_firstWithDueRepeats_29 : decode cX5_firstWithDueRepeats 29 = .ok (.getfield 289, 3) := by decide +kernel
theorem dX5_firstWithDueRepeats_32 : decode cX5_firstWithDueRepeats 32 = .ok (.isub, 1) := by decide +kernel
theorem dX5_firstWithDueRepeats_33 : decode cX5_firstWithDueRepeats 33 = .ok (.aload_n 0, 1) := by decide +kernel
theorem dX5_firstWithDueRepeats_34 : decode cX5_firstWithDueRepeats 34 = .ok (.getfield 51, 3) := by decide +kernel
theorem dX5_firstWithDueRepeats_37 : decode cX5_firstWithDueRepeats 37 = .ok (.if_icmp .lt 7, 3) := by decide +kernel
theorem dX5_firstWithDueRepeats_40 : decode cX5_firstWithDueRepeats 40 = .ok (.iconst 1, 1) := by decide +kernel
theorem dX5_firstWithDueRepeats_41 : decode cX5_firstWithDueRepeats 41 = .ok (.goto 4, 3) := by decide +kernel
theorem dX5_firstWithDueRepeats_44 : decode cX5_firstWithDueRepeats 44 = .ok (.iconst 0, 1) := by decide +kernel
theorem dX5_firstWithDueRepeats_45 : decode cX5_firstWithDueRepeats 45 = .ok (.istore 4, 2) := by decide +kernel
theorem dX5_firstWithDueRepeats_47 : decode cX5_firstWithDueRepeats 47 = .ok (.iload 4, 2) := by decide +kernel
theorem dX5_firstWithDueRepeats_49 : decode cX5_firstWithDueRepeats 49 = .ok (.ifCond .eq 20, 3) := by decide +kernel
theorem dX5_firstWithDueRepeats_52 : decode cX5_firstWithDueRepeats 52 = .ok (.aload_n 1, 1) := by decide +kernel
theorem dX5_firstWithDueRepeats_53 : decode cX5_firstWithDueRepeats 53 = .ok (.ifnull 14, 3) := by decide +kernel
theorem dX5_firstWithDueRepeats_56 : decode cX5_firstWithDueRepeats 56 = .ok (.aload_n 3, 1) := by decide +kernel
theorem dX5_firstWithDueRepeats_57 : decode cX5_firstWithDueRepeats 57 = .ok (.getfield 289, 3) := by decide +kernel
theorem dX5_firstWithDueRepeats_60 : decode cX5_firstWithDueRepeats 60 = .ok (.aload_n 1, 1) := by decide +kernel
theorem dX5_firstWithDueRepeats_61 : decode cX5_firstWithDueRepeats 61 = .ok (.getfield 289, 3) := by decide +kernel
theorem dX5_firstWithDueRepeats_64 : decode cX5_firstWithDueRepeats 64 = .ok (.if_icmp .ge 5, 3) := by decide +kernel
theorem dX5_firstWithDueRepeats_67 : decode cX5_firstWithDueRepeats 67 = .ok (.aload_n 3, 1) := by decide +kernel
theorem dX5_firstWithDueRepeats_68 : decode cX5_firstWithDueRepeats 68 = .ok (.astore_n 1, 1) := by decide +kernel
theorem dX5_firstWithDueRepeats_69 : decode cX5_firstWithDueRepeats 69 = .ok (.iinc 2 1, 3) := by decide +kernel
theorem dX5_firstWithDueRepeats_72 : decode cX5_firstWithDueRepeats 72 = .ok (.goto (-68), 3) := by decide +kernel
theorem dX5_firstWithDueRepeats_75 : decode cX5_firstWithDueRepeats 75 = .ok (.aload_n 1, 1) := by decide +kernel
theorem dX5_firstWithDueRepeats_76 : decode cX5_firstWithDueRepeats 76 = .ok (.areturn, 1) := by decide +kernel
set_option maxRecDepth 20000 in
theorem ggX5_rotateAgedFiles_X2_isAged : GoodIn wsX5_rotateAgedFiles wsX2_isAged := goodIn_r _ [7, 8, 9, 10, 11, 12, 6, 13, 14, 15, 33, 34, 35, 36, 37, 38, 39, 40, 41, 42] (by decide +kernel) (by decide +kernel)
set_option maxRecDepth 20000 in
theorem gX5_rotateAgedFiles_X2_isAged : GoodIn wsX5_rotateAgedFiles (wsV RX5 292 RX2 yX2_isAged wsX2_isAged) := goodIn_app (goodIn_of _ (by decide +kernel)) ggX5_rotateAgedFiles_X2_isAged
set_option maxRecDepth 20000 in
theorem ggX5_rotateAgedFiles_X2_turnOver : GoodIn wsX5_rotateAgedFiles wsX2_turnOver := goodIn_r _ [19, 15, 14, 20, 21, 22, 23, 33, 34, 35, 36, 37, 38, 39, 40, 41, 42] (by decide +kernel) (by decide +kernel)
set_option maxRecDepth 20000 in
theorem gX5_rotateAgedFiles_X2_turnOver : GoodIn wsX5_rotateAgedFiles (wsV RX5 172 RX2 yX2_turnOver wsX2_turnOver) := goodIn_app (goodIn_of _ (by decide +kernel)) ggX5_rotateAgedFiles_X2_turnOver
theorem dX5_rotateAgedFiles_0 : decode cX5_rotateAgedFiles 0 = .ok (.iconst 0, 1) := by decide +kernel
theorem dX5_rotateAgedFiles_1 : decode cX5_rotateAgedFiles 1 = .ok (.istore_n 1, 1) := by decide +kernel
theorem dX5_rotateAgedFiles_2 : decode cX5_rotateAgedFiles 2 = .ok (.iload_n 1, 1) := by decide +kernel
theorem dX5_rotateAgedFiles_3 : decode cX5_rotateAgedFiles 3 = .ok (.iconst 4, 1) := by decide +kernel
theorem dX5_rotateAgedFiles_4 : decode cX5_rotateAgedFiles 4 = .ok (.if_icmp .ge 34, 3) := by decide +kernel
theorem dX5_rotateAgedFiles_7 : decode cX5_rotateAgedFiles 7 = .ok (.aload_n 0, 1) := by decide +kernel
theorem dX5_rotateAgedFiles_8 : decode cX5_rotateAgedFiles 8 = .ok (.getfield 23, 3) := by decide +kernel
theorem dX5_rotateAgedFiles_11 : decode cX5_rotateAgedFiles 11 = .ok (.iload_n 1, 1) := by decide +kernel
theorem dX5_rotateAgedFiles_12 : decode cX5_rotateAgedFiles 12 = .ok (.aaload, 1) := by decide +kernel
theorem dX5_rotateAgedFiles_13 : decode cX5_rotateAgedFiles 13 = .ok (.aload_n 0, 1) := by decide +kernel
theorem dX5_rotateAgedFiles_14 : decode cX5_rotateAgedFiles 14 = .ok (.getfield 41, 3) := by decide +kernel
theorem dX5_rotateAgedFiles_17 : decode cX5_rotateAgedFiles 17 = .ok (.invokevirtual 292, 3) := by decide +kernel
theorem dX5_rotateAgedFiles_20 : decode cX5_rotateAgedFiles 20 = .ok (.ifCond .eq 12, 3) := by decide +kernel
theorem dX5_rotateAgedFiles_23 : decode cX5_rotateAgedFiles 23 = .ok (.aload_n 0, 1) := by decide +kernel
theorem dX5_rotateAgedFiles_24 : decode cX5_rotateAgedFiles 24 = .ok (.getfield 23, 3) := by decide +kernel
theorem dX5_rotateAgedFiles_27 : decode cX5_rotateAgedFiles 27 = .ok (.iload_n 1, 1) := by decide +kernel
theorem dX5_rotateAgedFiles_28 : decode cX5_rotateAgedFiles 28 = .ok (.aaload, 1) := by decide +kernel
theorem dX5_rotateAgedFiles_29 : decode cX5_rotateAgedFiles 29 = .ok (.invokevirtual 172, 3) := by decide +kernel
theorem dX5_rotateAgedFiles_32 : decode cX5_rotateAgedFiles 32 = .ok (.iinc 1 1, 3) := by decide +kernel
theorem dX5_rotateAgedFiles_35 : decode cX5_rotateAgedFiles 35 = .ok (.goto (-33), 3) := by decide +kernel
theorem dX5_rotateAgedFiles_38 : decode cX5_rotateAgedFiles 38 = .ok (.return_, 1) := by decide +kernel
theorem dX5_rotationsOfAllFiles_0 : decode cX5_rotationsOfAllFiles 0 = .ok (.iconst 0, 1) := by decide +kernel
theorem dX5_rotationsOfAllFiles_1 : decode cX5_rotationsOfAllFiles 1 = .ok (.istore_n 1, 1) := by decide +kernel
theorem dX5_rotationsOfAllFiles_2 : decode cX5_rotationsOfAllFiles 2 = .ok (.iconst 0, 1) := by decide +kernel
theorem dX5_rotationsOfAllFiles_3 : decode cX5_rotationsOfAllFiles 3 = .ok (.istore_n 2, 1) := by decide +kernel
theorem dX5_rotationsOfAllFiles_4 : decode cX5_rotationsOfAllFiles 4 = .ok (.iload_n 2, 1) := by decide +kernel
theorem dX5_rotationsOfAllFiles_5 : decode cX5_rotationsOfAllFiles 5 = .ok (.iconst 4, 1) := by decide +kernel
theorem dX5_rotationsOfAllFiles_6 : decode cX5_rotationsOfAllFiles 6 = .ok (.if_icmp .ge 21, 3) := by decide +kernel
theorem dX5_rotationsOfAllFiles_9 : decode cX5_rotationsOfAllFiles 9 = .ok (.iload_n 1, 1) := by decide +kernel
theorem dX5_rotationsOfAllFiles_10 : decode cX5_rotationsOfAllFiles 10 = .ok (.aload_n 0, 1) := by decide +kernel
theorem dX5_rotationsOfAllFiles_11 : decode cX5_rotationsOfAllFiles 11 = .ok (.getfield 23, 3) := by decide +kernel
theorem dX5_rotationsOfAllFiles_14 : decode cX5_rotationsOfAllFiles 14 = .ok (.iload_n 2, 1) := by decide +kernel
theorem dX5_rotationsOfAllFiles_15 : decode cX5_rotationsOfAllFiles 15 = .ok (.aaload, 1) := by decide +kernel
theorem dX5_rotationsOfAllFiles_16 : decode cX5_rotationsOfAllFiles 16 = .ok (.getfield 295, 3) := by decide +kernel
theorem dX5_rotationsOfAllFiles_19 : decode cX5_rotationsOfAllFiles 19 = .ok (.iadd, 1) := by decide +kernel
theorem dX5_rotationsOfAllFiles_20 : decode cX5_rotationsOfAllFiles 20 = .ok (.istore_n 1, 1) := by decide +kernel
theorem dX5_rotationsOfAllFiles_21 : decode cX5_rotationsOfAllFiles 21 = .ok (.iinc 2 1, 3) := by decide +kernel
theorem dX5_rotationsOfAllFiles_24 : decode cX5_rotationsOfAllFiles 24 = .ok (.goto (-20), 3) := by decide +kernel
theorem dX5_rotationsOfAllFiles_27 : decode cX5_rotationsOfAllFiles 27 = .ok (.iload_n 1, 1) := by decide +kernel
theorem dX5_rotationsOfAllFiles_28 : decode cX5_rotationsOfAllFiles 28 = .ok (.ireturn, 1) := by decide +kernel
