theorem dX12_minds_125 : decode cX12_minds 125 = .ok (.bipush 40, 2) := by decide +kernel
theorem dX12_minds_127 : decode cX12_minds 127 = .ok (.iload_n 1, 1) := by decide +kernel
theorem dX12_minds_128 : decode cX12_minds 128 = .ok (.imul, 1) := by decide +kernel
theorem dX12_minds_129 : decode cX12_minds 129 = .ok (.iload_n 2, 1) := by decide +kernel
theorem dX12_minds_130 : decode cX12_minds 130 = .ok (.iadd, 1) := by decide +kernel
theorem dX12_minds_131 : decode cX12_minds 131 = .ok (.iload 5, 2) := by decide +kernel
theorem dX12_minds_133 : decode cX12_minds 133 = .ok (.iadd, 1) := by decide +kernel
theorem dX12_minds_134 : decode cX12_minds 134 = .ok (.iaload, 1) := by decide +kernel
theorem dX12_minds_135 : decode cX12_minds 135 = .ok (.invokestatic 199, 3) := by decide +kernel
theorem dX12_minds_138 : decode cX12_minds 138 = .ok (.iastore, 1) := by decide +kernel
theorem dX12_minds_139 : decode cX12_minds 139 = .ok (.iinc 5 1, 3) := by decide +kernel
theorem dX12_minds_142 : decode cX12_minds 142 = .ok (.goto (-44), 3) := by decide +kernel
theorem dX12_minds_145 : decode cX12_minds 145 = .ok (.iload 4, 2) := by decide +kernel
theorem dX12_minds_147 : decode cX12_minds 147 = .ok (.ireturn, 1) := by decide +kernel
set_option maxRecDepth 20000 in
theorem ggX12_shelf_X12_isShelf : GoodIn wsX12_shelf wsX12_isShelf := goodIn_r _ [10, 11, 12, 13, 9, 14] (by decide +kernel) (by decide +kernel)
set_option maxRecDepth 20000 in
theorem gX12_shelf_X12_isShelf : GoodIn wsX12_shelf (va_wsS RX12 289 yX12_isShelf wsX12_isShelf) := goodIn_app (goodIn_of _ (by decide +kernel)) ggX12_shelf_X12_isShelf
set_option maxRecDepth 20000 in
theorem ggX12_shelf_X12_isIn : GoodIn wsX12_shelf wsX12_isIn := goodIn_r _ [14] (by decide +kernel) (by decide +kernel)
set_option maxRecDepth 20000 in
theorem gX12_shelf_X12_isIn : GoodIn wsX12_shelf (va_wsS RX12 60 yX12_isIn wsX12_isIn) := goodIn_app (goodIn_of _ (by decide +kernel)) ggX12_shelf_X12_isIn
set_option maxRecDepth 20000 in
theorem ggX12_shelf_X12_isOne : GoodIn wsX12_shelf wsX12_isOne := goodIn_r _ [18, 19, 23, 24, 25, 26, 27, 28, 29, 30, 31, 32, 33, 34, 35, 36, 37, 38, 39, 40, 41, 42, 43, 44, 45, 46, 47, 48, 49, 50] (by decide +kernel) (by decide +kernel)
set_option maxRecDepth 20000 in
theorem gX12_shelf_X12_isOne : GoodIn wsX12_shelf (wsV RX12 182 RX12 yX12_isOne wsX12_isOne) := goodIn_app (goodIn_of _ (by decide +kernel)) ggX12_shelf_X12_isOne
set_option maxRecDepth 20000 in
theorem ggX12_shelf_X12_isSheet : GoodIn wsX12_shelf wsX12_isSheet := goodIn_r _ [22, 11, 12, 13, 9, 14] (by decide +kernel) (by decide +kernel)
set_option maxRecDepth 20000 in
theorem gX12_shelf_X12_isSheet : GoodIn wsX12_shelf (va_wsS RX12 263 yX12_isSheet wsX12_isSheet) := goodIn_app (goodIn_of _ (by decide +kernel)) ggX12_shelf_X12_isSheet
theorem dX12_shelf_0 : decode cX12_shelf 0 = .ok (.iload_n 1, 1) := by decide +kernel
theorem dX12_shelf_1 : decode cX12_shelf 1 = .ok (.invokestatic 289, 3) := by decide +kernel
theorem dX12_shelf_4 : decode cX12_shelf 4 = .ok (.ifCond .eq 39, 3) := by decide +kernel
theorem dX12_shelf_7 : decode cX12_shelf 7 = .ok (.iload_n 2, 1) := by decide +kernel
theorem dX12_shelf_8 : decode cX12_shelf 8 = .ok (.i2l, 1) := by decide +kernel
theorem dX12_shelf_9 : decode cX12_shelf 9 = .ok (.lconst 0, 1) := by decide +kernel
theorem dX12_shelf_10 : decode cX12_shelf 10 = .ok (.ldc2_w 188, 3) := by decide +kernel
theorem dX12_shelf_13 : decode cX12_shelf 13 = .ok (.invokestatic 60, 3) := by decide +kernel
theorem dX12_shelf_16 : decode cX12_shelf 16 = .ok (.ifCond .eq 27, 3) := by decide +kernel
theorem dX12_shelf_19 : decode cX12_shelf 19 = .ok (.iload_n 2, 1) := by decide +kernel
theorem dX12_shelf_20 : decode cX12_shelf 20 = .ok (.ifCond .ne 11, 3) := by decide +kernel
theorem dX12_shelf_23 : decode cX12_shelf 23 = .ok (.aload_n 0, 1) := by decide +kernel
theorem dX12_shelf_24 : decode cX12_shelf 24 = .ok (.iload_n 3, 1) := by decide +kernel
theorem dX12_shelf_25 : decode cX12_shelf 25 = .ok (.invokevirtual 182, 3) := by decide +kernel
theorem dX12_shelf_28 : decode cX12_shelf 28 = .ok (.ifCond .eq 15, 3) := by decide +kernel
theorem dX12_shelf_31 : decode cX12_shelf 31 = .ok (.iload_n 2, 1) := by decide +kernel
theorem dX12_shelf_32 : decode cX12_shelf 32 = .ok (.iconst 1, 1) := by decide +kernel
theorem dX12_shelf_33 : decode cX12_shelf 33 = .ok (.if_icmp .ne 12, 3) := by decide +kernel
theorem dX12_shelf_36 : decode cX12_shelf 36 = .ok (.iload_n 3, 1) := by decide +kernel
theorem dX12_shelf_37 : decode cX12_shelf 37 = .ok (.invokestatic 263, 3) := by decide +kernel
theorem dX12_shelf_40 : decode cX12_shelf 40 = .ok (.ifCond .ne 5, 3) := by decide +kernel
theorem dX12_shelf_43 : decode cX12_shelf 43 = .ok (.iconst (-1), 1) := by decide +kernel
theorem dX12_shelf_44 : decode cX12_shelf 44 = .ok (.ireturn, 1) := by decide +kernel
theorem dX12_shelf_45 : decode cX12_shelf 45 = .ok (.iload_n 2, 1) := by decide +kernel
theorem dX12_shelf_46 : decode cX12_shelf 46 = .ok (.iconst 1, 1) := by decide +kernel
theorem dX12_shelf_47 : decode cX12_shelf 47 = .ok (.if_icmp .ne 16, 3) := by decide +kernel
theorem dX12_shelf_50 : decode cX12_shelf 50 = .ok (.aload_n 0, 1) := by decide +kernel
theorem dX12_shelf_51 : decode cX12_shelf 51 = .ok (.getfield 34, 3) := by decide +kernel
theorem dX12_shelf_54 : decode cX12_shelf 54 = .ok (.iload_n 3, 1) := by decide +kernel
theorem dX12_shelf_55 : decode cX12_shelf 55 = .ok (.iaload, 1) := by decide +kernel
theorem dX12_shelf_56 : decode cX12_shelf 56 = .ok (.ifCond .lt 7, 3) := by decide +kernel
theorem dX12_shelf_59 : decode cX12_shelf 59 = .ok (.iconst 1, 1) := by decide +kernel
theorem dX12_shelf_60 : decode cX12_shelf 60 = .ok (.goto 4, 3) := by decide +kernel
theorem dX12_shelf_63 : decode cX12_shelf 63 = .ok (.iconst 0, 1) := by decide +kernel
theorem dX12_shelf_64 : decode cX12_shelf 64 = .ok (.istore 4, 2) := by decide +kernel
theorem dX12_shelf_66 : decode cX12_shelf 66 = .ok (.aload_n 0, 1) := by decide +kernel
theorem dX12_shelf_67 : decode cX12_shelf 67 = .ok (.getfield 43, 3) := by decide +kernel
theorem dX12_shelf_70 : decode cX12_shelf 70 = .ok (.iload_n 1, 1) := by decide +kernel
theorem dX12_shelf_71 : decode cX12_shelf 71 = .ok (.iload_n 2, 1) := by decide +kernel
theorem dX12_shelf_72 : decode cX12_shelf 72 = .ok (.ifCond .ne 7, 3) := by decide +kernel
theorem dX12_shelf_75 : decode cX12_shelf 75 = .ok (.iconst 1, 1) := by decide +kernel
theorem dX12_shelf_76 : decode cX12_shelf 76 = .ok (.goto 13, 3) := by decide +kernel
theorem dX12_shelf_79 : decode cX12_shelf 79 = .ok (.iload 4, 2) := by decide +kernel
theorem dX12_shelf_81 : decode cX12_shelf 81 = .ok (.ifCond .eq 7, 3) := by decide +kernel
theorem dX12_shelf_84 : decode cX12_shelf 84 = .ok (.iconst 2, 1) := by decide +kernel
theorem dX12_shelf_85 : decode cX12_shelf 85 = .ok (.goto 4, 3) := by decide +kernel
theorem dX12_shelf_88 : decode cX12_shelf 88 = .ok (.iconst 0, 1) := by decide +kernel
theorem dX12_shelf_89 : decode cX12_shelf 89 = .ok (.iastore, 1) := by decide +kernel
theorem dX12_shelf_90 : decode cX12_shelf 90 = .ok (.aload_n 0, 1) := by decide +kernel
theorem dX12_shelf_91 : decode cX12_shelf 91 = .ok (.getfield 46, 3) := by decide +kernel
theorem dX12_shelf_94 : decode cX12_shelf 94 = .ok (.iload_n 1, 1) := by decide +kernel
theorem dX12_shelf_95 : decode cX12_shelf 95 = .ok (.iload_n 2, 1) := by decide +kernel
theorem dX12_shelf_96 : decode cX12_shelf 96 = .ok (.ifCond .ne 7, 3) := by decide +kernel
theorem dX12_shelf_99 : decode cX12_shelf 99 = .ok (.iload_n 3, 1) := by decide +kernel
theorem dX12_shelf_100 : decode cX12_shelf 100 = .ok (.goto 18, 3) := by decide +kernel
theorem dX12_shelf_103 : decode cX12_shelf 103 = .ok (.iload 4, 2) := by decide +kernel
theorem dX12_shelf_105 : decode cX12_shelf 105 = .ok (.ifCond .eq 12, 3) := by decide +kernel
theorem dX12_shelf_108 : decode cX12_shelf 108 = .ok (.aload_n 0, 1) := by decide +kernel
theorem dX12_shelf_109 : decode cX12_shelf 109 = .ok (.getfield 34, 3) := by decide +kernel
theorem dX12_shelf_112 : decode cX12_shelf 112 = .ok (.iload_n 3, 1) := by decide +kernel
theorem dX12_shelf_113 : decode cX12_shelf 113 = .ok (.iaload, 1) := by decide +kernel
theorem dX12_shelf_114 : decode cX12_shelf 114 = .ok (.goto 4, 3) := by decide +kernel
theorem dX12_shelf_117 : decode cX12_shelf 117 = .ok (.iconst 0, 1) := by decide +kernel
theorem dX12_shelf_118 : decode cX12_shelf 118 = .ok (.iastore, 1) := by decide +kernel
theorem dX12_shelf_119 : decode cX12_shelf 119 = .ok (.aload_n 0, 1) := by decide +kernel
theorem dX12_shelf_120 : decode cX12_shelf 120 = .ok (.getfield 49, 3) := by decide +kernel
theorem dX12_shelf_123 : decode cX12_shelf 123 = .ok (.iload_n 1, 1) := by decide +kernel
theorem dX12_shelf_124 : decode cX12_shelf 124 = .ok (.iload 4, 2) := by decide +kernel
theorem dX12_shelf_126 : decode cX12_shelf 126 = .ok (.ifCond .eq 12, 3) := by decide +kernel
theorem dX12_shelf_129 : decode cX12_shelf 129 = .ok (.aload_n 0, 1) := by decide +kernel
theorem dX12_shelf_130 : decode cX12_shelf 130 = .ok (.getfield 37, 3) := by decide +kernel
theorem dX12_shelf_133 : decode cX12_shelf 133 = .ok (.iload_n 3, 1) := by decide +kernel
theorem dX12_shelf_134 : decode cX12_shelf 134 = .ok (.iaload, 1) := by decide +kernel
theorem dX12_shelf_135 : decode cX12_shelf 135 = .ok (.goto 4, 3) := by decide +kernel
theorem dX12_shelf_138 : decode cX12_shelf 138 = .ok (.iconst 0, 1) := by decide +kernel
theorem dX12_shelf_139 : decode cX12_shelf 139 = .ok (.iastore, 1) := by decide +kernel
theorem dX12_shelf_140 : decode cX12_shelf 140 = .ok (.iconst 1, 1) := by decide +kernel
theorem dX12_shelf_141 : decode cX12_shelf 141 = .ok (.ireturn, 1) := by decide +kernel
set_option maxRecDepth 20000 in
theorem ggX12_heldOn_X12_isOne : GoodIn wsX12_heldOn wsX12_isOne := goodIn_r _ [7, 8, 9, 10, 11, 12, 13, 14, 15, 16, 17, 18, 19, 20, 21, 22, 23, 24, 25, 26, 27, 28, 29, 30, 31, 32, 33, 34, 35, 36] (by decide +kernel) (by decide +kernel)
set_option maxRecDepth 20000 in
theorem gX12_heldOn_X12_isOne : GoodIn wsX12_heldOn (wsV RX12 182 RX12 yX12_isOne wsX12_isOne) := goodIn_app (goodIn_of _ (by decide +kernel)) ggX12_heldOn_X12_isOne
theorem dX12_heldOn_0 : decode cX12_heldOn 0 = .ok (.aload_n 0, 1) := by decide +kernel
theorem dX12_heldOn_1 : decode cX12_heldOn 1 = .ok (.getfield 43, 3) := by decide +kernel
theorem dX12_heldOn_4 : decode cX12_heldOn 4 = .ok (.iload_n 1, 1) := by decide +kernel
theorem dX12_heldOn_5 : decode cX12_heldOn 5 = .ok (.iaload, 1) := by decide +kernel
theorem dX12_heldOn_6 : decode cX12_heldOn 6 = .ok (.iconst 1, 1) := by decide +kernel
theorem dX12_heldOn_7 : decode cX12_heldOn 7 = .ok (.if_icmp .ne 20, 3) := by decide +kernel
theorem dX12_heldOn_10 : decode cX12_heldOn 10 = .ok (.aload_n 0, 1) := by decide +kernel
theorem dX12_heldOn_11 : decode cX12_heldOn 11 = .ok (.aload_n 0, 1) := by decide +kernel
theorem dX12_heldOn_12 : decode cX12_heldOn 12 = .ok (.getfield 46, 3) := by decide +kernel
theorem dX12_heldOn_15 : decode cX12_heldOn 15 = .ok (.iload_n 1, 1) := by decide +kernel
theorem dX12_heldOn_16 : decode cX12_heldOn 16 = .ok (.iaload, 1) := by decide +kernel
theorem dX12_heldOn_17 : decode cX12_heldOn 17 = .ok (.invokevirtual 182, 3) := by decide +kernel
theorem dX12_heldOn_20 : decode cX12_heldOn 20 = .ok (.ifCond .ne 7, 3) := by decide +kernel
theorem dX12_heldOn_23 : decode cX12_heldOn 23 = .ok (.iconst 0, 1) := by decide +kernel
theorem dX12_heldOn_24 : decode cX12_heldOn 24 = .ok (.goto 9, 3) := by decide +kernel
theorem dX12_heldOn_27 : decode cX12_heldOn 27 = .ok (.aload_n 0, 1) := by decide +kernel
theorem dX12_heldOn_28 : decode cX12_heldOn 28 = .ok (.getfield 43, 3) := by decide +kernel
theorem dX12_heldOn_31 : decode cX12_heldOn 31 = .ok (.iload_n 1, 1) := by decide +kernel
theorem dX12_heldOn_32 : decode cX12_heldOn 32 = .ok (.iaload, 1) := by decide +kernel
theorem dX12_heldOn_33 : decode cX12_heldOn 33 = .ok (.ireturn, 1) := by decide +kernel
set_option maxRecDepth 20000 in
theorem ggX12_taken_X12_isShelf : GoodIn wsX12_taken wsX12_isShelf := goodIn_r _ [9, 10, 11, 12, 8, 13] (by decide +kernel) (by decide +kernel)
set_option maxRecDepth 20000 in
theorem gX12_taken_X12_isShelf : GoodIn wsX12_taken (va_wsS RX12 289 yX12_isShelf wsX12_isShelf) := goodIn_app (goodIn_of _ (by decide +kernel)) ggX12_taken_X12_isShelf
set_option maxRecDepth 20000 in
theorem ggX12_taken_X12_isIn : GoodIn wsX12_taken wsX12_isIn := goodIn_r _ [13] (by decide +kernel) (by decide +kernel)
set_option maxRecDepth 20000 in
theorem gX12_taken_X12_isIn : GoodIn wsX12_taken (va_wsS RX12 60 yX12_isIn wsX12_isIn) := goodIn_app (goodIn_of _ (by decide +kernel)) ggX12_taken_X12_isIn
set_option maxRecDepth 20000 in
theorem ggX12_taken_X12_heldOn : GoodIn wsX12_taken wsX12_heldOn := goodIn_r _ [17, 18, 4, 19, 20, 21, 8, 22, 23, 31, 32, 33, 34, 35, 36, 37, 38, 39, 40, 41, 42, 43, 44, 45, 46, 47, 48, 49, 50, 51, 52, 53, 54, 55, 56, 57, 58] (by decide +kernel) (by decide +kernel)
set_option maxRecDepth 20000 in
theorem gX12_taken_X12_heldOn : GoodIn wsX12_taken (wsV RX12 296 RX12 yX12_heldOn wsX12_heldOn) := goodIn_app (goodIn_of _ (by decide +kernel)) ggX12_taken_X12_heldOn
set_option maxRecDepth 20000 in
theorem ggX12_taken_X12_its : GoodIn wsX12_taken wsX12_its := goodIn_r _ [27, 23, 31, 32, 33, 34, 35, 36, 37, 38, 39, 40, 41, 42, 43, 44, 45, 46, 47, 48, 49, 50, 51, 52, 53, 54, 55, 56, 57, 58] (by decide +kernel) (by decide +kernel)
set_option maxRecDepth 20000 in
theorem gX12_taken_X12_its : GoodIn wsX12_taken (wsV RX12 176 RX12 yX12_its wsX12_its) := goodIn_app (goodIn_of _ (by decide +kernel)) ggX12_taken_X12_its
set_option maxRecDepth 20000 in
theorem ggX12_taken_X12_isUnder : GoodIn wsX12_taken wsX12_isUnder := goodIn_r _ [30] (by decide +kernel) (by decide +kernel)
set_option maxRecDepth 20000 in
theorem gX12_taken_X12_isUnder : GoodIn wsX12_taken (va_wsS RX12 299 yX12_isUnder wsX12_isUnder) := goodIn_app (goodIn_of _ (by decide +kernel)) ggX12_taken_X12_isUnder
theorem dX12_taken_0 : decode cX12_taken 0 = .ok (.iload_n 1, 1) := by decide +kernel
theorem dX12_taken_1 : decode cX12_taken 1 = .ok (.invokestatic 289, 3) := by decide +kernel
theorem dX12_taken_4 : decode cX12_taken 4 = .ok (.ifCond .eq 29, 3) := by decide +kernel
theorem dX12_taken_7 : decode cX12_taken 7 = .ok (.iload_n 2, 1) := by decide +kernel
theorem dX12_taken_8 : decode cX12_taken 8 = .ok (.i2l, 1) := by decide +kernel
theorem dX12_taken_9 : decode cX12_taken 9 = .ok (.lconst 0, 1) := by decide +kernel
theorem dX12_taken_10 : decode cX12_taken 10 = .ok (.ldc2_w 292, 3) := by decide +kernel
theorem dX12_taken_13 : decode cX12_taken 13 = .ok (.invokestatic 60, 3) := by decide +kernel
theorem dX12_taken_16 : decode cX12_taken 16 = .ok (.ifCond .eq 17, 3) := by decide +kernel
theorem dX12_taken_19 : decode cX12_taken 19 = .ok (.iload_n 2, 1) := by decide +kernel
theorem dX12_taken_20 : decode cX12_taken 20 = .ok (.i2l, 1) := by decide +kernel
theorem dX12_taken_21 : decode cX12_taken 21 = .ok (.ldc2_w 294, 3) := by decide +kernel
theorem dX12_taken_24 : decode cX12_taken 24 = .ok (.ldc2_w 165, 3) := by decide +kernel
theorem dX12_taken_27 : decode cX12_taken 27 = .ok (.invokestatic 60, 3) := by decide +kernel
theorem dX12_taken_30 : decode cX12_taken 30 = .ok (.ifCond .eq 5, 3) := by decide +kernel
theorem dX12_taken_33 : decode cX12_taken 33 = .ok (.iconst (-1), 1) := by decide +kernel
theorem dX12_taken_34 : decode cX12_taken 34 = .ok (.ireturn, 1) := by decide +kernel
theorem dX12_taken_35 : decode cX12_taken 35 = .ok (.aload_n 0, 1) := by decide +kernel
theorem dX12_taken_36 : decode cX12_taken 36 = .ok (.iload_n 1, 1) := by decide +kernel
theorem dX12_taken_37 : decode cX12_taken 37 = .ok (.invokevirtual 296, 3) := by decide +kernel
theorem dX12_taken_40 : decode cX12_taken 40 = .ok (.istore_n 3, 1) := by decide +kernel
theorem dX12_taken_41 : decode cX12_taken 41 = .ok (.iload_n 3, 1) := by decide +kernel
theorem dX12_taken_42 : decode cX12_taken 42 = .ok (.ifCond .ne 6, 3) := by decide +kernel
theorem dX12_taken_45 : decode cX12_taken 45 = .ok (.bipush (-11), 2) := by decide +kernel
theorem dX12_taken_47 : decode cX12_taken 47 = .ok (.ireturn, 1) := by decide +kernel
theorem dX12_taken_48 : decode cX12_taken 48 = .ok (.iload_n 2, 1) := by decide +kernel
theorem dX12_taken_49 : decode cX12_taken 49 = .ok (.bipush 10, 2) := by decide +kernel
theorem dX12_taken_51 : decode cX12_taken 51 = .ok (.if_icmp .ge 38, 3) := by decide +kernel
theorem dX12_taken_54 : decode cX12_taken 54 = .ok (.iload_n 3, 1) := by decide +kernel
theorem dX12_taken_55 : decode cX12_taken 55 = .ok (.iconst 1, 1) := by decide +kernel
theorem dX12_taken_56 : decode cX12_taken 56 = .ok (.if_icmp .ne 30, 3) := by decide +kernel
theorem dX12_taken_59 : decode cX12_taken 59 = .ok (.aload_n 0, 1) := by decide +kernel
theorem dX12_taken_60 : decode cX12_taken 60 = .ok (.aload_n 0, 1) := by decide +kernel
theorem dX12_taken_61 : decode cX12_taken 61 = .ok (.getfield 46, 3) := by decide +kernel
theorem dX12_taken_64 : decode cX12_taken 64 = .ok (.iload_n 1, 1) := by decide +kernel
theorem dX12_taken_65 : decode cX12_taken 65 = .ok (.iaload, 1) := by decide +kernel
theorem dX12_taken_66 : decode cX12_taken 66 = .ok (.iconst 0, 1) := by decide +kernel
theorem dX12_taken_67 : decode cX12_taken 67 = .ok (.invokevirtual 176, 3) := by decide +kernel
theorem dX12_taken_70 : decode cX12_taken 70 = .ok (.iload_n 2, 1) := by decide +kernel
theorem dX12_taken_71 : decode cX12_taken 71 = .ok (.invokestatic 299, 3) := by decide +kernel
theorem dX12_taken_74 : decode cX12_taken 74 = .ok (.ifCond .eq 12, 3) := by decide +kernel
theorem dX12_taken_77 : decode cX12_taken 77 = .ok (.aload_n 0, 1) := by decide +kernel
theorem dX12_taken_78 : decode cX12_taken 78 = .ok (.getfield 46, 3) := by decide +kernel
theorem dX12_taken_81 : decode cX12_taken 81 = .ok (.iload_n 1, 1) := by decide +kernel
theorem dX12_taken_82 : decode cX12_taken 82 = .ok (.iaload, 1) := by decide +kernel
theorem dX12_taken_83 : decode cX12_taken 83 = .ok (.goto 5, 3) := by decide +kernel
theorem dX12_taken_86 : decode cX12_taken 86 = .ok (.bipush (-13), 2) := by decide +kernel
theorem dX12_taken_88 : decode cX12_taken 88 = .ok (.ireturn, 1) := by decide +kernel
theorem dX12_taken_89 : decode cX12_taken 89 = .ok (.iload_n 3, 1) := by decide +kernel
theorem dX12_taken_90 : decode cX12_taken 90 = .ok (.iconst 2, 1) := by decide +kernel
theorem dX12_taken_91 : decode cX12_taken 91 = .ok (.if_icmp .ne 25, 3) := by decide +kernel
theorem dX12_taken_94 : decode cX12_taken 94 = .ok (.aload_n 0, 1) := by decide +kernel
theorem dX12_taken_95 : decode cX12_taken 95 = .ok (.getfield 46, 3) := by decide +kernel
theorem dX12_taken_98 : decode cX12_taken 98 = .ok (.iload_n 1, 1) := by decide +kernel
theorem dX12_taken_99 : decode cX12_taken 99 = .ok (.iaload, 1) := by decide +kernel
theorem dX12_taken_100 : decode cX12_taken 100 = .ok (.iload_n 2, 1) := by decide +kernel
theorem dX12_taken_101 : decode cX12_taken 101 = .ok (.bipush 10, 2) := by decide +kernel
theorem dX12_taken_103 : decode cX12_taken 103 = .ok (.isub, 1) := by decide +kernel
theorem dX12_taken_104 : decode cX12_taken 104 = .ok (.if_icmp .ne 12, 3) := by decide +kernel
theorem dX12_taken_107 : decode cX12_taken 107 = .ok (.aload_n 0, 1) := by decide +kernel
theorem dX12_taken_108 : decode cX12_taken 108 = .ok (.getfield 49, 3) := by decide +kernel
theorem dX12_taken_111 : decode cX12_taken 111 = .ok (.iload_n 1, 1) := by decide +kernel
theorem dX12_taken_112 : decode cX12_taken 112 = .ok (.iaload, 1) := by decide +kernel
theorem dX12_taken_113 : decode cX12_taken 113 = .ok (.goto 5, 3) := by decide +kernel
theorem dX12_taken_116 : decode cX12_taken 116 = .ok (.bipush (-13), 2) := by decide +kernel
theorem dX12_taken_118 : decode cX12_taken 118 = .ok (.ireturn, 1) := by decide +kernel
theorem dX12_runs_0 : decode cX12_runs 0 = .ok (.aload_n 0, 1) := by decide +kernel
theorem dX12_runs_1 : decode cX12_runs 1 = .ok (.getfield 302, 3) := by decide +kernel
theorem dX12_runs_4 : decode cX12_runs 4 = .ok (.bipush 30, 2) := by decide +kernel
theorem dX12_runs_6 : decode cX12_runs 6 = .ok (.if_icmp .ge 23, 3) := by decide +kernel
theorem dX12_runs_9 : decode cX12_runs 9 = .ok (.aload_n 0, 1) := by decide +kernel
theorem dX12_runs_10 : decode cX12_runs 10 = .ok (.getfield 52, 3) := by decide +kernel
theorem dX12_runs_13 : decode cX12_runs 13 = .ok (.aload_n 0, 1) := by decide +kernel
theorem dX12_runs_14 : decode cX12_runs 14 = .ok (.getfield 302, 3) := by decide +kernel
theorem dX12_runs_17 : decode cX12_runs 17 = .ok (.iload_n 1, 1) := by decide +kernel
theorem dX12_runs_18 : decode cX12_runs 18 = .ok (.iastore, 1) := by decide +kernel
theorem dX12_runs_19 : decode cX12_runs 19 = .ok (.aload_n 0, 1) := by decide +kernel
theorem dX12_runs_20 : decode cX12_runs 20 = .ok (.dup, 1) := by decide +kernel
theorem dX12_runs_21 : decode cX12_runs 21 = .ok (.getfield 302, 3) := by decide +kernel
theorem dX12_runs_24 : decode cX12_runs 24 = .ok (.iconst 1, 1) := by decide +kernel
theorem dX12_runs_25 : decode cX12_runs 25 = .ok (.iadd, 1) := by decide +kernel
theorem dX12_runs_26 : decode cX12_runs 26 = .ok (.putfield 302, 3) := by decide +kernel
theorem dX12_runs_29 : decode cX12_runs 29 = .ok (.return_, 1) := by decide +kernel
set_option maxRecDepth 20000 in
theorem ggX12_kicksPlain_X12_runs : GoodIn wsX12_kicksPlain wsX12_runs := goodIn_r _ [6, 7, 8, 9, 10, 11, 12, 13, 14, 15, 16, 17, 18, 19, 20, 21, 22, 23, 24, 25, 26, 27, 28, 29, 30, 31, 32, 33, 34, 35, 36] (by decide +kernel) (by decide +kernel)
set_option maxRecDepth 20000 in
theorem gX12_kicksPlain_X12_runs : GoodIn wsX12_kicksPlain (wsV RX12 305 RX12 yX12_runs wsX12_runs) := goodIn_app (goodIn_of _ (by decide +kernel)) ggX12_kicksPlain_X12_runs
theorem dX12_kicksPlain_0 : decode cX12_kicksPlain 0 = .ok (.aload_n 0, 1) := by decide +kernel
theorem dX12_kicksPlain_1 : decode cX12_kicksPlain 1 = .ok (.bipush 10, 2) := by decide +kernel
theorem dX12_kicksPlain_3 : decode cX12_kicksPlain 3 = .ok (.invokevirtual 305, 3) := by decide +kernel
theorem dX12_kicksPlain_6 : decode cX12_kicksPlain 6 = .ok (.iload_n 1, 1) := by decide +kernel
theorem dX12_kicksPlain_7 : decode cX12_kicksPlain 7 = .ok (.bipush 9, 2) := by decide +kernel
theorem dX12_kicksPlain_9 : decode cX12_kicksPlain 9 = .ok (.imul, 1) := by decide +kernel
theorem dX12_kicksPlain_10 : decode cX12_kicksPlain 10 = .ok (.aload_n 0, 1) := by decide +kernel
theorem dX12_kicksPlain_11 : decode cX12_kicksPlain 11 = .ok (.getfield 308, 3) := by decide +kernel
theorem dX12_kicksPlain_14 : decode cX12_kicksPlain 14 = .ok (.isub, 1) := by decide +kernel
theorem dX12_kicksPlain_15 : decode cX12_kicksPlain 15 = .ok (.ireturn, 1) := by decide +kernel
set_option maxRecDepth 20000 in
theorem ggX12_kicksOfUrchin_X12_runs : GoodIn wsX12_kicksOfUrchin wsX12_runs := goodIn_r _ [5, 6, 7, 13, 14, 15, 16, 17, 18, 19, 20, 21, 22, 23, 24, 25, 26, 27, 28, 29, 30, 31, 32, 33, 34, 35, 36, 37, 38, 39, 40] (by decide +kernel) (by decide +kernel)
set_option maxRecDepth 20000 in
theorem gX12_kicksOfUrchin_X12_runs : GoodIn wsX12_kicksOfUrchin (wsV RX12 305 RX12 yX12_runs wsX12_runs) := goodIn_app (goodIn_of _ (by decide +kernel)) ggX12_kicksOfUrchin_X12_runs
set_option maxRecDepth 20000 in
theorem ggX12_kicksOfUrchin_X12_kicksPlain : GoodIn wsX12_kicksOfUrchin wsX12_kicksPlain := goodIn_r _ [11, 12, 1, 2, 3, 4, 5, 6, 7, 13, 14, 15, 16, 17, 18, 19, 20, 21, 22, 23, 24, 25, 26, 27, 28, 29, 30, 31, 32, 33, 34, 35, 36, 37, 38, 39, 40] (by decide +kernel) (by decide +kernel)
set_option maxRecDepth 20000 in
theorem gX12_kicksOfUrchin_X12_kicksPlain : GoodIn wsX12_kicksOfUrchin (wsV RX12 311 RX12 yX12_kicksPlain wsX12_kicksPlain) := goodIn_app (goodIn_of _ (by decide +kernel)) ggX12_kicksOfUrchin_X12_kicksPlain
theorem dX12_kicksOfUrchin_0 : decode cX12_kicksOfUrchin 0 = .ok (.aload_n 0, 1) := by decide +kernel
theorem dX12_kicksOfUrchin_1 : decode cX12_kicksOfUrchin 1 = .ok (.bipush 30, 2) := by decide +kernel
theorem dX12_kicksOfUrchin_3 : decode cX12_kicksOfUrchin 3 = .ok (.invokevirtual 305, 3) := by decide +kernel
theorem dX12_kicksOfUrchin_6 : decode cX12_kicksOfUrchin 6 = .ok (.iconst 0, 1) := by decide +kernel
theorem dX12_kicksOfUrchin_7 : decode cX12_kicksOfUrchin 7 = .ok (.aload_n 0, 1) := by decide +kernel
theorem dX12_kicksOfUrchin_8 : decode cX12_kicksOfUrchin 8 = .ok (.iload_n 1, 1) := by decide +kernel
theorem dX12_kicksOfUrchin_9 : decode cX12_kicksOfUrchin 9 = .ok (.invokevirtual 311, 3) := by decide +kernel
theorem dX12_kicksOfUrchin_12 : decode cX12_kicksOfUrchin 12 = .ok (.isub, 1) := by decide +kernel
theorem dX12_kicksOfUrchin_13 : decode cX12_kicksOfUrchin 13 = .ok (.ireturn, 1) := by decide +kernel
set_option maxRecDepth 20000 in
theorem ggX12_kicks_X12_kicksOfUrchin : GoodIn wsX12_kicks wsX12_kicksOfUrchin := goodIn_r _ [7, 8, 9, 10, 6, 11, 12, 13, 14, 15, 16, 17, 18, 19, 20, 21, 22, 23, 24, 25, 26, 27, 28, 29, 30, 31, 32, 33, 34, 35, 36, 37, 38, 39, 40, 41, 42, 43, 44, 45, 46] (by decide +kernel) (by decide +kernel)
set_option maxRecDepth 20000 in
theorem gX12_kicks_X12_kicksOfUrchin : GoodIn wsX12_kicks (wsV RX12 317 RX12 yX12_kicksOfUrchin wsX12_kicksOfUrchin) := goodIn_app (goodIn_of _ (by decide +kernel)) ggX12_kicks_X12_kicksOfUrchin
set_option maxRecDepth 20000 in
theorem ggX12_kicks_X12_runs : GoodIn wsX12_kicks wsX12_runs := goodIn_r _ [11, 12, 13, 19, 20, 21, 22, 23, 24, 25, 26, 27, 28, 29, 30, 31, 32, 33, 34, 35, 36, 37, 38, 39, 40, 41, 42, 43, 44, 45, 46] (by decide +kernel) (by decide +kernel)
set_option maxRecDepth 20000 in
theorem gX12_kicks_X12_runs : GoodIn wsX12_kicks (wsV RX12 305 RX12 yX12_runs wsX12_runs) := goodIn_app (goodIn_of _ (by decide +kernel)) ggX12_kicks_X12_runs
set_option maxRecDepth 20000 in
theorem ggX12_kicks_X12_kicksPlain : GoodIn wsX12_kicks wsX12_kicksPlain := goodIn_r _ [17, 18, 8, 9, 10, 6, 11, 12, 13, 19, 20, 21, 22, 23, 24, 25, 26, 27, 28, 29, 30, 31, 32, 33, 34, 35, 36, 37, 38, 39, 40, 41, 42, 43, 44, 45, 46] (by decide +kernel) (by decide +kernel)
set_option maxRecDepth 20000 in
theorem gX12_kicks_X12_kicksPlain : GoodIn wsX12_kicks (wsV RX12 311 RX12 yX12_kicksPlain wsX12_kicksPlain) := goodIn_app (goodIn_of _ (by decide +kernel)) ggX12_kicks_X12_kicksPlain
theorem dX12_kicks_0 : decode cX12_kicks 0 = .ok (.aload_n 0, 1) := by decide +kernel
theorem dX12_kicks_1 : decode cX12_kicks 1 = .ok (.getfield 314, 3) := by decide +kernel
theorem dX12_kicks_4 : decode cX12_kicks 4 = .ok (.tableswitch 66 2 4 #[28, 49, 34], 28) := by decide +kernel
theorem dX12_kicks_32 : decode cX12_kicks 32 = .ok (.aload_n 0, 1) := by decide +kernel
theorem dX12_kicks_33 : decode cX12_kicks 33 = .ok (.iload_n 1, 1) := by decide +kernel
theorem dX12_kicks_34 : decode cX12_kicks 34 = .ok (.invokevirtual 317, 3) := by decide +kernel
theorem dX12_kicks_37 : decode cX12_kicks 37 = .ok (.ireturn, 1) := by decide +kernel
theorem dX12_kicks_38 : decode cX12_kicks 38 = .ok (.aload_n 0, 1) := by decide +kernel
theorem dX12_kicks_39 : decode cX12_kicks 39 = .ok (.bipush 40, 2) := by decide +kernel
theorem dX12_kicks_41 : decode cX12_kicks 41 = .ok (.invokevirtual 305, 3) := by decide +kernel
theorem dX12_kicks_44 : decode cX12_kicks 44 = .ok (.aload_n 0, 1) := by decide +kernel
theorem dX12_kicks_45 : decode cX12_kicks 45 = .ok (.iload_n 1, 1) := by decide +kernel
theorem dX12_kicks_46 : decode cX12_kicks 46 = .ok (.invokevirtual 317, 3) := by decide +kernel
theorem dX12_kicks_49 : decode cX12_kicks 49 = .ok (.bipush 6, 2) := by decide +kernel
theorem dX12_kicks_51 : decode cX12_kicks 51 = .ok (.ixor, 1) := by decide +kernel
theorem dX12_kicks_52 : decode cX12_kicks 52 = .ok (.ireturn, 1) := by decide +kernel
theorem dX12_kicks_53 : decode cX12_kicks 53 = .ok (.aload_n 0, 1) := by decide +kernel
theorem dX12_kicks_54 : decode cX12_kicks 54 = .ok (.bipush 51, 2) := by decide +kernel
theorem dX12_kicks_56 : decode cX12_kicks 56 = .ok (.invokevirtual 305, 3) := by decide +kernel
theorem dX12_kicks_59 : decode cX12_kicks 59 = .ok (.aload_n 0, 1) := by decide +kernel
theorem dX12_kicks_60 : decode cX12_kicks 60 = .ok (.iload_n 1, 1) := by decide +kernel
theorem dX12_kicks_61 : decode cX12_kicks 61 = .ok (.invokevirtual 311, 3) := by decide +kernel
theorem dX12_kicks_64 : decode cX12_kicks 64 = .ok (.aload_n 0, 1) := by decide +kernel
theorem dX12_kicks_65 : decode cX12_kicks 65 = .ok (.getfield 320, 3) := by decide +kernel
theorem dX12_kicks_68 : decode cX12_kicks 68 = .ok (.iadd, 1) := by decide +kernel
theorem dX12_kicks_69 : decode cX12_kicks 69 = .ok (.ireturn, 1) := by decide +kernel
theorem dX12_kicks_70 : decode cX12_kicks 70 = .ok (.aload_n 0, 1) := by decide +kernel
theorem dX12_kicks_71 : decode cX12_kicks 71 = .ok (.iload_n 1, 1) := by decide +kernel
theorem dX12_kicks_72 : decode cX12_kicks 72 = .ok (.invokevirtual 311, 3) := by decide +kernel
theorem dX12_kicks_75 : decode cX12_kicks 75 = .ok (.ireturn, 1) := by decide +kernel
set_option maxRecDepth 20000 in
theorem ggX12_praysPlain_X12_runs : GoodIn wsX12_praysPlain wsX12_runs := goodIn_r _ [6, 7, 8, 23, 24, 25, 26, 27, 28, 29, 30, 31, 32, 33, 34, 35, 36, 37, 38, 39, 40, 41, 42, 43, 44, 45, 46, 47, 48, 49, 50] (by decide +kernel) (by decide +kernel)
set_option maxRecDepth 20000 in
theorem gX12_praysPlain_X12_runs : GoodIn wsX12_praysPlain (wsV RX12 305 RX12 yX12_runs wsX12_runs) := goodIn_app (goodIn_of _ (by decide +kernel)) ggX12_praysPlain_X12_runs
set_option maxRecDepth 20000 in
theorem ggX12_praysPlain_X12_kicks : GoodIn wsX12_praysPlain wsX12_kicks := goodIn_r _ [12, 13, 1, 14, 15, 16, 5, 17, 2, 3, 4, 6, 7, 8, 18, 19, 20, 21, 22, 23, 24, 25, 26, 27, 28, 29, 30, 31, 32, 33, 34, 35, 36, 37, 38, 39, 40, 41, 42, 43, 44, 45, 46, 47, 48, 49, 50] (by decide +kernel) (by decide +kernel)
set_option maxRecDepth 20000 in
theorem gX12_praysPlain_X12_kicks : GoodIn wsX12_praysPlain (wsV RX12 323 RX12 yX12_kicks wsX12_kicks) := goodIn_app (goodIn_of _ (by decide +kernel)) ggX12_praysPlain_X12_kicks
theorem dX12_praysPlain_0 : decode cX12_praysPlain 0 = .ok (.aload_n 0, 1) := by decide +kernel
theorem dX12_praysPlain_1 : decode cX12_praysPlain 1 = .ok (.bipush 11, 2) := by decide +kernel
theorem dX12_praysPlain_3 : decode cX12_praysPlain 3 = .ok (.invokevirtual 305, 3) := by decide +kernel
theorem dX12_praysPlain_6 : decode cX12_praysPlain 6 = .ok (.aload_n 0, 1) := by decide +kernel
theorem dX12_praysPlain_7 : decode cX12_praysPlain 7 = .ok (.iload_n 1, 1) := by decide +kernel
theorem dX12_praysPlain_8 : decode cX12_praysPlain 8 = .ok (.invokevirtual 323, 3) := by decide +kernel
theorem dX12_praysPlain_11 : decode cX12_praysPlain 11 = .ok (.aload_n 0, 1) := by decide +kernel
theorem dX12_praysPlain_12 : decode cX12_praysPlain 12 = .ok (.getfield 320, 3) := by decide +kernel
theorem dX12_praysPlain_15 : decode cX12_praysPlain 15 = .ok (.iconst 2, 1) := by decide +kernel
theorem dX12_praysPlain_16 : decode cX12_praysPlain 16 = .ok (.imul, 1) := by decide +kernel
theorem dX12_praysPlain_17 : decode cX12_praysPlain 17 = .ok (.isub, 1) := by decide +kernel
theorem dX12_praysPlain_18 : decode cX12_praysPlain 18 = .ok (.ireturn, 1) := by decide +kernel
set_option maxRecDepth 20000 in
theorem ggX12_prays_X12_runs : GoodIn wsX12_prays wsX12_runs := goodIn_r _ [7, 8, 9, 27, 28, 29, 30, 31, 32, 33, 34, 35, 36, 37, 38, 39, 40, 41, 42, 43, 44, 45, 46, 47, 48, 49, 50, 51, 52, 53, 54] (by decide +kernel) (by decide +kernel)
set_option maxRecDepth 20000 in
theorem gX12_prays_X12_runs : GoodIn wsX12_prays (wsV RX12 305 RX12 yX12_runs wsX12_runs) := goodIn_app (goodIn_of _ (by decide +kernel)) ggX12_prays_X12_runs
set_option maxRecDepth 20000 in
theorem ggX12_prays_X12_praysPlain : GoodIn wsX12_prays wsX12_praysPlain := goodIn_r _ [13, 2, 3, 4, 5, 6, 7, 8, 9, 14, 15, 16, 17, 1, 18, 19, 20, 21, 22, 23, 24, 25, 26, 27, 28, 29, 30, 31, 32, 33, 34, 35, 36, 37, 38, 39, 40, 41, 42, 43, 44, 45, 46, 47, 48, 49, 50, 51, 52, 53, 54] (by decide +kernel) (by decide +kernel)
set_option maxRecDepth 20000 in
theorem gX12_prays_X12_praysPlain : GoodIn wsX12_prays (wsV RX12 326 RX12 yX12_praysPlain wsX12_praysPlain) := goodIn_app (goodIn_of _ (by decide +kernel)) ggX12_prays_X12_praysPlain
set_option maxRecDepth 20000 in
theorem ggX12_prays_X12_kicks : GoodIn wsX12_prays wsX12_kicks := goodIn_r _ [17, 1, 2, 18, 19, 20, 6, 21, 3, 4, 5, 7, 8, 9, 22, 23, 24, 25, 26, 27, 28, 29, 30, 31, 32, 33, 34, 35, 36, 37, 38, 39, 40, 41, 42, 43, 44, 45, 46, 47, 48, 49, 50, 51, 52, 53, 54] (by decide +kernel) (by decide +kernel)
set_option maxRecDepth 20000 in
theorem gX12_prays_X12_kicks : GoodIn wsX12_prays (wsV RX12 323 RX12 yX12_kicks wsX12_kicks) := goodIn_app (goodIn_of _ (by decide +kernel)) ggX12_prays_X12_kicks
theorem dX12_prays_0 : decode cX12_prays 0 = .ok (.aload_n 0, 1) := by decide +kernel
theorem dX12_prays_1 : decode cX12_prays 1 = .ok (.getfield 314, 3) := by decide +kernel
theorem dX12_prays_4 : decode cX12_prays 4 = .ok (.iconst 1, 1) := by decide +kernel
theorem dX12_prays_5 : decode cX12_prays 5 = .ok (.if_icmp .eq 11, 3) := by decide +kernel
theorem dX12_prays_8 : decode cX12_prays 8 = .ok (.aload_n 0, 1) := by decide +kernel
theorem dX12_prays_9 : decode cX12_prays 9 = .ok (.getfield 314, 3) := by decide +kernel
theorem dX12_prays_12 : decode cX12_prays 12 = .ok (.iconst 3, 1) := by decide +kernel
theorem dX12_prays_13 : decode cX12_prays 13 = .ok (.if_icmp .ne 17, 3) := by decide +kernel
theorem dX12_prays_16 : decode cX12_prays 16 = .ok (.aload_n 0, 1) := by decide +kernel
theorem dX12_prays_17 : decode cX12_prays 17 = .ok (.bipush 20, 2) := by decide +kernel
theorem dX12_prays_19 : decode cX12_prays 19 = .ok (.invokevirtual 305, 3) := by decide +kernel
theorem dX12_prays_22 : decode cX12_prays 22 = .ok (.aload_n 0, 1) := by decide +kernel
theorem dX12_prays_23 : decode cX12_prays 23 = .ok (.iload_n 1, 1) := by decide +kernel
theorem dX12_prays_24 : decode cX12_prays 24 = .ok (.invokevirtual 326, 3) := by decide +kernel
theorem dX12_prays_27 : decode cX12_prays 27 = .ok (.iconst 3, 1) := by decide +kernel
theorem dX12_prays_28 : decode cX12_prays 28 = .ok (.iadd, 1) := by decide +kernel
theorem dX12_prays_29 : decode cX12_prays 29 = .ok (.ireturn, 1) := by decide +kernel
theorem dX12_prays_30 : decode cX12_prays 30 = .ok (.aload_n 0, 1) := by decide +kernel
theorem dX12_prays_31 : decode cX12_prays 31 = .ok (.getfield 314, 3) := by decide +kernel
theorem dX12_prays_34 : decode cX12_prays 34 = .ok (.iconst 4, 1) := by decide +kernel
theorem dX12_prays_35 : decode cX12_prays 35 = .ok (.if_icmp .ne 26, 3) := by decide +kernel
theorem dX12_prays_38 : decode cX12_prays 38 = .ok (.aload_n 0, 1) := by decide +kernel
theorem dX12_prays_39 : decode cX12_prays 39 = .ok (.bipush 41, 2) := by decide +kernel
theorem dX12_prays_41 : decode cX12_prays 41 = .ok (.invokevirtual 305, 3) := by decide +kernel
theorem dX12_prays_44 : decode cX12_prays 44 = .ok (.aload_n 0, 1) := by decide +kernel
theorem dX12_prays_45 : decode cX12_prays 45 = .ok (.iload_n 1, 1) := by decide +kernel
theorem dX12_prays_46 : decode cX12_prays 46 = .ok (.invokevirtual 326, 3) := by decide +kernel
theorem dX12_prays_49 : decode cX12_prays 49 = .ok (.istore_n 2, 1) := by decide +kernel
theorem dX12_prays_50 : decode cX12_prays 50 = .ok (.iload_n 2, 1) := by decide +kernel
theorem dX12_prays_51 : decode cX12_prays 51 = .ok (.aload_n 0, 1) := by decide +kernel
theorem dX12_prays_52 : decode cX12_prays 52 = .ok (.aload_n 0, 1) := by decide +kernel
theorem dX12_prays_53 : decode cX12_prays 53 = .ok (.getfield 320, 3) := by decide +kernel
theorem dX12_prays_56 : decode cX12_prays 56 = .ok (.invokevirtual 323, 3) := by decide +kernel
theorem dX12_prays_59 : decode cX12_prays 59 = .ok (.isub, 1) := by decide +kernel
theorem dX12_prays_60 : decode cX12_prays 60 = .ok (.ireturn, 1) := by decide +kernel
theorem dX12_prays_61 : decode cX12_prays 61 = .ok (.aload_n 0, 1) := by decide +kernel
theorem dX12_prays_62 : decode cX12_prays 62 = .ok (.iload_n 1, 1) := by decide +kernel
theorem dX12_prays_63 : decode cX12_prays 63 = .ok (.invokevirtual 326, 3) := by decide +kernel
theorem dX12_prays_66 : decode cX12_prays 66 = .ok (.ireturn, 1) := by decide +kernel
set_option maxRecDepth 20000 in
theorem ggX12_partsPlain_X12_runs : GoodIn wsX12_partsPlain wsX12_runs := goodIn_r _ [8, 9, 10, 11, 12, 13, 14, 15, 16, 17, 18, 19, 20, 21, 22, 23, 24, 25, 26, 27, 28, 29, 30, 31, 32, 33, 34, 35, 36, 37, 38] (by decide +kernel) (by decide +kernel)
set_option maxRecDepth 20000 in
theorem gX12_partsPlain_X12_runs : GoodIn wsX12_partsPlain (wsV RX12 305 RX12 yX12_runs wsX12_runs) := goodIn_app (goodIn_of _ (by decide +kernel)) ggX12_partsPlain_X12_runs
theorem dX12_partsPlain_0 : decode cX12_partsPlain 0 = .ok (.aload_n 0, 1) := by decide +kernel
theorem dX12_partsPlain_1 : decode cX12_partsPlain 1 = .ok (.bipush 12, 2) := by decide +kernel
theorem dX12_partsPlain_3 : decode cX12_partsPlain 3 = .ok (.invokevirtual 305, 3) := by decide +kernel
theorem dX12_partsPlain_6 : decode cX12_partsPlain 6 = .ok (.aload_n 0, 1) := by decide +kernel
theorem dX12_partsPlain_7 : decode cX12_partsPlain 7 = .ok (.aload_n 0, 1) := by decide +kernel
theorem dX12_partsPlain_8 : decode cX12_partsPlain 8 = .ok (.getfield 329, 3) := by decide +kernel
theorem dX12_partsPlain_11 : decode cX12_partsPlain 11 = .ok (.ifCond .ne 14, 3) := by decide +kernel
theorem dX12_partsPlain_14 : decode cX12_partsPlain 14 = .ok (.aload_n 0, 1) := by decide +kernel
theorem dX12_partsPlain_15 : decode cX12_partsPlain 15 = .ok (.getfield 308, 3) := by decide +kernel
theorem dX12_partsPlain_18 : decode cX12_partsPlain 18 = .ok (.aload_n 0, 1) := by decide +kernel
theorem dX12_partsPlain_19 : decode cX12_partsPlain 19 = .ok (.getfield 320, 3) := by decide +kernel
theorem dX12_partsPlain_22 : decode cX12_partsPlain 22 = .ok (.if_icmp .ne 7, 3) := by decide +kernel
theorem dX12_partsPlain_25 : decode cX12_partsPlain 25 = .ok (.iconst 1, 1) := by decide +kernel
theorem dX12_partsPlain_26 : decode cX12_partsPlain 26 = .ok (.goto 4, 3) := by decide +kernel
theorem dX12_partsPlain_29 : decode cX12_partsPlain 29 = .ok (.iconst 0, 1) := by decide +kernel
theorem dX12_partsPlain_30 : decode cX12_partsPlain 30 = .ok (.putfield 329, 3) := by decide +kernel
theorem dX12_partsPlain_33 : decode cX12_partsPlain 33 = .ok (.aload_n 0, 1) := by decide +kernel
theorem dX12_partsPlain_34 : decode cX12_partsPlain 34 = .ok (.getfield 329, 3) := by decide +kernel
theorem dX12_partsPlain_37 : decode cX12_partsPlain 37 = .ok (.ifCond .eq 7, 3) := by decide +kernel
theorem dX12_partsPlain_40 : decode cX12_partsPlain 40 = .ok (.iconst 0, 1) := by decide +kernel
theorem dX12_partsPlain_41 : decode cX12_partsPlain 41 = .ok (.goto 14, 3) := by decide +kernel
theorem dX12_partsPlain_44 : decode cX12_partsPlain 44 = .ok (.iload_n 1, 1) := by decide +kernel
theorem dX12_partsPlain_45 : decode cX12_partsPlain 45 = .ok (.aload_n 0, 1) := by decide +kernel
theorem dX12_partsPlain_46 : decode cX12_partsPlain 46 = .ok (.getfield 320, 3) := by decide +kernel
theorem dX12_partsPlain_49 : decode cX12_partsPlain 49 = .ok (.aload_n 0, 1) := by decide +kernel
theorem dX12_partsPlain_50 : decode cX12_partsPlain 50 = .ok (.getfield 308, 3) := by decide +kernel
theorem dX12_partsPlain_53 : decode cX12_partsPlain 53 = .ok (.isub, 1) := by decide +kernel
theorem dX12_partsPlain_54 : decode cX12_partsPlain 54 = .ok (.idiv, 1) := by decide +kernel
theorem dX12_partsPlain_55 : decode cX12_partsPlain 55 = .ok (.ireturn, 1) := by decide +kernel
set_option maxRecDepth 20000 in
theorem ggX12_parts_X12_runs : GoodIn wsX12_parts wsX12_runs := goodIn_r _ [8, 9, 10, 28, 29, 30, 31, 32, 33, 34, 35, 36, 37, 38, 39, 40, 41, 42, 43, 44, 45, 46, 47, 48, 49, 50, 51, 52, 53, 54, 55] (by decide +kernel) (by decide +kernel)
set_option maxRecDepth 20000 in
theorem gX12_parts_X12_runs : GoodIn wsX12_parts (wsV RX12 305 RX12 yX12_runs wsX12_runs) := goodIn_app (goodIn_of _ (by decide +kernel)) ggX12_parts_X12_runs
set_option maxRecDepth 20000 in
theorem ggX12_parts_X12_partsPlain : GoodIn wsX12_parts wsX12_partsPlain := goodIn_r _ [14, 2, 3, 15, 4, 5, 6, 7, 8, 9, 10, 28, 29, 30, 31, 32, 33, 34, 35, 36, 37, 38, 39, 40, 41, 42, 43, 44, 45, 46, 47, 48, 49, 50, 51, 52, 53, 54, 55] (by decide +kernel) (by decide +kernel)
set_option maxRecDepth 20000 in
theorem gX12_parts_X12_partsPlain : GoodIn wsX12_parts (wsV RX12 332 RX12 yX12_partsPlain wsX12_partsPlain) := goodIn_app (goodIn_of _ (by decide +kernel)) ggX12_parts_X12_partsPlain
set_option maxRecDepth 20000 in
theorem ggX12_parts_X12_kicks : GoodIn wsX12_parts wsX12_kicks := goodIn_r _ [19, 1, 15, 20, 21, 22, 7, 23, 4, 5, 6, 8, 9, 10, 24, 25, 26, 27, 3, 28, 29, 30, 31, 32, 33, 34, 35, 36, 37, 38, 39, 40, 41, 42, 43, 44, 45, 46, 47, 48, 49, 50, 51, 52, 53, 54, 55] (by decide +kernel) (by decide +kernel)
set_option maxRecDepth 20000 in
theorem gX12_parts_X12_kicks : GoodIn wsX12_parts (wsV RX12 323 RX12 yX12_kicks wsX12_kicks) := goodIn_app (goodIn_of _ (by decide +kernel)) ggX12_parts_X12_kicks
theorem dX12_parts_0 : decode cX12_parts 0 = .ok (.aload_n 0, 1) := by decide +kernel
theorem dX12_parts_1 : decode cX12_parts 1 = .ok (.getfield 314, 3) := by decide +kernel
theorem dX12_parts_4 : decode cX12_parts 4 = .ok (.iconst 3, 1) := by decide +kernel
theorem dX12_parts_5 : decode cX12_parts 5 = .ok (.if_icmp .ne 19, 3) := by decide +kernel
theorem dX12_parts_8 : decode cX12_parts 8 = .ok (.aload_n 0, 1) := by decide +kernel
theorem dX12_parts_9 : decode cX12_parts 9 = .ok (.bipush 50, 2) := by decide +kernel
theorem dX12_parts_11 : decode cX12_parts 11 = .ok (.invokevirtual 305, 3) := by decide +kernel
theorem dX12_parts_14 : decode cX12_parts 14 = .ok (.aload_n 0, 1) := by decide +kernel
theorem dX12_parts_15 : decode cX12_parts 15 = .ok (.iload_n 1, 1) := by decide +kernel
theorem dX12_parts_16 : decode cX12_parts 16 = .ok (.iconst 2, 1) := by decide +kernel
theorem dX12_parts_17 : decode cX12_parts 17 = .ok (.imul, 1) := by decide +kernel
theorem dX12_parts_18 : decode cX12_parts 18 = .ok (.invokevirtual 332, 3) := by decide +kernel
theorem dX12_parts_21 : decode cX12_parts 21 = .ok (.iconst 4, 1) := by decide +kernel
theorem dX12_parts_22 : decode cX12_parts 22 = .ok (.isub, 1) := by decide +kernel
theorem dX12_parts_23 : decode cX12_parts 23 = .ok (.ireturn, 1) := by decide +kernel
theorem dX12_parts_24 : decode cX12_parts 24 = .ok (.aload_n 0, 1) := by decide +kernel
theorem dX12_parts_25 : decode cX12_parts 25 = .ok (.getfield 314, 3) := by decide +kernel
theorem dX12_parts_28 : decode cX12_parts 28 = .ok (.iconst 5, 1) := by decide +kernel
theorem dX12_parts_29 : decode cX12_parts 29 = .ok (.if_icmp .ne 37, 3) := by decide +kernel
theorem dX12_parts_32 : decode cX12_parts 32 = .ok (.aload_n 0, 1) := by decide +kernel
theorem dX12_parts_33 : decode cX12_parts 33 = .ok (.bipush 61, 2) := by decide +kernel
theorem dX12_parts_35 : decode cX12_parts 35 = .ok (.invokevirtual 305, 3) := by decide +kernel
theorem dX12_parts_38 : decode cX12_parts 38 = .ok (.aload_n 0, 1) := by decide +kernel
theorem dX12_parts_39 : decode cX12_parts 39 = .ok (.iload_n 1, 1) := by decide +kernel
theorem dX12_parts_40 : decode cX12_parts 40 = .ok (.invokevirtual 332, 3) := by decide +kernel
theorem dX12_parts_43 : decode cX12_parts 43 = .ok (.istore_n 2, 1) := by decide +kernel
theorem dX12_parts_44 : decode cX12_parts 44 = .ok (.aload_n 0, 1) := by decide +kernel
theorem dX12_parts_45 : decode cX12_parts 45 = .ok (.getfield 329, 3) := by decide +kernel
theorem dX12_parts_48 : decode cX12_parts 48 = .ok (.ifCond .eq 7, 3) := by decide +kernel
theorem dX12_parts_51 : decode cX12_parts 51 = .ok (.iconst 0, 1) := by decide +kernel
theorem dX12_parts_52 : decode cX12_parts 52 = .ok (.goto 13, 3) := by decide +kernel
theorem dX12_parts_55 : decode cX12_parts 55 = .ok (.iload_n 2, 1) := by decide +kernel
theorem dX12_parts_56 : decode cX12_parts 56 = .ok (.aload_n 0, 1) := by decide +kernel
theorem dX12_parts_57 : decode cX12_parts 57 = .ok (.aload_n 0, 1) := by decide +kernel
theorem dX12_parts_58 : decode cX12_parts 58 = .ok (.getfield 308, 3) := by decide +kernel
theorem dX12_parts_61 : decode cX12_parts 61 = .ok (.invokevirtual 323, 3) := by decide +kernel
theorem dX12_parts_64 : decode cX12_parts 64 = .ok (.iadd, 1) := by decide +kernel
theorem dX12_parts_65 : decode cX12_parts 65 = .ok (.ireturn, 1) := by decide +kernel
theorem dX12_parts_66 : decode cX12_parts 66 = .ok (.aload_n 0, 1) := by decide +kernel
theorem dX12_parts_67 : decode cX12_parts 67 = .ok (.iload_n 1, 1) := by decide +kernel
theorem dX12_parts_68 : decode cX12_parts 68 = .ok (.invokevirtual 332, 3) := by decide +kernel
theorem dX12_parts_71 : decode cX12_parts 71 = .ok (.ireturn, 1) := by decide +kernel
set_option maxRecDepth 20000 in
theorem ggX12_growsPlain_X12_runs : GoodIn wsX12_growsPlain wsX12_runs := goodIn_r _ [5, 6, 7, 31, 32, 33, 34, 35, 36, 37, 38, 39, 40, 41, 42, 43, 44, 45, 46, 47, 48, 49, 50, 51, 52, 53, 54, 55, 56, 57, 58] (by decide +kernel) (by decide +kernel)
set_option maxRecDepth 20000 in
theorem gX12_growsPlain_X12_runs : GoodIn wsX12_growsPlain (wsV RX12 305 RX12 yX12_runs wsX12_runs) := goodIn_app (goodIn_of _ (by decide +kernel)) ggX12_growsPlain_X12_runs
set_option maxRecDepth 20000 in
theorem ggX12_growsPlain_X12_prays : GoodIn wsX12_growsPlain wsX12_prays := goodIn_r _ [11, 12, 13, 1, 2, 3, 4, 5, 6, 7, 14, 15, 16, 17, 18, 19, 20, 21, 22, 23, 24, 25, 26, 27, 28, 29, 30, 31, 32, 33, 34, 35, 36, 37, 38, 39, 40, 41, 42, 43, 44, 45, 46, 47, 48, 49, 50, 51, 52, 53, 54, 55, 56, 57, 58] (by decide +kernel) (by decide +kernel)
set_option maxRecDepth 20000 in
theorem gX12_growsPlain_X12_prays : GoodIn wsX12_growsPlain (wsV RX12 335 RX12 yX12_prays wsX12_prays) := goodIn_app (goodIn_of _ (by decide +kernel)) ggX12_growsPlain_X12_prays
theorem dX12_growsPlain_0 : decode cX12_growsPlain 0 = .ok (.aload_n 0, 1) := by decide +kernel
theorem dX12_growsPlain_1 : decode cX12_growsPlain 1 = .ok (.bipush 13, 2) := by decide +kernel
theorem dX12_growsPlain_3 : decode cX12_growsPlain 3 = .ok (.invokevirtual 305, 3) := by decide +kernel
theorem dX12_growsPlain_6 : decode cX12_growsPlain 6 = .ok (.aload_n 0, 1) := by decide +kernel
theorem dX12_growsPlain_7 : decode cX12_growsPlain 7 = .ok (.iload_n 1, 1) := by decide +kernel
theorem dX12_growsPlain_8 : decode cX12_growsPlain 8 = .ok (.invokevirtual 335, 3) := by decide +kernel
theorem dX12_growsPlain_11 : decode cX12_growsPlain 11 = .ok (.bipush 80, 2) := by decide +kernel
theorem dX12_growsPlain_13 : decode cX12_growsPlain 13 = .ok (.ixor, 1) := by decide +kernel
theorem dX12_growsPlain_14 : decode cX12_growsPlain 14 = .ok (.ireturn, 1) := by decide +kernel
set_option maxRecDepth 20000 in
theorem ggX12_grows_X12_runs : GoodIn wsX12_grows wsX12_runs := goodIn_r _ [7, 8, 9, 44, 45, 46, 47, 48, 49, 50, 51, 52, 53, 54, 55, 56, 57, 58, 59, 60, 61, 62, 63, 64, 65, 66, 67, 68, 69, 70, 71] (by decide +kernel) (by decide +kernel)
set_option maxRecDepth 20000 in
theorem gX12_grows_X12_runs : GoodIn wsX12_grows (wsV RX12 305 RX12 yX12_runs wsX12_runs) := goodIn_app (goodIn_of _ (by decide +kernel)) ggX12_grows_X12_runs
set_option maxRecDepth 20000 in
theorem ggX12_grows_X12_growsPlain : GoodIn wsX12_grows wsX12_growsPlain := goodIn_r _ [13, 3, 4, 5, 6, 7, 8, 9, 14, 15, 16, 17, 1, 18, 19, 20, 21, 22, 23, 24, 25, 26, 27, 28, 29, 30, 31, 32, 33, 34, 2, 44, 45, 46, 47, 48, 49, 50, 51, 52, 53, 54, 55, 56, 57, 58, 59, 60, 61, 62, 63, 64, 65, 66, 67, 68, 69, 70, 71] (by decide +kernel) (by decide +kernel)
set_option maxRecDepth 20000 in
theorem gX12_grows_X12_growsPlain : GoodIn wsX12_grows (wsV RX12 338 RX12 yX12_growsPlain wsX12_growsPlain) := goodIn_app (goodIn_of _ (by decide +kernel)) ggX12_grows_X12_growsPlain
set_option maxRecDepth 20000 in
theorem ggX12_grows_X12_parts : GoodIn wsX12_grows wsX12_parts := goodIn_r _ [38, 1, 39, 2, 3, 4, 5, 6, 7, 8, 9, 40, 41, 42, 43, 18, 23, 24, 25, 26, 27, 28, 29, 30, 31, 32, 33, 34, 44, 45, 46, 47, 48, 49, 50, 51, 52, 53, 54, 55, 56, 57, 58, 59, 60, 61, 62, 63, 64, 65, 66, 67, 68, 69, 70, 71] (by decide +kernel) (by decide +kernel)
set_option maxRecDepth 20000 in
theorem gX12_grows_X12_parts : GoodIn wsX12_grows (wsV RX12 341 RX12 yX12_parts wsX12_parts) := goodIn_app (goodIn_of _ (by decide +kernel)) ggX12_grows_X12_parts
theorem dX12_grows_0 : decode cX12_grows 0 = .ok (.aload_n 0, 1) := by decide +kernel
theorem dX12_grows_1 : decode cX12_grows 1 = .ok (.getfield 314, 3) := by decide +kernel
theorem dX12_grows_4 : decode cX12_grows 4 = .ok (.iconst 2, 1) := by decide +kernel
theorem dX12_grows_5 : decode cX12_grows 5 = .ok (.if_icmp .eq 11, 3) := by decide +kernel
theorem dX12_grows_8 : decode cX12_grows 8 = .ok (.aload_n 0, 1) := by decide +kernel
theorem dX12_grows_9 : decode cX12_grows 9 = .ok (.getfield 314, 3) := by decide +kernel
theorem dX12_grows_12 : decode cX12_grows 12 = .ok (.iconst 4, 1) := by decide +kernel
theorem dX12_grows_13 : decode cX12_grows 13 = .ok (.if_icmp .ne 26, 3) := by decide +kernel
theorem dX12_grows_16 : decode cX12_grows 16 = .ok (.aload_n 0, 1) := by decide +kernel
theorem dX12_grows_17 : decode cX12_grows 17 = .ok (.bipush 31, 2) := by decide +kernel
theorem dX12_grows_19 : decode cX12_grows 19 = .ok (.invokevirtual 305, 3) := by decide +kernel
theorem dX12_grows_22 : decode cX12_grows 22 = .ok (.aload_n 0, 1) := by decide +kernel
theorem dX12_grows_23 : decode cX12_grows 23 = .ok (.iload_n 1, 1) := by decide +kernel
theorem dX12_grows_24 : decode cX12_grows 24 = .ok (.invokevirtual 338, 3) := by decide +kernel
theorem dX12_grows_27 : decode cX12_grows 27 = .ok (.istore_n 2, 1) := by decide +kernel
theorem dX12_grows_28 : decode cX12_grows 28 = .ok (.iload_n 2, 1) := by decide +kernel
theorem dX12_grows_29 : decode cX12_grows 29 = .ok (.aload_n 0, 1) := by decide +kernel
theorem dX12_grows_30 : decode cX12_grows 30 = .ok (.aload_n 0, 1) := by decide +kernel
theorem dX12_grows_31 : decode cX12_grows 31 = .ok (.getfield 308, 3) := by decide +kernel
theorem dX12_grows_34 : decode cX12_grows 34 = .ok (.invokevirtual 341, 3) := by decide +kernel
theorem dX12_grows_37 : decode cX12_grows 37 = .ok (.iadd, 1) := by decide +kernel
theorem dX12_grows_38 : decode cX12_grows 38 = .ok (.ireturn, 1) := by decide +kernel
theorem dX12_grows_39 : decode cX12_grows 39 = .ok (.aload_n 0, 1) := by decide +kernel
theorem dX12_grows_40 : decode cX12_grows 40 = .ok (.getfield 314, 3) := by decide +kernel
theorem dX12_grows_43 : decode cX12_grows 43 = .ok (.iconst 5, 1) := by decide +kernel
theorem dX12_grows_44 : decode cX12_grows 44 = .ok (.if_icmp .ne 17, 3) := by decide +kernel
theorem dX12_grows_47 : decode cX12_grows 47 = .ok (.aload_n 0, 1) := by decide +kernel
theorem dX12_grows_48 : decode cX12_grows 48 = .ok (.bipush 60, 2) := by decide +kernel
theorem dX12_grows_50 : decode cX12_grows 50 = .ok (.invokevirtual 305, 3) := by decide +kernel
theorem dX12_grows_53 : decode cX12_grows 53 = .ok (.aload_n 0, 1) := by decide +kernel
theorem dX12_grows_54 : decode cX12_grows 54 = .ok (.iload_n 1, 1) := by decide +kernel
theorem dX12_grows_55 : decode cX12_grows 55 = .ok (.invokevirtual 338, 3) := by decide +kernel
theorem dX12_grows_58 : decode cX12_grows 58 = .ok (.iconst 3, 1) := by decide +kernel
theorem dX12_grows_59 : decode cX12_grows 59 = .ok (.imul, 1) := by decide +kernel
theorem dX12_grows_60 : decode cX12_grows 60 = .ok (.ireturn, 1) := by decide +kernel
theorem dX12_grows_61 : decode cX12_grows 61 = .ok (.aload_n 0, 1) := by decide +kernel
theorem dX12_grows_62 : decode cX12_grows 62 = .ok (.iload_n 1, 1) := by decide +kernel
theorem dX12_grows_63 : decode cX12_grows 63 = .ok (.invokevirtual 338, 3) := by decide +kernel
theorem dX12_grows_66 : decode cX12_grows 66 = .ok (.ireturn, 1) := by decide +kernel
set_option maxRecDepth 20000 in
theorem ggX12_act_X12_isShelf : GoodIn wsX12_act wsX12_isShelf := goodIn_r _ [11, 2, 12, 13, 10, 14] (by decide +kernel) (by decide +kernel)
set_option maxRecDepth 20000 in
theorem gX12_act_X12_isShelf : GoodIn wsX12_act (va_wsS RX12 289 yX12_isShelf wsX12_isShelf) := goodIn_app (goodIn_of _ (by decide +kernel)) ggX12_act_X12_isShelf
set_option maxRecDepth 20000 in
theorem ggX12_act_X12_isIn : GoodIn wsX12_act wsX12_isIn := goodIn_r _ [14] (by decide +kernel) (by decide +kernel)
set_option maxRecDepth 20000 in
theorem gX12_act_X12_isIn : GoodIn wsX12_act (va_wsS RX12 60 yX12_isIn wsX12_isIn) := goodIn_app (goodIn_of _ (by decide +kernel)) ggX12_act_X12_isIn
set_option maxRecDepth 20000 in
theorem ggX12_act_X12_heldOn : GoodIn wsX12_act wsX12_heldOn := goodIn_r _ [18, 19, 4, 20, 21, 22, 10, 23, 24, 70, 71, 72, 73, 74, 75, 76, 77, 78, 79, 80, 81, 82, 83, 84, 85, 86, 87, 88, 89, 90, 91, 92, 93, 94, 95, 96, 97] (by decide +kernel) (by decide +kernel)
set_option maxRecDepth 20000 in
theorem gX12_act_X12_heldOn : GoodIn wsX12_act (wsV RX12 296 RX12 yX12_heldOn wsX12_heldOn) := goodIn_app (goodIn_of _ (by decide +kernel)) ggX12_act_X12_heldOn
set_option maxRecDepth 20000 in
theorem ggX12_act_X12_its : GoodIn wsX12_act wsX12_its := goodIn_r _ [28, 24, 70, 71, 72, 73, 74, 75, 76, 77, 78, 79, 80, 81, 82, 83, 84, 85, 86, 87, 88, 89, 90, 91, 92, 93, 94, 95, 96, 97] (by decide +kernel) (by decide +kernel)
set_option maxRecDepth 20000 in
theorem gX12_act_X12_its : GoodIn wsX12_act (wsV RX12 176 RX12 yX12_its wsX12_its) := goodIn_app (goodIn_of _ (by decide +kernel)) ggX12_act_X12_its
set_option maxRecDepth 20000 in
theorem ggX12_act_X12_kicks : GoodIn wsX12_act wsX12_kicks := goodIn_r _ [32, 5, 7, 33, 34, 35, 10, 36, 37, 38, 39, 40, 1, 41, 42, 43, 44, 45, 6, 70, 71, 72, 73, 74, 75, 76, 77, 78, 79, 80, 81, 82, 83, 84, 85, 86, 87, 88, 89, 90, 91, 92, 93, 94, 95, 96, 97] (by decide +kernel) (by decide +kernel)
set_option maxRecDepth 20000 in
theorem gX12_act_X12_kicks : GoodIn wsX12_act (wsV RX12 323 RX12 yX12_kicks wsX12_kicks) := goodIn_app (goodIn_of _ (by decide +kernel)) ggX12_act_X12_kicks
set_option maxRecDepth 20000 in
theorem ggX12_act_X12_prays : GoodIn wsX12_act wsX12_prays := goodIn_r _ [49, 5, 7, 37, 38, 39, 10, 40, 1, 41, 50, 51, 52, 53, 29, 30, 31, 32, 33, 34, 35, 36, 42, 43, 44, 45, 6, 70, 71, 72, 73, 74, 75, 76, 77, 78, 79, 80, 81, 82, 83, 84, 85, 86, 87, 88, 89, 90, 91, 92, 93, 94, 95, 96, 97] (by decide +kernel) (by decide +kernel)
set_option maxRecDepth 20000 in
theorem gX12_act_X12_prays : GoodIn wsX12_act (wsV RX12 335 RX12 yX12_prays wsX12_prays) := goodIn_app (goodIn_of _ (by decide +kernel)) ggX12_act_X12_prays
set_option maxRecDepth 20000 in
theorem ggX12_act_X12_parts : GoodIn wsX12_act wsX12_parts := goodIn_r _ [57, 5, 3, 6, 37, 38, 39, 10, 40, 1, 41, 58, 59, 60, 61, 7, 29, 30, 31, 32, 33, 34, 35, 36, 42, 43, 44, 45, 70, 71, 72, 73, 74, 75, 76, 77, 78, 79, 80, 81, 82, 83, 84, 85, 86, 87, 88, 89, 90, 91, 92, 93, 94, 95, 96, 97] (by decide +kernel) (by decide +kernel)
set_option maxRecDepth 20000 in
theorem gX12_act_X12_parts : GoodIn wsX12_act (wsV RX12 341 RX12 yX12_parts wsX12_parts) := goodIn_app (goodIn_of _ (by decide +kernel)) ggX12_act_X12_parts
set_option maxRecDepth 20000 in
theorem ggX12_act_X12_grows : GoodIn wsX12_act wsX12_grows := goodIn_r _ [65, 5, 6, 37, 38, 39, 10, 40, 1, 41, 66, 67, 68, 69, 46, 47, 48, 49, 7, 50, 51, 52, 53, 29, 30, 31, 32, 33, 34, 35, 36, 42, 43, 44, 45, 54, 55, 56, 57, 3, 58, 59, 60, 61, 70, 71, 72, 73, 74, 75, 76, 77, 78, 79, 80, 81, 82, 83, 84, 85, 86, 87, 88, 89, 90, 91, 92, 93, 94, 95, 96, 97] (by decide +kernel) (by decide +kernel)
set_option maxRecDepth 20000 in
theorem gX12_act_X12_grows : GoodIn wsX12_act (wsV RX12 344 RX12 yX12_grows wsX12_grows) := goodIn_app (goodIn_of _ (by decide +kernel)) ggX12_act_X12_grows
theorem dX12_act_0 : decode cX12_act 0 = .ok (.aload_n 0, 1) := by decide +kernel
theorem dX12_act_1 : decode cX12_act 1 = .ok (.iconst 0, 1) := by decide +kernel
theorem dX12_act_2 : decode cX12_act 2 = .ok (.putfield 302, 3) := by decide +kernel
theorem dX12_act_5 : decode cX12_act 5 = .ok (.iload_n 1, 1) := by decide +kernel
theorem dX12_act_6 : decode cX12_act 6 = .ok (.invokestatic 289, 3) := by decide +kernel
theorem dX12_act_9 : decode cX12_act 9 = .ok (.ifCond .eq 24, 3) := by decide +kernel
theorem dX12_act_12 : decode cX12_act 12 = .ok (.iload_n 2, 1) := by decide +kernel
theorem dX12_act_13 : decode cX12_act 13 = .ok (.i2l, 1) := by decide +kernel
theorem dX12_act_14 : decode cX12_act 14 = .ok (.lconst 0, 1) := by decide +kernel
theorem dX12_act_15 : decode cX12_act 15 = .ok (.ldc2_w 161, 3) := by decide +kernel
theorem dX12_act_18 : decode cX12_act 18 = .ok (.invokestatic 60, 3) := by decide +kernel
theorem dX12_act_21 : decode cX12_act 21 = .ok (.ifCond .eq 12, 3) := by decide +kernel
theorem dX12_act_24 : decode cX12_act 24 = .ok (.aload_n 0, 1) := by decide +kernel
theorem dX12_act_25 : decode cX12_act 25 = .ok (.iload_n 1, 1) := by decide +kernel
theorem dX12_act_26 : decode cX12_act 26 = .ok (.invokevirtual 296, 3) := by decide +kernel
theorem dX12_act_29 : decode cX12_act 29 = .ok (.iconst 1, 1) := by decide +kernel
theorem dX12_act_30 : decode cX12_act 30 = .ok (.if_icmp .eq 5, 3) := by decide +kernel
theorem dX12_act_33 : decode cX12_act 33 = .ok (.iconst 0, 1) := by decide +kernel
theorem dX12_act_34 : decode cX12_act 34 = .ok (.ireturn, 1) := by decide +kernel
theorem dX12_act_35 : decode cX12_act 35 = .ok (.aload_n 0, 1) := by decide +kernel
theorem dX12_act_36 : decode cX12_act 36 = .ok (.iconst 0, 1) := by decide +kernel
theorem dX12_act_37 : decode cX12_act 37 = .ok (.putfield 329, 3) := by decide +kernel
theorem dX12_act_40 : decode cX12_act 40 = .ok (.aload_n 0, 1) := by decide +kernel
theorem dX12_act_41 : decode cX12_act 41 = .ok (.aload_n 0, 1) := by decide +kernel
theorem dX12_act_42 : decode cX12_act 42 = .ok (.aload_n 0, 1) := by decide +kernel
theorem dX12_act_43 : decode cX12_act 43 = .ok (.getfield 46, 3) := by decide +kernel
theorem dX12_act_46 : decode cX12_act 46 = .ok (.iload_n 1, 1) := by decide +kernel
theorem dX12_act_47 : decode cX12_act 47 = .ok (.iaload, 1) := by decide +kernel
theorem dX12_act_48 : decode cX12_act 48 = .ok (.iconst 0, 1) := by decide +kernel
theorem dX12_act_49 : decode cX12_act 49 = .ok (.invokevirtual 176, 3) := by decide +kernel
theorem dX12_act_52 : decode cX12_act 52 = .ok (.putfield 314, 3) := by decide +kernel
theorem dX12_act_55 : decode cX12_act 55 = .ok (.aload_n 0, 1) := by decide +kernel
theorem dX12_act_56 : decode cX12_act 56 = .ok (.aload_n 0, 1) := by decide +kernel
theorem dX12_act_57 : decode cX12_act 57 = .ok (.getfield 46, 3) := by decide +kernel
theorem dX12_act_60 : decode cX12_act 60 = .ok (.iload_n 1, 1) := by decide +kernel
theorem dX12_act_61 : decode cX12_act 61 = .ok (.iaload, 1) := by decide +kernel
theorem dX12_act_62 : decode cX12_act 62 = .ok (.putfield 308, 3) := by decide +kernel
theorem dX12_act_65 : decode cX12_act 65 = .ok (.aload_n 0, 1) := by decide +kernel
theorem dX12_act_66 : decode cX12_act 66 = .ok (.aload_n 0, 1) := by decide +kernel
theorem dX12_act_67 : decode cX12_act 67 = .ok (.aload_n 0, 1) := by decide +kernel
theorem dX12_act_68 : decode cX12_act 68 = .ok (.getfield 46, 3) := by decide +kernel
theorem dX12_act_71 : decode cX12_act 71 = .ok (.iload_n 1, 1) := by decide +kernel
theorem dX12_act_72 : decode cX12_act 72 = .ok (.iaload, 1) := by decide +kernel
theorem dX12_act_73 : decode cX12_act 73 = .ok (.iconst 5, 1) := by decide +kernel
theorem dX12_act_74 : decode cX12_act 74 = .ok (.invokevirtual 176, 3) := by decide +kernel
theorem dX12_act_77 : decode cX12_act 77 = .ok (.putfield 320, 3) := by decide +kernel
theorem dX12_act_80 : decode cX12_act 80 = .ok (.iload_n 2, 1) := by decide +kernel
theorem dX12_act_81 : decode cX12_act 81 = .ok (.ifCond .ne 11, 3) := by decide +kernel
theorem dX12_act_84 : decode cX12_act 84 = .ok (.aload_n 0, 1) := by decide +kernel
theorem dX12_act_85 : decode cX12_act 85 = .ok (.iload_n 3, 1) := by decide +kernel
theorem dX12_act_86 : decode cX12_act 86 = .ok (.invokevirtual 323, 3) := by decide +kernel
theorem dX12_act_89 : decode cX12_act 89 = .ok (.goto 34, 3) := by decide +kernel
theorem dX12_act_92 : decode cX12_act 92 = .ok (.iload_n 2, 1) := by decide +kernel
theorem dX12_act_93 : decode cX12_act 93 = .ok (.iconst 1, 1) := by decide +kernel
theorem dX12_act_94 : decode cX12_act 94 = .ok (.if_icmp .ne 11, 3) := by decide +kernel
theorem dX12_act_97 : decode cX12_act 97 = .ok (.aload_n 0, 1) := by decide +kernel
theorem dX12_act_98 : decode cX12_act 98 = .ok (.iload_n 3, 1) := by decide +kernel
theorem dX12_act_99 : decode cX12_act 99 = .ok (.invokevirtual 335, 3) := by decide +kernel
theorem dX12_act_102 : decode cX12_act 102 = .ok (.goto 21, 3) := by decide +kernel
theorem dX12_act_105 : decode cX12_act 105 = .ok (.iload_n 2, 1) := by decide +kernel
theorem dX12_act_106 : decode cX12_act 106 = .ok (.iconst 2, 1) := by decide +kernel
theorem dX12_act_107 : decode cX12_act 107 = .ok (.if_icmp .ne 11, 3) := by decide +kernel
theorem dX12_act_110 : decode cX12_act 110 = .ok (.aload_n 0, 1) := by decide +kernel
theorem dX12_act_111 : decode cX12_act 111 = .ok (.iload_n 3, 1) := by decide +kernel
theorem dX12_act_112 : decode cX12_act 112 = .ok (.invokevirtual 341, 3) := by decide +kernel
theorem dX12_act_115 : decode cX12_act 115 = .ok (.goto 8, 3) := by decide +kernel
theorem dX12_act_118 : decode cX12_act 118 = .ok (.aload_n 0, 1) := by decide +kernel
theorem dX12_act_119 : decode cX12_act 119 = .ok (.iload_n 3, 1) := by decide +kernel
theorem dX12_act_120 : decode cX12_act 120 = .ok (.invokevirtual 344, 3) := by decide +kernel
theorem dX12_act_123 : decode cX12_act 123 = .ok (.istore 4, 2) := by decide +kernel
theorem dX12_act_125 : decode cX12_act 125 = .ok (.aload_n 0, 1) := by decide +kernel
theorem dX12_act_126 : decode cX12_act 126 = .ok (.getfield 329, 3) := by decide +kernel
theorem dX12_act_129 : decode cX12_act 129 = .ok (.ifCond .eq 8, 3) := by decide +kernel
theorem dX12_act_132 : decode cX12_act 132 = .ok (.bipush (-15), 2) := by decide +kernel
theorem dX12_act_134 : decode cX12_act 134 = .ok (.goto 5, 3) := by decide +kernel
theorem dX12_act_137 : decode cX12_act 137 = .ok (.iload 4, 2) := by decide +kernel
theorem dX12_act_139 : decode cX12_act 139 = .ok (.ireturn, 1) := by decide +kernel
set_option maxRecDepth 20000 in
theorem ggX12_trace_X12_isIn : GoodIn wsX12_trace wsX12_isIn := goodIn_r _ [6] (by decide +kernel) (by decide +kernel)
set_option maxRecDepth 20000 in
theorem gX12_trace_X12_isIn : GoodIn wsX12_trace (va_wsS RX12 60 yX12_isIn wsX12_isIn) := goodIn_app (goodIn_of _ (by decide +kernel)) ggX12_trace_X12_isIn
theorem dX12_trace_0 : decode cX12_trace 0 = .ok (.iload_n 1, 1) := by decide +kernel
theorem dX12_trace_1 : decode cX12_trace 1 = .ok (.i2l, 1) := by decide +kernel
theorem dX12_trace_2 : decode cX12_trace 2 = .ok (.lconst 0, 1) := by decide +kernel
theorem dX12_trace_3 : decode cX12_trace 3 = .ok (.aload_n 0, 1) := by decide +kernel
theorem dX12_trace_4 : decode cX12_trace 4 = .ok (.getfield 302, 3) := by decide +kernel
theorem dX12_trace_7 : decode cX12_trace 7 = .ok (.iconst 1, 1) := by decide +kernel
theorem dX12_trace_8 : decode cX12_trace 8 = .ok (.isub, 1) := by decide +kernel
theorem dX12_trace_9 : decode cX12_trace 9 = .ok (.i2l, 1) := by decide +kernel
theorem dX12_trace_10 : decode cX12_trace 10 = .ok (.invokestatic 60, 3) := by decide +kernel
theorem dX12_trace_13 : decode cX12_trace 13 = .ok (.ifCond .eq 12, 3) := by decide +kernel
theorem dX12_trace_16 : decode cX12_trace 16 = .ok (.aload_n 0, 1) := by decide +kernel
theorem dX12_trace_17 : decode cX12_trace 17 = .ok (.getfield 52, 3) := by decide +kernel
theorem dX12_trace_20 : decode cX12_trace 20 = .ok (.iload_n 1, 1) := by decide +kernel
theorem dX12_trace_21 : decode cX12_trace 21 = .ok (.iaload, 1) := by decide +kernel
theorem dX12_trace_22 : decode cX12_trace 22 = .ok (.goto 5, 3) := by decide +kernel
theorem dX12_trace_25 : decode cX12_trace 25 = .ok (.bipush (-3), 2) := by decide +kernel
theorem dX12_trace_27 : decode cX12_trace 27 = .ok (.ireturn, 1) := by decide +kernel
set_option maxRecDepth 20000 in
theorem ggX12_many_X12_youngOnes : GoodIn wsX12_many wsX12_youngOnes := goodIn_r _ [9, 1, 10, 11, 12, 8, 13, 14, 15, 16, 17, 18, 19, 20, 21, 29, 30, 31, 32, 33, 34, 35, 36, 37, 38, 39, 40, 41, 42, 43, 44, 45, 46, 47, 48, 49, 50, 51, 52, 53, 54, 55, 56] (by decide +kernel) (by decide +kernel)
set_option maxRecDepth 20000 in
theorem gX12_many_X12_youngOnes : GoodIn wsX12_many (wsV RX12 237 RX12 yX12_youngOnes wsX12_youngOnes) := goodIn_app (goodIn_of _ (by decide +kernel)) ggX12_many_X12_youngOnes
set_option maxRecDepth 20000 in
theorem ggX12_many_X12_size : GoodIn wsX12_many wsX12_size := goodIn_r _ [24] (by decide +kernel) (by decide +kernel)
set_option maxRecDepth 20000 in
theorem gX12_many_X12_size : GoodIn wsX12_many (va_wsS RX12 257 yX12_size wsX12_size) := goodIn_app (goodIn_of _ (by decide +kernel)) ggX12_many_X12_size
set_option maxRecDepth 20000 in
theorem ggX12_many_X12_swornTo : GoodIn wsX12_many wsX12_swornTo := goodIn_r _ [28, 1, 14, 15, 16, 8, 17, 29, 30, 31, 32, 33, 34, 35, 36, 37, 38, 39, 40, 41, 42, 43, 44, 45, 46, 47, 48, 49, 50, 51, 52, 53, 54, 55, 56] (by decide +kernel) (by decide +kernel)
set_option maxRecDepth 20000 in
theorem gX12_many_X12_swornTo : GoodIn wsX12_many (wsV RX12 190 RX12 yX12_swornTo wsX12_swornTo) := goodIn_app (goodIn_of _ (by decide +kernel)) ggX12_many_X12_swornTo
theorem dX12_many_0 : decode cX12_many 0 = .ok (.iconst 0, 1) := by decide +kernel
theorem dX12_many_1 : decode cX12_many 1 = .ok (.istore_n 2, 1) := by decide +kernel
theorem dX12_many_2 : decode cX12_many 2 = .ok (.iload_n 1, 1) := by decide +kernel
theorem dX12_many_3 : decode cX12_many 3 = .ok (.tableswitch 114 0 6 #[41, 48, 56, 67, 99, 104, 109], 41) := by decide +kernel
theorem dX12_many_44 : decode cX12_many 44 = .ok (.aload_n 0, 1) := by decide +kernel
theorem dX12_many_45 : decode cX12_many 45 = .ok (.getfield 7, 3) := by decide +kernel
theorem dX12_many_48 : decode cX12_many 48 = .ok (.iconst 0, 1) := by decide +kernel
theorem dX12_many_49 : decode cX12_many 49 = .ok (.iaload, 1) := by decide +kernel
theorem dX12_many_50 : decode cX12_many 50 = .ok (.ireturn, 1) := by decide +kernel
theorem dX12_many_51 : decode cX12_many 51 = .ok (.aload_n 0, 1) := by decide +kernel
theorem dX12_many_52 : decode cX12_many 52 = .ok (.invokevirtual 237, 3) := by decide +kernel
theorem dX12_many_55 : decode cX12_many 55 = .ok (.invokestatic 257, 3) := by decide +kernel
theorem dX12_many_58 : decode cX12_many 58 = .ok (.ireturn, 1) := by decide +kernel
theorem dX12_many_59 : decode cX12_many 59 = .ok (.aload_n 0, 1) := by decide +kernel
theorem dX12_many_60 : decode cX12_many 60 = .ok (.getfield 7, 3) := by decide +kernel
theorem dX12_many_63 : decode cX12_many 63 = .ok (.bipush 7, 2) := by decide +kernel
theorem dX12_many_65 : decode cX12_many 65 = .ok (.iaload, 1) := by decide +kernel
theorem dX12_many_66 : decode cX12_many 66 = .ok (.invokestatic 257, 3) := by decide +kernel
theorem dX12_many_69 : decode cX12_many 69 = .ok (.ireturn, 1) := by decide +kernel
theorem dX12_many_70 : decode cX12_many 70 = .ok (.iconst 0, 1) := by decide +kernel
theorem dX12_many_71 : decode cX12_many 71 = .ok (.istore_n 3, 1) := by decide +kernel
theorem dX12_many_72 : decode cX12_many 72 = .ok (.iload_n 3, 1) := by decide +kernel
theorem dX12_many_73 : decode cX12_many 73 = .ok (.bipush 8, 2) := by decide +kernel
theorem dX12_many_75 : decode cX12_many 75 = .ok (.if_icmp .ge 25, 3) := by decide +kernel
theorem dX12_many_78 : decode cX12_many 78 = .ok (.iload_n 2, 1) := by decide +kernel
theorem dX12_many_79 : decode cX12_many 79 = .ok (.aload_n 0, 1) := by decide +kernel
theorem dX12_many_80 : decode cX12_many 80 = .ok (.iload_n 3, 1) := by decide +kernel
theorem dX12_many_81 : decode cX12_many 81 = .ok (.invokevirtual 190, 3) := by decide +kernel
theorem dX12_many_84 : decode cX12_many 84 = .ok (.ifCond .ne 7, 3) := by decide +kernel
theorem dX12_many_87 : decode cX12_many 87 = .ok (.iconst 0, 1) := by decide +kernel
theorem dX12_many_88 : decode cX12_many 88 = .ok (.goto 4, 3) := by decide +kernel
theorem dX12_many_91 : decode cX12_many 91 = .ok (.iconst 1, 1) := by decide +kernel
theorem dX12_many_92 : decode cX12_many 92 = .ok (.iadd, 1) := by decide +kernel
theorem dX12_many_93 : decode cX12_many 93 = .ok (.istore_n 2, 1) := by decide +kernel
theorem dX12_many_94 : decode cX12_many 94 = .ok (.iinc 3 1, 3) := by decide +kernel
theorem dX12_many_97 : decode cX12_many 97 = .ok (.goto (-25), 3) := by decide +kernel
theorem dX12_many_100 : decode cX12_many 100 = .ok (.iload_n 2, 1) := by decide +kernel
theorem dX12_many_101 : decode cX12_many 101 = .ok (.ireturn, 1) := by decide +kernel
theorem dX12_many_102 : decode cX12_many 102 = .ok (.aload_n 0, 1) := by decide +kernel
theorem dX12_many_103 : decode cX12_many 103 = .ok (.getfield 158, 3) := by decide +kernel
theorem dX12_many_106 : decode cX12_many 106 = .ok (.ireturn, 1) := by decide +kernel
theorem dX12_many_107 : decode cX12_many 107 = .ok (.aload_n 0, 1) := by decide +kernel
theorem dX12_many_108 : decode cX12_many 108 = .ok (.getfield 64, 3) := by decide +kernel
theorem dX12_many_111 : decode cX12_many 111 = .ok (.ireturn, 1) := by decide +kernel
theorem dX12_many_112 : decode cX12_many 112 = .ok (.aload_n 0, 1) := by decide +kernel
theorem dX12_many_113 : decode cX12_many 113 = .ok (.getfield 302, 3) := by decide +kernel
theorem dX12_many_116 : decode cX12_many 116 = .ok (.ireturn, 1) := by decide +kernel
theorem dX12_many_117 : decode cX12_many 117 = .ok (.iconst (-1), 1) := by decide +kernel
theorem dX12_many_118 : decode cX12_many 118 = .ok (.ireturn, 1) := by decide +kernel
theorem dX12_keep_0 : decode cX12_keep 0 = .ok (.iconst 0, 1) := by decide +kernel
theorem dX12_keep_1 : decode cX12_keep 1 = .ok (.istore_n 1, 1) := by decide +kernel
theorem dX12_keep_2 : decode cX12_keep 2 = .ok (.iload_n 1, 1) := by decide +kernel
theorem dX12_keep_3 : decode cX12_keep 3 = .ok (.bipush 64, 2) := by decide +kernel
theorem dX12_keep_5 : decode cX12_keep 5 = .ok (.if_icmp .ge 21, 3) := by decide +kernel
theorem dX12_keep_8 : decode cX12_keep 8 = .ok (.aload_n 0, 1) := by decide +kernel
theorem dX12_keep_9 : decode cX12_keep 9 = .ok (.getfield 13, 3) := by decide +kernel
theorem dX12_keep_12 : decode cX12_keep 12 = .ok (.iload_n 1, 1) := by decide +kernel
theorem dX12_keep_13 : decode cX12_keep 13 = .ok (.aload_n 0, 1) := by decide +kernel
theorem dX12_keep_14 : decode cX12_keep 14 = .ok (.getfield 7, 3) := by decide +kernel
theorem dX12_keep_17 : decode cX12_keep 17 = .ok (.iload_n 1, 1) := by decide +kernel
theorem dX12_keep_18 : decode cX12_keep 18 = .ok (.iaload, 1) := by decide +kernel
theorem dX12_keep_19 : decode cX12_keep 19 = .ok (.iastore, 1) := by decide +kernel
theorem dX12_keep_20 : decode cX12_keep 20 = .ok (.iinc 1 1, 3) := by decide +kernel
theorem dX12_keep_23 : decode cX12_keep 23 = .ok (.goto (-21), 3) := by decide +kernel
theorem dX12_keep_26 : decode cX12_keep 26 = .ok (.aload_n 0, 1) := by decide +kernel
theorem dX12_keep_27 : decode cX12_keep 27 = .ok (.iconst 1, 1) := by decide +kernel
theorem dX12_keep_28 : decode cX12_keep 28 = .ok (.putfield 347, 3) := by decide +kernel
theorem dX12_keep_31 : decode cX12_keep 31 = .ok (.iconst 1, 1) := by decide +kernel
theorem dX12_keep_32 : decode cX12_keep 32 = .ok (.ireturn, 1) := by decide +kernel
theorem dX12_again_0 : decode cX12_again 0 = .ok (.aload_n 0, 1) := by decide +kernel
theorem dX12_again_1 : decode cX12_again 1 = .ok (.getfield 347, 3) := by decide +kernel
theorem dX12_again_4 : decode cX12_again 4 = .ok (.ifCond .ne 6, 3) := by decide +kernel
theorem dX12_again_7 : decode cX12_again 7 = .ok (.bipush (-3), 2) := by decide +kernel
theorem dX12_again_9 : decode cX12_again 9 = .ok (.ireturn, 1) := by decide +kernel
theorem dX12_again_10 : decode cX12_again 10 = .ok (.iconst 0, 1) := by decide +kernel
theorem dX12_again_11 : decode cX12_again 11 = .ok (.istore_n 1, 1) := by decide +kernel
theorem dX12_again_12 : decode cX12_again 12 = .ok (.iload_n 1, 1) := by decide +kernel
theorem dX12_again_13 : decode cX12_again 13 = .ok (.bipush 64, 2) := by decide +kernel
theorem dX12_again_15 : decode cX12_again 15 = .ok (.if_icmp .ge 21, 3) := by decide +kernel
theorem dX12_again_18 : decode cX12_again 18 = .ok (.aload_n 0, 1) := by decide +kernel
theorem dX12_again_19 : decode cX12_again 19 = .ok (.getfield 7, 3) := by decide +kernel
theorem dX12_again_22 : decode cX12_again 22 = .ok (.iload_n 1, 1) := by decide +kernel
theorem dX12_again_23 : decode cX12_again 23 = .ok (.aload_n 0, 1) := by decide +kernel
theorem dX12_again_24 : decode cX12_again 24 = .ok (.getfield 13, 3) := by decide +kernel
theorem dX12_again_27 : decode cX12_again 27 = .ok (.iload_n 1, 1) := by decide +kernel
theorem dX12_again_28 : decode cX12_again 28 = .ok (.iaload, 1) := by decide +kernel
theorem dX12_again_29 : decode cX12_again 29 = .ok (.iastore, 1) := by decide +kernel
theorem dX12_again_30 : decode cX12_again 30 = .ok (.iinc 1 1, 3) := by decide +kernel
theorem dX12_again_33 : decode cX12_again 33 = .ok (.goto (-21), 3) := by decide +kernel
theorem dX12_again_36 : decode cX12_again 36 = .ok (.aload_n 0, 1) := by decide +kernel
theorem dX12_again_37 : decode cX12_again 37 = .ok (.getfield 7, 3) := by decide +kernel
theorem dX12_again_40 : decode cX12_again 40 = .ok (.iconst 0, 1) := by decide +kernel
theorem dX12_again_41 : decode cX12_again 41 = .ok (.iaload, 1) := by decide +kernel
theorem dX12_again_42 : decode cX12_again 42 = .ok (.ireturn, 1) := by decide +kernel
theorem dJ6_bitCount_0f7a4_0 : decode cJ6_bitCount_0f7a4 0 = .ok (.iload_n 0, 1) := by decide +kernel
theorem dJ6_bitCount_0f7a4_1 : decode cJ6_bitCount_0f7a4 1 = .ok (.iload_n 0, 1) := by decide +kernel
theorem dJ6_bitCount_0f7a4_2 : decode cJ6_bitCount_0f7a4 2 = .ok (.iconst 1, 1) := by decide +kernel
theorem dJ6_bitCount_0f7a4_3 : decode cJ6_bitCount_0f7a4 3 = .ok (.iushr, 1) := by decide +kernel
theorem dJ6_bitCount_0f7a4_4 : decode cJ6_bitCount_0f7a4 4 = .ok (.ldc_w 265, 3) := by decide +kernel
theorem dJ6_bitCount_0f7a4_7 : decode cJ6_bitCount_0f7a4 7 = .ok (.iand, 1) := by decide +kernel
theorem dJ6_bitCount_0f7a4_8 : decode cJ6_bitCount_0f7a4 8 = .ok (.isub, 1) := by decide +kernel
theorem dJ6_bitCount_0f7a4_9 : decode cJ6_bitCount_0f7a4 9 = .ok (.istore_n 0, 1) := by decide +kernel
theorem dJ6_bitCount_0f7a4_10 : decode cJ6_bitCount_0f7a4 10 = .ok (.iload_n 0, 1) := by decide +kernel
theorem dJ6_bitCount_0f7a4_11 : decode cJ6_bitCount_0f7a4 11 = .ok (.ldc_w 266, 3) := by decide +kernel
theorem dJ6_bitCount_0f7a4_14 : decode cJ6_bitCount_0f7a4 14 = .ok (.iand, 1) := by decide +kernel
theorem dJ6_bitCount_0f7a4_15 : decode cJ6_bitCount_0f7a4 15 = .ok (.iload_n 0, 1) := by decide +kernel
theorem dJ6_bitCount_0f7a4_16 : decode cJ6_bitCount_0f7a4 16 = .ok (.iconst 2, 1) := by decide +kernel
theorem dJ6_bitCount_0f7a4_17 : decode cJ6_bitCount_0f7a4 17 = .ok (.iushr, 1) := by decide +kernel
theorem dJ6_bitCount_0f7a4_18 : decode cJ6_bitCount_0f7a4 18 = .ok (.ldc_w 266, 3) := by decide +kernel
theorem dJ6_bitCount_0f7a4_21 : decode cJ6_bitCount_0f7a4 21 = .ok (.iand, 1) := by decide +kernel
theorem dJ6_bitCount_0f7a4_22 : decode cJ6_bitCount_0f7a4 22 = .ok (.iadd, 1) := by decide +kernel
theorem dJ6_bitCount_0f7a4_23 : decode cJ6_bitCount_0f7a4 23 = .ok (.istore_n 0, 1) := by decide +kernel
theorem dJ6_bitCount_0f7a4_24 : decode cJ6_bitCount_0f7a4 24 = .ok (.iload_n 0, 1) := by decide +kernel
theorem dJ6_bitCount_0f7a4_25 : decode cJ6_bitCount_0f7a4 25 = .ok (.iload_n 0, 1) := by decide +kernel
theorem dJ6_bitCount_0f7a4_26 : decode cJ6_bitCount_0f7a4 26 = .ok (.iconst 4, 1) := by decide +kernel
theorem dJ6_bitCount_0f7a4_27 : decode cJ6_bitCount_0f7a4 27 = .ok (.iushr, 1) := by decide +kernel
theorem dJ6_bitCount_0f7a4_28 : decode cJ6_bitCount_0f7a4 28 = .ok (.iadd, 1) := by decide +kernel
theorem dJ6_bitCount_0f7a4_29 : decode cJ6_bitCount_0f7a4 29 = .ok (.ldc_w 267, 3) := by decide +kernel
theorem dJ6_bitCount_0f7a4_32 : decode cJ6_bitCount_0f7a4 32 = .ok (.iand, 1) := by decide +kernel
theorem dJ6_bitCount_0f7a4_33 : decode cJ6_bitCount_0f7a4 33 = .ok (.istore_n 0, 1) := by decide +kernel
theorem dJ6_bitCount_0f7a4_34 : decode cJ6_bitCount_0f7a4 34 = .ok (.iload_n 0, 1) := by decide +kernel
theorem dJ6_bitCount_0f7a4_35 : decode cJ6_bitCount_0f7a4 35 = .ok (.iload_n 0, 1) := by decide +kernel
theorem dJ6_bitCount_0f7a4_36 : decode cJ6_bitCount_0f7a4 36 = .ok (.bipush 8, 2) := by decide +kernel
theorem dJ6_bitCount_0f7a4_38 : decode cJ6_bitCount_0f7a4 38 = .ok (.iushr, 1) := by decide +kernel
theorem dJ6_bitCount_0f7a4_39 : decode cJ6_bitCount_0f7a4 39 = .ok (.iadd, 1) := by decide +kernel
theorem dJ6_bitCount_0f7a4_40 : decode cJ6_bitCount_0f7a4 40 = .ok (.istore_n 0, 1) := by decide +kernel
theorem dJ6_bitCount_0f7a4_41 : decode cJ6_bitCount_0f7a4 41 = .ok (.iload_n 0, 1) := by decide +kernel
theorem dJ6_bitCount_0f7a4_42 : decode cJ6_bitCount_0f7a4 42 = .ok (.iload_n 0, 1) := by decide +kernel
theorem dJ6_bitCount_0f7a4_43 : decode cJ6_bitCount_0f7a4 43 = .ok (.bipush 16, 2) := by decide +kernel
theorem dJ6_bitCount_0f7a4_45 : decode cJ6_bitCount_0f7a4 45 = .ok (.iushr, 1) := by decide +kernel
theorem dJ6_bitCount_0f7a4_46 : decode cJ6_bitCount_0f7a4 46 = .ok (.iadd, 1) := by decide +kernel
theorem dJ6_bitCount_0f7a4_47 : decode cJ6_bitCount_0f7a4 47 = .ok (.istore_n 0, 1) := by decide +kernel
theorem dJ6_bitCount_0f7a4_48 : decode cJ6_bitCount_0f7a4 48 = .ok (.iload_n 0, 1) := by decide +kernel
theorem dJ6_bitCount_0f7a4_49 : decode cJ6_bitCount_0f7a4 49 = .ok (.bipush 63, 2) := by decide +kernel
theorem dJ6_bitCount_0f7a4_51 : decode cJ6_bitCount_0f7a4 51 = .ok (.iand, 1) := by decide +kernel
theorem dJ6_bitCount_0f7a4_52 : decode cJ6_bitCount_0f7a4 52 = .ok (.ireturn, 1) := by decide +kernel
theorem dJ9_abs_0f7a4_0 : decode cJ9_abs_0f7a4 0 = .ok (.iload_n 0, 1) := by decide +kernel
theorem dJ9_abs_0f7a4_1 : decode cJ9_abs_0f7a4 1 = .ok (.ifCond .ge 8, 3) := by decide +kernel
theorem dJ9_abs_0f7a4_4 : decode cJ9_abs_0f7a4 4 = .ok (.iload_n 0, 1) := by decide +kernel
theorem dJ9_abs_0f7a4_5 : decode cJ9_abs_0f7a4 5 = .ok (.ineg, 1) := by decide +kernel
theorem dJ9_abs_0f7a4_6 : decode cJ9_abs_0f7a4 6 = .ok (.goto 4, 3) := by decide +kernel
theorem dJ9_abs_0f7a4_9 : decode cJ9_abs_0f7a4 9 = .ok (.iload_n 0, 1) := by decide +kernel
theorem dJ9_abs_0f7a4_10 : decode cJ9_abs_0f7a4 10 = .ok (.ireturn, 1) := by decide +kernel
theorem dJ9_max_7cf53_0 : decode cJ9_max_7cf53 0 = .ok (.iload_n 0, 1) := by decide +kernel
theorem dJ9_max_7cf53_1 : decode cJ9_max_7cf53 1 = .ok (.iload_n 1, 1) := by decide +kernel
theorem dJ9_max_7cf53_2 : decode cJ9_max_7cf53 2 = .ok (.if_icmp .lt 7, 3) := by decide +kernel
theorem dJ9_max_7cf53_5 : decode cJ9_max_7cf53 5 = .ok (.iload_n 0, 1) := by decide +kernel
theorem dJ9_max_7cf53_6 : decode cJ9_max_7cf53 6 = .ok (.goto 4, 3) := by decide +kernel
theorem dJ9_max_7cf53_9 : decode cJ9_max_7cf53 9 = .ok (.iload_n 1, 1) := by decide +kernel
theorem dJ9_max_7cf53_10 : decode cJ9_max_7cf53 10 = .ok (.ireturn, 1) := by decide +kernel
theorem dJ9_min_7cf53_0 : decode cJ9_min_7cf53 0 = .ok (.iload_n 0, 1) := by decide +kernel
theorem dJ9_min_7cf53_1 : decode cJ9_min_7cf53 1 = .ok (.iload_n 1, 1) := by decide +kernel
theorem dJ9_min_7cf53_2 : decode cJ9_min_7cf53 2 = .ok (.if_icmp .gt 7, 3) := by decide +kernel
theorem dJ9_min_7cf53_5 : decode cJ9_min_7cf53 5 = .ok (.iload_n 0, 1) := by decide +kernel
theorem dJ9_min_7cf53_6 : decode cJ9_min_7cf53 6 = .ok (.goto 4, 3) := by decide +kernel
theorem dJ9_min_7cf53_9 : decode cJ9_min_7cf53 9 = .ok (.iload_n 1, 1) := by decide +kernel
theorem dJ9_min_7cf53_10 : decode cJ9_min_7cf53 10 = .ok (.ireturn, 1) := by decide +kernel
set_option maxRecDepth 20000 in
theorem ggJ0_length_8abf5_J0_coder_7d493 : GoodIn wsJ0_length_8abf5 wsJ0_coder_7d493 := goodIn_r _ [6, 7, 8] (by decide +kernel) (by decide +kernel)
set_option maxRecDepth 20000 in
theorem gJ0_length_8abf5_J0_coder_7d493 : GoodIn wsJ0_length_8abf5 (wsV RJ0 335 RJ0 yJ0_coder_7d493 wsJ0_coder_7d493) := goodIn_app (goodIn_of _ (by decide +kernel)) ggJ0_length_8abf5_J0_coder_7d493
theorem dJ0_length_8abf5_0 : decode cJ0_length_8abf5 0 = .ok (.aload_n 0, 1) := by decide +kernel
theorem dJ0_length_8abf5_1 : decode cJ0_length_8abf5 1 = .ok (.getfield 9, 3) := by decide +kernel
theorem dJ0_length_8abf5_4 : decode cJ0_length_8abf5 4 = .ok (.arraylength, 1) := by decide +kernel
theorem dJ0_length_8abf5_5 : decode cJ0_length_8abf5 5 = .ok (.aload_n 0, 1) := by decide +kernel
theorem dJ0_length_8abf5_6 : decode cJ0_length_8abf5 6 = .ok (.invokevirtual 335, 3) := by decide +kernel
theorem dJ0_length_8abf5_9 : decode cJ0_length_8abf5 9 = .ok (.ishr, 1) := by decide +kernel
theorem dJ0_length_8abf5_10 : decode cJ0_length_8abf5 10 = .ok (.ireturn, 1) := by decide +kernel
set_option maxRecDepth 20000 in
theorem ggJ0_charAt_5068e_J0_isLatin1_aae02 : GoodIn wsJ0_charAt_5068e wsJ0_isLatin1_aae02 := goodIn_r _ [6, 7, 8] (by decide +kernel) (by decide +kernel)
set_option maxRecDepth 20000 in
theorem gJ0_charAt_5068e_J0_isLatin1_aae02 : GoodIn wsJ0_charAt_5068e (wsV RJ0 492 RJ0 yJ0_isLatin1_aae02 wsJ0_isLatin1_aae02) := goodIn_app (goodIn_of _ (by decide +kernel)) ggJ0_charAt_5068e_J0_isLatin1_aae02
set_option maxRecDepth 20000 in
theorem ggJ0_charAt_5068e_J1_charAt_3b067 : GoodIn wsJ0_charAt_5068e wsJ1_charAt_3b067 := goodIn_r _ [12, 13, 14, 5, 15, 16, 17, 18, 19, 20] (by decide +kernel) (by decide +kernel)
set_option maxRecDepth 20000 in
theorem gJ0_charAt_5068e_J1_charAt_3b067 : GoodIn wsJ0_charAt_5068e (va_wsS RJ0 495 yJ1_charAt_3b067 wsJ1_charAt_3b067) := goodIn_app (goodIn_of _ (by decide +kernel)) ggJ0_charAt_5068e_J1_charAt_3b067
set_option maxRecDepth 20000 in
theorem ggJ0_charAt_5068e_J2_charAt_3b067 : GoodIn wsJ0_charAt_5068e wsJ2_charAt_3b067 := goodIn_r _ [24, 25, 26, 23, 27, 28, 29, 30, 31, 14, 5, 15, 16, 17, 18, 19, 20, 32, 33, 34, 35, 36, 37] (by decide +kernel) (by decide +kernel)
set_option maxRecDepth 20000 in
theorem gJ0_charAt_5068e_J2_charAt_3b067 : GoodIn wsJ0_charAt_5068e (va_wsS RJ0 498 yJ2_charAt_3b067 wsJ2_charAt_3b067) := goodIn_app (goodIn_of _ (by decide +kernel)) ggJ0_charAt_5068e_J2_charAt_3b067
theorem dJ0_charAt_5068e_0 : decode cJ0_charAt_5068e 0 = .ok (.aload_n 0, 1) := by decide +kernel
theorem dJ0_charAt_5068e_1 : decode cJ0_charAt_5068e 1 = .ok (.invokevirtual 492, 3) := by decide +kernel
theorem dJ0_charAt_5068e_4 : decode cJ0_charAt_5068e 4 = .ok (.ifCond .eq 12, 3) := by decide +kernel
theorem dJ0_charAt_5068e_7 : decode cJ0_charAt_5068e 7 = .ok (.aload_n 0, 1) := by decide +kernel
theorem dJ0_charAt_5068e_8 : decode cJ0_charAt_5068e 8 = .ok (.getfield 9, 3) := by decide +kernel
theorem dJ0_charAt_5068e_11 : decode cJ0_charAt_5068e 11 = .ok (.iload_n 1, 1) := by decide +kernel
theorem dJ0_charAt_5068e_12 : decode cJ0_charAt_5068e 12 = .ok (.invokestatic 495, 3) := by decide +kernel
theorem dJ0_charAt_5068e_15 : decode cJ0_charAt_5068e 15 = .ok (.ireturn, 1) := by decide +kernel
theorem dJ0_charAt_5068e_16 : decode cJ0_charAt_5068e 16 = .ok (.aload_n 0, 1) := by decide +kernel
theorem dJ0_charAt_5068e_17 : decode cJ0_charAt_5068e 17 = .ok (.getfield 9, 3) := by decide +kernel
theorem dJ0_charAt_5068e_20 : decode cJ0_charAt_5068e 20 = .ok (.iload_n 1, 1) := by decide +kernel
theorem dJ0_charAt_5068e_21 : decode cJ0_charAt_5068e 21 = .ok (.invokestatic 498, 3) := by decide +kernel
theorem dJ0_charAt_5068e_24 : decode cJ0_charAt_5068e 24 = .ok (.ireturn, 1) := by decide +kernel
theorem dJ0_coder_7d493_0 : decode cJ0_coder_7d493 0 = .ok (.getstatic 38, 3) := by decide +kernel
theorem dJ0_coder_7d493_3 : decode cJ0_coder_7d493 3 = .ok (.ifCond .eq 10, 3) := by decide +kernel
theorem dJ0_coder_7d493_6 : decode cJ0_coder_7d493 6 = .ok (.aload_n 0, 1) := by decide +kernel
theorem dJ0_coder_7d493_7 : decode cJ0_coder_7d493 7 = .ok (.getfield 15, 3) := by decide +kernel
theorem dJ0_coder_7d493_10 : decode cJ0_coder_7d493 10 = .ok (.goto 4, 3) := by decide +kernel
theorem dJ0_coder_7d493_13 : decode cJ0_coder_7d493 13 = .ok (.iconst 1, 1) := by decide +kernel
theorem dJ0_coder_7d493_14 : decode cJ0_coder_7d493 14 = .ok (.ireturn, 1) := by decide +kernel
theorem dJ0_isLatin1_aae02_0 : decode cJ0_isLatin1_aae02 0 = .ok (.getstatic 38, 3) := by decide +kernel
theorem dJ0_isLatin1_aae02_3 : decode cJ0_isLatin1_aae02 3 = .ok (.ifCond .eq 14, 3) := by decide +kernel
theorem dJ0_isLatin1_aae02_6 : decode cJ0_isLatin1_aae02 6 = .ok (.aload_n 0, 1) := by decide +kernel
theorem dJ0_isLatin1_aae02_7 : decode cJ0_isLatin1_aae02 7 = .ok (.getfield 15, 3) := by decide +kernel
theorem dJ0_isLatin1_aae02_10 : decode cJ0_isLatin1_aae02 10 = .ok (.ifCond .ne 7, 3) := by decide +kernel
theorem dJ0_isLatin1_aae02_13 : decode cJ0_isLatin1_aae02 13 = .ok (.iconst 1, 1) := by decide +kernel
theorem dJ0_isLatin1_aae02_14 : decode cJ0_isLatin1_aae02 14 = .ok (.goto 4, 3) := by decide +kernel
theorem dJ0_isLatin1_aae02_17 : decode cJ0_isLatin1_aae02 17 = .ok (.iconst 0, 1) := by decide +kernel
theorem dJ0_isLatin1_aae02_18 : decode cJ0_isLatin1_aae02 18 = .ok (.ireturn, 1) := by decide +kernel
set_option maxRecDepth 20000 in
theorem ggJ0_checkIndex_df160_J3_checkIndex_8e157 : GoodIn wsJ0_checkIndex_df160 wsJ3_checkIndex_8e157 := goodIn_r _ [5] (by decide +kernel) (by decide +kernel)
set_option maxRecDepth 20000 in
theorem gJ0_checkIndex_df160_J3_checkIndex_8e157 : GoodIn wsJ0_checkIndex_df160 (va_wsS RJ0 1059 yJ3_checkIndex_8e157 wsJ3_checkIndex_8e157) := goodIn_app (goodIn_of _ (by decide +kernel)) ggJ0_checkIndex_df160_J3_checkIndex_8e157
theorem dJ0_checkIndex_df160_0 : decode cJ0_checkIndex_df160 0 = .ok (.iload_n 0, 1) := by decide +kernel
theorem dJ0_checkIndex_df160_1 : decode cJ0_checkIndex_df160 1 = .ok (.iload_n 1, 1) := by decide +kernel
theorem dJ0_checkIndex_df160_2 : decode cJ0_checkIndex_df160 2 = .ok (.getstatic 1053, 3) := by decide +kernel
theorem dJ0_checkIndex_df160_5 : decode cJ0_checkIndex_df160 5 = .ok (.invokestatic 1059, 3) := by decide +kernel
theorem dJ0_checkIndex_df160_8 : decode cJ0_checkIndex_df160 8 = .ok (.pop, 1) := by decide +kernel
theorem dJ0_checkIndex_df160_9 : decode cJ0_checkIndex_df160 9 = .ok (.return_, 1) := by decide +kernel
set_option maxRecDepth 20000 in
theorem ggJ1_charAt_3b067_J0_checkIndex_df160 : GoodIn wsJ1_charAt_3b067 wsJ0_checkIndex_df160 := goodIn_r _ [4, 5, 6, 7, 8, 9] (by decide +kernel) (by decide +kernel)
set_option maxRecDepth 20000 in
theorem gJ1_charAt_3b067_J0_checkIndex_df160 : GoodIn wsJ1_charAt_3b067 (va_wsS RJ1 9 yJ0_checkIndex_df160 wsJ0_checkIndex_df160) := goodIn_app (goodIn_of _ (by decide +kernel)) ggJ1_charAt_3b067_J0_checkIndex_df160
theorem dJ1_charAt_3b067_0 : decode cJ1_charAt_3b067 0 = .ok (.iload_n 1, 1) := by decide +kernel
theorem dJ1_charAt_3b067_1 : decode cJ1_charAt_3b067 1 = .ok (.aload_n 0, 1) := by decide +kernel
theorem dJ1_charAt_3b067_2 : decode cJ1_charAt_3b067 2 = .ok (.arraylength, 1) := by decide +kernel
theorem dJ1_charAt_3b067_3 : decode cJ1_charAt_3b067 3 = .ok (.invokestatic 9, 3) := by decide +kernel
theorem dJ1_charAt_3b067_6 : decode cJ1_charAt_3b067 6 = .ok (.aload_n 0, 1) := by decide +kernel
theorem dJ1_charAt_3b067_7 : decode cJ1_charAt_3b067 7 = .ok (.iload_n 1, 1) := by decide +kernel
theorem dJ1_charAt_3b067_8 : decode cJ1_charAt_3b067 8 = .ok (.baload, 1) := by decide +kernel
theorem dJ1_charAt_3b067_9 : decode cJ1_charAt_3b067 9 = .ok (.sipush 255, 3) := by decide +kernel
theorem dJ1_charAt_3b067_12 : decode cJ1_charAt_3b067 12 = .ok (.iand, 1) := by decide +kernel
theorem dJ1_charAt_3b067_13 : decode cJ1_charAt_3b067 13 = .ok (.i2c, 1) := by decide +kernel
theorem dJ1_charAt_3b067_14 : decode cJ1_charAt_3b067 14 = .ok (.ireturn, 1) := by decide +kernel
set_option maxRecDepth 20000 in
theorem ggJ2_getChar_3b067_J2_length_9d52b : GoodIn wsJ2_getChar_3b067 wsJ2_length_9d52b := goodIn_r _ [7] (by decide +kernel) (by decide +kernel)
set_option maxRecDepth 20000 in
theorem gJ2_getChar_3b067_J2_length_9d52b : GoodIn wsJ2_getChar_3b067 (va_wsS RJ2 48 yJ2_length_9d52b wsJ2_length_9d52b) := goodIn_app (goodIn_of _ (by decide +kernel)) ggJ2_getChar_3b067_J2_length_9d52b
theorem dJ2_getChar_3b067_0 : decode cJ2_getChar_3b067 0 = .ok (.getstatic 44, 3) := by decide +kernel
theorem dJ2_getChar_3b067_3 : decode cJ2_getChar_3b067 3 = .ok (.ifCond .ne 25, 3) := by decide +kernel
theorem dJ2_getChar_3b067_6 : decode cJ2_getChar_3b067 6 = .ok (.iload_n 1, 1) := by decide +kernel
theorem dJ2_getChar_3b067_7 : decode cJ2_getChar_3b067 7 = .ok (.ifCond .lt 11, 3) := by decide +kernel
theorem dJ2_getChar_3b067_10 : decode cJ2_getChar_3b067 10 = .ok (.iload_n 1, 1) := by decide +kernel
theorem dJ2_getChar_3b067_11 : decode cJ2_getChar_3b067 11 = .ok (.aload_n 0, 1) := by decide +kernel
theorem dJ2_getChar_3b067_12 : decode cJ2_getChar_3b067 12 = .ok (.invokestatic 48, 3) := by decide +kernel
theorem dJ2_getChar_3b067_15 : decode cJ2_getChar_3b067 15 = .ok (.if_icmp .lt 13, 3) := by decide +kernel
theorem dJ2_getChar_3b067_18 : decode cJ2_getChar_3b067 18 = .ok (.new 52, 3) := by decide +kernel
theorem dJ2_getChar_3b067_21 : decode cJ2_getChar_3b067 21 = .ok (.dup, 1) := by decide +kernel
theorem dJ2_getChar_3b067_22 : decode cJ2_getChar_3b067 22 = .ok (.ldc 54, 2) := by decide +kernel
theorem dJ2_getChar_3b067_24 : decode cJ2_getChar_3b067 24 = .ok (.invokespecial 56, 3) := by decide +kernel
theorem dJ2_getChar_3b067_27 : decode cJ2_getChar_3b067 27 = .ok (.athrow, 1) := by decide +kernel
theorem dJ2_getChar_3b067_28 : decode cJ2_getChar_3b067 28 = .ok (.iload_n 1, 1) := by decide +kernel
theorem dJ2_getChar_3b067_29 : decode cJ2_getChar_3b067 29 = .ok (.iconst 1, 1) := by decide +kernel
theorem dJ2_getChar_3b067_30 : decode cJ2_getChar_3b067 30 = .ok (.ishl, 1) := by decide +kernel
theorem dJ2_getChar_3b067_31 : decode cJ2_getChar_3b067 31 = .ok (.istore_n 1, 1) := by decide +kernel
theorem dJ2_getChar_3b067_32 : decode cJ2_getChar_3b067 32 = .ok (.aload_n 0, 1) := by decide +kernel
theorem dJ2_getChar_3b067_33 : decode cJ2_getChar_3b067 33 = .ok (.iload_n 1, 1) := by decide +kernel
theorem dJ2_getChar_3b067_34 : decode cJ2_getChar_3b067 34 = .ok (.iinc 1 1, 3) := by decide +kernel
theorem dJ2_getChar_3b067_37 : decode cJ2_getChar_3b067 37 = .ok (.baload, 1) := by decide +kernel
theorem dJ2_getChar_3b067_38 : decode cJ2_getChar_3b067 38 = .ok (.sipush 255, 3) := by decide +kernel
theorem dJ2_getChar_3b067_41 : decode cJ2_getChar_3b067 41 = .ok (.iand, 1) := by decide +kernel
theorem dJ2_getChar_3b067_42 : decode cJ2_getChar_3b067 42 = .ok (.getstatic 59, 3) := by decide +kernel
theorem dJ2_getChar_3b067_45 : decode cJ2_getChar_3b067 45 = .ok (.ishl, 1) := by decide +kernel
theorem dJ2_getChar_3b067_46 : decode cJ2_getChar_3b067 46 = .ok (.aload_n 0, 1) := by decide +kernel
theorem dJ2_getChar_3b067_47 : decode cJ2_getChar_3b067 47 = .ok (.iload_n 1, 1) := by decide +kernel
theorem dJ2_getChar_3b067_48 : decode cJ2_getChar_3b067 48 = .ok (.baload, 1) := by decide +kernel
theorem dJ2_getChar_3b067_49 : decode cJ2_getChar_3b067 49 = .ok (.sipush 255, 3) := by decide +kernel
theorem dJ2_getChar_3b067_52 : decode cJ2_getChar_3b067 52 = .ok (.iand, 1) := by decide +kernel
theorem dJ2_getChar_3b067_53 : decode cJ2_getChar_3b067 53 = .ok (.getstatic 63, 3) := by decide +kernel
theorem dJ2_getChar_3b067_56 : decode cJ2_getChar_3b067 56 = .ok (.ishl, 1) := by decide +kernel
theorem dJ2_getChar_3b067_57 : decode cJ2_getChar_3b067 57 = .ok (.ior, 1) := by decide +kernel
theorem dJ2_getChar_3b067_58 : decode cJ2_getChar_3b067 58 = .ok (.i2c, 1) := by decide +kernel
theorem dJ2_getChar_3b067_59 : decode cJ2_getChar_3b067 59 = .ok (.ireturn, 1) := by decide +kernel
theorem dJ2_length_9d52b_0 : decode cJ2_length_9d52b 0 = .ok (.aload_n 0, 1) := by decide +kernel
theorem dJ2_length_9d52b_1 : decode cJ2_length_9d52b 1 = .ok (.arraylength, 1) := by decide +kernel
theorem dJ2_length_9d52b_2 : decode cJ2_length_9d52b 2 = .ok (.iconst 1, 1) := by decide +kernel
theorem dJ2_length_9d52b_3 : decode cJ2_length_9d52b 3 = .ok (.ishr, 1) := by decide +kernel
theorem dJ2_length_9d52b_4 : decode cJ2_length_9d52b 4 = .ok (.ireturn, 1) := by decide +kernel
set_option maxRecDepth 20000 in
theorem ggJ2_charAt_3b067_J2_checkIndex_2214a : GoodIn wsJ2_charAt_3b067 wsJ2_checkIndex_2214a := goodIn_r _ [4, 5, 6, 3, 7, 8, 9, 10, 11, 12, 13, 14, 15, 16] (by decide +kernel) (by decide +kernel)
set_option maxRecDepth 20000 in
theorem gJ2_charAt_3b067_J2_checkIndex_2214a : GoodIn wsJ2_charAt_3b067 (va_wsS RJ2 67 yJ2_checkIndex_2214a wsJ2_checkIndex_2214a) := goodIn_app (goodIn_of _ (by decide +kernel)) ggJ2_charAt_3b067_J2_checkIndex_2214a
set_option maxRecDepth 20000 in
theorem ggJ2_charAt_3b067_J2_getChar_3b067 : GoodIn wsJ2_charAt_3b067 wsJ2_getChar_3b067 := goodIn_r _ [19, 20, 21, 22, 5, 6, 3, 7] (by decide +kernel) (by decide +kernel)
set_option maxRecDepth 20000 in
theorem gJ2_charAt_3b067_J2_getChar_3b067 : GoodIn wsJ2_charAt_3b067 (va_wsS RJ2 71 yJ2_getChar_3b067 wsJ2_getChar_3b067) := goodIn_app (goodIn_of _ (by decide +kernel)) ggJ2_charAt_3b067_J2_getChar_3b067
theorem dJ2_charAt_3b067_0 : decode cJ2_charAt_3b067 0 = .ok (.iload_n 1, 1) := by decide +kernel
theorem dJ2_charAt_3b067_1 : decode cJ2_charAt_3b067 1 = .ok (.aload_n 0, 1) := by decide +kernel
theorem dJ2_charAt_3b067_2 : decode cJ2_charAt_3b067 2 = .ok (.invokestatic 67, 3) := by decide +kernel
theorem dJ2_charAt_3b067_5 : decode cJ2_charAt_3b067 5 = .ok (.aload_n 0, 1) := by decide +kernel
theorem dJ2_charAt_3b067_6 : decode cJ2_charAt_3b067 6 = .ok (.iload_n 1, 1) := by decide +kernel
theorem dJ2_charAt_3b067_7 : decode cJ2_charAt_3b067 7 = .ok (.invokestatic 71, 3) := by decide +kernel
theorem dJ2_charAt_3b067_10 : decode cJ2_charAt_3b067 10 = .ok (.ireturn, 1) := by decide +kernel
set_option maxRecDepth 20000 in
theorem ggJ2_checkIndex_2214a_J2_length_9d52b : GoodIn wsJ2_checkIndex_2214a wsJ2_length_9d52b := goodIn_r _ [4] (by decide +kernel) (by decide +kernel)
set_option maxRecDepth 20000 in
theorem gJ2_checkIndex_2214a_J2_length_9d52b : GoodIn wsJ2_checkIndex_2214a (va_wsS RJ2 48 yJ2_length_9d52b wsJ2_length_9d52b) := goodIn_app (goodIn_of _ (by decide +kernel)) ggJ2_checkIndex_2214a_J2_length_9d52b
set_option maxRecDepth 20000 in
theorem ggJ2_checkIndex_2214a_J0_checkIndex_df160 : GoodIn wsJ2_checkIndex_2214a wsJ0_checkIndex_df160 := goodIn_r _ [8, 9, 10, 11, 12, 13] (by decide +kernel) (by decide +kernel)
set_option maxRecDepth 20000 in
theorem gJ2_checkIndex_2214a_J0_checkIndex_df160 : GoodIn wsJ2_checkIndex_2214a (va_wsS RJ2 414 yJ0_checkIndex_df160 wsJ0_checkIndex_df160) := goodIn_app (goodIn_of _ (by decide +kernel)) ggJ2_checkIndex_2214a_J0_checkIndex_df160
theorem dJ2_checkIndex_2214a_0 : decode cJ2_checkIndex_2214a 0 = .ok (.iload_n 0, 1) := by decide +kernel
theorem dJ2_checkIndex_2214a_1 : decode cJ2_checkIndex_2214a 1 = .ok (.aload_n 1, 1) := by decide +kernel
theorem dJ2_checkIndex_2214a_2 : decode cJ2_checkIndex_2214a 2 = .ok (.invokestatic 48, 3) := by decide +kernel
theorem dJ2_checkIndex_2214a_5 : decode cJ2_checkIndex_2214a 5 = .ok (.invokestatic 414, 3) := by decide +kernel
theorem dJ2_checkIndex_2214a_8 : decode cJ2_checkIndex_2214a 8 = .ok (.return_, 1) := by decide +kernel
theorem dJ3_checkIndex_8e157_0 : decode cJ3_checkIndex_8e157 0 = .ok (.iload_n 0, 1) := by decide +kernel
theorem dJ3_checkIndex_8e157_1 : decode cJ3_checkIndex_8e157 1 = .ok (.ifCond .lt 8, 3) := by decide +kernel
theorem dJ3_checkIndex_8e157_4 : decode cJ3_checkIndex_8e157 4 = .ok (.iload_n 0, 1) := by decide +kernel
theorem dJ3_checkIndex_8e157_5 : decode cJ3_checkIndex_8e157 5 = .ok (.iload_n 1, 1) := by decide +kernel
theorem dJ3_checkIndex_8e157_6 : decode cJ3_checkIndex_8e157 6 = .ok (.if_icmp .lt 10, 3) := by decide +kernel
theorem dJ3_checkIndex_8e157_9 : decode cJ3_checkIndex_8e157 9 = .ok (.aload_n 2, 1) := by decide +kernel
theorem dJ3_checkIndex_8e157_10 : decode cJ3_checkIndex_8e157 10 = .ok (.iload_n 0, 1) := by decide +kernel
theorem dJ3_checkIndex_8e157_11 : decode cJ3_checkIndex_8e157 11 = .ok (.iload_n 1, 1) := by decide +kernel
theorem dJ3_checkIndex_8e157_12 : decode cJ3_checkIndex_8e157 12 = .ok (.invokestatic 95, 3) := by decide +kernel
theorem dJ3_checkIndex_8e157_15 : decode cJ3_checkIndex_8e157 15 = .ok (.athrow, 1) := by decide +kernel
theorem dJ3_checkIndex_8e157_16 : decode cJ3_checkIndex_8e157 16 = .ok (.iload_n 0, 1) := by decide +kernel
theorem dJ3_checkIndex_8e157_17 : decode cJ3_checkIndex_8e157 17 = .ok (.ireturn, 1) := by decide +kernel
abbrev vwCl : List vw_C := [(RX0, TX0, 0), (RX1, TX1, 8), (RX2, TX2, 6), (RX3, TX3, 0), (RX4, TX4, 5), (RX5, TX5, 0), (RX6, TX6, 6), (RX7, TX7, 0), (RX8, TX8, 6), (RX9, TX9, 0), (RX10, TX10, 0), (RX11, TX11, 12), (RX12, TX12, 28)]
