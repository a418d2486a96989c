theorem dX12_drawn_17 : decode cX12_drawn 17 = .ok (.iadd, 1) := by decide +kernel
theorem dX12_drawn_18 : decode cX12_drawn 18 = .ok (.iastore, 1) := by decide +kernel
theorem dX12_drawn_19 : decode cX12_drawn 19 = .ok (.aload_n 0, 1) := by decide +kernel
theorem dX12_drawn_20 : decode cX12_drawn 20 = .ok (.getfield 7, 3) := by decide +kernel
theorem dX12_drawn_23 : decode cX12_drawn 23 = .ok (.iconst 2, 1) := by decide +kernel
theorem dX12_drawn_24 : decode cX12_drawn 24 = .ok (.iaload, 1) := by decide +kernel
theorem dX12_drawn_25 : decode cX12_drawn 25 = .ok (.bipush 16, 2) := by decide +kernel
theorem dX12_drawn_27 : decode cX12_drawn 27 = .ok (.iushr, 1) := by decide +kernel
theorem dX12_drawn_28 : decode cX12_drawn 28 = .ok (.ireturn, 1) := by decide +kernel
set_option maxRecDepth 20000 in
theorem ggX12_year_X12_drawn : GoodIn wsX12_year wsX12_drawn := goodIn_r _ [6, 1, 7, 45, 46, 47, 48, 49, 50, 51, 52, 53, 54, 55, 56, 57, 58, 59, 60, 61, 62, 63, 64, 65, 66, 67, 68, 69, 70, 71, 72] (by decide +kernel) (by decide +kernel)
set_option maxRecDepth 20000 in
theorem gX12_year_X12_drawn : GoodIn wsX12_year (wsV RX12 226 RX12 yX12_drawn wsX12_drawn) := goodIn_app (goodIn_of _ (by decide +kernel)) ggX12_year_X12_drawn
set_option maxRecDepth 20000 in
theorem ggX12_year_X12_goesOn : GoodIn wsX12_year wsX12_goesOn := goodIn_r _ [11, 1, 12, 13, 14, 5, 15, 16, 17, 18, 19, 20, 21, 22, 23, 24, 25, 26, 27, 28, 29, 30, 31, 32, 33, 34, 35, 36, 37, 38, 39, 40, 45, 46, 47, 48, 49, 50, 51, 52, 53, 54, 55, 56, 57, 58, 59, 60, 61, 62, 63, 64, 65, 66, 67, 68, 69, 70, 71, 72] (by decide +kernel) (by decide +kernel)
set_option maxRecDepth 20000 in
theorem gX12_year_X12_goesOn : GoodIn wsX12_year (wsV RX12 208 RX12 yX12_goesOn wsX12_goesOn) := goodIn_app (goodIn_of _ (by decide +kernel)) ggX12_year_X12_goesOn
set_option maxRecDepth 20000 in
theorem ggX12_year_X12_traits : GoodIn wsX12_year wsX12_traits := goodIn_r _ [44, 1, 16, 17, 18, 5, 19, 45, 46, 47, 48, 49, 50, 51, 52, 53, 54, 55, 56, 57, 58, 59, 60, 61, 62, 63, 64, 65, 66, 67, 68, 69, 70, 71, 72] (by decide +kernel) (by decide +kernel)
set_option maxRecDepth 20000 in
theorem gX12_year_X12_traits : GoodIn wsX12_year (wsV RX12 222 RX12 yX12_traits wsX12_traits) := goodIn_app (goodIn_of _ (by decide +kernel)) ggX12_year_X12_traits
theorem dX12_year_0 : decode cX12_year 0 = .ok (.aload_n 0, 1) := by decide +kernel
theorem dX12_year_1 : decode cX12_year 1 = .ok (.getfield 7, 3) := by decide +kernel
theorem dX12_year_4 : decode cX12_year 4 = .ok (.iconst 0, 1) := by decide +kernel
theorem dX12_year_5 : decode cX12_year 5 = .ok (.iaload, 1) := by decide +kernel
theorem dX12_year_6 : decode cX12_year 6 = .ok (.ifCond .le 53, 3) := by decide +kernel
theorem dX12_year_9 : decode cX12_year 9 = .ok (.bipush 16, 2) := by decide +kernel
theorem dX12_year_11 : decode cX12_year 11 = .ok (.bipush 6, 2) := by decide +kernel
theorem dX12_year_13 : decode cX12_year 13 = .ok (.aload_n 0, 1) := by decide +kernel
theorem dX12_year_14 : decode cX12_year 14 = .ok (.invokevirtual 226, 3) := by decide +kernel
theorem dX12_year_17 : decode cX12_year 17 = .ok (.aload_n 0, 1) := by decide +kernel
theorem dX12_year_18 : decode cX12_year 18 = .ok (.getfield 7, 3) := by decide +kernel
theorem dX12_year_21 : decode cX12_year 21 = .ok (.iconst 0, 1) := by decide +kernel
theorem dX12_year_22 : decode cX12_year 22 = .ok (.iaload, 1) := by decide +kernel
theorem dX12_year_23 : decode cX12_year 23 = .ok (.irem, 1) := by decide +kernel
theorem dX12_year_24 : decode cX12_year 24 = .ok (.imul, 1) := by decide +kernel
theorem dX12_year_25 : decode cX12_year 25 = .ok (.iadd, 1) := by decide +kernel
theorem dX12_year_26 : decode cX12_year 26 = .ok (.iconst 5, 1) := by decide +kernel
theorem dX12_year_27 : decode cX12_year 27 = .ok (.iadd, 1) := by decide +kernel
theorem dX12_year_28 : decode cX12_year 28 = .ok (.istore_n 1, 1) := by decide +kernel
theorem dX12_year_29 : decode cX12_year 29 = .ok (.aload_n 0, 1) := by decide +kernel
theorem dX12_year_30 : decode cX12_year 30 = .ok (.invokevirtual 226, 3) := by decide +kernel
theorem dX12_year_33 : decode cX12_year 33 = .ok (.bipush 100, 2) := by decide +kernel
theorem dX12_year_35 : decode cX12_year 35 = .ok (.irem, 1) := by decide +kernel
theorem dX12_year_36 : decode cX12_year 36 = .ok (.aload_n 0, 1) := by decide +kernel
theorem dX12_year_37 : decode cX12_year 37 = .ok (.getfield 7, 3) := by decide +kernel
theorem dX12_year_40 : decode cX12_year 40 = .ok (.bipush 6, 2) := by decide +kernel
theorem dX12_year_42 : decode cX12_year 42 = .ok (.iaload, 1) := by decide +kernel
theorem dX12_year_43 : decode cX12_year 43 = .ok (.if_icmp .ge 16, 3) := by decide +kernel
theorem dX12_year_46 : decode cX12_year 46 = .ok (.aload_n 0, 1) := by decide +kernel
theorem dX12_year_47 : decode cX12_year 47 = .ok (.getfield 7, 3) := by decide +kernel
theorem dX12_year_50 : decode cX12_year 50 = .ok (.iload_n 1, 1) := by decide +kernel
theorem dX12_year_51 : decode cX12_year 51 = .ok (.aload_n 0, 1) := by decide +kernel
theorem dX12_year_52 : decode cX12_year 52 = .ok (.invokevirtual 226, 3) := by decide +kernel
theorem dX12_year_55 : decode cX12_year 55 = .ok (.bipush 8, 2) := by decide +kernel
theorem dX12_year_57 : decode cX12_year 57 = .ok (.irem, 1) := by decide +kernel
theorem dX12_year_58 : decode cX12_year 58 = .ok (.iastore, 1) := by decide +kernel
theorem dX12_year_59 : decode cX12_year 59 = .ok (.aload_n 0, 1) := by decide +kernel
theorem dX12_year_60 : decode cX12_year 60 = .ok (.invokevirtual 208, 3) := by decide +kernel
theorem dX12_year_63 : decode cX12_year 63 = .ok (.aload_n 0, 1) := by decide +kernel
theorem dX12_year_64 : decode cX12_year 64 = .ok (.invokevirtual 222, 3) := by decide +kernel
theorem dX12_year_67 : decode cX12_year 67 = .ok (.ireturn, 1) := by decide +kernel
set_option maxRecDepth 20000 in
theorem ggX12_luck_X12_isIn : GoodIn wsX12_luck wsX12_isIn := goodIn_r _ [7] (by decide +kernel) (by decide +kernel)
set_option maxRecDepth 20000 in
theorem gX12_luck_X12_isIn : GoodIn wsX12_luck (va_wsS RX12 60 yX12_isIn wsX12_isIn) := goodIn_app (goodIn_of _ (by decide +kernel)) ggX12_luck_X12_isIn
set_option maxRecDepth 20000 in
theorem ggX12_luck_X12_copyRow : GoodIn wsX12_luck wsX12_copyRow := goodIn_r _ [10] (by decide +kernel) (by decide +kernel)
set_option maxRecDepth 20000 in
theorem gX12_luck_X12_copyRow : GoodIn wsX12_luck (va_wsS RX12 151 yX12_copyRow wsX12_copyRow) := goodIn_app (goodIn_of _ (by decide +kernel)) ggX12_luck_X12_copyRow
set_option maxRecDepth 20000 in
theorem ggX12_luck_X12_goesOn : GoodIn wsX12_luck wsX12_goesOn := goodIn_r _ [14, 2, 15, 16, 17, 6, 18, 19, 20, 21, 22, 23, 24, 25, 26, 27, 28, 29, 30, 31, 32, 33, 34, 35, 36, 37, 38, 39, 40, 41, 42, 43, 68, 69, 70, 71, 72, 73, 74, 75, 76, 77, 78, 79, 80, 81, 82, 83, 84, 85, 86, 87, 88, 89, 90, 91, 92, 93, 94, 95] (by decide +kernel) (by decide +kernel)
set_option maxRecDepth 20000 in
theorem gX12_luck_X12_goesOn : GoodIn wsX12_luck (wsV RX12 208 RX12 yX12_goesOn wsX12_goesOn) := goodIn_app (goodIn_of _ (by decide +kernel)) ggX12_luck_X12_goesOn
set_option maxRecDepth 20000 in
theorem ggX12_luck_X12_farAll : GoodIn wsX12_luck wsX12_farAll := goodIn_r _ [47, 2, 48, 49, 50, 6, 51, 19, 20, 21, 22, 52, 53, 54, 68, 69, 70, 71, 72, 73, 74, 75, 76, 77, 78, 79, 80, 81, 82, 83, 84, 85, 86, 87, 88, 89, 90, 91, 92, 93, 94, 95] (by decide +kernel) (by decide +kernel)
set_option maxRecDepth 20000 in
theorem gX12_luck_X12_farAll : GoodIn wsX12_luck (wsV RX12 231 RX12 yX12_farAll wsX12_farAll) := goodIn_app (goodIn_of _ (by decide +kernel)) ggX12_luck_X12_farAll
set_option maxRecDepth 20000 in
theorem ggX12_luck_X12_year : GoodIn wsX12_luck wsX12_year := goodIn_r _ [58, 2, 59, 60, 61, 6, 62, 63, 11, 12, 13, 14, 15, 16, 17, 18, 19, 20, 21, 22, 23, 24, 25, 26, 27, 28, 29, 30, 31, 32, 33, 34, 35, 36, 37, 38, 39, 40, 41, 42, 43, 64, 65, 66, 67, 68, 69, 70, 71, 72, 73, 74, 75, 76, 77, 78, 79, 80, 81, 82, 83, 84, 85, 86, 87, 88, 89, 90, 91, 92, 93, 94, 95] (by decide +kernel) (by decide +kernel)
set_option maxRecDepth 20000 in
theorem gX12_luck_X12_year : GoodIn wsX12_luck (wsV RX12 234 RX12 yX12_year wsX12_year) := goodIn_app (goodIn_of _ (by decide +kernel)) ggX12_luck_X12_year
theorem dX12_luck_0 : decode cX12_luck 0 = .ok (.iload_n 1, 1) := by decide +kernel
theorem dX12_luck_1 : decode cX12_luck 1 = .ok (.i2l, 1) := by decide +kernel
theorem dX12_luck_2 : decode cX12_luck 2 = .ok (.lconst 1, 1) := by decide +kernel
theorem dX12_luck_3 : decode cX12_luck 3 = .ok (.ldc2_w 229, 3) := by decide +kernel
theorem dX12_luck_6 : decode cX12_luck 6 = .ok (.invokestatic 60, 3) := by decide +kernel
theorem dX12_luck_9 : decode cX12_luck 9 = .ok (.ifCond .ne 5, 3) := by decide +kernel
theorem dX12_luck_12 : decode cX12_luck 12 = .ok (.iconst (-1), 1) := by decide +kernel
theorem dX12_luck_13 : decode cX12_luck 13 = .ok (.ireturn, 1) := by decide +kernel
theorem dX12_luck_14 : decode cX12_luck 14 = .ok (.aload_n 0, 1) := by decide +kernel
theorem dX12_luck_15 : decode cX12_luck 15 = .ok (.getfield 7, 3) := by decide +kernel
theorem dX12_luck_18 : decode cX12_luck 18 = .ok (.aload_n 0, 1) := by decide +kernel
theorem dX12_luck_19 : decode cX12_luck 19 = .ok (.getfield 16, 3) := by decide +kernel
theorem dX12_luck_22 : decode cX12_luck 22 = .ok (.invokestatic 151, 3) := by decide +kernel
theorem dX12_luck_25 : decode cX12_luck 25 = .ok (.aload_n 0, 1) := by decide +kernel
theorem dX12_luck_26 : decode cX12_luck 26 = .ok (.invokevirtual 208, 3) := by decide +kernel
theorem dX12_luck_29 : decode cX12_luck 29 = .ok (.aload_n 0, 1) := by decide +kernel
theorem dX12_luck_30 : decode cX12_luck 30 = .ok (.invokevirtual 231, 3) := by decide +kernel
theorem dX12_luck_33 : decode cX12_luck 33 = .ok (.istore_n 2, 1) := by decide +kernel
theorem dX12_luck_34 : decode cX12_luck 34 = .ok (.aload_n 0, 1) := by decide +kernel
theorem dX12_luck_35 : decode cX12_luck 35 = .ok (.getfield 16, 3) := by decide +kernel
theorem dX12_luck_38 : decode cX12_luck 38 = .ok (.iconst 2, 1) := by decide +kernel
theorem dX12_luck_39 : decode cX12_luck 39 = .ok (.iaload, 1) := by decide +kernel
theorem dX12_luck_40 : decode cX12_luck 40 = .ok (.istore_n 3, 1) := by decide +kernel
theorem dX12_luck_41 : decode cX12_luck 41 = .ok (.iconst 0, 1) := by decide +kernel
theorem dX12_luck_42 : decode cX12_luck 42 = .ok (.istore 4, 2) := by decide +kernel
theorem dX12_luck_44 : decode cX12_luck 44 = .ok (.iconst 0, 1) := by decide +kernel
theorem dX12_luck_45 : decode cX12_luck 45 = .ok (.istore 5, 2) := by decide +kernel
theorem dX12_luck_47 : decode cX12_luck 47 = .ok (.iload 5, 2) := by decide +kernel
theorem dX12_luck_49 : decode cX12_luck 49 = .ok (.iload_n 1, 1) := by decide +kernel
theorem dX12_luck_50 : decode cX12_luck 50 = .ok (.if_icmp .ge 58, 3) := by decide +kernel
theorem dX12_luck_53 : decode cX12_luck 53 = .ok (.aload_n 0, 1) := by decide +kernel
theorem dX12_luck_54 : decode cX12_luck 54 = .ok (.getfield 16, 3) := by decide +kernel
theorem dX12_luck_57 : decode cX12_luck 57 = .ok (.aload_n 0, 1) := by decide +kernel
theorem dX12_luck_58 : decode cX12_luck 58 = .ok (.getfield 7, 3) := by decide +kernel
theorem dX12_luck_61 : decode cX12_luck 61 = .ok (.invokestatic 151, 3) := by decide +kernel
theorem dX12_luck_64 : decode cX12_luck 64 = .ok (.aload_n 0, 1) := by decide +kernel
theorem dX12_luck_65 : decode cX12_luck 65 = .ok (.getfield 7, 3) := by decide +kernel
theorem dX12_luck_68 : decode cX12_luck 68 = .ok (.iconst 2, 1) := by decide +kernel
theorem dX12_luck_69 : decode cX12_luck 69 = .ok (.iload_n 3, 1) := by decide +kernel
theorem dX12_luck_70 : decode cX12_luck 70 = .ok (.iastore, 1) := by decide +kernel
theorem dX12_luck_71 : decode cX12_luck 71 = .ok (.aload_n 0, 1) := by decide +kernel
theorem dX12_luck_72 : decode cX12_luck 72 = .ok (.invokevirtual 234, 3) := by decide +kernel
theorem dX12_luck_75 : decode cX12_luck 75 = .ok (.istore 6, 2) := by decide +kernel
theorem dX12_luck_77 : decode cX12_luck 77 = .ok (.iload 4, 2) := by decide +kernel
theorem dX12_luck_79 : decode cX12_luck 79 = .ok (.aload_n 0, 1) := by decide +kernel
theorem dX12_luck_80 : decode cX12_luck 80 = .ok (.invokevirtual 231, 3) := by decide +kernel
theorem dX12_luck_83 : decode cX12_luck 83 = .ok (.iload_n 2, 1) := by decide +kernel
theorem dX12_luck_84 : decode cX12_luck 84 = .ok (.if_icmp .ge 7, 3) := by decide +kernel
theorem dX12_luck_87 : decode cX12_luck 87 = .ok (.iconst 1, 1) := by decide +kernel
theorem dX12_luck_88 : decode cX12_luck 88 = .ok (.goto 4, 3) := by decide +kernel
theorem dX12_luck_91 : decode cX12_luck 91 = .ok (.iconst 0, 1) := by decide +kernel
theorem dX12_luck_92 : decode cX12_luck 92 = .ok (.iadd, 1) := by decide +kernel
theorem dX12_luck_93 : decode cX12_luck 93 = .ok (.istore 4, 2) := by decide +kernel
theorem dX12_luck_95 : decode cX12_luck 95 = .ok (.aload_n 0, 1) := by decide +kernel
theorem dX12_luck_96 : decode cX12_luck 96 = .ok (.getfield 7, 3) := by decide +kernel
theorem dX12_luck_99 : decode cX12_luck 99 = .ok (.iconst 2, 1) := by decide +kernel
theorem dX12_luck_100 : decode cX12_luck 100 = .ok (.iaload, 1) := by decide +kernel
theorem dX12_luck_101 : decode cX12_luck 101 = .ok (.istore_n 3, 1) := by decide +kernel
theorem dX12_luck_102 : decode cX12_luck 102 = .ok (.iinc 5 1, 3) := by decide +kernel
theorem dX12_luck_105 : decode cX12_luck 105 = .ok (.goto (-58), 3) := by decide +kernel
theorem dX12_luck_108 : decode cX12_luck 108 = .ok (.aload_n 0, 1) := by decide +kernel
theorem dX12_luck_109 : decode cX12_luck 109 = .ok (.getfield 16, 3) := by decide +kernel
theorem dX12_luck_112 : decode cX12_luck 112 = .ok (.aload_n 0, 1) := by decide +kernel
theorem dX12_luck_113 : decode cX12_luck 113 = .ok (.getfield 7, 3) := by decide +kernel
theorem dX12_luck_116 : decode cX12_luck 116 = .ok (.invokestatic 151, 3) := by decide +kernel
theorem dX12_luck_119 : decode cX12_luck 119 = .ok (.iload 4, 2) := by decide +kernel
theorem dX12_luck_121 : decode cX12_luck 121 = .ok (.ireturn, 1) := by decide +kernel
set_option maxRecDepth 20000 in
theorem ggX12_youngOnes_X12_isYoung : GoodIn wsX12_youngOnes wsX12_isYoung := goodIn_r _ [6, 7, 8, 9, 5, 10, 1, 11, 12, 13, 14, 15, 16, 17, 18, 19, 20, 21, 22, 23, 24, 25, 26, 27, 28, 29, 30, 31, 32, 33, 34, 35, 36, 37, 38, 39, 40, 41, 42] (by decide +kernel) (by decide +kernel)
set_option maxRecDepth 20000 in
theorem gX12_youngOnes_X12_isYoung : GoodIn wsX12_youngOnes (wsV RX12 202 RX12 yX12_isYoung wsX12_isYoung) := goodIn_app (goodIn_of _ (by decide +kernel)) ggX12_youngOnes_X12_isYoung
theorem dX12_youngOnes_0 : decode cX12_youngOnes 0 = .ok (.iconst 0, 1) := by decide +kernel
theorem dX12_youngOnes_1 : decode cX12_youngOnes 1 = .ok (.istore_n 1, 1) := by decide +kernel
theorem dX12_youngOnes_2 : decode cX12_youngOnes 2 = .ok (.iconst 0, 1) := by decide +kernel
theorem dX12_youngOnes_3 : decode cX12_youngOnes 3 = .ok (.istore_n 2, 1) := by decide +kernel
theorem dX12_youngOnes_4 : decode cX12_youngOnes 4 = .ok (.iload_n 2, 1) := by decide +kernel
theorem dX12_youngOnes_5 : decode cX12_youngOnes 5 = .ok (.aload_n 0, 1) := by decide +kernel
theorem dX12_youngOnes_6 : decode cX12_youngOnes 6 = .ok (.getfield 7, 3) := by decide +kernel
theorem dX12_youngOnes_9 : decode cX12_youngOnes 9 = .ok (.iconst 0, 1) := by decide +kernel
theorem dX12_youngOnes_10 : decode cX12_youngOnes 10 = .ok (.iaload, 1) := by decide +kernel
theorem dX12_youngOnes_11 : decode cX12_youngOnes 11 = .ok (.if_icmp .ge 27, 3) := by decide +kernel
theorem dX12_youngOnes_14 : decode cX12_youngOnes 14 = .ok (.iload_n 1, 1) := by decide +kernel
theorem dX12_youngOnes_15 : decode cX12_youngOnes 15 = .ok (.aload_n 0, 1) := by decide +kernel
theorem dX12_youngOnes_16 : decode cX12_youngOnes 16 = .ok (.iload_n 2, 1) := by decide +kernel
theorem dX12_youngOnes_17 : decode cX12_youngOnes 17 = .ok (.invokevirtual 202, 3) := by decide +kernel
theorem dX12_youngOnes_20 : decode cX12_youngOnes 20 = .ok (.ifCond .eq 9, 3) := by decide +kernel
theorem dX12_youngOnes_23 : decode cX12_youngOnes 23 = .ok (.iconst 1, 1) := by decide +kernel
theorem dX12_youngOnes_24 : decode cX12_youngOnes 24 = .ok (.iload_n 2, 1) := by decide +kernel
theorem dX12_youngOnes_25 : decode cX12_youngOnes 25 = .ok (.ishl, 1) := by decide +kernel
theorem dX12_youngOnes_26 : decode cX12_youngOnes 26 = .ok (.goto 4, 3) := by decide +kernel
theorem dX12_youngOnes_29 : decode cX12_youngOnes 29 = .ok (.iconst 0, 1) := by decide +kernel
theorem dX12_youngOnes_30 : decode cX12_youngOnes 30 = .ok (.ior, 1) := by decide +kernel
theorem dX12_youngOnes_31 : decode cX12_youngOnes 31 = .ok (.istore_n 1, 1) := by decide +kernel
theorem dX12_youngOnes_32 : decode cX12_youngOnes 32 = .ok (.iinc 2 1, 3) := by decide +kernel
theorem dX12_youngOnes_35 : decode cX12_youngOnes 35 = .ok (.goto (-31), 3) := by decide +kernel
theorem dX12_youngOnes_38 : decode cX12_youngOnes 38 = .ok (.iload_n 1, 1) := by decide +kernel
theorem dX12_youngOnes_39 : decode cX12_youngOnes 39 = .ok (.ireturn, 1) := by decide +kernel
theorem dX12_vices_0 : decode cX12_vices 0 = .ok (.iconst 0, 1) := by decide +kernel
theorem dX12_vices_1 : decode cX12_vices 1 = .ok (.istore_n 1, 1) := by decide +kernel
theorem dX12_vices_2 : decode cX12_vices 2 = .ok (.iconst 0, 1) := by decide +kernel
theorem dX12_vices_3 : decode cX12_vices 3 = .ok (.istore_n 2, 1) := by decide +kernel
theorem dX12_vices_4 : decode cX12_vices 4 = .ok (.iload_n 2, 1) := by decide +kernel
theorem dX12_vices_5 : decode cX12_vices 5 = .ok (.bipush 8, 2) := by decide +kernel
theorem dX12_vices_7 : decode cX12_vices 7 = .ok (.if_icmp .ge 21, 3) := by decide +kernel
theorem dX12_vices_10 : decode cX12_vices 10 = .ok (.iload_n 1, 1) := by decide +kernel
theorem dX12_vices_11 : decode cX12_vices 11 = .ok (.aload_n 0, 1) := by decide +kernel
theorem dX12_vices_12 : decode cX12_vices 12 = .ok (.getfield 7, 3) := by decide +kernel
theorem dX12_vices_15 : decode cX12_vices 15 = .ok (.bipush 8, 2) := by decide +kernel
theorem dX12_vices_17 : decode cX12_vices 17 = .ok (.iload_n 2, 1) := by decide +kernel
theorem dX12_vices_18 : decode cX12_vices 18 = .ok (.iadd, 1) := by decide +kernel
theorem dX12_vices_19 : decode cX12_vices 19 = .ok (.iaload, 1) := by decide +kernel
theorem dX12_vices_20 : decode cX12_vices 20 = .ok (.iadd, 1) := by decide +kernel
theorem dX12_vices_21 : decode cX12_vices 21 = .ok (.istore_n 1, 1) := by decide +kernel
theorem dX12_vices_22 : decode cX12_vices 22 = .ok (.iinc 2 1, 3) := by decide +kernel
theorem dX12_vices_25 : decode cX12_vices 25 = .ok (.goto (-21), 3) := by decide +kernel
theorem dX12_vices_28 : decode cX12_vices 28 = .ok (.iload_n 1, 1) := by decide +kernel
theorem dX12_vices_29 : decode cX12_vices 29 = .ok (.ireturn, 1) := by decide +kernel
set_option maxRecDepth 20000 in
theorem ggX12_state_X12_traits : GoodIn wsX12_state wsX12_traits := goodIn_r _ [6, 1, 7, 8, 9, 5, 10, 38, 39, 40, 41, 42, 43, 44, 45, 46, 47, 48, 49, 50, 51, 52, 53, 54, 55, 56, 57, 58, 59, 60, 61, 62, 63, 64, 65] (by decide +kernel) (by decide +kernel)
set_option maxRecDepth 20000 in
theorem gX12_state_X12_traits : GoodIn wsX12_state (wsV RX12 222 RX12 yX12_traits wsX12_traits) := goodIn_app (goodIn_of _ (by decide +kernel)) ggX12_state_X12_traits
set_option maxRecDepth 20000 in
theorem ggX12_state_X12_farAll : GoodIn wsX12_state wsX12_farAll := goodIn_r _ [14, 1, 15, 16, 17, 5, 18, 7, 8, 9, 10, 19, 20, 21, 38, 39, 40, 41, 42, 43, 44, 45, 46, 47, 48, 49, 50, 51, 52, 53, 54, 55, 56, 57, 58, 59, 60, 61, 62, 63, 64, 65] (by decide +kernel) (by decide +kernel)
set_option maxRecDepth 20000 in
theorem gX12_state_X12_farAll : GoodIn wsX12_state (wsV RX12 231 RX12 yX12_farAll wsX12_farAll) := goodIn_app (goodIn_of _ (by decide +kernel)) ggX12_state_X12_farAll
set_option maxRecDepth 20000 in
theorem ggX12_state_X12_youngOnes : GoodIn wsX12_state wsX12_youngOnes := goodIn_r _ [25, 1, 26, 27, 28, 5, 29, 7, 8, 9, 10, 30, 31, 32, 33, 38, 39, 40, 41, 42, 43, 44, 45, 46, 47, 48, 49, 50, 51, 52, 53, 54, 55, 56, 57, 58, 59, 60, 61, 62, 63, 64, 65] (by decide +kernel) (by decide +kernel)
set_option maxRecDepth 20000 in
theorem gX12_state_X12_youngOnes : GoodIn wsX12_state (wsV RX12 237 RX12 yX12_youngOnes wsX12_youngOnes) := goodIn_app (goodIn_of _ (by decide +kernel)) ggX12_state_X12_youngOnes
set_option maxRecDepth 20000 in
theorem ggX12_state_X12_vices : GoodIn wsX12_state wsX12_vices := goodIn_r _ [37, 1, 38, 39, 40, 41, 42, 43, 44, 45, 46, 47, 48, 49, 50, 51, 52, 53, 54, 55, 56, 57, 58, 59, 60, 61, 62, 63, 64, 65] (by decide +kernel) (by decide +kernel)
set_option maxRecDepth 20000 in
theorem gX12_state_X12_vices : GoodIn wsX12_state (wsV RX12 240 RX12 yX12_vices wsX12_vices) := goodIn_app (goodIn_of _ (by decide +kernel)) ggX12_state_X12_vices
theorem dX12_state_0 : decode cX12_state 0 = .ok (.iload_n 1, 1) := by decide +kernel
theorem dX12_state_1 : decode cX12_state 1 = .ok (.tableswitch 87 0 5 #[39, 46, 51, 56, 74, 82], 39) := by decide +kernel
theorem dX12_state_40 : decode cX12_state 40 = .ok (.aload_n 0, 1) := by decide +kernel
theorem dX12_state_41 : decode cX12_state 41 = .ok (.getfield 7, 3) := by decide +kernel
theorem dX12_state_44 : decode cX12_state 44 = .ok (.iconst 1, 1) := by decide +kernel
theorem dX12_state_45 : decode cX12_state 45 = .ok (.iaload, 1) := by decide +kernel
theorem dX12_state_46 : decode cX12_state 46 = .ok (.ireturn, 1) := by decide +kernel
theorem dX12_state_47 : decode cX12_state 47 = .ok (.aload_n 0, 1) := by decide +kernel
theorem dX12_state_48 : decode cX12_state 48 = .ok (.invokevirtual 222, 3) := by decide +kernel
theorem dX12_state_51 : decode cX12_state 51 = .ok (.ireturn, 1) := by decide +kernel
theorem dX12_state_52 : decode cX12_state 52 = .ok (.aload_n 0, 1) := by decide +kernel
theorem dX12_state_53 : decode cX12_state 53 = .ok (.invokevirtual 231, 3) := by decide +kernel
theorem dX12_state_56 : decode cX12_state 56 = .ok (.ireturn, 1) := by decide +kernel
theorem dX12_state_57 : decode cX12_state 57 = .ok (.iconst 1, 1) := by decide +kernel
theorem dX12_state_58 : decode cX12_state 58 = .ok (.aload_n 0, 1) := by decide +kernel
theorem dX12_state_59 : decode cX12_state 59 = .ok (.getfield 7, 3) := by decide +kernel
theorem dX12_state_62 : decode cX12_state 62 = .ok (.iconst 0, 1) := by decide +kernel
theorem dX12_state_63 : decode cX12_state 63 = .ok (.iaload, 1) := by decide +kernel
theorem dX12_state_64 : decode cX12_state 64 = .ok (.ishl, 1) := by decide +kernel
theorem dX12_state_65 : decode cX12_state 65 = .ok (.iconst 1, 1) := by decide +kernel
theorem dX12_state_66 : decode cX12_state 66 = .ok (.isub, 1) := by decide +kernel
theorem dX12_state_67 : decode cX12_state 67 = .ok (.aload_n 0, 1) := by decide +kernel
theorem dX12_state_68 : decode cX12_state 68 = .ok (.invokevirtual 237, 3) := by decide +kernel
theorem dX12_state_71 : decode cX12_state 71 = .ok (.iconst (-1), 1) := by decide +kernel
theorem dX12_state_72 : decode cX12_state 72 = .ok (.ixor, 1) := by decide +kernel
theorem dX12_state_73 : decode cX12_state 73 = .ok (.iand, 1) := by decide +kernel
theorem dX12_state_74 : decode cX12_state 74 = .ok (.ireturn, 1) := by decide +kernel
theorem dX12_state_75 : decode cX12_state 75 = .ok (.aload_n 0, 1) := by decide +kernel
theorem dX12_state_76 : decode cX12_state 76 = .ok (.getfield 7, 3) := by decide +kernel
theorem dX12_state_79 : decode cX12_state 79 = .ok (.bipush 7, 2) := by decide +kernel
theorem dX12_state_81 : decode cX12_state 81 = .ok (.iaload, 1) := by decide +kernel
theorem dX12_state_82 : decode cX12_state 82 = .ok (.ireturn, 1) := by decide +kernel
theorem dX12_state_83 : decode cX12_state 83 = .ok (.aload_n 0, 1) := by decide +kernel
theorem dX12_state_84 : decode cX12_state 84 = .ok (.invokevirtual 240, 3) := by decide +kernel
theorem dX12_state_87 : decode cX12_state 87 = .ok (.ireturn, 1) := by decide +kernel
theorem dX12_state_88 : decode cX12_state 88 = .ok (.iconst (-1), 1) := by decide +kernel
theorem dX12_state_89 : decode cX12_state 89 = .ok (.ireturn, 1) := by decide +kernel
set_option maxRecDepth 20000 in
theorem ggX12_becomes_X12_isOne : GoodIn wsX12_becomes wsX12_isOne := goodIn_r _ [8, 2, 52, 53, 54, 55, 56, 57, 58, 59, 60, 61, 62, 63, 64, 65, 66, 67, 68, 69, 70, 71, 72, 73, 74, 75, 76, 77, 78, 79] (by decide +kernel) (by decide +kernel)
set_option maxRecDepth 20000 in
theorem gX12_becomes_X12_isOne : GoodIn wsX12_becomes (wsV RX12 182 RX12 yX12_isOne wsX12_isOne) := goodIn_app (goodIn_of _ (by decide +kernel)) ggX12_becomes_X12_isOne
set_option maxRecDepth 20000 in
theorem ggX12_becomes_X12_isIn : GoodIn wsX12_becomes wsX12_isIn := goodIn_r _ [11] (by decide +kernel) (by decide +kernel)
set_option maxRecDepth 20000 in
theorem gX12_becomes_X12_isIn : GoodIn wsX12_becomes (va_wsS RX12 60 yX12_isIn wsX12_isIn) := goodIn_app (goodIn_of _ (by decide +kernel)) ggX12_becomes_X12_isIn
set_option maxRecDepth 20000 in
theorem ggX12_becomes_X12_copyRow : GoodIn wsX12_becomes wsX12_copyRow := goodIn_r _ [14] (by decide +kernel) (by decide +kernel)
set_option maxRecDepth 20000 in
theorem gX12_becomes_X12_copyRow : GoodIn wsX12_becomes (va_wsS RX12 151 yX12_copyRow wsX12_copyRow) := goodIn_app (goodIn_of _ (by decide +kernel)) ggX12_becomes_X12_copyRow
set_option maxRecDepth 20000 in
theorem ggX12_becomes_X12_goes : GoodIn wsX12_becomes wsX12_goes := goodIn_r _ [18, 19, 20, 21, 7, 22, 2, 23, 24, 25, 26, 27, 28, 29, 30, 31, 32, 33, 34, 35, 36, 37, 38, 39, 40, 41, 42, 43, 44, 45, 46, 47, 48, 49, 50, 51, 52, 53, 54, 55, 56, 57, 58, 59, 60, 61, 62, 63, 64, 65, 66, 67, 68, 69, 70, 71, 72, 73, 74, 75, 76, 77, 78, 79] (by decide +kernel) (by decide +kernel)
set_option maxRecDepth 20000 in
theorem gX12_becomes_X12_goes : GoodIn wsX12_becomes (wsV RX12 219 RX12 yX12_goes wsX12_goes) := goodIn_app (goodIn_of _ (by decide +kernel)) ggX12_becomes_X12_goes
set_option maxRecDepth 20000 in
theorem ggX12_becomes_X12_its : GoodIn wsX12_becomes wsX12_its := goodIn_r _ [30, 2, 52, 53, 54, 55, 56, 57, 58, 59, 60, 61, 62, 63, 64, 65, 66, 67, 68, 69, 70, 71, 72, 73, 74, 75, 76, 77, 78, 79] (by decide +kernel) (by decide +kernel)
set_option maxRecDepth 20000 in
theorem gX12_becomes_X12_its : GoodIn wsX12_becomes (wsV RX12 176 RX12 yX12_its wsX12_its) := goodIn_app (goodIn_of _ (by decide +kernel)) ggX12_becomes_X12_its
theorem dX12_becomes_0 : decode cX12_becomes 0 = .ok (.aload_n 0, 1) := by decide +kernel
theorem dX12_becomes_1 : decode cX12_becomes 1 = .ok (.iload_n 1, 1) := by decide +kernel
theorem dX12_becomes_2 : decode cX12_becomes 2 = .ok (.invokevirtual 182, 3) := by decide +kernel
theorem dX12_becomes_5 : decode cX12_becomes 5 = .ok (.ifCond .eq 15, 3) := by decide +kernel
theorem dX12_becomes_8 : decode cX12_becomes 8 = .ok (.iload_n 2, 1) := by decide +kernel
theorem dX12_becomes_9 : decode cX12_becomes 9 = .ok (.i2l, 1) := by decide +kernel
theorem dX12_becomes_10 : decode cX12_becomes 10 = .ok (.lconst 0, 1) := by decide +kernel
theorem dX12_becomes_11 : decode cX12_becomes 11 = .ok (.ldc2_w 217, 3) := by decide +kernel
theorem dX12_becomes_14 : decode cX12_becomes 14 = .ok (.invokestatic 60, 3) := by decide +kernel
theorem dX12_becomes_17 : decode cX12_becomes 17 = .ok (.ifCond .ne 5, 3) := by decide +kernel
theorem dX12_becomes_20 : decode cX12_becomes 20 = .ok (.iconst (-1), 1) := by decide +kernel
theorem dX12_becomes_21 : decode cX12_becomes 21 = .ok (.ireturn, 1) := by decide +kernel
theorem dX12_becomes_22 : decode cX12_becomes 22 = .ok (.aload_n 0, 1) := by decide +kernel
theorem dX12_becomes_23 : decode cX12_becomes 23 = .ok (.getfield 7, 3) := by decide +kernel
theorem dX12_becomes_26 : decode cX12_becomes 26 = .ok (.aload_n 0, 1) := by decide +kernel
theorem dX12_becomes_27 : decode cX12_becomes 27 = .ok (.getfield 16, 3) := by decide +kernel
theorem dX12_becomes_30 : decode cX12_becomes 30 = .ok (.invokestatic 151, 3) := by decide +kernel
theorem dX12_becomes_33 : decode cX12_becomes 33 = .ok (.aload_n 0, 1) := by decide +kernel
theorem dX12_becomes_34 : decode cX12_becomes 34 = .ok (.iload_n 2, 1) := by decide +kernel
theorem dX12_becomes_35 : decode cX12_becomes 35 = .ok (.invokevirtual 219, 3) := by decide +kernel
theorem dX12_becomes_38 : decode cX12_becomes 38 = .ok (.aload_n 0, 1) := by decide +kernel
theorem dX12_becomes_39 : decode cX12_becomes 39 = .ok (.iload_n 1, 1) := by decide +kernel
theorem dX12_becomes_40 : decode cX12_becomes 40 = .ok (.iconst 1, 1) := by decide +kernel
theorem dX12_becomes_41 : decode cX12_becomes 41 = .ok (.invokevirtual 176, 3) := by decide +kernel
theorem dX12_becomes_44 : decode cX12_becomes 44 = .ok (.istore_n 3, 1) := by decide +kernel
theorem dX12_becomes_45 : decode cX12_becomes 45 = .ok (.aload_n 0, 1) := by decide +kernel
theorem dX12_becomes_46 : decode cX12_becomes 46 = .ok (.getfield 16, 3) := by decide +kernel
theorem dX12_becomes_49 : decode cX12_becomes 49 = .ok (.aload_n 0, 1) := by decide +kernel
theorem dX12_becomes_50 : decode cX12_becomes 50 = .ok (.getfield 7, 3) := by decide +kernel
theorem dX12_becomes_53 : decode cX12_becomes 53 = .ok (.invokestatic 151, 3) := by decide +kernel
theorem dX12_becomes_56 : decode cX12_becomes 56 = .ok (.iload_n 3, 1) := by decide +kernel
theorem dX12_becomes_57 : decode cX12_becomes 57 = .ok (.ireturn, 1) := by decide +kernel
set_option maxRecDepth 20000 in
theorem ggX12_suited_X12_isOne : GoodIn wsX12_suited wsX12_isOne := goodIn_r _ [7, 1, 51, 52, 53, 54, 55, 56, 57, 58, 59, 60, 61, 62, 63, 64, 65, 66, 67, 68, 69, 70, 71, 72, 73, 74, 75, 76, 77, 78] (by decide +kernel) (by decide +kernel)
set_option maxRecDepth 20000 in
theorem gX12_suited_X12_isOne : GoodIn wsX12_suited (wsV RX12 182 RX12 yX12_isOne wsX12_isOne) := goodIn_app (goodIn_of _ (by decide +kernel)) ggX12_suited_X12_isOne
set_option maxRecDepth 20000 in
theorem ggX12_suited_X12_copyRow : GoodIn wsX12_suited wsX12_copyRow := goodIn_r _ [10] (by decide +kernel) (by decide +kernel)
set_option maxRecDepth 20000 in
theorem gX12_suited_X12_copyRow : GoodIn wsX12_suited (va_wsS RX12 151 yX12_copyRow wsX12_copyRow) := goodIn_app (goodIn_of _ (by decide +kernel)) ggX12_suited_X12_copyRow
set_option maxRecDepth 20000 in
theorem ggX12_suited_X12_farNow : GoodIn wsX12_suited wsX12_farNow := goodIn_r _ [14, 15, 16, 17, 6, 18, 1, 19, 20, 21, 51, 52, 53, 54, 55, 56, 57, 58, 59, 60, 61, 62, 63, 64, 65, 66, 67, 68, 69, 70, 71, 72, 73, 74, 75, 76, 77, 78] (by decide +kernel) (by decide +kernel)
set_option maxRecDepth 20000 in
theorem gX12_suited_X12_farNow : GoodIn wsX12_suited (wsV RX12 214 RX12 yX12_farNow wsX12_farNow) := goodIn_app (goodIn_of _ (by decide +kernel)) ggX12_suited_X12_farNow
set_option maxRecDepth 20000 in
theorem ggX12_suited_X12_goesOn : GoodIn wsX12_suited wsX12_goesOn := goodIn_r _ [25, 1, 26, 27, 28, 6, 29, 15, 16, 17, 18, 30, 31, 32, 33, 34, 35, 36, 37, 38, 39, 40, 41, 42, 43, 44, 45, 46, 47, 48, 49, 50, 51, 52, 53, 54, 55, 56, 57, 58, 59, 60, 61, 62, 63, 64, 65, 66, 67, 68, 69, 70, 71, 72, 73, 74, 75, 76, 77, 78] (by decide +kernel) (by decide +kernel)
set_option maxRecDepth 20000 in
theorem gX12_suited_X12_goesOn : GoodIn wsX12_suited (wsV RX12 208 RX12 yX12_goesOn wsX12_goesOn) := goodIn_app (goodIn_of _ (by decide +kernel)) ggX12_suited_X12_goesOn
theorem dX12_suited_0 : decode cX12_suited 0 = .ok (.aload_n 0, 1) := by decide +kernel
theorem dX12_suited_1 : decode cX12_suited 1 = .ok (.iload_n 1, 1) := by decide +kernel
theorem dX12_suited_2 : decode cX12_suited 2 = .ok (.invokevirtual 182, 3) := by decide +kernel
theorem dX12_suited_5 : decode cX12_suited 5 = .ok (.ifCond .ne 5, 3) := by decide +kernel
theorem dX12_suited_8 : decode cX12_suited 8 = .ok (.iconst (-1), 1) := by decide +kernel
theorem dX12_suited_9 : decode cX12_suited 9 = .ok (.ireturn, 1) := by decide +kernel
theorem dX12_suited_10 : decode cX12_suited 10 = .ok (.aload_n 0, 1) := by decide +kernel
theorem dX12_suited_11 : decode cX12_suited 11 = .ok (.getfield 7, 3) := by decide +kernel
theorem dX12_suited_14 : decode cX12_suited 14 = .ok (.aload_n 0, 1) := by decide +kernel
theorem dX12_suited_15 : decode cX12_suited 15 = .ok (.getfield 16, 3) := by decide +kernel
theorem dX12_suited_18 : decode cX12_suited 18 = .ok (.invokestatic 151, 3) := by decide +kernel
theorem dX12_suited_21 : decode cX12_suited 21 = .ok (.iconst 0, 1) := by decide +kernel
theorem dX12_suited_22 : decode cX12_suited 22 = .ok (.istore_n 2, 1) := by decide +kernel
theorem dX12_suited_23 : decode cX12_suited 23 = .ok (.iload_n 2, 1) := by decide +kernel
theorem dX12_suited_24 : decode cX12_suited 24 = .ok (.bipush 60, 2) := by decide +kernel
theorem dX12_suited_26 : decode cX12_suited 26 = .ok (.if_icmp .gt 27, 3) := by decide +kernel
theorem dX12_suited_29 : decode cX12_suited 29 = .ok (.aload_n 0, 1) := by decide +kernel
theorem dX12_suited_30 : decode cX12_suited 30 = .ok (.iload_n 1, 1) := by decide +kernel
theorem dX12_suited_31 : decode cX12_suited 31 = .ok (.invokevirtual 214, 3) := by decide +kernel
theorem dX12_suited_34 : decode cX12_suited 34 = .ok (.aload_n 0, 1) := by decide +kernel
theorem dX12_suited_35 : decode cX12_suited 35 = .ok (.getfield 7, 3) := by decide +kernel
theorem dX12_suited_38 : decode cX12_suited 38 = .ok (.iconst 5, 1) := by decide +kernel
theorem dX12_suited_39 : decode cX12_suited 39 = .ok (.iaload, 1) := by decide +kernel
theorem dX12_suited_40 : decode cX12_suited 40 = .ok (.if_icmp .le 13, 3) := by decide +kernel
theorem dX12_suited_43 : decode cX12_suited 43 = .ok (.aload_n 0, 1) := by decide +kernel
theorem dX12_suited_44 : decode cX12_suited 44 = .ok (.invokevirtual 208, 3) := by decide +kernel
theorem dX12_suited_47 : decode cX12_suited 47 = .ok (.iinc 2 1, 3) := by decide +kernel
theorem dX12_suited_50 : decode cX12_suited 50 = .ok (.goto (-27), 3) := by decide +kernel
theorem dX12_suited_53 : decode cX12_suited 53 = .ok (.aload_n 0, 1) := by decide +kernel
theorem dX12_suited_54 : decode cX12_suited 54 = .ok (.getfield 16, 3) := by decide +kernel
theorem dX12_suited_57 : decode cX12_suited 57 = .ok (.aload_n 0, 1) := by decide +kernel
theorem dX12_suited_58 : decode cX12_suited 58 = .ok (.getfield 7, 3) := by decide +kernel
theorem dX12_suited_61 : decode cX12_suited 61 = .ok (.invokestatic 151, 3) := by decide +kernel
theorem dX12_suited_64 : decode cX12_suited 64 = .ok (.iload_n 2, 1) := by decide +kernel
theorem dX12_suited_65 : decode cX12_suited 65 = .ok (.bipush 60, 2) := by decide +kernel
theorem dX12_suited_67 : decode cX12_suited 67 = .ok (.if_icmp .gt 7, 3) := by decide +kernel
theorem dX12_suited_70 : decode cX12_suited 70 = .ok (.iload_n 2, 1) := by decide +kernel
theorem dX12_suited_71 : decode cX12_suited 71 = .ok (.goto 5, 3) := by decide +kernel
theorem dX12_suited_74 : decode cX12_suited 74 = .ok (.bipush (-3), 2) := by decide +kernel
theorem dX12_suited_76 : decode cX12_suited 76 = .ok (.ireturn, 1) := by decide +kernel
set_option maxRecDepth 20000 in
theorem ggX12_grown_X12_copyRow : GoodIn wsX12_grown wsX12_copyRow := goodIn_r _ [6] (by decide +kernel) (by decide +kernel)
set_option maxRecDepth 20000 in
theorem gX12_grown_X12_copyRow : GoodIn wsX12_grown (va_wsS RX12 151 yX12_copyRow wsX12_copyRow) := goodIn_app (goodIn_of _ (by decide +kernel)) ggX12_grown_X12_copyRow
set_option maxRecDepth 20000 in
theorem ggX12_grown_X12_youngOnes : GoodIn wsX12_grown wsX12_youngOnes := goodIn_r _ [10, 1, 11, 12, 13, 5, 14, 15, 16, 17, 18, 19, 20, 21, 22, 44, 45, 46, 47, 48, 49, 50, 51, 52, 53, 54, 55, 56, 57, 58, 59, 60, 61, 62, 63, 64, 65, 66, 67, 68, 69, 70, 71] (by decide +kernel) (by decide +kernel)
set_option maxRecDepth 20000 in
theorem gX12_grown_X12_youngOnes : GoodIn wsX12_grown (wsV RX12 237 RX12 yX12_youngOnes wsX12_youngOnes) := goodIn_app (goodIn_of _ (by decide +kernel)) ggX12_grown_X12_youngOnes
set_option maxRecDepth 20000 in
theorem ggX12_grown_X12_goesOn : GoodIn wsX12_grown wsX12_goesOn := goodIn_r _ [26, 1, 11, 12, 13, 5, 14, 15, 16, 17, 18, 19, 20, 21, 22, 27, 28, 29, 30, 31, 32, 33, 34, 35, 36, 37, 38, 39, 40, 41, 42, 43, 44, 45, 46, 47, 48, 49, 50, 51, 52, 53, 54, 55, 56, 57, 58, 59, 60, 61, 62, 63, 64, 65, 66, 67, 68, 69, 70, 71] (by decide +kernel) (by decide +kernel)
set_option maxRecDepth 20000 in
theorem gX12_grown_X12_goesOn : GoodIn wsX12_grown (wsV RX12 208 RX12 yX12_goesOn wsX12_goesOn) := goodIn_app (goodIn_of _ (by decide +kernel)) ggX12_grown_X12_goesOn
theorem dX12_grown_0 : decode cX12_grown 0 = .ok (.aload_n 0, 1) := by decide +kernel
theorem dX12_grown_1 : decode cX12_grown 1 = .ok (.getfield 7, 3) := by decide +kernel
theorem dX12_grown_4 : decode cX12_grown 4 = .ok (.aload_n 0, 1) := by decide +kernel
theorem dX12_grown_5 : decode cX12_grown 5 = .ok (.getfield 16, 3) := by decide +kernel
theorem dX12_grown_8 : decode cX12_grown 8 = .ok (.invokestatic 151, 3) := by decide +kernel
theorem dX12_grown_11 : decode cX12_grown 11 = .ok (.iconst 0, 1) := by decide +kernel
theorem dX12_grown_12 : decode cX12_grown 12 = .ok (.istore_n 1, 1) := by decide +kernel
theorem dX12_grown_13 : decode cX12_grown 13 = .ok (.iload_n 1, 1) := by decide +kernel
theorem dX12_grown_14 : decode cX12_grown 14 = .ok (.bipush 60, 2) := by decide +kernel
theorem dX12_grown_16 : decode cX12_grown 16 = .ok (.if_icmp .gt 20, 3) := by decide +kernel
theorem dX12_grown_19 : decode cX12_grown 19 = .ok (.aload_n 0, 1) := by decide +kernel
theorem dX12_grown_20 : decode cX12_grown 20 = .ok (.invokevirtual 237, 3) := by decide +kernel
theorem dX12_grown_23 : decode cX12_grown 23 = .ok (.ifCond .eq 13, 3) := by decide +kernel
theorem dX12_grown_26 : decode cX12_grown 26 = .ok (.aload_n 0, 1) := by decide +kernel
theorem dX12_grown_27 : decode cX12_grown 27 = .ok (.invokevirtual 208, 3) := by decide +kernel
theorem dX12_grown_30 : decode cX12_grown 30 = .ok (.iinc 1 1, 3) := by decide +kernel
theorem dX12_grown_33 : decode cX12_grown 33 = .ok (.goto (-20), 3) := by decide +kernel
theorem dX12_grown_36 : decode cX12_grown 36 = .ok (.aload_n 0, 1) := by decide +kernel
theorem dX12_grown_37 : decode cX12_grown 37 = .ok (.getfield 16, 3) := by decide +kernel
theorem dX12_grown_40 : decode cX12_grown 40 = .ok (.aload_n 0, 1) := by decide +kernel
theorem dX12_grown_41 : decode cX12_grown 41 = .ok (.getfield 7, 3) := by decide +kernel
theorem dX12_grown_44 : decode cX12_grown 44 = .ok (.invokestatic 151, 3) := by decide +kernel
theorem dX12_grown_47 : decode cX12_grown 47 = .ok (.iload_n 1, 1) := by decide +kernel
theorem dX12_grown_48 : decode cX12_grown 48 = .ok (.bipush 60, 2) := by decide +kernel
theorem dX12_grown_50 : decode cX12_grown 50 = .ok (.if_icmp .gt 7, 3) := by decide +kernel
theorem dX12_grown_53 : decode cX12_grown 53 = .ok (.iload_n 1, 1) := by decide +kernel
theorem dX12_grown_54 : decode cX12_grown 54 = .ok (.goto 5, 3) := by decide +kernel
theorem dX12_grown_57 : decode cX12_grown 57 = .ok (.bipush (-3), 2) := by decide +kernel
theorem dX12_grown_59 : decode cX12_grown 59 = .ok (.ireturn, 1) := by decide +kernel
set_option maxRecDepth 20000 in
theorem ggX12_farBehind_X12_copyRow : GoodIn wsX12_farBehind wsX12_copyRow := goodIn_r _ [6] (by decide +kernel) (by decide +kernel)
set_option maxRecDepth 20000 in
theorem gX12_farBehind_X12_copyRow : GoodIn wsX12_farBehind (va_wsS RX12 151 yX12_copyRow wsX12_copyRow) := goodIn_app (goodIn_of _ (by decide +kernel)) ggX12_farBehind_X12_copyRow
set_option maxRecDepth 20000 in
theorem ggX12_farBehind_X12_goes : GoodIn wsX12_farBehind wsX12_goes := goodIn_r _ [10, 11, 12, 13, 5, 14, 1, 15, 16, 17, 18, 19, 20, 21, 22, 23, 24, 25, 26, 27, 28, 29, 30, 31, 32, 33, 34, 35, 36, 37, 38, 39, 40, 41, 42, 43, 51, 52, 53, 54, 55, 56, 57, 58, 59, 60, 61, 62, 63, 64, 65, 66, 67, 68, 69, 70, 71, 72, 73, 74, 75, 76, 77, 78] (by decide +kernel) (by decide +kernel)
set_option maxRecDepth 20000 in
theorem gX12_farBehind_X12_goes : GoodIn wsX12_farBehind (wsV RX12 219 RX12 yX12_goes wsX12_goes) := goodIn_app (goodIn_of _ (by decide +kernel)) ggX12_farBehind_X12_goes
set_option maxRecDepth 20000 in
theorem ggX12_farBehind_X12_farNow : GoodIn wsX12_farBehind wsX12_farNow := goodIn_r _ [47, 19, 20, 21, 5, 22, 1, 48, 49, 50, 51, 52, 53, 54, 55, 56, 57, 58, 59, 60, 61, 62, 63, 64, 65, 66, 67, 68, 69, 70, 71, 72, 73, 74, 75, 76, 77, 78] (by decide +kernel) (by decide +kernel)
set_option maxRecDepth 20000 in
theorem gX12_farBehind_X12_farNow : GoodIn wsX12_farBehind (wsV RX12 214 RX12 yX12_farNow wsX12_farNow) := goodIn_app (goodIn_of _ (by decide +kernel)) ggX12_farBehind_X12_farNow
theorem dX12_farBehind_0 : decode cX12_farBehind 0 = .ok (.aload_n 0, 1) := by decide +kernel
theorem dX12_farBehind_1 : decode cX12_farBehind 1 = .ok (.getfield 7, 3) := by decide +kernel
theorem dX12_farBehind_4 : decode cX12_farBehind 4 = .ok (.aload_n 0, 1) := by decide +kernel
theorem dX12_farBehind_5 : decode cX12_farBehind 5 = .ok (.getfield 16, 3) := by decide +kernel
theorem dX12_farBehind_8 : decode cX12_farBehind 8 = .ok (.invokestatic 151, 3) := by decide +kernel
theorem dX12_farBehind_11 : decode cX12_farBehind 11 = .ok (.aload_n 0, 1) := by decide +kernel
theorem dX12_farBehind_12 : decode cX12_farBehind 12 = .ok (.iload_n 2, 1) := by decide +kernel
theorem dX12_farBehind_13 : decode cX12_farBehind 13 = .ok (.invokevirtual 219, 3) := by decide +kernel
theorem dX12_farBehind_16 : decode cX12_farBehind 16 = .ok (.aload_n 0, 1) := by decide +kernel
theorem dX12_farBehind_17 : decode cX12_farBehind 17 = .ok (.iload_n 1, 1) := by decide +kernel
theorem dX12_farBehind_18 : decode cX12_farBehind 18 = .ok (.invokevirtual 214, 3) := by decide +kernel
theorem dX12_farBehind_21 : decode cX12_farBehind 21 = .ok (.istore_n 3, 1) := by decide +kernel
theorem dX12_farBehind_22 : decode cX12_farBehind 22 = .ok (.aload_n 0, 1) := by decide +kernel
theorem dX12_farBehind_23 : decode cX12_farBehind 23 = .ok (.getfield 16, 3) := by decide +kernel
theorem dX12_farBehind_26 : decode cX12_farBehind 26 = .ok (.aload_n 0, 1) := by decide +kernel
theorem dX12_farBehind_27 : decode cX12_farBehind 27 = .ok (.getfield 7, 3) := by decide +kernel
theorem dX12_farBehind_30 : decode cX12_farBehind 30 = .ok (.invokestatic 151, 3) := by decide +kernel
theorem dX12_farBehind_33 : decode cX12_farBehind 33 = .ok (.iload_n 3, 1) := by decide +kernel
theorem dX12_farBehind_34 : decode cX12_farBehind 34 = .ok (.ireturn, 1) := by decide +kernel
set_option maxRecDepth 20000 in
theorem ggX12_far_X12_isOne : GoodIn wsX12_far wsX12_isOne := goodIn_r _ [6, 7, 63, 64, 65, 66, 67, 68, 69, 70, 71, 72, 73, 74, 75, 76, 77, 78, 79, 80, 81, 82, 83, 84, 85, 86, 87, 88, 89, 90] (by decide +kernel) (by decide +kernel)
set_option maxRecDepth 20000 in
theorem gX12_far_X12_isOne : GoodIn wsX12_far (wsV RX12 182 RX12 yX12_isOne wsX12_isOne) := goodIn_app (goodIn_of _ (by decide +kernel)) ggX12_far_X12_isOne
set_option maxRecDepth 20000 in
theorem ggX12_far_X12_isIn : GoodIn wsX12_far wsX12_isIn := goodIn_r _ [10] (by decide +kernel) (by decide +kernel)
set_option maxRecDepth 20000 in
theorem gX12_far_X12_isIn : GoodIn wsX12_far (va_wsS RX12 60 yX12_isIn wsX12_isIn) := goodIn_app (goodIn_of _ (by decide +kernel)) ggX12_far_X12_isIn
set_option maxRecDepth 20000 in
theorem ggX12_far_X12_farBehind : GoodIn wsX12_far wsX12_farBehind := goodIn_r _ [14, 7, 15, 16, 17, 5, 18, 19, 20, 21, 22, 23, 24, 25, 26, 27, 28, 29, 30, 31, 32, 33, 34, 35, 36, 37, 38, 39, 40, 41, 42, 43, 44, 45, 46, 47, 48, 49, 50, 51, 52, 53, 54, 55, 56, 57, 58, 59, 60, 61, 62, 63, 64, 65, 66, 67, 68, 69, 70, 71, 72, 73, 74, 75, 76, 77, 78, 79, 80, 81, 82, 83, 84, 85, 86, 87, 88, 89, 90] (by decide +kernel) (by decide +kernel)
set_option maxRecDepth 20000 in
theorem gX12_far_X12_farBehind : GoodIn wsX12_far (wsV RX12 243 RX12 yX12_farBehind wsX12_farBehind) := goodIn_app (goodIn_of _ (by decide +kernel)) ggX12_far_X12_farBehind
theorem dX12_far_0 : decode cX12_far 0 = .ok (.aload_n 0, 1) := by decide +kernel
theorem dX12_far_1 : decode cX12_far 1 = .ok (.iload_n 1, 1) := by decide +kernel
theorem dX12_far_2 : decode cX12_far 2 = .ok (.invokevirtual 182, 3) := by decide +kernel
theorem dX12_far_5 : decode cX12_far 5 = .ok (.ifCond .eq 24, 3) := by decide +kernel
theorem dX12_far_8 : decode cX12_far 8 = .ok (.iload_n 2, 1) := by decide +kernel
theorem dX12_far_9 : decode cX12_far 9 = .ok (.i2l, 1) := by decide +kernel
theorem dX12_far_10 : decode cX12_far 10 = .ok (.lconst 0, 1) := by decide +kernel
theorem dX12_far_11 : decode cX12_far 11 = .ok (.ldc2_w 217, 3) := by decide +kernel
theorem dX12_far_14 : decode cX12_far 14 = .ok (.invokestatic 60, 3) := by decide +kernel
theorem dX12_far_17 : decode cX12_far 17 = .ok (.ifCond .eq 12, 3) := by decide +kernel
theorem dX12_far_20 : decode cX12_far 20 = .ok (.aload_n 0, 1) := by decide +kernel
theorem dX12_far_21 : decode cX12_far 21 = .ok (.iload_n 1, 1) := by decide +kernel
theorem dX12_far_22 : decode cX12_far 22 = .ok (.iload_n 2, 1) := by decide +kernel
theorem dX12_far_23 : decode cX12_far 23 = .ok (.invokevirtual 243, 3) := by decide +kernel
theorem dX12_far_26 : decode cX12_far 26 = .ok (.goto 4, 3) := by decide +kernel
theorem dX12_far_29 : decode cX12_far 29 = .ok (.iconst (-1), 1) := by decide +kernel
theorem dX12_far_30 : decode cX12_far 30 = .ok (.ireturn, 1) := by decide +kernel
set_option maxRecDepth 20000 in
theorem ggX12_isShort_X12_isIn : GoodIn wsX12_isShort wsX12_isIn := goodIn_r _ [5] (by decide +kernel) (by decide +kernel)
set_option maxRecDepth 20000 in
theorem gX12_isShort_X12_isIn : GoodIn wsX12_isShort (va_wsS RX12 60 yX12_isIn wsX12_isIn) := goodIn_app (goodIn_of _ (by decide +kernel)) ggX12_isShort_X12_isIn
theorem dX12_isShort_0 : decode cX12_isShort 0 = .ok (.iload_n 0, 1) := by decide +kernel
theorem dX12_isShort_1 : decode cX12_isShort 1 = .ok (.i2l, 1) := by decide +kernel
theorem dX12_isShort_2 : decode cX12_isShort 2 = .ok (.lconst 1, 1) := by decide +kernel
theorem dX12_isShort_3 : decode cX12_isShort 3 = .ok (.ldc2_w 229, 3) := by decide +kernel
theorem dX12_isShort_6 : decode cX12_isShort 6 = .ok (.invokestatic 60, 3) := by decide +kernel
theorem dX12_isShort_9 : decode cX12_isShort 9 = .ok (.ireturn, 1) := by decide +kernel
set_option maxRecDepth 20000 in
theorem ggX12_nearestBy_X12_farBehind : GoodIn wsX12_nearestBy wsX12_farBehind := goodIn_r _ [6, 1, 7, 8, 9, 5, 10, 11, 12, 13, 14, 15, 16, 17, 18, 19, 20, 21, 22, 23, 24, 25, 26, 27, 28, 29, 30, 31, 32, 33, 34, 35, 36, 37, 38, 39, 40, 41, 42, 43, 44, 45, 46, 47, 48, 49, 50, 51, 52, 53, 54, 55, 56, 57, 58, 59, 60, 61, 62, 63, 64, 65, 66, 67, 68, 69, 70, 71, 72, 73, 74, 75, 76, 77, 78, 79, 80, 81, 82] (by decide +kernel) (by decide +kernel)
set_option maxRecDepth 20000 in
theorem gX12_nearestBy_X12_farBehind : GoodIn wsX12_nearestBy (wsV RX12 243 RX12 yX12_farBehind wsX12_farBehind) := goodIn_app (goodIn_of _ (by decide +kernel)) ggX12_nearestBy_X12_farBehind
set_option maxRecDepth 20000 in
theorem ggX12_nearestBy_X12_least : GoodIn wsX12_nearestBy wsX12_least := goodIn_r _ [41] (by decide +kernel) (by decide +kernel)
set_option maxRecDepth 20000 in
theorem gX12_nearestBy_X12_least : GoodIn wsX12_nearestBy (va_wsS RX12 193 yX12_least wsX12_least) := goodIn_app (goodIn_of _ (by decide +kernel)) ggX12_nearestBy_X12_least
theorem dX12_nearestBy_0 : decode cX12_nearestBy 0 = .ok (.bipush 16, 2) := by decide +kernel
theorem dX12_nearestBy_2 : decode cX12_nearestBy 2 = .ok (.bipush 6, 2) := by decide +kernel
theorem dX12_nearestBy_4 : decode cX12_nearestBy 4 = .ok (.iload_n 1, 1) := by decide +kernel
theorem dX12_nearestBy_5 : decode cX12_nearestBy 5 = .ok (.imul, 1) := by decide +kernel
theorem dX12_nearestBy_6 : decode cX12_nearestBy 6 = .ok (.iadd, 1) := by decide +kernel
theorem dX12_nearestBy_7 : decode cX12_nearestBy 7 = .ok (.iload_n 2, 1) := by decide +kernel
theorem dX12_nearestBy_8 : decode cX12_nearestBy 8 = .ok (.iadd, 1) := by decide +kernel
theorem dX12_nearestBy_9 : decode cX12_nearestBy 9 = .ok (.istore 5, 2) := by decide +kernel
theorem dX12_nearestBy_11 : decode cX12_nearestBy 11 = .ok (.aload_n 0, 1) := by decide +kernel
theorem dX12_nearestBy_12 : decode cX12_nearestBy 12 = .ok (.getfield 7, 3) := by decide +kernel
theorem dX12_nearestBy_15 : decode cX12_nearestBy 15 = .ok (.iload 5, 2) := by decide +kernel
theorem dX12_nearestBy_17 : decode cX12_nearestBy 17 = .ok (.iaload, 1) := by decide +kernel
theorem dX12_nearestBy_18 : decode cX12_nearestBy 18 = .ok (.istore 6, 2) := by decide +kernel
theorem dX12_nearestBy_20 : decode cX12_nearestBy 20 = .ok (.iconst 0, 1) := by decide +kernel
theorem dX12_nearestBy_21 : decode cX12_nearestBy 21 = .ok (.istore 7, 2) := by decide +kernel
theorem dX12_nearestBy_23 : decode cX12_nearestBy 23 = .ok (.sipush 1000, 3) := by decide +kernel
theorem dX12_nearestBy_26 : decode cX12_nearestBy 26 = .ok (.istore 8, 2) := by decide +kernel
theorem dX12_nearestBy_28 : decode cX12_nearestBy 28 = .ok (.iconst 0, 1) := by decide +kernel
theorem dX12_nearestBy_29 : decode cX12_nearestBy 29 = .ok (.istore 9, 2) := by decide +kernel
theorem dX12_nearestBy_31 : decode cX12_nearestBy 31 = .ok (.iload 9, 2) := by decide +kernel
theorem dX12_nearestBy_33 : decode cX12_nearestBy 33 = .ok (.iload_n 3, 1) := by decide +kernel
theorem dX12_nearestBy_34 : decode cX12_nearestBy 34 = .ok (.if_icmp .gt 52, 3) := by decide +kernel
theorem dX12_nearestBy_37 : decode cX12_nearestBy 37 = .ok (.aload_n 0, 1) := by decide +kernel
theorem dX12_nearestBy_38 : decode cX12_nearestBy 38 = .ok (.getfield 7, 3) := by decide +kernel
theorem dX12_nearestBy_41 : decode cX12_nearestBy 41 = .ok (.iload 5, 2) := by decide +kernel
theorem dX12_nearestBy_43 : decode cX12_nearestBy 43 = .ok (.iload 9, 2) := by decide +kernel
theorem dX12_nearestBy_45 : decode cX12_nearestBy 45 = .ok (.iastore, 1) := by decide +kernel
theorem dX12_nearestBy_46 : decode cX12_nearestBy 46 = .ok (.aload_n 0, 1) := by decide +kernel
theorem dX12_nearestBy_47 : decode cX12_nearestBy 47 = .ok (.iload_n 1, 1) := by decide +kernel
theorem dX12_nearestBy_48 : decode cX12_nearestBy 48 = .ok (.iload 4, 2) := by decide +kernel
theorem dX12_nearestBy_50 : decode cX12_nearestBy 50 = .ok (.invokevirtual 243, 3) := by decide +kernel
theorem dX12_nearestBy_53 : decode cX12_nearestBy 53 = .ok (.istore 10, 2) := by decide +kernel
theorem dX12_nearestBy_55 : decode cX12_nearestBy 55 = .ok (.iload 10, 2) := by decide +kernel
theorem dX12_nearestBy_57 : decode cX12_nearestBy 57 = .ok (.iload 8, 2) := by decide +kernel
theorem dX12_nearestBy_59 : decode cX12_nearestBy 59 = .ok (.if_icmp .ge 8, 3) := by decide +kernel
theorem dX12_nearestBy_62 : decode cX12_nearestBy 62 = .ok (.iload 9, 2) := by decide +kernel
theorem dX12_nearestBy_64 : decode cX12_nearestBy 64 = .ok (.goto 5, 3) := by decide +kernel
theorem dX12_nearestBy_67 : decode cX12_nearestBy 67 = .ok (.iload 7, 2) := by decide +kernel
theorem dX12_nearestBy_69 : decode cX12_nearestBy 69 = .ok (.istore 7, 2) := by decide +kernel
theorem dX12_nearestBy_71 : decode cX12_nearestBy 71 = .ok (.iload 8, 2) := by decide +kernel
theorem dX12_nearestBy_73 : decode cX12_nearestBy 73 = .ok (.iload 10, 2) := by decide +kernel
theorem dX12_nearestBy_75 : decode cX12_nearestBy 75 = .ok (.invokestatic 193, 3) := by decide +kernel
theorem dX12_nearestBy_78 : decode cX12_nearestBy 78 = .ok (.istore 8, 2) := by decide +kernel
theorem dX12_nearestBy_80 : decode cX12_nearestBy 80 = .ok (.iinc 9 1, 3) := by decide +kernel
theorem dX12_nearestBy_83 : decode cX12_nearestBy 83 = .ok (.goto (-52), 3) := by decide +kernel
theorem dX12_nearestBy_86 : decode cX12_nearestBy 86 = .ok (.aload_n 0, 1) := by decide +kernel
theorem dX12_nearestBy_87 : decode cX12_nearestBy 87 = .ok (.getfield 7, 3) := by decide +kernel
theorem dX12_nearestBy_90 : decode cX12_nearestBy 90 = .ok (.iload 5, 2) := by decide +kernel
theorem dX12_nearestBy_92 : decode cX12_nearestBy 92 = .ok (.iload 6, 2) := by decide +kernel
theorem dX12_nearestBy_94 : decode cX12_nearestBy 94 = .ok (.iastore, 1) := by decide +kernel
theorem dX12_nearestBy_95 : decode cX12_nearestBy 95 = .ok (.iload 7, 2) := by decide +kernel
theorem dX12_nearestBy_97 : decode cX12_nearestBy 97 = .ok (.ireturn, 1) := by decide +kernel
set_option maxRecDepth 20000 in
theorem ggX12_swearFor_X12_isOne : GoodIn wsX12_swearFor wsX12_isOne := goodIn_r _ [5, 6, 70, 71, 72, 73, 74, 75, 76, 77, 78, 79, 80, 81, 82, 83, 84, 85, 86, 87, 88, 89, 90, 91, 92, 93, 94, 95, 96, 97] (by decide +kernel) (by decide +kernel)
set_option maxRecDepth 20000 in
theorem gX12_swearFor_X12_isOne : GoodIn wsX12_swearFor (wsV RX12 182 RX12 yX12_isOne wsX12_isOne) := goodIn_app (goodIn_of _ (by decide +kernel)) ggX12_swearFor_X12_isOne
set_option maxRecDepth 20000 in
theorem ggX12_swearFor_X12_isShort : GoodIn wsX12_swearFor wsX12_isShort := goodIn_r _ [9, 10, 11, 12, 4, 13] (by decide +kernel) (by decide +kernel)
set_option maxRecDepth 20000 in
theorem gX12_swearFor_X12_isShort : GoodIn wsX12_swearFor (va_wsS RX12 246 yX12_isShort wsX12_isShort) := goodIn_app (goodIn_of _ (by decide +kernel)) ggX12_swearFor_X12_isShort
set_option maxRecDepth 20000 in
theorem ggX12_swearFor_X12_nearestBy : GoodIn wsX12_swearFor wsX12_nearestBy := goodIn_r _ [17, 6, 18, 19, 20, 4, 21, 22, 23, 24, 25, 26, 27, 28, 29, 30, 31, 32, 33, 34, 35, 36, 37, 38, 39, 40, 41, 42, 43, 44, 45, 46, 47, 48, 49, 50, 51, 52, 53, 54, 55, 56, 57, 58, 59, 60, 61, 62, 63, 64, 65, 66, 67, 68, 69, 70, 71, 72, 73, 74, 75, 76, 77, 78, 79, 80, 81, 82, 83, 84, 85, 86, 87, 88, 89, 90, 91, 92, 93, 94, 95, 96, 97] (by decide +kernel) (by decide +kernel)
set_option maxRecDepth 20000 in
theorem gX12_swearFor_X12_nearestBy : GoodIn wsX12_swearFor (wsV RX12 249 RX12 yX12_nearestBy wsX12_nearestBy) := goodIn_app (goodIn_of _ (by decide +kernel)) ggX12_swearFor_X12_nearestBy
theorem dX12_swearFor_0 : decode cX12_swearFor 0 = .ok (.aload_n 0, 1) := by decide +kernel
theorem dX12_swearFor_1 : decode cX12_swearFor 1 = .ok (.iload_n 1, 1) := by decide +kernel
theorem dX12_swearFor_2 : decode cX12_swearFor 2 = .ok (.invokevirtual 182, 3) := by decide +kernel
theorem dX12_swearFor_5 : decode cX12_swearFor 5 = .ok (.ifCond .eq 22, 3) := by decide +kernel
theorem dX12_swearFor_8 : decode cX12_swearFor 8 = .ok (.iload_n 2, 1) := by decide +kernel
theorem dX12_swearFor_9 : decode cX12_swearFor 9 = .ok (.invokestatic 246, 3) := by decide +kernel
theorem dX12_swearFor_12 : decode cX12_swearFor 12 = .ok (.ifCond .eq 15, 3) := by decide +kernel
theorem dX12_swearFor_15 : decode cX12_swearFor 15 = .ok (.aload_n 0, 1) := by decide +kernel
theorem dX12_swearFor_16 : decode cX12_swearFor 16 = .ok (.iload_n 1, 1) := by decide +kernel
theorem dX12_swearFor_17 : decode cX12_swearFor 17 = .ok (.iconst 5, 1) := by decide +kernel
theorem dX12_swearFor_18 : decode cX12_swearFor 18 = .ok (.bipush 7, 2) := by decide +kernel
theorem dX12_swearFor_20 : decode cX12_swearFor 20 = .ok (.iload_n 2, 1) := by decide +kernel
theorem dX12_swearFor_21 : decode cX12_swearFor 21 = .ok (.invokevirtual 249, 3) := by decide +kernel
theorem dX12_swearFor_24 : decode cX12_swearFor 24 = .ok (.goto 4, 3) := by decide +kernel
theorem dX12_swearFor_27 : decode cX12_swearFor 27 = .ok (.iconst (-1), 1) := by decide +kernel
theorem dX12_swearFor_28 : decode cX12_swearFor 28 = .ok (.ireturn, 1) := by decide +kernel
set_option maxRecDepth 20000 in
theorem ggX12_kindFor_X12_isOne : GoodIn wsX12_kindFor wsX12_isOne := goodIn_r _ [5, 6, 70, 71, 72, 73, 74, 75, 76, 77, 78, 79, 80, 81, 82, 83, 84, 85, 86, 87, 88, 89, 90, 91, 92, 93, 94, 95, 96, 97] (by decide +kernel) (by decide +kernel)
set_option maxRecDepth 20000 in
theorem gX12_kindFor_X12_isOne : GoodIn wsX12_kindFor (wsV RX12 182 RX12 yX12_isOne wsX12_isOne) := goodIn_app (goodIn_of _ (by decide +kernel)) ggX12_kindFor_X12_isOne
set_option maxRecDepth 20000 in
theorem ggX12_kindFor_X12_isShort : GoodIn wsX12_kindFor wsX12_isShort := goodIn_r _ [9, 10, 11, 12, 4, 13] (by decide +kernel) (by decide +kernel)
set_option maxRecDepth 20000 in
theorem gX12_kindFor_X12_isShort : GoodIn wsX12_kindFor (va_wsS RX12 246 yX12_isShort wsX12_isShort) := goodIn_app (goodIn_of _ (by decide +kernel)) ggX12_kindFor_X12_isShort
set_option maxRecDepth 20000 in
theorem ggX12_kindFor_X12_nearestBy : GoodIn wsX12_kindFor wsX12_nearestBy := goodIn_r _ [17, 6, 18, 19, 20, 4, 21, 22, 23, 24, 25, 26, 27, 28, 29, 30, 31, 32, 33, 34, 35, 36, 37, 38, 39, 40, 41, 42, 43, 44, 45, 46, 47, 48, 49, 50, 51, 52, 53, 54, 55, 56, 57, 58, 59, 60, 61, 62, 63, 64, 65, 66, 67, 68, 69, 70, 71, 72, 73, 74, 75, 76, 77, 78, 79, 80, 81, 82, 83, 84, 85, 86, 87, 88, 89, 90, 91, 92, 93, 94, 95, 96, 97] (by decide +kernel) (by decide +kernel)
set_option maxRecDepth 20000 in
theorem gX12_kindFor_X12_nearestBy : GoodIn wsX12_kindFor (wsV RX12 249 RX12 yX12_nearestBy wsX12_nearestBy) := goodIn_app (goodIn_of _ (by decide +kernel)) ggX12_kindFor_X12_nearestBy
theorem dX12_kindFor_0 : decode cX12_kindFor 0 = .ok (.aload_n 0, 1) := by decide +kernel
theorem dX12_kindFor_1 : decode cX12_kindFor 1 = .ok (.iload_n 1, 1) := by decide +kernel
theorem dX12_kindFor_2 : decode cX12_kindFor 2 = .ok (.invokevirtual 182, 3) := by decide +kernel
theorem dX12_kindFor_5 : decode cX12_kindFor 5 = .ok (.ifCond .eq 21, 3) := by decide +kernel
theorem dX12_kindFor_8 : decode cX12_kindFor 8 = .ok (.iload_n 2, 1) := by decide +kernel
theorem dX12_kindFor_9 : decode cX12_kindFor 9 = .ok (.invokestatic 246, 3) := by decide +kernel
theorem dX12_kindFor_12 : decode cX12_kindFor 12 = .ok (.ifCond .eq 14, 3) := by decide +kernel
theorem dX12_kindFor_15 : decode cX12_kindFor 15 = .ok (.aload_n 0, 1) := by decide +kernel
theorem dX12_kindFor_16 : decode cX12_kindFor 16 = .ok (.iload_n 1, 1) := by decide +kernel
theorem dX12_kindFor_17 : decode cX12_kindFor 17 = .ok (.iconst 0, 1) := by decide +kernel
theorem dX12_kindFor_18 : decode cX12_kindFor 18 = .ok (.iconst 5, 1) := by decide +kernel
theorem dX12_kindFor_19 : decode cX12_kindFor 19 = .ok (.iload_n 2, 1) := by decide +kernel
theorem dX12_kindFor_20 : decode cX12_kindFor 20 = .ok (.invokevirtual 249, 3) := by decide +kernel
theorem dX12_kindFor_23 : decode cX12_kindFor 23 = .ok (.goto 4, 3) := by decide +kernel
theorem dX12_kindFor_26 : decode cX12_kindFor 26 = .ok (.iconst (-1), 1) := by decide +kernel
theorem dX12_kindFor_27 : decode cX12_kindFor 27 = .ok (.ireturn, 1) := by decide +kernel
set_option maxRecDepth 20000 in
theorem ggX12_fireFor_X12_isOne : GoodIn wsX12_fireFor wsX12_isOne := goodIn_r _ [5, 6, 70, 71, 72, 73, 74, 75, 76, 77, 78, 79, 80, 81, 82, 83, 84, 85, 86, 87, 88, 89, 90, 91, 92, 93, 94, 95, 96, 97] (by decide +kernel) (by decide +kernel)
set_option maxRecDepth 20000 in
theorem gX12_fireFor_X12_isOne : GoodIn wsX12_fireFor (wsV RX12 182 RX12 yX12_isOne wsX12_isOne) := goodIn_app (goodIn_of _ (by decide +kernel)) ggX12_fireFor_X12_isOne
set_option maxRecDepth 20000 in
theorem ggX12_fireFor_X12_isShort : GoodIn wsX12_fireFor wsX12_isShort := goodIn_r _ [9, 10, 11, 12, 4, 13] (by decide +kernel) (by decide +kernel)
set_option maxRecDepth 20000 in
theorem gX12_fireFor_X12_isShort : GoodIn wsX12_fireFor (va_wsS RX12 246 yX12_isShort wsX12_isShort) := goodIn_app (goodIn_of _ (by decide +kernel)) ggX12_fireFor_X12_isShort
set_option maxRecDepth 20000 in
theorem ggX12_fireFor_X12_nearestBy : GoodIn wsX12_fireFor wsX12_nearestBy := goodIn_r _ [17, 6, 18, 19, 20, 4, 21, 22, 23, 24, 25, 26, 27, 28, 29, 30, 31, 32, 33, 34, 35, 36, 37, 38, 39, 40, 41, 42, 43, 44, 45, 46, 47, 48, 49, 50, 51, 52, 53, 54, 55, 56, 57, 58, 59, 60, 61, 62, 63, 64, 65, 66, 67, 68, 69, 70, 71, 72, 73, 74, 75, 76, 77, 78, 79, 80, 81, 82, 83, 84, 85, 86, 87, 88, 89, 90, 91, 92, 93, 94, 95, 96, 97] (by decide +kernel) (by decide +kernel)
set_option maxRecDepth 20000 in
theorem gX12_fireFor_X12_nearestBy : GoodIn wsX12_fireFor (wsV RX12 249 RX12 yX12_nearestBy wsX12_nearestBy) := goodIn_app (goodIn_of _ (by decide +kernel)) ggX12_fireFor_X12_nearestBy
theorem dX12_fireFor_0 : decode cX12_fireFor 0 = .ok (.aload_n 0, 1) := by decide +kernel
theorem dX12_fireFor_1 : decode cX12_fireFor 1 = .ok (.iload_n 1, 1) := by decide +kernel
theorem dX12_fireFor_2 : decode cX12_fireFor 2 = .ok (.invokevirtual 182, 3) := by decide +kernel
theorem dX12_fireFor_5 : decode cX12_fireFor 5 = .ok (.ifCond .eq 22, 3) := by decide +kernel
theorem dX12_fireFor_8 : decode cX12_fireFor 8 = .ok (.iload_n 2, 1) := by decide +kernel
theorem dX12_fireFor_9 : decode cX12_fireFor 9 = .ok (.invokestatic 246, 3) := by decide +kernel
theorem dX12_fireFor_12 : decode cX12_fireFor 12 = .ok (.ifCond .eq 15, 3) := by decide +kernel
theorem dX12_fireFor_15 : decode cX12_fireFor 15 = .ok (.aload_n 0, 1) := by decide +kernel
theorem dX12_fireFor_16 : decode cX12_fireFor 16 = .ok (.iload_n 1, 1) := by decide +kernel
theorem dX12_fireFor_17 : decode cX12_fireFor 17 = .ok (.iconst 2, 1) := by decide +kernel
theorem dX12_fireFor_18 : decode cX12_fireFor 18 = .ok (.bipush 9, 2) := by decide +kernel
theorem dX12_fireFor_20 : decode cX12_fireFor 20 = .ok (.iload_n 2, 1) := by decide +kernel
theorem dX12_fireFor_21 : decode cX12_fireFor 21 = .ok (.invokevirtual 249, 3) := by decide +kernel
theorem dX12_fireFor_24 : decode cX12_fireFor 24 = .ok (.goto 4, 3) := by decide +kernel
theorem dX12_fireFor_27 : decode cX12_fireFor 27 = .ok (.iconst (-1), 1) := by decide +kernel
theorem dX12_fireFor_28 : decode cX12_fireFor 28 = .ok (.ireturn, 1) := by decide +kernel
set_option maxRecDepth 20000 in
theorem ggX12_swearsAll_X12_farBehind : GoodIn wsX12_swearsAll wsX12_farBehind := goodIn_r _ [7, 1, 8, 9, 10, 6, 11, 12, 13, 14, 15, 16, 17, 18, 19, 20, 21, 22, 23, 24, 25, 26, 27, 28, 29, 30, 31, 32, 33, 34, 35, 36, 37, 38, 39, 40, 41, 42, 43, 44, 45, 46, 47, 48, 49, 50, 51, 52, 53, 54, 55, 56, 57, 58, 59, 60, 61, 62, 63, 64, 65, 66, 67, 68, 69, 70, 71, 72, 73, 74, 75, 76, 77, 78, 79, 80, 81, 82, 83] (by decide +kernel) (by decide +kernel)
set_option maxRecDepth 20000 in
theorem gX12_swearsAll_X12_farBehind : GoodIn wsX12_swearsAll (wsV RX12 243 RX12 yX12_farBehind wsX12_farBehind) := goodIn_app (goodIn_of _ (by decide +kernel)) ggX12_swearsAll_X12_farBehind
theorem dX12_swearsAll_0 : decode cX12_swearsAll 0 = .ok (.iconst 0, 1) := by decide +kernel
theorem dX12_swearsAll_1 : decode cX12_swearsAll 1 = .ok (.istore_n 2, 1) := by decide +kernel
theorem dX12_swearsAll_2 : decode cX12_swearsAll 2 = .ok (.iload_n 2, 1) := by decide +kernel
theorem dX12_swearsAll_3 : decode cX12_swearsAll 3 = .ok (.aload_n 0, 1) := by decide +kernel
theorem dX12_swearsAll_4 : decode cX12_swearsAll 4 = .ok (.getfield 7, 3) := by decide +kernel
theorem dX12_swearsAll_7 : decode cX12_swearsAll 7 = .ok (.iconst 0, 1) := by decide +kernel
theorem dX12_swearsAll_8 : decode cX12_swearsAll 8 = .ok (.iaload, 1) := by decide +kernel
theorem dX12_swearsAll_9 : decode cX12_swearsAll 9 = .ok (.if_icmp .ge 77, 3) := by decide +kernel
theorem dX12_swearsAll_12 : decode cX12_swearsAll 12 = .ok (.bipush 16, 2) := by decide +kernel
theorem dX12_swearsAll_14 : decode cX12_swearsAll 14 = .ok (.bipush 6, 2) := by decide +kernel
theorem dX12_swearsAll_16 : decode cX12_swearsAll 16 = .ok (.iload_n 2, 1) := by decide +kernel
theorem dX12_swearsAll_17 : decode cX12_swearsAll 17 = .ok (.imul, 1) := by decide +kernel
theorem dX12_swearsAll_18 : decode cX12_swearsAll 18 = .ok (.iadd, 1) := by decide +kernel
theorem dX12_swearsAll_19 : decode cX12_swearsAll 19 = .ok (.iconst 5, 1) := by decide +kernel
theorem dX12_swearsAll_20 : decode cX12_swearsAll 20 = .ok (.iadd, 1) := by decide +kernel
theorem dX12_swearsAll_21 : decode cX12_swearsAll 21 = .ok (.istore_n 3, 1) := by decide +kernel
theorem dX12_swearsAll_22 : decode cX12_swearsAll 22 = .ok (.aload_n 0, 1) := by decide +kernel
theorem dX12_swearsAll_23 : decode cX12_swearsAll 23 = .ok (.getfield 7, 3) := by decide +kernel
theorem dX12_swearsAll_26 : decode cX12_swearsAll 26 = .ok (.iload_n 3, 1) := by decide +kernel
theorem dX12_swearsAll_27 : decode cX12_swearsAll 27 = .ok (.iaload, 1) := by decide +kernel
theorem dX12_swearsAll_28 : decode cX12_swearsAll 28 = .ok (.istore 4, 2) := by decide +kernel
theorem dX12_swearsAll_30 : decode cX12_swearsAll 30 = .ok (.iconst 0, 1) := by decide +kernel
theorem dX12_swearsAll_31 : decode cX12_swearsAll 31 = .ok (.istore 5, 2) := by decide +kernel
theorem dX12_swearsAll_33 : decode cX12_swearsAll 33 = .ok (.iload 5, 2) := by decide +kernel
theorem dX12_swearsAll_35 : decode cX12_swearsAll 35 = .ok (.bipush 8, 2) := by decide +kernel
theorem dX12_swearsAll_37 : decode cX12_swearsAll 37 = .ok (.if_icmp .ge 35, 3) := by decide +kernel
theorem dX12_swearsAll_40 : decode cX12_swearsAll 40 = .ok (.aload_n 0, 1) := by decide +kernel
theorem dX12_swearsAll_41 : decode cX12_swearsAll 41 = .ok (.getfield 7, 3) := by decide +kernel
theorem dX12_swearsAll_44 : decode cX12_swearsAll 44 = .ok (.iload_n 3, 1) := by decide +kernel
theorem dX12_swearsAll_45 : decode cX12_swearsAll 45 = .ok (.iload 5, 2) := by decide +kernel
theorem dX12_swearsAll_47 : decode cX12_swearsAll 47 = .ok (.iastore, 1) := by decide +kernel
theorem dX12_swearsAll_48 : decode cX12_swearsAll 48 = .ok (.aload_n 0, 1) := by decide +kernel
theorem dX12_swearsAll_49 : decode cX12_swearsAll 49 = .ok (.getfield 25, 3) := by decide +kernel
theorem dX12_swearsAll_52 : decode cX12_swearsAll 52 = .ok (.bipush 8, 2) := by decide +kernel
theorem dX12_swearsAll_54 : decode cX12_swearsAll 54 = .ok (.iload_n 2, 1) := by decide +kernel
theorem dX12_swearsAll_55 : decode cX12_swearsAll 55 = .ok (.imul, 1) := by decide +kernel
theorem dX12_swearsAll_56 : decode cX12_swearsAll 56 = .ok (.iload 5, 2) := by decide +kernel
theorem dX12_swearsAll_58 : decode cX12_swearsAll 58 = .ok (.iadd, 1) := by decide +kernel
theorem dX12_swearsAll_59 : decode cX12_swearsAll 59 = .ok (.aload_n 0, 1) := by decide +kernel
theorem dX12_swearsAll_60 : decode cX12_swearsAll 60 = .ok (.iload_n 2, 1) := by decide +kernel
theorem dX12_swearsAll_61 : decode cX12_swearsAll 61 = .ok (.iload_n 1, 1) := by decide +kernel
theorem dX12_swearsAll_62 : decode cX12_swearsAll 62 = .ok (.invokevirtual 243, 3) := by decide +kernel
theorem dX12_swearsAll_65 : decode cX12_swearsAll 65 = .ok (.iastore, 1) := by decide +kernel
theorem dX12_swearsAll_66 : decode cX12_swearsAll 66 = .ok (.iinc 5 1, 3) := by decide +kernel
theorem dX12_swearsAll_69 : decode cX12_swearsAll 69 = .ok (.goto (-36), 3) := by decide +kernel
theorem dX12_swearsAll_72 : decode cX12_swearsAll 72 = .ok (.aload_n 0, 1) := by decide +kernel
theorem dX12_swearsAll_73 : decode cX12_swearsAll 73 = .ok (.getfield 7, 3) := by decide +kernel
theorem dX12_swearsAll_76 : decode cX12_swearsAll 76 = .ok (.iload_n 3, 1) := by decide +kernel
theorem dX12_swearsAll_77 : decode cX12_swearsAll 77 = .ok (.iload 4, 2) := by decide +kernel
theorem dX12_swearsAll_79 : decode cX12_swearsAll 79 = .ok (.iastore, 1) := by decide +kernel
theorem dX12_swearsAll_80 : decode cX12_swearsAll 80 = .ok (.iinc 2 1, 3) := by decide +kernel
theorem dX12_swearsAll_83 : decode cX12_swearsAll 83 = .ok (.goto (-81), 3) := by decide +kernel
theorem dX12_swearsAll_86 : decode cX12_swearsAll 86 = .ok (.return_, 1) := by decide +kernel
set_option maxRecDepth 20000 in
theorem ggX12_best_X12_isShort : GoodIn wsX12_best wsX12_isShort := goodIn_r _ [8, 9, 10, 11, 7, 12] (by decide +kernel) (by decide +kernel)
set_option maxRecDepth 20000 in
theorem gX12_best_X12_isShort : GoodIn wsX12_best (va_wsS RX12 246 yX12_isShort wsX12_isShort) := goodIn_app (goodIn_of _ (by decide +kernel)) ggX12_best_X12_isShort
set_option maxRecDepth 20000 in
theorem ggX12_best_X12_swearsAll : GoodIn wsX12_best wsX12_swearsAll := goodIn_r _ [16, 3, 4, 17, 18, 19, 7, 20, 21, 22, 23, 24, 25, 26, 27, 28, 29, 30, 31, 32, 33, 34, 35, 36, 37, 38, 39, 40, 41, 42, 43, 44, 45, 46, 47, 48, 49, 50, 51, 52, 53, 54, 55, 56, 57, 58, 59, 60, 61, 62, 63, 64, 65, 66, 67, 68, 72, 73, 74, 75, 76, 77, 78, 79, 80, 81, 82, 83, 84, 85, 86, 87, 88, 89, 90, 91, 92, 93, 94, 95, 96, 97, 98, 99] (by decide +kernel) (by decide +kernel)
set_option maxRecDepth 20000 in
theorem gX12_best_X12_swearsAll : GoodIn wsX12_best (wsV RX12 253 RX12 yX12_swearsAll wsX12_swearsAll) := goodIn_app (goodIn_of _ (by decide +kernel)) ggX12_best_X12_swearsAll
set_option maxRecDepth 20000 in
theorem ggX12_best_X12_size : GoodIn wsX12_best wsX12_size := goodIn_r _ [71] (by decide +kernel) (by decide +kernel)
set_option maxRecDepth 20000 in
theorem gX12_best_X12_size : GoodIn wsX12_best (va_wsS RX12 257 yX12_size wsX12_size) := goodIn_app (goodIn_of _ (by decide +kernel)) ggX12_best_X12_size
set_option maxRecDepth 20000 in
theorem ggX12_best_X12_least : GoodIn wsX12_best wsX12_least := goodIn_r _ [55] (by decide +kernel) (by decide +kernel)
set_option maxRecDepth 20000 in
theorem gX12_best_X12_least : GoodIn wsX12_best (va_wsS RX12 193 yX12_least wsX12_least) := goodIn_app (goodIn_of _ (by decide +kernel)) ggX12_best_X12_least
theorem dX12_best_0 : decode cX12_best 0 = .ok (.iload_n 1, 1) := by decide +kernel
theorem dX12_best_1 : decode cX12_best 1 = .ok (.invokestatic 246, 3) := by decide +kernel
theorem dX12_best_4 : decode cX12_best 4 = .ok (.ifCond .ne 5, 3) := by decide +kernel
theorem dX12_best_7 : decode cX12_best 7 = .ok (.iconst (-1), 1) := by decide +kernel
theorem dX12_best_8 : decode cX12_best 8 = .ok (.ireturn, 1) := by decide +kernel
theorem dX12_best_9 : decode cX12_best 9 = .ok (.aload_n 0, 1) := by decide +kernel
theorem dX12_best_10 : decode cX12_best 10 = .ok (.iload_n 1, 1) := by decide +kernel
theorem dX12_best_11 : decode cX12_best 11 = .ok (.invokevirtual 253, 3) := by decide +kernel
theorem dX12_best_14 : decode cX12_best 14 = .ok (.ldc_w 256, 3) := by decide +kernel
theorem dX12_best_17 : decode cX12_best 17 = .ok (.istore_n 2, 1) := by decide +kernel
theorem dX12_best_18 : decode cX12_best 18 = .ok (.iconst 0, 1) := by decide +kernel
theorem dX12_best_19 : decode cX12_best 19 = .ok (.istore_n 3, 1) := by decide +kernel
theorem dX12_best_20 : decode cX12_best 20 = .ok (.iload_n 3, 1) := by decide +kernel
theorem dX12_best_21 : decode cX12_best 21 = .ok (.sipush 256, 3) := by decide +kernel
theorem dX12_best_24 : decode cX12_best 24 = .ok (.if_icmp .ge 139, 3) := by decide +kernel
theorem dX12_best_27 : decode cX12_best 27 = .ok (.iload_n 3, 1) := by decide +kernel
theorem dX12_best_28 : decode cX12_best 28 = .ok (.invokestatic 257, 3) := by decide +kernel
theorem dX12_best_31 : decode cX12_best 31 = .ok (.istore 4, 2) := by decide +kernel
theorem dX12_best_33 : decode cX12_best 33 = .ok (.aload_n 0, 1) := by decide +kernel
theorem dX12_best_34 : decode cX12_best 34 = .ok (.getfield 28, 3) := by decide +kernel
theorem dX12_best_37 : decode cX12_best 37 = .ok (.iload_n 3, 1) := by decide +kernel
theorem dX12_best_38 : decode cX12_best 38 = .ok (.iload_n 3, 1) := by decide +kernel
theorem dX12_best_39 : decode cX12_best 39 = .ok (.ifCond .ne 7, 3) := by decide +kernel
theorem dX12_best_42 : decode cX12_best 42 = .ok (.iconst 0, 1) := by decide +kernel
theorem dX12_best_43 : decode cX12_best 43 = .ok (.goto 6, 3) := by decide +kernel
theorem dX12_best_46 : decode cX12_best 46 = .ok (.ldc_w 256, 3) := by decide +kernel
theorem dX12_best_49 : decode cX12_best 49 = .ok (.iastore, 1) := by decide +kernel
theorem dX12_best_50 : decode cX12_best 50 = .ok (.iconst 0, 1) := by decide +kernel
theorem dX12_best_51 : decode cX12_best 51 = .ok (.istore 5, 2) := by decide +kernel
theorem dX12_best_53 : decode cX12_best 53 = .ok (.iload 5, 2) := by decide +kernel
theorem dX12_best_55 : decode cX12_best 55 = .ok (.bipush 8, 2) := by decide +kernel
theorem dX12_best_57 : decode cX12_best 57 = .ok (.if_icmp .ge 74, 3) := by decide +kernel
theorem dX12_best_60 : decode cX12_best 60 = .ok (.iload 4, 2) := by decide +kernel
theorem dX12_best_62 : decode cX12_best 62 = .ok (.aload_n 0, 1) := by decide +kernel
theorem dX12_best_63 : decode cX12_best 63 = .ok (.getfield 7, 3) := by decide +kernel
theorem dX12_best_66 : decode cX12_best 66 = .ok (.iconst 0, 1) := by decide +kernel
theorem dX12_best_67 : decode cX12_best 67 = .ok (.iaload, 1) := by decide +kernel
theorem dX12_best_68 : decode cX12_best 68 = .ok (.if_icmp .gt 63, 3) := by decide +kernel
theorem dX12_best_71 : decode cX12_best 71 = .ok (.iload_n 3, 1) := by decide +kernel
theorem dX12_best_72 : decode cX12_best 72 = .ok (.iload 5, 2) := by decide +kernel
theorem dX12_best_74 : decode cX12_best 74 = .ok (.ishr, 1) := by decide +kernel
theorem dX12_best_75 : decode cX12_best 75 = .ok (.iconst 1, 1) := by decide +kernel
theorem dX12_best_76 : decode cX12_best 76 = .ok (.iand, 1) := by decide +kernel
theorem dX12_best_77 : decode cX12_best 77 = .ok (.iconst 1, 1) := by decide +kernel
theorem dX12_best_78 : decode cX12_best 78 = .ok (.if_icmp .ne 47, 3) := by decide +kernel
theorem dX12_best_81 : decode cX12_best 81 = .ok (.aload_n 0, 1) := by decide +kernel
theorem dX12_best_82 : decode cX12_best 82 = .ok (.getfield 28, 3) := by decide +kernel
theorem dX12_best_85 : decode cX12_best 85 = .ok (.iload_n 3, 1) := by decide +kernel
theorem dX12_best_86 : decode cX12_best 86 = .ok (.aload_n 0, 1) := by decide +kernel
theorem dX12_best_87 : decode cX12_best 87 = .ok (.getfield 28, 3) := by decide +kernel
theorem dX12_best_90 : decode cX12_best 90 = .ok (.iload_n 3, 1) := by decide +kernel
theorem dX12_best_91 : decode cX12_best 91 = .ok (.iaload, 1) := by decide +kernel
theorem dX12_best_92 : decode cX12_best 92 = .ok (.aload_n 0, 1) := by decide +kernel
theorem dX12_best_93 : decode cX12_best 93 = .ok (.getfield 28, 3) := by decide +kernel
theorem dX12_best_96 : decode cX12_best 96 = .ok (.iload_n 3, 1) := by decide +kernel
theorem dX12_best_97 : decode cX12_best 97 = .ok (.iconst 1, 1) := by decide +kernel
theorem dX12_best_98 : decode cX12_best 98 = .ok (.iload 5, 2) := by decide +kernel
theorem dX12_best_100 : decode cX12_best 100 = .ok (.ishl, 1) := by decide +kernel
theorem dX12_best_101 : decode cX12_best 101 = .ok (.iconst (-1), 1) := by decide +kernel
theorem dX12_best_102 : decode cX12_best 102 = .ok (.ixor, 1) := by decide +kernel
theorem dX12_best_103 : decode cX12_best 103 = .ok (.iand, 1) := by decide +kernel
theorem dX12_best_104 : decode cX12_best 104 = .ok (.iaload, 1) := by decide +kernel
theorem dX12_best_105 : decode cX12_best 105 = .ok (.aload_n 0, 1) := by decide +kernel
theorem dX12_best_106 : decode cX12_best 106 = .ok (.getfield 25, 3) := by decide +kernel
theorem dX12_best_109 : decode cX12_best 109 = .ok (.bipush 8, 2) := by decide +kernel
theorem dX12_best_111 : decode cX12_best 111 = .ok (.iload 4, 2) := by decide +kernel
theorem dX12_best_113 : decode cX12_best 113 = .ok (.iconst 1, 1) := by decide +kernel
theorem dX12_best_114 : decode cX12_best 114 = .ok (.isub, 1) := by decide +kernel
theorem dX12_best_115 : decode cX12_best 115 = .ok (.imul, 1) := by decide +kernel
theorem dX12_best_116 : decode cX12_best 116 = .ok (.iload 5, 2) := by decide +kernel
theorem dX12_best_118 : decode cX12_best 118 = .ok (.iadd, 1) := by decide +kernel
theorem dX12_best_119 : decode cX12_best 119 = .ok (.iaload, 1) := by decide +kernel
theorem dX12_best_120 : decode cX12_best 120 = .ok (.iadd, 1) := by decide +kernel
theorem dX12_best_121 : decode cX12_best 121 = .ok (.invokestatic 193, 3) := by decide +kernel
theorem dX12_best_124 : decode cX12_best 124 = .ok (.iastore, 1) := by decide +kernel
theorem dX12_best_125 : decode cX12_best 125 = .ok (.iinc 5 1, 3) := by decide +kernel
theorem dX12_best_128 : decode cX12_best 128 = .ok (.goto (-75), 3) := by decide +kernel
theorem dX12_best_131 : decode cX12_best 131 = .ok (.iload 4, 2) := by decide +kernel
theorem dX12_best_133 : decode cX12_best 133 = .ok (.aload_n 0, 1) := by decide +kernel
theorem dX12_best_134 : decode cX12_best 134 = .ok (.getfield 7, 3) := by decide +kernel
theorem dX12_best_137 : decode cX12_best 137 = .ok (.iconst 0, 1) := by decide +kernel
theorem dX12_best_138 : decode cX12_best 138 = .ok (.iaload, 1) := by decide +kernel
theorem dX12_best_139 : decode cX12_best 139 = .ok (.if_icmp .ne 16, 3) := by decide +kernel
theorem dX12_best_142 : decode cX12_best 142 = .ok (.iload_n 2, 1) := by decide +kernel
theorem dX12_best_143 : decode cX12_best 143 = .ok (.aload_n 0, 1) := by decide +kernel
theorem dX12_best_144 : decode cX12_best 144 = .ok (.getfield 28, 3) := by decide +kernel
theorem dX12_best_147 : decode cX12_best 147 = .ok (.iload_n 3, 1) := by decide +kernel
theorem dX12_best_148 : decode cX12_best 148 = .ok (.iaload, 1) := by decide +kernel
theorem dX12_best_149 : decode cX12_best 149 = .ok (.invokestatic 193, 3) := by decide +kernel
theorem dX12_best_152 : decode cX12_best 152 = .ok (.goto 4, 3) := by decide +kernel
theorem dX12_best_155 : decode cX12_best 155 = .ok (.iload_n 2, 1) := by decide +kernel
theorem dX12_best_156 : decode cX12_best 156 = .ok (.istore_n 2, 1) := by decide +kernel
theorem dX12_best_157 : decode cX12_best 157 = .ok (.iinc 3 1, 3) := by decide +kernel
theorem dX12_best_160 : decode cX12_best 160 = .ok (.goto (-140), 3) := by decide +kernel
theorem dX12_best_163 : decode cX12_best 163 = .ok (.iload_n 2, 1) := by decide +kernel
theorem dX12_best_164 : decode cX12_best 164 = .ok (.ireturn, 1) := by decide +kernel
theorem dX12_areEnough_0 : decode cX12_areEnough 0 = .ok (.iconst 1, 1) := by decide +kernel
theorem dX12_areEnough_1 : decode cX12_areEnough 1 = .ok (.istore_n 2, 1) := by decide +kernel
theorem dX12_areEnough_2 : decode cX12_areEnough 2 = .ok (.iconst 0, 1) := by decide +kernel
theorem dX12_areEnough_3 : decode cX12_areEnough 3 = .ok (.istore_n 3, 1) := by decide +kernel
theorem dX12_areEnough_4 : decode cX12_areEnough 4 = .ok (.iload_n 3, 1) := by decide +kernel
theorem dX12_areEnough_5 : decode cX12_areEnough 5 = .ok (.aload_n 0, 1) := by decide +kernel
theorem dX12_areEnough_6 : decode cX12_areEnough 6 = .ok (.getfield 7, 3) := by decide +kernel
theorem dX12_areEnough_9 : decode cX12_areEnough 9 = .ok (.iconst 0, 1) := by decide +kernel
theorem dX12_areEnough_10 : decode cX12_areEnough 10 = .ok (.iaload, 1) := by decide +kernel
theorem dX12_areEnough_11 : decode cX12_areEnough 11 = .ok (.if_icmp .ge 74, 3) := by decide +kernel
theorem dX12_areEnough_14 : decode cX12_areEnough 14 = .ok (.iconst 0, 1) := by decide +kernel
theorem dX12_areEnough_15 : decode cX12_areEnough 15 = .ok (.istore 4, 2) := by decide +kernel
theorem dX12_areEnough_17 : decode cX12_areEnough 17 = .ok (.iconst 0, 1) := by decide +kernel
theorem dX12_areEnough_18 : decode cX12_areEnough 18 = .ok (.istore 5, 2) := by decide +kernel
theorem dX12_areEnough_20 : decode cX12_areEnough 20 = .ok (.iload 5, 2) := by decide +kernel
theorem dX12_areEnough_22 : decode cX12_areEnough 22 = .ok (.bipush 8, 2) := by decide +kernel
theorem dX12_areEnough_24 : decode cX12_areEnough 24 = .ok (.if_icmp .ge 50, 3) := by decide +kernel
theorem dX12_areEnough_27 : decode cX12_areEnough 27 = .ok (.iload 4, 2) := by decide +kernel
theorem dX12_areEnough_29 : decode cX12_areEnough 29 = .ok (.iload_n 1, 1) := by decide +kernel
theorem dX12_areEnough_30 : decode cX12_areEnough 30 = .ok (.iload 5, 2) := by decide +kernel
theorem dX12_areEnough_32 : decode cX12_areEnough 32 = .ok (.ishr, 1) := by decide +kernel
theorem dX12_areEnough_33 : decode cX12_areEnough 33 = .ok (.iconst 1, 1) := by decide +kernel
theorem dX12_areEnough_34 : decode cX12_areEnough 34 = .ok (.iand, 1) := by decide +kernel
theorem dX12_areEnough_35 : decode cX12_areEnough 35 = .ok (.iconst 1, 1) := by decide +kernel
theorem dX12_areEnough_36 : decode cX12_areEnough 36 = .ok (.if_icmp .ne 28, 3) := by decide +kernel
theorem dX12_areEnough_39 : decode cX12_areEnough 39 = .ok (.aload_n 0, 1) := by decide +kernel
theorem dX12_areEnough_40 : decode cX12_areEnough 40 = .ok (.getfield 25, 3) := by decide +kernel
theorem dX12_areEnough_43 : decode cX12_areEnough 43 = .ok (.bipush 8, 2) := by decide +kernel
theorem dX12_areEnough_45 : decode cX12_areEnough 45 = .ok (.iload_n 3, 1) := by decide +kernel
theorem dX12_areEnough_46 : decode cX12_areEnough 46 = .ok (.imul, 1) := by decide +kernel
theorem dX12_areEnough_47 : decode cX12_areEnough 47 = .ok (.iload 5, 2) := by decide +kernel
theorem dX12_areEnough_49 : decode cX12_areEnough 49 = .ok (.iadd, 1) := by decide +kernel
theorem dX12_areEnough_50 : decode cX12_areEnough 50 = .ok (.iaload, 1) := by decide +kernel
theorem dX12_areEnough_51 : decode cX12_areEnough 51 = .ok (.aload_n 0, 1) := by decide +kernel
theorem dX12_areEnough_52 : decode cX12_areEnough 52 = .ok (.getfield 7, 3) := by decide +kernel
theorem dX12_areEnough_55 : decode cX12_areEnough 55 = .ok (.iconst 5, 1) := by decide +kernel
theorem dX12_areEnough_56 : decode cX12_areEnough 56 = .ok (.iaload, 1) := by decide +kernel
theorem dX12_areEnough_57 : decode cX12_areEnough 57 = .ok (.if_icmp .gt 7, 3) := by decide +kernel
theorem dX12_areEnough_60 : decode cX12_areEnough 60 = .ok (.iconst 1, 1) := by decide +kernel
theorem dX12_areEnough_61 : decode cX12_areEnough 61 = .ok (.goto 4, 3) := by decide +kernel
theorem dX12_areEnough_64 : decode cX12_areEnough 64 = .ok (.iconst 0, 1) := by decide +kernel
theorem dX12_areEnough_65 : decode cX12_areEnough 65 = .ok (.ior, 1) := by decide +kernel
theorem dX12_areEnough_66 : decode cX12_areEnough 66 = .ok (.istore 4, 2) := by decide +kernel
theorem dX12_areEnough_68 : decode cX12_areEnough 68 = .ok (.iinc 5 1, 3) := by decide +kernel
theorem dX12_areEnough_71 : decode cX12_areEnough 71 = .ok (.goto (-51), 3) := by decide +kernel
theorem dX12_areEnough_74 : decode cX12_areEnough 74 = .ok (.iload_n 2, 1) := by decide +kernel
theorem dX12_areEnough_75 : decode cX12_areEnough 75 = .ok (.iload 4, 2) := by decide +kernel
theorem dX12_areEnough_77 : decode cX12_areEnough 77 = .ok (.iand, 1) := by decide +kernel
theorem dX12_areEnough_78 : decode cX12_areEnough 78 = .ok (.istore_n 2, 1) := by decide +kernel
theorem dX12_areEnough_79 : decode cX12_areEnough 79 = .ok (.iinc 3 1, 3) := by decide +kernel
theorem dX12_areEnough_82 : decode cX12_areEnough 82 = .ok (.goto (-78), 3) := by decide +kernel
theorem dX12_areEnough_85 : decode cX12_areEnough 85 = .ok (.iload_n 2, 1) := by decide +kernel
theorem dX12_areEnough_86 : decode cX12_areEnough 86 = .ok (.ireturn, 1) := by decide +kernel
set_option maxRecDepth 20000 in
theorem ggX12_enough_X12_isShort : GoodIn wsX12_enough wsX12_isShort := goodIn_r _ [4, 5, 6, 7, 3, 8] (by decide +kernel) (by decide +kernel)
set_option maxRecDepth 20000 in
theorem gX12_enough_X12_isShort : GoodIn wsX12_enough (va_wsS RX12 246 yX12_isShort wsX12_isShort) := goodIn_app (goodIn_of _ (by decide +kernel)) ggX12_enough_X12_isShort
set_option maxRecDepth 20000 in
theorem ggX12_enough_X12_swearsAll : GoodIn wsX12_enough wsX12_swearsAll := goodIn_r _ [12, 13, 14, 15, 16, 17, 3, 18, 19, 20, 21, 22, 23, 24, 25, 26, 27, 28, 29, 30, 31, 32, 33, 34, 35, 36, 37, 38, 39, 40, 41, 42, 43, 44, 45, 46, 47, 48, 49, 50, 51, 52, 53, 54, 55, 56, 57, 58, 59, 60, 61, 62, 63, 64, 65, 66, 74, 75, 76, 77, 78, 79, 80, 81, 82, 83, 84, 85, 86, 87, 88, 89, 90, 91, 92, 93, 94, 95, 96, 97, 98, 99, 100, 101] (by decide +kernel) (by decide +kernel)
set_option maxRecDepth 20000 in
theorem gX12_enough_X12_swearsAll : GoodIn wsX12_enough (wsV RX12 253 RX12 yX12_swearsAll wsX12_swearsAll) := goodIn_app (goodIn_of _ (by decide +kernel)) ggX12_enough_X12_swearsAll
set_option maxRecDepth 20000 in
theorem ggX12_enough_X12_size : GoodIn wsX12_enough wsX12_size := goodIn_r _ [69] (by decide +kernel) (by decide +kernel)
set_option maxRecDepth 20000 in
theorem gX12_enough_X12_size : GoodIn wsX12_enough (va_wsS RX12 257 yX12_size wsX12_size) := goodIn_app (goodIn_of _ (by decide +kernel)) ggX12_enough_X12_size
set_option maxRecDepth 20000 in
theorem ggX12_enough_X12_areEnough : GoodIn wsX12_enough wsX12_areEnough := goodIn_r _ [73, 13, 14, 74, 75, 76, 77, 78, 79, 80, 81, 82, 83, 84, 85, 86, 87, 88, 89, 90, 91, 92, 93, 94, 95, 96, 97, 98, 99, 100, 101] (by decide +kernel) (by decide +kernel)
set_option maxRecDepth 20000 in
theorem gX12_enough_X12_areEnough : GoodIn wsX12_enough (wsV RX12 260 RX12 yX12_areEnough wsX12_areEnough) := goodIn_app (goodIn_of _ (by decide +kernel)) ggX12_enough_X12_areEnough
theorem dX12_enough_0 : decode cX12_enough 0 = .ok (.iload_n 1, 1) := by decide +kernel
theorem dX12_enough_1 : decode cX12_enough 1 = .ok (.invokestatic 246, 3) := by decide +kernel
theorem dX12_enough_4 : decode cX12_enough 4 = .ok (.ifCond .ne 5, 3) := by decide +kernel
theorem dX12_enough_7 : decode cX12_enough 7 = .ok (.iconst (-1), 1) := by decide +kernel
theorem dX12_enough_8 : decode cX12_enough 8 = .ok (.ireturn, 1) := by decide +kernel
theorem dX12_enough_9 : decode cX12_enough 9 = .ok (.aload_n 0, 1) := by decide +kernel
theorem dX12_enough_10 : decode cX12_enough 10 = .ok (.iload_n 1, 1) := by decide +kernel
theorem dX12_enough_11 : decode cX12_enough 11 = .ok (.invokevirtual 253, 3) := by decide +kernel
theorem dX12_enough_14 : decode cX12_enough 14 = .ok (.bipush (-3), 2) := by decide +kernel
theorem dX12_enough_16 : decode cX12_enough 16 = .ok (.istore_n 2, 1) := by decide +kernel
theorem dX12_enough_17 : decode cX12_enough 17 = .ok (.iconst 0, 1) := by decide +kernel
theorem dX12_enough_18 : decode cX12_enough 18 = .ok (.istore_n 3, 1) := by decide +kernel
theorem dX12_enough_19 : decode cX12_enough 19 = .ok (.iload_n 3, 1) := by decide +kernel
theorem dX12_enough_20 : decode cX12_enough 20 = .ok (.sipush 256, 3) := by decide +kernel
theorem dX12_enough_23 : decode cX12_enough 23 = .ok (.if_icmp .ge 38, 3) := by decide +kernel
theorem dX12_enough_26 : decode cX12_enough 26 = .ok (.iload_n 2, 1) := by decide +kernel
theorem dX12_enough_27 : decode cX12_enough 27 = .ok (.ifCond .lt 14, 3) := by decide +kernel
theorem dX12_enough_30 : decode cX12_enough 30 = .ok (.iload_n 3, 1) := by decide +kernel
theorem dX12_enough_31 : decode cX12_enough 31 = .ok (.invokestatic 257, 3) := by decide +kernel
theorem dX12_enough_34 : decode cX12_enough 34 = .ok (.iload_n 2, 1) := by decide +kernel
theorem dX12_enough_35 : decode cX12_enough 35 = .ok (.invokestatic 257, 3) := by decide +kernel
theorem dX12_enough_38 : decode cX12_enough 38 = .ok (.if_icmp .ge 15, 3) := by decide +kernel
theorem dX12_enough_41 : decode cX12_enough 41 = .ok (.aload_n 0, 1) := by decide +kernel
theorem dX12_enough_42 : decode cX12_enough 42 = .ok (.iload_n 3, 1) := by decide +kernel
theorem dX12_enough_43 : decode cX12_enough 43 = .ok (.invokevirtual 260, 3) := by decide +kernel
theorem dX12_enough_46 : decode cX12_enough 46 = .ok (.ifCond .eq 7, 3) := by decide +kernel
theorem dX12_enough_49 : decode cX12_enough 49 = .ok (.iload_n 3, 1) := by decide +kernel
theorem dX12_enough_50 : decode cX12_enough 50 = .ok (.goto 4, 3) := by decide +kernel
theorem dX12_enough_53 : decode cX12_enough 53 = .ok (.iload_n 2, 1) := by decide +kernel
theorem dX12_enough_54 : decode cX12_enough 54 = .ok (.istore_n 2, 1) := by decide +kernel
theorem dX12_enough_55 : decode cX12_enough 55 = .ok (.iinc 3 1, 3) := by decide +kernel
theorem dX12_enough_58 : decode cX12_enough 58 = .ok (.goto (-39), 3) := by decide +kernel
theorem dX12_enough_61 : decode cX12_enough 61 = .ok (.iload_n 2, 1) := by decide +kernel
theorem dX12_enough_62 : decode cX12_enough 62 = .ok (.ireturn, 1) := by decide +kernel
theorem dX12_product_0 : decode cX12_product 0 = .ok (.lconst 1, 1) := by decide +kernel
theorem dX12_product_1 : decode cX12_product 1 = .ok (.lstore_n 1, 1) := by decide +kernel
theorem dX12_product_2 : decode cX12_product 2 = .ok (.iconst 2, 1) := by decide +kernel
theorem dX12_product_3 : decode cX12_product 3 = .ok (.istore_n 3, 1) := by decide +kernel
theorem dX12_product_4 : decode cX12_product 4 = .ok (.iload_n 3, 1) := by decide +kernel
theorem dX12_product_5 : decode cX12_product 5 = .ok (.iload_n 0, 1) := by decide +kernel
theorem dX12_product_6 : decode cX12_product 6 = .ok (.if_icmp .gt 14, 3) := by decide +kernel
theorem dX12_product_9 : decode cX12_product 9 = .ok (.lload_n 1, 1) := by decide +kernel
theorem dX12_product_10 : decode cX12_product 10 = .ok (.iload_n 3, 1) := by decide +kernel
theorem dX12_product_11 : decode cX12_product 11 = .ok (.i2l, 1) := by decide +kernel
theorem dX12_product_12 : decode cX12_product 12 = .ok (.lmul, 1) := by decide +kernel
theorem dX12_product_13 : decode cX12_product 13 = .ok (.lstore_n 1, 1) := by decide +kernel
theorem dX12_product_14 : decode cX12_product 14 = .ok (.iinc 3 1, 3) := by decide +kernel
theorem dX12_product_17 : decode cX12_product 17 = .ok (.goto (-13), 3) := by decide +kernel
theorem dX12_product_20 : decode cX12_product 20 = .ok (.lload_n 1, 1) := by decide +kernel
theorem dX12_product_21 : decode cX12_product 21 = .ok (.lreturn, 1) := by decide +kernel
theorem dX12_partOf_0 : decode cX12_partOf 0 = .ok (.lload_n 2, 1) := by decide +kernel
theorem dX12_partOf_1 : decode cX12_partOf 1 = .ok (.lstore 5, 2) := by decide +kernel
theorem dX12_partOf_3 : decode cX12_partOf 3 = .ok (.lload_n 0, 1) := by decide +kernel
theorem dX12_partOf_4 : decode cX12_partOf 4 = .ok (.lstore 7, 2) := by decide +kernel
theorem dX12_partOf_6 : decode cX12_partOf 6 = .ok (.lload 7, 2) := by decide +kernel
theorem dX12_partOf_8 : decode cX12_partOf 8 = .ok (.lconst 0, 1) := by decide +kernel
theorem dX12_partOf_9 : decode cX12_partOf 9 = .ok (.lcmp, 1) := by decide +kernel
theorem dX12_partOf_10 : decode cX12_partOf 10 = .ok (.ifCond .eq 21, 3) := by decide +kernel
theorem dX12_partOf_13 : decode cX12_partOf 13 = .ok (.lload 5, 2) := by decide +kernel
theorem dX12_partOf_15 : decode cX12_partOf 15 = .ok (.lload 7, 2) := by decide +kernel
theorem dX12_partOf_17 : decode cX12_partOf 17 = .ok (.lrem, 1) := by decide +kernel
theorem dX12_partOf_18 : decode cX12_partOf 18 = .ok (.lstore 9, 2) := by decide +kernel
theorem dX12_partOf_20 : decode cX12_partOf 20 = .ok (.lload 7, 2) := by decide +kernel
theorem dX12_partOf_22 : decode cX12_partOf 22 = .ok (.lstore 5, 2) := by decide +kernel
theorem dX12_partOf_24 : decode cX12_partOf 24 = .ok (.lload 9, 2) := by decide +kernel
theorem dX12_partOf_26 : decode cX12_partOf 26 = .ok (.lstore 7, 2) := by decide +kernel
theorem dX12_partOf_28 : decode cX12_partOf 28 = .ok (.goto (-22), 3) := by decide +kernel
theorem dX12_partOf_31 : decode cX12_partOf 31 = .ok (.iload 4, 2) := by decide +kernel
theorem dX12_partOf_33 : decode cX12_partOf 33 = .ok (.ifCond .ne 10, 3) := by decide +kernel
theorem dX12_partOf_36 : decode cX12_partOf 36 = .ok (.lload_n 0, 1) := by decide +kernel
theorem dX12_partOf_37 : decode cX12_partOf 37 = .ok (.lload 5, 2) := by decide +kernel
theorem dX12_partOf_39 : decode cX12_partOf 39 = .ok (.ldiv, 1) := by decide +kernel
theorem dX12_partOf_40 : decode cX12_partOf 40 = .ok (.goto 7, 3) := by decide +kernel
theorem dX12_partOf_43 : decode cX12_partOf 43 = .ok (.lload_n 2, 1) := by decide +kernel
theorem dX12_partOf_44 : decode cX12_partOf 44 = .ok (.lload 5, 2) := by decide +kernel
theorem dX12_partOf_46 : decode cX12_partOf 46 = .ok (.ldiv, 1) := by decide +kernel
theorem dX12_partOf_47 : decode cX12_partOf 47 = .ok (.lreturn, 1) := by decide +kernel
set_option maxRecDepth 20000 in
theorem ggX12_isTold_X12_copyRow : GoodIn wsX12_isTold wsX12_copyRow := goodIn_r _ [8] (by decide +kernel) (by decide +kernel)
set_option maxRecDepth 20000 in
theorem gX12_isTold_X12_copyRow : GoodIn wsX12_isTold (va_wsS RX12 151 yX12_copyRow wsX12_copyRow) := goodIn_app (goodIn_of _ (by decide +kernel)) ggX12_isTold_X12_copyRow
set_option maxRecDepth 20000 in
theorem ggX12_isTold_X12_goesOn : GoodIn wsX12_isTold wsX12_goesOn := goodIn_r _ [12, 1, 13, 14, 15, 7, 16, 17, 18, 19, 20, 21, 22, 23, 24, 25, 26, 27, 28, 29, 30, 31, 32, 33, 34, 35, 36, 37, 38, 39, 40, 41, 42, 43, 44, 45, 46, 47, 48, 49, 50, 51, 52, 53, 54, 55, 56, 57, 58, 59, 60, 61, 62, 63, 64, 65, 66, 67, 68, 69] (by decide +kernel) (by decide +kernel)
set_option maxRecDepth 20000 in
theorem gX12_isTold_X12_goesOn : GoodIn wsX12_isTold (wsV RX12 208 RX12 yX12_goesOn wsX12_goesOn) := goodIn_app (goodIn_of _ (by decide +kernel)) ggX12_isTold_X12_goesOn
set_option maxRecDepth 20000 in
theorem ggX12_isTold_X12_its : GoodIn wsX12_isTold wsX12_its := goodIn_r _ [20, 1, 42, 43, 44, 45, 46, 47, 48, 49, 50, 51, 52, 53, 54, 55, 56, 57, 58, 59, 60, 61, 62, 63, 64, 65, 66, 67, 68, 69] (by decide +kernel) (by decide +kernel)
set_option maxRecDepth 20000 in
theorem gX12_isTold_X12_its : GoodIn wsX12_isTold (wsV RX12 176 RX12 yX12_its wsX12_its) := goodIn_app (goodIn_of _ (by decide +kernel)) ggX12_isTold_X12_its
theorem dX12_isTold_0 : decode cX12_isTold 0 = .ok (.aload_n 0, 1) := by decide +kernel
theorem dX12_isTold_1 : decode cX12_isTold 1 = .ok (.getfield 7, 3) := by decide +kernel
theorem dX12_isTold_4 : decode cX12_isTold 4 = .ok (.aload_n 0, 1) := by decide +kernel
theorem dX12_isTold_5 : decode cX12_isTold 5 = .ok (.getfield 16, 3) := by decide +kernel
theorem dX12_isTold_8 : decode cX12_isTold 8 = .ok (.invokestatic 151, 3) := by decide +kernel
theorem dX12_isTold_11 : decode cX12_isTold 11 = .ok (.iconst 1, 1) := by decide +kernel
theorem dX12_isTold_12 : decode cX12_isTold 12 = .ok (.istore_n 3, 1) := by decide +kernel
theorem dX12_isTold_13 : decode cX12_isTold 13 = .ok (.iconst 0, 1) := by decide +kernel
theorem dX12_isTold_14 : decode cX12_isTold 14 = .ok (.istore 4, 2) := by decide +kernel
theorem dX12_isTold_16 : decode cX12_isTold 16 = .ok (.iload 4, 2) := by decide +kernel
theorem dX12_isTold_18 : decode cX12_isTold 18 = .ok (.aload_n 0, 1) := by decide +kernel
theorem dX12_isTold_19 : decode cX12_isTold 19 = .ok (.getfield 37, 3) := by decide +kernel
theorem dX12_isTold_22 : decode cX12_isTold 22 = .ok (.iload_n 1, 1) := by decide +kernel
theorem dX12_isTold_23 : decode cX12_isTold 23 = .ok (.iaload, 1) := by decide +kernel
theorem dX12_isTold_24 : decode cX12_isTold 24 = .ok (.if_icmp .ge 60, 3) := by decide +kernel
theorem dX12_isTold_27 : decode cX12_isTold 27 = .ok (.iload_n 3, 1) := by decide +kernel
theorem dX12_isTold_28 : decode cX12_isTold 28 = .ok (.ifCond .eq 56, 3) := by decide +kernel
theorem dX12_isTold_31 : decode cX12_isTold 31 = .ok (.aload_n 0, 1) := by decide +kernel
theorem dX12_isTold_32 : decode cX12_isTold 32 = .ok (.invokevirtual 208, 3) := by decide +kernel
theorem dX12_isTold_35 : decode cX12_isTold 35 = .ok (.aload_n 0, 1) := by decide +kernel
theorem dX12_isTold_36 : decode cX12_isTold 36 = .ok (.getfield 40, 3) := by decide +kernel
theorem dX12_isTold_39 : decode cX12_isTold 39 = .ok (.bipush 40, 2) := by decide +kernel
theorem dX12_isTold_41 : decode cX12_isTold 41 = .ok (.iload_n 1, 1) := by decide +kernel
theorem dX12_isTold_42 : decode cX12_isTold 42 = .ok (.imul, 1) := by decide +kernel
theorem dX12_isTold_43 : decode cX12_isTold 43 = .ok (.iload 4, 2) := by decide +kernel
theorem dX12_isTold_45 : decode cX12_isTold 45 = .ok (.iadd, 1) := by decide +kernel
theorem dX12_isTold_46 : decode cX12_isTold 46 = .ok (.iaload, 1) := by decide +kernel
theorem dX12_isTold_47 : decode cX12_isTold 47 = .ok (.iconst (-1), 1) := by decide +kernel
theorem dX12_isTold_48 : decode cX12_isTold 48 = .ok (.if_icmp .eq 24, 3) := by decide +kernel
theorem dX12_isTold_51 : decode cX12_isTold 51 = .ok (.aload_n 0, 1) := by decide +kernel
theorem dX12_isTold_52 : decode cX12_isTold 52 = .ok (.getfield 40, 3) := by decide +kernel
theorem dX12_isTold_55 : decode cX12_isTold 55 = .ok (.bipush 40, 2) := by decide +kernel
theorem dX12_isTold_57 : decode cX12_isTold 57 = .ok (.iload_n 1, 1) := by decide +kernel
theorem dX12_isTold_58 : decode cX12_isTold 58 = .ok (.imul, 1) := by decide +kernel
theorem dX12_isTold_59 : decode cX12_isTold 59 = .ok (.iload 4, 2) := by decide +kernel
theorem dX12_isTold_61 : decode cX12_isTold 61 = .ok (.iadd, 1) := by decide +kernel
theorem dX12_isTold_62 : decode cX12_isTold 62 = .ok (.iaload, 1) := by decide +kernel
theorem dX12_isTold_63 : decode cX12_isTold 63 = .ok (.aload_n 0, 1) := by decide +kernel
theorem dX12_isTold_64 : decode cX12_isTold 64 = .ok (.iload_n 2, 1) := by decide +kernel
theorem dX12_isTold_65 : decode cX12_isTold 65 = .ok (.iconst 1, 1) := by decide +kernel
theorem dX12_isTold_66 : decode cX12_isTold 66 = .ok (.invokevirtual 176, 3) := by decide +kernel
theorem dX12_isTold_69 : decode cX12_isTold 69 = .ok (.if_icmp .ne 7, 3) := by decide +kernel
theorem dX12_isTold_72 : decode cX12_isTold 72 = .ok (.iconst 1, 1) := by decide +kernel
theorem dX12_isTold_73 : decode cX12_isTold 73 = .ok (.goto 4, 3) := by decide +kernel
theorem dX12_isTold_76 : decode cX12_isTold 76 = .ok (.iconst 0, 1) := by decide +kernel
theorem dX12_isTold_77 : decode cX12_isTold 77 = .ok (.istore_n 3, 1) := by decide +kernel
theorem dX12_isTold_78 : decode cX12_isTold 78 = .ok (.iinc 4 1, 3) := by decide +kernel
theorem dX12_isTold_81 : decode cX12_isTold 81 = .ok (.goto (-65), 3) := by decide +kernel
theorem dX12_isTold_84 : decode cX12_isTold 84 = .ok (.aload_n 0, 1) := by decide +kernel
theorem dX12_isTold_85 : decode cX12_isTold 85 = .ok (.getfield 16, 3) := by decide +kernel
theorem dX12_isTold_88 : decode cX12_isTold 88 = .ok (.aload_n 0, 1) := by decide +kernel
theorem dX12_isTold_89 : decode cX12_isTold 89 = .ok (.getfield 7, 3) := by decide +kernel
theorem dX12_isTold_92 : decode cX12_isTold 92 = .ok (.invokestatic 151, 3) := by decide +kernel
theorem dX12_isTold_95 : decode cX12_isTold 95 = .ok (.iload_n 3, 1) := by decide +kernel
theorem dX12_isTold_96 : decode cX12_isTold 96 = .ok (.ireturn, 1) := by decide +kernel
set_option maxRecDepth 20000 in
theorem ggX12_fits_X12_isSheet : GoodIn wsX12_fits wsX12_isSheet := goodIn_r _ [6, 7, 8, 9, 5, 10] (by decide +kernel) (by decide +kernel)
set_option maxRecDepth 20000 in
theorem gX12_fits_X12_isSheet : GoodIn wsX12_fits (va_wsS RX12 263 yX12_isSheet wsX12_isSheet) := goodIn_app (goodIn_of _ (by decide +kernel)) ggX12_fits_X12_isSheet
set_option maxRecDepth 20000 in
theorem ggX12_fits_X12_isOne : GoodIn wsX12_fits wsX12_isOne := goodIn_r _ [14, 2, 58, 59, 60, 61, 62, 63, 64, 65, 66, 67, 68, 69, 70, 71, 72, 73, 74, 75, 76, 77, 78, 79, 80, 81, 82, 83, 84, 85] (by decide +kernel) (by decide +kernel)
set_option maxRecDepth 20000 in
theorem gX12_fits_X12_isOne : GoodIn wsX12_fits (wsV RX12 182 RX12 yX12_isOne wsX12_isOne) := goodIn_app (goodIn_of _ (by decide +kernel)) ggX12_fits_X12_isOne
set_option maxRecDepth 20000 in
theorem ggX12_fits_X12_isIn : GoodIn wsX12_fits wsX12_isIn := goodIn_r _ [10] (by decide +kernel) (by decide +kernel)
set_option maxRecDepth 20000 in
theorem gX12_fits_X12_isIn : GoodIn wsX12_fits (va_wsS RX12 60 yX12_isIn wsX12_isIn) := goodIn_app (goodIn_of _ (by decide +kernel)) ggX12_fits_X12_isIn
set_option maxRecDepth 20000 in
theorem ggX12_fits_X12_isTold : GoodIn wsX12_fits wsX12_isTold := goodIn_r _ [18, 2, 19, 20, 21, 22, 23, 5, 24, 25, 26, 27, 28, 29, 30, 31, 32, 33, 34, 35, 36, 37, 38, 39, 40, 41, 42, 43, 44, 45, 46, 47, 48, 49, 50, 51, 52, 53, 54, 55, 56, 57, 58, 59, 60, 61, 62, 63, 64, 65, 66, 67, 68, 69, 70, 71, 72, 73, 74, 75, 76, 77, 78, 79, 80, 81, 82, 83, 84, 85] (by decide +kernel) (by decide +kernel)
set_option maxRecDepth 20000 in
theorem gX12_fits_X12_isTold : GoodIn wsX12_fits (wsV RX12 266 RX12 yX12_isTold wsX12_isTold) := goodIn_app (goodIn_of _ (by decide +kernel)) ggX12_fits_X12_isTold
theorem dX12_fits_0 : decode cX12_fits 0 = .ok (.iload_n 1, 1) := by decide +kernel
theorem dX12_fits_1 : decode cX12_fits 1 = .ok (.invokestatic 263, 3) := by decide +kernel
theorem dX12_fits_4 : decode cX12_fits 4 = .ok (.ifCond .eq 21, 3) := by decide +kernel
theorem dX12_fits_7 : decode cX12_fits 7 = .ok (.aload_n 0, 1) := by decide +kernel
theorem dX12_fits_8 : decode cX12_fits 8 = .ok (.iload_n 2, 1) := by decide +kernel
theorem dX12_fits_9 : decode cX12_fits 9 = .ok (.invokevirtual 182, 3) := by decide +kernel
theorem dX12_fits_12 : decode cX12_fits 12 = .ok (.ifCond .eq 13, 3) := by decide +kernel
theorem dX12_fits_15 : decode cX12_fits 15 = .ok (.iload_n 3, 1) := by decide +kernel
theorem dX12_fits_16 : decode cX12_fits 16 = .ok (.i2l, 1) := by decide +kernel
theorem dX12_fits_17 : decode cX12_fits 17 = .ok (.lconst 0, 1) := by decide +kernel
theorem dX12_fits_18 : decode cX12_fits 18 = .ok (.lconst 1, 1) := by decide +kernel
theorem dX12_fits_19 : decode cX12_fits 19 = .ok (.invokestatic 60, 3) := by decide +kernel
theorem dX12_fits_22 : decode cX12_fits 22 = .ok (.ifCond .ne 5, 3) := by decide +kernel
theorem dX12_fits_25 : decode cX12_fits 25 = .ok (.iconst (-1), 1) := by decide +kernel
theorem dX12_fits_26 : decode cX12_fits 26 = .ok (.ireturn, 1) := by decide +kernel
theorem dX12_fits_27 : decode cX12_fits 27 = .ok (.aload_n 0, 1) := by decide +kernel
theorem dX12_fits_28 : decode cX12_fits 28 = .ok (.getfield 34, 3) := by decide +kernel
theorem dX12_fits_31 : decode cX12_fits 31 = .ok (.iload_n 1, 1) := by decide +kernel
theorem dX12_fits_32 : decode cX12_fits 32 = .ok (.iaload, 1) := by decide +kernel
theorem dX12_fits_33 : decode cX12_fits 33 = .ok (.ifCond .ge 6, 3) := by decide +kernel
theorem dX12_fits_36 : decode cX12_fits 36 = .ok (.bipush (-11), 2) := by decide +kernel
theorem dX12_fits_38 : decode cX12_fits 38 = .ok (.ireturn, 1) := by decide +kernel
theorem dX12_fits_39 : decode cX12_fits 39 = .ok (.bipush 16, 2) := by decide +kernel
theorem dX12_fits_41 : decode cX12_fits 41 = .ok (.bipush 6, 2) := by decide +kernel
theorem dX12_fits_43 : decode cX12_fits 43 = .ok (.iload_n 2, 1) := by decide +kernel
theorem dX12_fits_44 : decode cX12_fits 44 = .ok (.imul, 1) := by decide +kernel
theorem dX12_fits_45 : decode cX12_fits 45 = .ok (.iadd, 1) := by decide +kernel
theorem dX12_fits_46 : decode cX12_fits 46 = .ok (.iconst 5, 1) := by decide +kernel
theorem dX12_fits_47 : decode cX12_fits 47 = .ok (.iadd, 1) := by decide +kernel
theorem dX12_fits_48 : decode cX12_fits 48 = .ok (.istore 4, 2) := by decide +kernel
theorem dX12_fits_50 : decode cX12_fits 50 = .ok (.aload_n 0, 1) := by decide +kernel
theorem dX12_fits_51 : decode cX12_fits 51 = .ok (.getfield 7, 3) := by decide +kernel
theorem dX12_fits_54 : decode cX12_fits 54 = .ok (.iload 4, 2) := by decide +kernel
theorem dX12_fits_56 : decode cX12_fits 56 = .ok (.iaload, 1) := by decide +kernel
theorem dX12_fits_57 : decode cX12_fits 57 = .ok (.istore 5, 2) := by decide +kernel
theorem dX12_fits_59 : decode cX12_fits 59 = .ok (.iconst 0, 1) := by decide +kernel
theorem dX12_fits_60 : decode cX12_fits 60 = .ok (.istore 6, 2) := by decide +kernel
theorem dX12_fits_62 : decode cX12_fits 62 = .ok (.bipush (-3), 2) := by decide +kernel
theorem dX12_fits_64 : decode cX12_fits 64 = .ok (.istore 7, 2) := by decide +kernel
theorem dX12_fits_66 : decode cX12_fits 66 = .ok (.bipush 7, 2) := by decide +kernel
theorem dX12_fits_68 : decode cX12_fits 68 = .ok (.istore 8, 2) := by decide +kernel
theorem dX12_fits_70 : decode cX12_fits 70 = .ok (.iload 8, 2) := by decide +kernel
theorem dX12_fits_72 : decode cX12_fits 72 = .ok (.ifCond .lt 55, 3) := by decide +kernel
theorem dX12_fits_75 : decode cX12_fits 75 = .ok (.aload_n 0, 1) := by decide +kernel
theorem dX12_fits_76 : decode cX12_fits 76 = .ok (.getfield 7, 3) := by decide +kernel
theorem dX12_fits_79 : decode cX12_fits 79 = .ok (.iload 4, 2) := by decide +kernel
theorem dX12_fits_81 : decode cX12_fits 81 = .ok (.iload 8, 2) := by decide +kernel
theorem dX12_fits_83 : decode cX12_fits 83 = .ok (.iastore, 1) := by decide +kernel
theorem dX12_fits_84 : decode cX12_fits 84 = .ok (.aload_n 0, 1) := by decide +kernel
theorem dX12_fits_85 : decode cX12_fits 85 = .ok (.iload_n 1, 1) := by decide +kernel
theorem dX12_fits_86 : decode cX12_fits 86 = .ok (.iload_n 2, 1) := by decide +kernel
theorem dX12_fits_87 : decode cX12_fits 87 = .ok (.invokevirtual 266, 3) := by decide +kernel
theorem dX12_fits_90 : decode cX12_fits 90 = .ok (.istore 9, 2) := by decide +kernel
theorem dX12_fits_92 : decode cX12_fits 92 = .ok (.iload 6, 2) := by decide +kernel
theorem dX12_fits_94 : decode cX12_fits 94 = .ok (.iload 9, 2) := by decide +kernel
theorem dX12_fits_96 : decode cX12_fits 96 = .ok (.ifCond .eq 7, 3) := by decide +kernel
theorem dX12_fits_99 : decode cX12_fits 99 = .ok (.iconst 1, 1) := by decide +kernel
theorem dX12_fits_100 : decode cX12_fits 100 = .ok (.goto 4, 3) := by decide +kernel
theorem dX12_fits_103 : decode cX12_fits 103 = .ok (.iconst 0, 1) := by decide +kernel
theorem dX12_fits_104 : decode cX12_fits 104 = .ok (.iadd, 1) := by decide +kernel
theorem dX12_fits_105 : decode cX12_fits 105 = .ok (.istore 6, 2) := by decide +kernel
theorem dX12_fits_107 : decode cX12_fits 107 = .ok (.iload 9, 2) := by decide +kernel
theorem dX12_fits_109 : decode cX12_fits 109 = .ok (.ifCond .eq 8, 3) := by decide +kernel
theorem dX12_fits_112 : decode cX12_fits 112 = .ok (.iload 8, 2) := by decide +kernel
theorem dX12_fits_114 : decode cX12_fits 114 = .ok (.goto 5, 3) := by decide +kernel
theorem dX12_fits_117 : decode cX12_fits 117 = .ok (.iload 7, 2) := by decide +kernel
theorem dX12_fits_119 : decode cX12_fits 119 = .ok (.istore 7, 2) := by decide +kernel
theorem dX12_fits_121 : decode cX12_fits 121 = .ok (.iinc 8 (-1), 3) := by decide +kernel
theorem dX12_fits_124 : decode cX12_fits 124 = .ok (.goto (-54), 3) := by decide +kernel
theorem dX12_fits_127 : decode cX12_fits 127 = .ok (.aload_n 0, 1) := by decide +kernel
theorem dX12_fits_128 : decode cX12_fits 128 = .ok (.getfield 7, 3) := by decide +kernel
theorem dX12_fits_131 : decode cX12_fits 131 = .ok (.iload 4, 2) := by decide +kernel
theorem dX12_fits_133 : decode cX12_fits 133 = .ok (.iload 5, 2) := by decide +kernel
theorem dX12_fits_135 : decode cX12_fits 135 = .ok (.iastore, 1) := by decide +kernel
theorem dX12_fits_136 : decode cX12_fits 136 = .ok (.iload_n 3, 1) := by decide +kernel
theorem dX12_fits_137 : decode cX12_fits 137 = .ok (.ifCond .ne 8, 3) := by decide +kernel
theorem dX12_fits_140 : decode cX12_fits 140 = .ok (.iload 6, 2) := by decide +kernel
theorem dX12_fits_142 : decode cX12_fits 142 = .ok (.goto 5, 3) := by decide +kernel
theorem dX12_fits_145 : decode cX12_fits 145 = .ok (.iload 7, 2) := by decide +kernel
theorem dX12_fits_147 : decode cX12_fits 147 = .ok (.ireturn, 1) := by decide +kernel
set_option maxRecDepth 20000 in
theorem ggX12_odds_X12_isIn : GoodIn wsX12_odds wsX12_isIn := goodIn_r _ [8] (by decide +kernel) (by decide +kernel)
set_option maxRecDepth 20000 in
theorem gX12_odds_X12_isIn : GoodIn wsX12_odds (va_wsS RX12 60 yX12_isIn wsX12_isIn) := goodIn_app (goodIn_of _ (by decide +kernel)) ggX12_odds_X12_isIn
set_option maxRecDepth 20000 in
theorem ggX12_odds_X12_product : GoodIn wsX12_odds wsX12_product := goodIn_r _ [11] (by decide +kernel) (by decide +kernel)
set_option maxRecDepth 20000 in
theorem gX12_odds_X12_product : GoodIn wsX12_odds (va_wsS RX12 271 yX12_product wsX12_product) := goodIn_app (goodIn_of _ (by decide +kernel)) ggX12_odds_X12_product
set_option maxRecDepth 20000 in
theorem ggX12_odds_X12_partOf : GoodIn wsX12_odds wsX12_partOf := goodIn_r _ [14] (by decide +kernel) (by decide +kernel)
set_option maxRecDepth 20000 in
theorem gX12_odds_X12_partOf : GoodIn wsX12_odds (va_wsS RX12 277 yX12_partOf wsX12_partOf) := goodIn_app (goodIn_of _ (by decide +kernel)) ggX12_odds_X12_partOf
theorem dX12_odds_0 : decode cX12_odds 0 = .ok (.iload_n 1, 1) := by decide +kernel
theorem dX12_odds_1 : decode cX12_odds 1 = .ok (.i2l, 1) := by decide +kernel
theorem dX12_odds_2 : decode cX12_odds 2 = .ok (.lconst 0, 1) := by decide +kernel
theorem dX12_odds_3 : decode cX12_odds 3 = .ok (.ldc2_w 58, 3) := by decide +kernel
theorem dX12_odds_6 : decode cX12_odds 6 = .ok (.invokestatic 60, 3) := by decide +kernel
theorem dX12_odds_9 : decode cX12_odds 9 = .ok (.ifCond .eq 24, 3) := by decide +kernel
theorem dX12_odds_12 : decode cX12_odds 12 = .ok (.iload_n 2, 1) := by decide +kernel
theorem dX12_odds_13 : decode cX12_odds 13 = .ok (.i2l, 1) := by decide +kernel
theorem dX12_odds_14 : decode cX12_odds 14 = .ok (.lconst 0, 1) := by decide +kernel
theorem dX12_odds_15 : decode cX12_odds 15 = .ok (.iload_n 1, 1) := by decide +kernel
theorem dX12_odds_16 : decode cX12_odds 16 = .ok (.i2l, 1) := by decide +kernel
theorem dX12_odds_17 : decode cX12_odds 17 = .ok (.invokestatic 60, 3) := by decide +kernel
theorem dX12_odds_20 : decode cX12_odds 20 = .ok (.ifCond .eq 13, 3) := by decide +kernel
theorem dX12_odds_23 : decode cX12_odds 23 = .ok (.iload_n 3, 1) := by decide +kernel
theorem dX12_odds_24 : decode cX12_odds 24 = .ok (.i2l, 1) := by decide +kernel
theorem dX12_odds_25 : decode cX12_odds 25 = .ok (.lconst 0, 1) := by decide +kernel
theorem dX12_odds_26 : decode cX12_odds 26 = .ok (.lconst 1, 1) := by decide +kernel
theorem dX12_odds_27 : decode cX12_odds 27 = .ok (.invokestatic 60, 3) := by decide +kernel
theorem dX12_odds_30 : decode cX12_odds 30 = .ok (.ifCond .ne 7, 3) := by decide +kernel
theorem dX12_odds_33 : decode cX12_odds 33 = .ok (.ldc2_w 269, 3) := by decide +kernel
theorem dX12_odds_36 : decode cX12_odds 36 = .ok (.lreturn, 1) := by decide +kernel
theorem dX12_odds_37 : decode cX12_odds 37 = .ok (.iload_n 1, 1) := by decide +kernel
theorem dX12_odds_38 : decode cX12_odds 38 = .ok (.invokestatic 271, 3) := by decide +kernel
theorem dX12_odds_41 : decode cX12_odds 41 = .ok (.iload_n 2, 1) := by decide +kernel
theorem dX12_odds_42 : decode cX12_odds 42 = .ok (.invokestatic 271, 3) := by decide +kernel
theorem dX12_odds_45 : decode cX12_odds 45 = .ok (.ldiv, 1) := by decide +kernel
theorem dX12_odds_46 : decode cX12_odds 46 = .ok (.iload_n 1, 1) := by decide +kernel
theorem dX12_odds_47 : decode cX12_odds 47 = .ok (.iload_n 2, 1) := by decide +kernel
theorem dX12_odds_48 : decode cX12_odds 48 = .ok (.isub, 1) := by decide +kernel
theorem dX12_odds_49 : decode cX12_odds 49 = .ok (.invokestatic 271, 3) := by decide +kernel
theorem dX12_odds_52 : decode cX12_odds 52 = .ok (.ldiv, 1) := by decide +kernel
theorem dX12_odds_53 : decode cX12_odds 53 = .ok (.lstore 4, 2) := by decide +kernel
theorem dX12_odds_55 : decode cX12_odds 55 = .ok (.lconst 1, 1) := by decide +kernel
theorem dX12_odds_56 : decode cX12_odds 56 = .ok (.lstore 6, 2) := by decide +kernel
theorem dX12_odds_58 : decode cX12_odds 58 = .ok (.iconst 0, 1) := by decide +kernel
theorem dX12_odds_59 : decode cX12_odds 59 = .ok (.istore 8, 2) := by decide +kernel
theorem dX12_odds_61 : decode cX12_odds 61 = .ok (.iload 8, 2) := by decide +kernel
theorem dX12_odds_63 : decode cX12_odds 63 = .ok (.iload_n 1, 1) := by decide +kernel
theorem dX12_odds_64 : decode cX12_odds 64 = .ok (.if_icmp .ge 50, 3) := by decide +kernel
theorem dX12_odds_67 : decode cX12_odds 67 = .ok (.lload 4, 2) := by decide +kernel
theorem dX12_odds_69 : decode cX12_odds 69 = .ok (.iload 8, 2) := by decide +kernel
theorem dX12_odds_71 : decode cX12_odds 71 = .ok (.iload_n 2, 1) := by decide +kernel
theorem dX12_odds_72 : decode cX12_odds 72 = .ok (.if_icmp .ge 14, 3) := by decide +kernel
theorem dX12_odds_75 : decode cX12_odds 75 = .ok (.aload_n 0, 1) := by decide +kernel
theorem dX12_odds_76 : decode cX12_odds 76 = .ok (.getfield 7, 3) := by decide +kernel
theorem dX12_odds_79 : decode cX12_odds 79 = .ok (.bipush 6, 2) := by decide +kernel
theorem dX12_odds_81 : decode cX12_odds 81 = .ok (.iaload, 1) := by decide +kernel
theorem dX12_odds_82 : decode cX12_odds 82 = .ok (.i2l, 1) := by decide +kernel
theorem dX12_odds_83 : decode cX12_odds 83 = .ok (.goto 14, 3) := by decide +kernel
theorem dX12_odds_86 : decode cX12_odds 86 = .ok (.bipush 100, 2) := by decide +kernel
theorem dX12_odds_88 : decode cX12_odds 88 = .ok (.aload_n 0, 1) := by decide +kernel
theorem dX12_odds_89 : decode cX12_odds 89 = .ok (.getfield 7, 3) := by decide +kernel
theorem dX12_odds_92 : decode cX12_odds 92 = .ok (.bipush 6, 2) := by decide +kernel
theorem dX12_odds_94 : decode cX12_odds 94 = .ok (.iaload, 1) := by decide +kernel
theorem dX12_odds_95 : decode cX12_odds 95 = .ok (.isub, 1) := by decide +kernel
theorem dX12_odds_96 : decode cX12_odds 96 = .ok (.i2l, 1) := by decide +kernel
theorem dX12_odds_97 : decode cX12_odds 97 = .ok (.lmul, 1) := by decide +kernel
theorem dX12_odds_98 : decode cX12_odds 98 = .ok (.lstore 4, 2) := by decide +kernel
theorem dX12_odds_100 : decode cX12_odds 100 = .ok (.lload 6, 2) := by decide +kernel
theorem dX12_odds_102 : decode cX12_odds 102 = .ok (.ldc2_w 275, 3) := by decide +kernel
theorem dX12_odds_105 : decode cX12_odds 105 = .ok (.lmul, 1) := by decide +kernel
theorem dX12_odds_106 : decode cX12_odds 106 = .ok (.lstore 6, 2) := by decide +kernel
theorem dX12_odds_108 : decode cX12_odds 108 = .ok (.iinc 8 1, 3) := by decide +kernel
theorem dX12_odds_111 : decode cX12_odds 111 = .ok (.goto (-50), 3) := by decide +kernel
theorem dX12_odds_114 : decode cX12_odds 114 = .ok (.lload 4, 2) := by decide +kernel
theorem dX12_odds_116 : decode cX12_odds 116 = .ok (.lload 6, 2) := by decide +kernel
theorem dX12_odds_118 : decode cX12_odds 118 = .ok (.iload_n 3, 1) := by decide +kernel
theorem dX12_odds_119 : decode cX12_odds 119 = .ok (.invokestatic 277, 3) := by decide +kernel
theorem dX12_odds_122 : decode cX12_odds 122 = .ok (.lreturn, 1) := by decide +kernel
set_option maxRecDepth 20000 in
theorem ggX12_hope_X12_isIn : GoodIn wsX12_hope wsX12_isIn := goodIn_r _ [8] (by decide +kernel) (by decide +kernel)
set_option maxRecDepth 20000 in
theorem gX12_hope_X12_isIn : GoodIn wsX12_hope (va_wsS RX12 60 yX12_isIn wsX12_isIn) := goodIn_app (goodIn_of _ (by decide +kernel)) ggX12_hope_X12_isIn
set_option maxRecDepth 20000 in
theorem ggX12_hope_X12_partOf : GoodIn wsX12_hope wsX12_partOf := goodIn_r _ [11] (by decide +kernel) (by decide +kernel)
set_option maxRecDepth 20000 in
theorem gX12_hope_X12_partOf : GoodIn wsX12_hope (va_wsS RX12 277 yX12_partOf wsX12_partOf) := goodIn_app (goodIn_of _ (by decide +kernel)) ggX12_hope_X12_partOf
theorem dX12_hope_0 : decode cX12_hope 0 = .ok (.iload_n 1, 1) := by decide +kernel
theorem dX12_hope_1 : decode cX12_hope 1 = .ok (.i2l, 1) := by decide +kernel
theorem dX12_hope_2 : decode cX12_hope 2 = .ok (.lconst 0, 1) := by decide +kernel
theorem dX12_hope_3 : decode cX12_hope 3 = .ok (.ldc2_w 163, 3) := by decide +kernel
theorem dX12_hope_6 : decode cX12_hope 6 = .ok (.invokestatic 60, 3) := by decide +kernel
theorem dX12_hope_9 : decode cX12_hope 9 = .ok (.ifCond .eq 34, 3) := by decide +kernel
theorem dX12_hope_12 : decode cX12_hope 12 = .ok (.iload_n 2, 1) := by decide +kernel
theorem dX12_hope_13 : decode cX12_hope 13 = .ok (.i2l, 1) := by decide +kernel
theorem dX12_hope_14 : decode cX12_hope 14 = .ok (.lconst 0, 1) := by decide +kernel
theorem dX12_hope_15 : decode cX12_hope 15 = .ok (.lconst 1, 1) := by decide +kernel
theorem dX12_hope_16 : decode cX12_hope 16 = .ok (.invokestatic 60, 3) := by decide +kernel
theorem dX12_hope_19 : decode cX12_hope 19 = .ok (.ifCond .eq 24, 3) := by decide +kernel
theorem dX12_hope_22 : decode cX12_hope 22 = .ok (.iload_n 1, 1) := by decide +kernel
theorem dX12_hope_23 : decode cX12_hope 23 = .ok (.i2l, 1) := by decide +kernel
theorem dX12_hope_24 : decode cX12_hope 24 = .ok (.aload_n 0, 1) := by decide +kernel
theorem dX12_hope_25 : decode cX12_hope 25 = .ok (.getfield 7, 3) := by decide +kernel
theorem dX12_hope_28 : decode cX12_hope 28 = .ok (.bipush 6, 2) := by decide +kernel
theorem dX12_hope_30 : decode cX12_hope 30 = .ok (.iaload, 1) := by decide +kernel
theorem dX12_hope_31 : decode cX12_hope 31 = .ok (.i2l, 1) := by decide +kernel
theorem dX12_hope_32 : decode cX12_hope 32 = .ok (.lmul, 1) := by decide +kernel
theorem dX12_hope_33 : decode cX12_hope 33 = .ok (.ldc2_w 275, 3) := by decide +kernel
theorem dX12_hope_36 : decode cX12_hope 36 = .ok (.iload_n 2, 1) := by decide +kernel
theorem dX12_hope_37 : decode cX12_hope 37 = .ok (.invokestatic 277, 3) := by decide +kernel
theorem dX12_hope_40 : decode cX12_hope 40 = .ok (.goto 6, 3) := by decide +kernel
theorem dX12_hope_43 : decode cX12_hope 43 = .ok (.ldc2_w 269, 3) := by decide +kernel
theorem dX12_hope_46 : decode cX12_hope 46 = .ok (.lreturn, 1) := by decide +kernel
set_option maxRecDepth 20000 in
theorem ggX12_prove_X12_isOne : GoodIn wsX12_prove wsX12_isOne := goodIn_r _ [10, 2, 57, 58, 59, 60, 61, 62, 63, 64, 65, 66, 67, 68, 69, 70, 71, 72, 73, 74, 75, 76, 77, 78, 79, 80, 81, 82, 83, 84] (by decide +kernel) (by decide +kernel)
set_option maxRecDepth 20000 in
theorem gX12_prove_X12_isOne : GoodIn wsX12_prove (wsV RX12 182 RX12 yX12_isOne wsX12_isOne) := goodIn_app (goodIn_of _ (by decide +kernel)) ggX12_prove_X12_isOne
set_option maxRecDepth 20000 in
theorem ggX12_prove_X12_isIn : GoodIn wsX12_prove wsX12_isIn := goodIn_r _ [13] (by decide +kernel) (by decide +kernel)
set_option maxRecDepth 20000 in
theorem gX12_prove_X12_isIn : GoodIn wsX12_prove (va_wsS RX12 60 yX12_isIn wsX12_isIn) := goodIn_app (goodIn_of _ (by decide +kernel)) ggX12_prove_X12_isIn
set_option maxRecDepth 20000 in
theorem ggX12_prove_X12_copyRow : GoodIn wsX12_prove wsX12_copyRow := goodIn_r _ [16] (by decide +kernel) (by decide +kernel)
set_option maxRecDepth 20000 in
theorem gX12_prove_X12_copyRow : GoodIn wsX12_prove (va_wsS RX12 151 yX12_copyRow wsX12_copyRow) := goodIn_app (goodIn_of _ (by decide +kernel)) ggX12_prove_X12_copyRow
set_option maxRecDepth 20000 in
theorem ggX12_prove_X12_goesOn : GoodIn wsX12_prove wsX12_goesOn := goodIn_r _ [20, 2, 21, 22, 23, 9, 24, 25, 26, 27, 28, 29, 30, 31, 32, 33, 34, 35, 36, 37, 38, 39, 40, 41, 42, 43, 44, 45, 46, 47, 48, 49, 57, 58, 59, 60, 61, 62, 63, 64, 65, 66, 67, 68, 69, 70, 71, 72, 73, 74, 75, 76, 77, 78, 79, 80, 81, 82, 83, 84] (by decide +kernel) (by decide +kernel)
set_option maxRecDepth 20000 in
theorem gX12_prove_X12_goesOn : GoodIn wsX12_prove (wsV RX12 208 RX12 yX12_goesOn wsX12_goesOn) := goodIn_app (goodIn_of _ (by decide +kernel)) ggX12_prove_X12_goesOn
set_option maxRecDepth 20000 in
theorem ggX12_prove_X12_its : GoodIn wsX12_prove wsX12_its := goodIn_r _ [28, 2, 57, 58, 59, 60, 61, 62, 63, 64, 65, 66, 67, 68, 69, 70, 71, 72, 73, 74, 75, 76, 77, 78, 79, 80, 81, 82, 83, 84] (by decide +kernel) (by decide +kernel)
set_option maxRecDepth 20000 in
theorem gX12_prove_X12_its : GoodIn wsX12_prove (wsV RX12 176 RX12 yX12_its wsX12_its) := goodIn_app (goodIn_of _ (by decide +kernel)) ggX12_prove_X12_its
set_option maxRecDepth 20000 in
theorem ggX12_prove_X12_farNow : GoodIn wsX12_prove wsX12_farNow := goodIn_r _ [53, 25, 26, 27, 9, 28, 2, 54, 55, 56, 57, 58, 59, 60, 61, 62, 63, 64, 65, 66, 67, 68, 69, 70, 71, 72, 73, 74, 75, 76, 77, 78, 79, 80, 81, 82, 83, 84] (by decide +kernel) (by decide +kernel)
set_option maxRecDepth 20000 in
theorem gX12_prove_X12_farNow : GoodIn wsX12_prove (wsV RX12 214 RX12 yX12_farNow wsX12_farNow) := goodIn_app (goodIn_of _ (by decide +kernel)) ggX12_prove_X12_farNow
theorem dX12_prove_0 : decode cX12_prove 0 = .ok (.aload_n 0, 1) := by decide +kernel
theorem dX12_prove_1 : decode cX12_prove 1 = .ok (.iload_n 1, 1) := by decide +kernel
theorem dX12_prove_2 : decode cX12_prove 2 = .ok (.invokevirtual 182, 3) := by decide +kernel
theorem dX12_prove_5 : decode cX12_prove 5 = .ok (.ifCond .eq 15, 3) := by decide +kernel
theorem dX12_prove_8 : decode cX12_prove 8 = .ok (.iload_n 2, 1) := by decide +kernel
theorem dX12_prove_9 : decode cX12_prove 9 = .ok (.i2l, 1) := by decide +kernel
theorem dX12_prove_10 : decode cX12_prove 10 = .ok (.lconst 1, 1) := by decide +kernel
theorem dX12_prove_11 : decode cX12_prove 11 = .ok (.ldc2_w 281, 3) := by decide +kernel
theorem dX12_prove_14 : decode cX12_prove 14 = .ok (.invokestatic 60, 3) := by decide +kernel
theorem dX12_prove_17 : decode cX12_prove 17 = .ok (.ifCond .ne 5, 3) := by decide +kernel
theorem dX12_prove_20 : decode cX12_prove 20 = .ok (.iconst (-1), 1) := by decide +kernel
theorem dX12_prove_21 : decode cX12_prove 21 = .ok (.ireturn, 1) := by decide +kernel
theorem dX12_prove_22 : decode cX12_prove 22 = .ok (.aload_n 0, 1) := by decide +kernel
theorem dX12_prove_23 : decode cX12_prove 23 = .ok (.getfield 7, 3) := by decide +kernel
theorem dX12_prove_26 : decode cX12_prove 26 = .ok (.aload_n 0, 1) := by decide +kernel
theorem dX12_prove_27 : decode cX12_prove 27 = .ok (.getfield 16, 3) := by decide +kernel
theorem dX12_prove_30 : decode cX12_prove 30 = .ok (.invokestatic 151, 3) := by decide +kernel
theorem dX12_prove_33 : decode cX12_prove 33 = .ok (.iconst 0, 1) := by decide +kernel
theorem dX12_prove_34 : decode cX12_prove 34 = .ok (.istore_n 3, 1) := by decide +kernel
theorem dX12_prove_35 : decode cX12_prove 35 = .ok (.iload_n 3, 1) := by decide +kernel
theorem dX12_prove_36 : decode cX12_prove 36 = .ok (.iload_n 2, 1) := by decide +kernel
theorem dX12_prove_37 : decode cX12_prove 37 = .ok (.if_icmp .ge 58, 3) := by decide +kernel
theorem dX12_prove_40 : decode cX12_prove 40 = .ok (.aload_n 0, 1) := by decide +kernel
theorem dX12_prove_41 : decode cX12_prove 41 = .ok (.invokevirtual 208, 3) := by decide +kernel
theorem dX12_prove_44 : decode cX12_prove 44 = .ok (.aload_n 0, 1) := by decide +kernel
theorem dX12_prove_45 : decode cX12_prove 45 = .ok (.getfield 31, 3) := by decide +kernel
theorem dX12_prove_48 : decode cX12_prove 48 = .ok (.iconst 3, 1) := by decide +kernel
theorem dX12_prove_49 : decode cX12_prove 49 = .ok (.iload_n 3, 1) := by decide +kernel
theorem dX12_prove_50 : decode cX12_prove 50 = .ok (.imul, 1) := by decide +kernel
theorem dX12_prove_51 : decode cX12_prove 51 = .ok (.aload_n 0, 1) := by decide +kernel
theorem dX12_prove_52 : decode cX12_prove 52 = .ok (.iload_n 1, 1) := by decide +kernel
theorem dX12_prove_53 : decode cX12_prove 53 = .ok (.iconst 1, 1) := by decide +kernel
theorem dX12_prove_54 : decode cX12_prove 54 = .ok (.invokevirtual 176, 3) := by decide +kernel
theorem dX12_prove_57 : decode cX12_prove 57 = .ok (.iastore, 1) := by decide +kernel
theorem dX12_prove_58 : decode cX12_prove 58 = .ok (.aload_n 0, 1) := by decide +kernel
theorem dX12_prove_59 : decode cX12_prove 59 = .ok (.getfield 31, 3) := by decide +kernel
theorem dX12_prove_62 : decode cX12_prove 62 = .ok (.iconst 3, 1) := by decide +kernel
theorem dX12_prove_63 : decode cX12_prove 63 = .ok (.iload_n 3, 1) := by decide +kernel
theorem dX12_prove_64 : decode cX12_prove 64 = .ok (.imul, 1) := by decide +kernel
theorem dX12_prove_65 : decode cX12_prove 65 = .ok (.iconst 1, 1) := by decide +kernel
theorem dX12_prove_66 : decode cX12_prove 66 = .ok (.iadd, 1) := by decide +kernel
theorem dX12_prove_67 : decode cX12_prove 67 = .ok (.aload_n 0, 1) := by decide +kernel
theorem dX12_prove_68 : decode cX12_prove 68 = .ok (.iload_n 1, 1) := by decide +kernel
theorem dX12_prove_69 : decode cX12_prove 69 = .ok (.iconst 4, 1) := by decide +kernel
theorem dX12_prove_70 : decode cX12_prove 70 = .ok (.invokevirtual 176, 3) := by decide +kernel
theorem dX12_prove_73 : decode cX12_prove 73 = .ok (.iastore, 1) := by decide +kernel
theorem dX12_prove_74 : decode cX12_prove 74 = .ok (.aload_n 0, 1) := by decide +kernel
theorem dX12_prove_75 : decode cX12_prove 75 = .ok (.getfield 31, 3) := by decide +kernel
theorem dX12_prove_78 : decode cX12_prove 78 = .ok (.iconst 3, 1) := by decide +kernel
theorem dX12_prove_79 : decode cX12_prove 79 = .ok (.iload_n 3, 1) := by decide +kernel
theorem dX12_prove_80 : decode cX12_prove 80 = .ok (.imul, 1) := by decide +kernel
theorem dX12_prove_81 : decode cX12_prove 81 = .ok (.iconst 2, 1) := by decide +kernel
theorem dX12_prove_82 : decode cX12_prove 82 = .ok (.iadd, 1) := by decide +kernel
theorem dX12_prove_83 : decode cX12_prove 83 = .ok (.aload_n 0, 1) := by decide +kernel
theorem dX12_prove_84 : decode cX12_prove 84 = .ok (.iload_n 1, 1) := by decide +kernel
theorem dX12_prove_85 : decode cX12_prove 85 = .ok (.invokevirtual 214, 3) := by decide +kernel
theorem dX12_prove_88 : decode cX12_prove 88 = .ok (.iastore, 1) := by decide +kernel
theorem dX12_prove_89 : decode cX12_prove 89 = .ok (.iinc 3 1, 3) := by decide +kernel
theorem dX12_prove_92 : decode cX12_prove 92 = .ok (.goto (-57), 3) := by decide +kernel
theorem dX12_prove_95 : decode cX12_prove 95 = .ok (.aload_n 0, 1) := by decide +kernel
theorem dX12_prove_96 : decode cX12_prove 96 = .ok (.getfield 16, 3) := by decide +kernel
theorem dX12_prove_99 : decode cX12_prove 99 = .ok (.aload_n 0, 1) := by decide +kernel
theorem dX12_prove_100 : decode cX12_prove 100 = .ok (.getfield 7, 3) := by decide +kernel
theorem dX12_prove_103 : decode cX12_prove 103 = .ok (.invokestatic 151, 3) := by decide +kernel
theorem dX12_prove_106 : decode cX12_prove 106 = .ok (.aload_n 0, 1) := by decide +kernel
theorem dX12_prove_107 : decode cX12_prove 107 = .ok (.iload_n 2, 1) := by decide +kernel
theorem dX12_prove_108 : decode cX12_prove 108 = .ok (.putfield 158, 3) := by decide +kernel
theorem dX12_prove_111 : decode cX12_prove 111 = .ok (.iload_n 2, 1) := by decide +kernel
theorem dX12_prove_112 : decode cX12_prove 112 = .ok (.ireturn, 1) := by decide +kernel
set_option maxRecDepth 20000 in
theorem ggX12_isRow_X12_isIn : GoodIn wsX12_isRow wsX12_isIn := goodIn_r _ [6] (by decide +kernel) (by decide +kernel)
set_option maxRecDepth 20000 in
theorem gX12_isRow_X12_isIn : GoodIn wsX12_isRow (va_wsS RX12 60 yX12_isIn wsX12_isIn) := goodIn_app (goodIn_of _ (by decide +kernel)) ggX12_isRow_X12_isIn
theorem dX12_isRow_0 : decode cX12_isRow 0 = .ok (.iload_n 1, 1) := by decide +kernel
theorem dX12_isRow_1 : decode cX12_isRow 1 = .ok (.i2l, 1) := by decide +kernel
theorem dX12_isRow_2 : decode cX12_isRow 2 = .ok (.lconst 0, 1) := by decide +kernel
theorem dX12_isRow_3 : decode cX12_isRow 3 = .ok (.aload_n 0, 1) := by decide +kernel
theorem dX12_isRow_4 : decode cX12_isRow 4 = .ok (.getfield 158, 3) := by decide +kernel
theorem dX12_isRow_7 : decode cX12_isRow 7 = .ok (.iconst 1, 1) := by decide +kernel
theorem dX12_isRow_8 : decode cX12_isRow 8 = .ok (.isub, 1) := by decide +kernel
theorem dX12_isRow_9 : decode cX12_isRow 9 = .ok (.i2l, 1) := by decide +kernel
theorem dX12_isRow_10 : decode cX12_isRow 10 = .ok (.invokestatic 60, 3) := by decide +kernel
theorem dX12_isRow_13 : decode cX12_isRow 13 = .ok (.ifCond .eq 19, 3) := by decide +kernel
theorem dX12_isRow_16 : decode cX12_isRow 16 = .ok (.iload_n 2, 1) := by decide +kernel
theorem dX12_isRow_17 : decode cX12_isRow 17 = .ok (.i2l, 1) := by decide +kernel
theorem dX12_isRow_18 : decode cX12_isRow 18 = .ok (.lconst 0, 1) := by decide +kernel
theorem dX12_isRow_19 : decode cX12_isRow 19 = .ok (.ldc2_w 188, 3) := by decide +kernel
theorem dX12_isRow_22 : decode cX12_isRow 22 = .ok (.invokestatic 60, 3) := by decide +kernel
theorem dX12_isRow_25 : decode cX12_isRow 25 = .ok (.ifCond .eq 7, 3) := by decide +kernel
theorem dX12_isRow_28 : decode cX12_isRow 28 = .ok (.iconst 1, 1) := by decide +kernel
theorem dX12_isRow_29 : decode cX12_isRow 29 = .ok (.goto 4, 3) := by decide +kernel
theorem dX12_isRow_32 : decode cX12_isRow 32 = .ok (.iconst 0, 1) := by decide +kernel
theorem dX12_isRow_33 : decode cX12_isRow 33 = .ok (.ireturn, 1) := by decide +kernel
set_option maxRecDepth 20000 in
theorem ggX12_row_X12_isRow : GoodIn wsX12_row wsX12_isRow := goodIn_r _ [6, 7, 8, 9, 10, 5, 11, 12, 13, 14, 15, 16, 17, 18, 19, 20, 21, 22, 23, 24, 25, 26, 27, 28, 29, 30, 31, 32, 33, 34, 35, 36, 37, 38, 39] (by decide +kernel) (by decide +kernel)
set_option maxRecDepth 20000 in
theorem gX12_row_X12_isRow : GoodIn wsX12_row (wsV RX12 283 RX12 yX12_isRow wsX12_isRow) := goodIn_app (goodIn_of _ (by decide +kernel)) ggX12_row_X12_isRow
theorem dX12_row_0 : decode cX12_row 0 = .ok (.aload_n 0, 1) := by decide +kernel
theorem dX12_row_1 : decode cX12_row 1 = .ok (.iload_n 1, 1) := by decide +kernel
theorem dX12_row_2 : decode cX12_row 2 = .ok (.iload_n 2, 1) := by decide +kernel
theorem dX12_row_3 : decode cX12_row 3 = .ok (.invokevirtual 283, 3) := by decide +kernel
theorem dX12_row_6 : decode cX12_row 6 = .ok (.ifCond .eq 16, 3) := by decide +kernel
theorem dX12_row_9 : decode cX12_row 9 = .ok (.aload_n 0, 1) := by decide +kernel
theorem dX12_row_10 : decode cX12_row 10 = .ok (.getfield 31, 3) := by decide +kernel
theorem dX12_row_13 : decode cX12_row 13 = .ok (.iconst 3, 1) := by decide +kernel
theorem dX12_row_14 : decode cX12_row 14 = .ok (.iload_n 1, 1) := by decide +kernel
theorem dX12_row_15 : decode cX12_row 15 = .ok (.imul, 1) := by decide +kernel
theorem dX12_row_16 : decode cX12_row 16 = .ok (.iload_n 2, 1) := by decide +kernel
theorem dX12_row_17 : decode cX12_row 17 = .ok (.iadd, 1) := by decide +kernel
theorem dX12_row_18 : decode cX12_row 18 = .ok (.iaload, 1) := by decide +kernel
theorem dX12_row_19 : decode cX12_row 19 = .ok (.goto 5, 3) := by decide +kernel
theorem dX12_row_22 : decode cX12_row 22 = .ok (.bipush (-9), 2) := by decide +kernel
theorem dX12_row_24 : decode cX12_row 24 = .ok (.ireturn, 1) := by decide +kernel
set_option maxRecDepth 20000 in
theorem ggX12_alterRow_X12_isRow : GoodIn wsX12_alterRow wsX12_isRow := goodIn_r _ [6, 7, 8, 9, 10, 5, 11, 12, 13, 14, 15, 16, 17, 18, 19, 20, 21, 22, 23, 24, 25, 26, 27, 28, 29, 30, 31, 32, 33, 34, 35, 36, 37, 38, 39] (by decide +kernel) (by decide +kernel)
set_option maxRecDepth 20000 in
theorem gX12_alterRow_X12_isRow : GoodIn wsX12_alterRow (wsV RX12 283 RX12 yX12_isRow wsX12_isRow) := goodIn_app (goodIn_of _ (by decide +kernel)) ggX12_alterRow_X12_isRow
theorem dX12_alterRow_0 : decode cX12_alterRow 0 = .ok (.aload_n 0, 1) := by decide +kernel
theorem dX12_alterRow_1 : decode cX12_alterRow 1 = .ok (.iload_n 1, 1) := by decide +kernel
theorem dX12_alterRow_2 : decode cX12_alterRow 2 = .ok (.iload_n 2, 1) := by decide +kernel
theorem dX12_alterRow_3 : decode cX12_alterRow 3 = .ok (.invokevirtual 283, 3) := by decide +kernel
theorem dX12_alterRow_6 : decode cX12_alterRow 6 = .ok (.ifCond .ne 6, 3) := by decide +kernel
theorem dX12_alterRow_9 : decode cX12_alterRow 9 = .ok (.bipush (-9), 2) := by decide +kernel
theorem dX12_alterRow_11 : decode cX12_alterRow 11 = .ok (.ireturn, 1) := by decide +kernel
theorem dX12_alterRow_12 : decode cX12_alterRow 12 = .ok (.aload_n 0, 1) := by decide +kernel
theorem dX12_alterRow_13 : decode cX12_alterRow 13 = .ok (.getfield 31, 3) := by decide +kernel
theorem dX12_alterRow_16 : decode cX12_alterRow 16 = .ok (.iconst 3, 1) := by decide +kernel
theorem dX12_alterRow_17 : decode cX12_alterRow 17 = .ok (.iload_n 1, 1) := by decide +kernel
theorem dX12_alterRow_18 : decode cX12_alterRow 18 = .ok (.imul, 1) := by decide +kernel
theorem dX12_alterRow_19 : decode cX12_alterRow 19 = .ok (.iload_n 2, 1) := by decide +kernel
theorem dX12_alterRow_20 : decode cX12_alterRow 20 = .ok (.iadd, 1) := by decide +kernel
theorem dX12_alterRow_21 : decode cX12_alterRow 21 = .ok (.iaload, 1) := by decide +kernel
theorem dX12_alterRow_22 : decode cX12_alterRow 22 = .ok (.istore 4, 2) := by decide +kernel
theorem dX12_alterRow_24 : decode cX12_alterRow 24 = .ok (.aload_n 0, 1) := by decide +kernel
theorem dX12_alterRow_25 : decode cX12_alterRow 25 = .ok (.getfield 31, 3) := by decide +kernel
theorem dX12_alterRow_28 : decode cX12_alterRow 28 = .ok (.iconst 3, 1) := by decide +kernel
theorem dX12_alterRow_29 : decode cX12_alterRow 29 = .ok (.iload_n 1, 1) := by decide +kernel
theorem dX12_alterRow_30 : decode cX12_alterRow 30 = .ok (.imul, 1) := by decide +kernel
theorem dX12_alterRow_31 : decode cX12_alterRow 31 = .ok (.iload_n 2, 1) := by decide +kernel
theorem dX12_alterRow_32 : decode cX12_alterRow 32 = .ok (.iadd, 1) := by decide +kernel
theorem dX12_alterRow_33 : decode cX12_alterRow 33 = .ok (.iload_n 3, 1) := by decide +kernel
theorem dX12_alterRow_34 : decode cX12_alterRow 34 = .ok (.iastore, 1) := by decide +kernel
theorem dX12_alterRow_35 : decode cX12_alterRow 35 = .ok (.iload 4, 2) := by decide +kernel
theorem dX12_alterRow_37 : decode cX12_alterRow 37 = .ok (.ireturn, 1) := by decide +kernel
set_option maxRecDepth 20000 in
theorem ggX12_judge_X12_isOne : GoodIn wsX12_judge wsX12_isOne := goodIn_r _ [9, 1, 53, 54, 55, 56, 57, 58, 59, 60, 61, 62, 63, 64, 65, 66, 67, 68, 69, 70, 71, 72, 73, 74, 75, 76, 77, 78, 79, 80] (by decide +kernel) (by decide +kernel)
set_option maxRecDepth 20000 in
theorem gX12_judge_X12_isOne : GoodIn wsX12_judge (wsV RX12 182 RX12 yX12_isOne wsX12_isOne) := goodIn_app (goodIn_of _ (by decide +kernel)) ggX12_judge_X12_isOne
set_option maxRecDepth 20000 in
theorem ggX12_judge_X12_copyRow : GoodIn wsX12_judge wsX12_copyRow := goodIn_r _ [12] (by decide +kernel) (by decide +kernel)
set_option maxRecDepth 20000 in
theorem gX12_judge_X12_copyRow : GoodIn wsX12_judge (va_wsS RX12 151 yX12_copyRow wsX12_copyRow) := goodIn_app (goodIn_of _ (by decide +kernel)) ggX12_judge_X12_copyRow
set_option maxRecDepth 20000 in
theorem ggX12_judge_X12_goesOn : GoodIn wsX12_judge wsX12_goesOn := goodIn_r _ [16, 1, 17, 18, 19, 8, 20, 21, 22, 23, 24, 25, 26, 27, 28, 29, 30, 31, 32, 33, 34, 35, 36, 37, 38, 39, 40, 41, 42, 43, 44, 45, 53, 54, 55, 56, 57, 58, 59, 60, 61, 62, 63, 64, 65, 66, 67, 68, 69, 70, 71, 72, 73, 74, 75, 76, 77, 78, 79, 80] (by decide +kernel) (by decide +kernel)
set_option maxRecDepth 20000 in
theorem gX12_judge_X12_goesOn : GoodIn wsX12_judge (wsV RX12 208 RX12 yX12_goesOn wsX12_goesOn) := goodIn_app (goodIn_of _ (by decide +kernel)) ggX12_judge_X12_goesOn
set_option maxRecDepth 20000 in
theorem ggX12_judge_X12_its : GoodIn wsX12_judge wsX12_its := goodIn_r _ [24, 1, 53, 54, 55, 56, 57, 58, 59, 60, 61, 62, 63, 64, 65, 66, 67, 68, 69, 70, 71, 72, 73, 74, 75, 76, 77, 78, 79, 80] (by decide +kernel) (by decide +kernel)
set_option maxRecDepth 20000 in
theorem gX12_judge_X12_its : GoodIn wsX12_judge (wsV RX12 176 RX12 yX12_its wsX12_its) := goodIn_app (goodIn_of _ (by decide +kernel)) ggX12_judge_X12_its
set_option maxRecDepth 20000 in
theorem ggX12_judge_X12_farNow : GoodIn wsX12_judge wsX12_farNow := goodIn_r _ [49, 21, 22, 23, 8, 24, 1, 50, 51, 52, 53, 54, 55, 56, 57, 58, 59, 60, 61, 62, 63, 64, 65, 66, 67, 68, 69, 70, 71, 72, 73, 74, 75, 76, 77, 78, 79, 80] (by decide +kernel) (by decide +kernel)
set_option maxRecDepth 20000 in
theorem gX12_judge_X12_farNow : GoodIn wsX12_judge (wsV RX12 214 RX12 yX12_farNow wsX12_farNow) := goodIn_app (goodIn_of _ (by decide +kernel)) ggX12_judge_X12_farNow
theorem dX12_judge_0 : decode cX12_judge 0 = .ok (.aload_n 0, 1) := by decide +kernel
theorem dX12_judge_1 : decode cX12_judge 1 = .ok (.iload_n 1, 1) := by decide +kernel
theorem dX12_judge_2 : decode cX12_judge 2 = .ok (.invokevirtual 182, 3) := by decide +kernel
theorem dX12_judge_5 : decode cX12_judge 5 = .ok (.ifCond .ne 5, 3) := by decide +kernel
theorem dX12_judge_8 : decode cX12_judge 8 = .ok (.iconst (-1), 1) := by decide +kernel
theorem dX12_judge_9 : decode cX12_judge 9 = .ok (.ireturn, 1) := by decide +kernel
theorem dX12_judge_10 : decode cX12_judge 10 = .ok (.aload_n 0, 1) := by decide +kernel
theorem dX12_judge_11 : decode cX12_judge 11 = .ok (.getfield 7, 3) := by decide +kernel
theorem dX12_judge_14 : decode cX12_judge 14 = .ok (.aload_n 0, 1) := by decide +kernel
theorem dX12_judge_15 : decode cX12_judge 15 = .ok (.getfield 16, 3) := by decide +kernel
theorem dX12_judge_18 : decode cX12_judge 18 = .ok (.invokestatic 151, 3) := by decide +kernel
theorem dX12_judge_21 : decode cX12_judge 21 = .ok (.iconst 0, 1) := by decide +kernel
theorem dX12_judge_22 : decode cX12_judge 22 = .ok (.istore_n 2, 1) := by decide +kernel
theorem dX12_judge_23 : decode cX12_judge 23 = .ok (.iconst 1, 1) := by decide +kernel
theorem dX12_judge_24 : decode cX12_judge 24 = .ok (.istore_n 3, 1) := by decide +kernel
theorem dX12_judge_25 : decode cX12_judge 25 = .ok (.iload_n 2, 1) := by decide +kernel
theorem dX12_judge_26 : decode cX12_judge 26 = .ok (.aload_n 0, 1) := by decide +kernel
theorem dX12_judge_27 : decode cX12_judge 27 = .ok (.getfield 158, 3) := by decide +kernel
theorem dX12_judge_30 : decode cX12_judge 30 = .ok (.if_icmp .ge 77, 3) := by decide +kernel
theorem dX12_judge_33 : decode cX12_judge 33 = .ok (.iload_n 3, 1) := by decide +kernel
theorem dX12_judge_34 : decode cX12_judge 34 = .ok (.ifCond .eq 73, 3) := by decide +kernel
theorem dX12_judge_37 : decode cX12_judge 37 = .ok (.aload_n 0, 1) := by decide +kernel
theorem dX12_judge_38 : decode cX12_judge 38 = .ok (.invokevirtual 208, 3) := by decide +kernel
theorem dX12_judge_41 : decode cX12_judge 41 = .ok (.aload_n 0, 1) := by decide +kernel
theorem dX12_judge_42 : decode cX12_judge 42 = .ok (.getfield 31, 3) := by decide +kernel
theorem dX12_judge_45 : decode cX12_judge 45 = .ok (.iconst 3, 1) := by decide +kernel
theorem dX12_judge_46 : decode cX12_judge 46 = .ok (.iload_n 2, 1) := by decide +kernel
theorem dX12_judge_47 : decode cX12_judge 47 = .ok (.imul, 1) := by decide +kernel
theorem dX12_judge_48 : decode cX12_judge 48 = .ok (.iaload, 1) := by decide +kernel
theorem dX12_judge_49 : decode cX12_judge 49 = .ok (.aload_n 0, 1) := by decide +kernel
theorem dX12_judge_50 : decode cX12_judge 50 = .ok (.iload_n 1, 1) := by decide +kernel
theorem dX12_judge_51 : decode cX12_judge 51 = .ok (.iconst 1, 1) := by decide +kernel
theorem dX12_judge_52 : decode cX12_judge 52 = .ok (.invokevirtual 176, 3) := by decide +kernel
theorem dX12_judge_55 : decode cX12_judge 55 = .ok (.if_icmp .ne 44, 3) := by decide +kernel
theorem dX12_judge_58 : decode cX12_judge 58 = .ok (.aload_n 0, 1) := by decide +kernel
theorem dX12_judge_59 : decode cX12_judge 59 = .ok (.getfield 31, 3) := by decide +kernel
theorem dX12_judge_62 : decode cX12_judge 62 = .ok (.iconst 3, 1) := by decide +kernel
theorem dX12_judge_63 : decode cX12_judge 63 = .ok (.iload_n 2, 1) := by decide +kernel
theorem dX12_judge_64 : decode cX12_judge 64 = .ok (.imul, 1) := by decide +kernel
theorem dX12_judge_65 : decode cX12_judge 65 = .ok (.iconst 1, 1) := by decide +kernel
theorem dX12_judge_66 : decode cX12_judge 66 = .ok (.iadd, 1) := by decide +kernel
theorem dX12_judge_67 : decode cX12_judge 67 = .ok (.iaload, 1) := by decide +kernel
theorem dX12_judge_68 : decode cX12_judge 68 = .ok (.aload_n 0, 1) := by decide +kernel
theorem dX12_judge_69 : decode cX12_judge 69 = .ok (.iload_n 1, 1) := by decide +kernel
theorem dX12_judge_70 : decode cX12_judge 70 = .ok (.iconst 4, 1) := by decide +kernel
theorem dX12_judge_71 : decode cX12_judge 71 = .ok (.invokevirtual 176, 3) := by decide +kernel
theorem dX12_judge_74 : decode cX12_judge 74 = .ok (.if_icmp .ne 25, 3) := by decide +kernel
theorem dX12_judge_77 : decode cX12_judge 77 = .ok (.aload_n 0, 1) := by decide +kernel
theorem dX12_judge_78 : decode cX12_judge 78 = .ok (.getfield 31, 3) := by decide +kernel
theorem dX12_judge_81 : decode cX12_judge 81 = .ok (.iconst 3, 1) := by decide +kernel
theorem dX12_judge_82 : decode cX12_judge 82 = .ok (.iload_n 2, 1) := by decide +kernel
theorem dX12_judge_83 : decode cX12_judge 83 = .ok (.imul, 1) := by decide +kernel
theorem dX12_judge_84 : decode cX12_judge 84 = .ok (.iconst 2, 1) := by decide +kernel
theorem dX12_judge_85 : decode cX12_judge 85 = .ok (.iadd, 1) := by decide +kernel
theorem dX12_judge_86 : decode cX12_judge 86 = .ok (.iaload, 1) := by decide +kernel
theorem dX12_judge_87 : decode cX12_judge 87 = .ok (.aload_n 0, 1) := by decide +kernel
theorem dX12_judge_88 : decode cX12_judge 88 = .ok (.iload_n 1, 1) := by decide +kernel
theorem dX12_judge_89 : decode cX12_judge 89 = .ok (.invokevirtual 214, 3) := by decide +kernel
theorem dX12_judge_92 : decode cX12_judge 92 = .ok (.if_icmp .ne 7, 3) := by decide +kernel
theorem dX12_judge_95 : decode cX12_judge 95 = .ok (.iconst 1, 1) := by decide +kernel
theorem dX12_judge_96 : decode cX12_judge 96 = .ok (.goto 4, 3) := by decide +kernel
theorem dX12_judge_99 : decode cX12_judge 99 = .ok (.iconst 0, 1) := by decide +kernel
theorem dX12_judge_100 : decode cX12_judge 100 = .ok (.istore_n 3, 1) := by decide +kernel
theorem dX12_judge_101 : decode cX12_judge 101 = .ok (.iinc 2 1, 3) := by decide +kernel
theorem dX12_judge_104 : decode cX12_judge 104 = .ok (.goto (-79), 3) := by decide +kernel
theorem dX12_judge_107 : decode cX12_judge 107 = .ok (.aload_n 0, 1) := by decide +kernel
theorem dX12_judge_108 : decode cX12_judge 108 = .ok (.getfield 16, 3) := by decide +kernel
theorem dX12_judge_111 : decode cX12_judge 111 = .ok (.aload_n 0, 1) := by decide +kernel
theorem dX12_judge_112 : decode cX12_judge 112 = .ok (.getfield 7, 3) := by decide +kernel
theorem dX12_judge_115 : decode cX12_judge 115 = .ok (.invokestatic 151, 3) := by decide +kernel
theorem dX12_judge_118 : decode cX12_judge 118 = .ok (.iload_n 3, 1) := by decide +kernel
theorem dX12_judge_119 : decode cX12_judge 119 = .ok (.ifCond .eq 7, 3) := by decide +kernel
theorem dX12_judge_122 : decode cX12_judge 122 = .ok (.iconst 0, 1) := by decide +kernel
theorem dX12_judge_123 : decode cX12_judge 123 = .ok (.goto 4, 3) := by decide +kernel
theorem dX12_judge_126 : decode cX12_judge 126 = .ok (.iload_n 2, 1) := by decide +kernel
theorem dX12_judge_127 : decode cX12_judge 127 = .ok (.ireturn, 1) := by decide +kernel
set_option maxRecDepth 20000 in
theorem ggX12_isSheet_X12_isIn : GoodIn wsX12_isSheet wsX12_isIn := goodIn_r _ [5] (by decide +kernel) (by decide +kernel)
set_option maxRecDepth 20000 in
theorem gX12_isSheet_X12_isIn : GoodIn wsX12_isSheet (va_wsS RX12 60 yX12_isIn wsX12_isIn) := goodIn_app (goodIn_of _ (by decide +kernel)) ggX12_isSheet_X12_isIn
theorem dX12_isSheet_0 : decode cX12_isSheet 0 = .ok (.iload_n 0, 1) := by decide +kernel
theorem dX12_isSheet_1 : decode cX12_isSheet 1 = .ok (.i2l, 1) := by decide +kernel
theorem dX12_isSheet_2 : decode cX12_isSheet 2 = .ok (.lconst 0, 1) := by decide +kernel
theorem dX12_isSheet_3 : decode cX12_isSheet 3 = .ok (.ldc2_w 161, 3) := by decide +kernel
theorem dX12_isSheet_6 : decode cX12_isSheet 6 = .ok (.invokestatic 60, 3) := by decide +kernel
theorem dX12_isSheet_9 : decode cX12_isSheet 9 = .ok (.ireturn, 1) := by decide +kernel
set_option maxRecDepth 20000 in
theorem ggX12_isShelf_X12_isIn : GoodIn wsX12_isShelf wsX12_isIn := goodIn_r _ [5] (by decide +kernel) (by decide +kernel)
set_option maxRecDepth 20000 in
theorem gX12_isShelf_X12_isIn : GoodIn wsX12_isShelf (va_wsS RX12 60 yX12_isIn wsX12_isIn) := goodIn_app (goodIn_of _ (by decide +kernel)) ggX12_isShelf_X12_isIn
theorem dX12_isShelf_0 : decode cX12_isShelf 0 = .ok (.iload_n 0, 1) := by decide +kernel
theorem dX12_isShelf_1 : decode cX12_isShelf 1 = .ok (.i2l, 1) := by decide +kernel
theorem dX12_isShelf_2 : decode cX12_isShelf 2 = .ok (.lconst 0, 1) := by decide +kernel
theorem dX12_isShelf_3 : decode cX12_isShelf 3 = .ok (.ldc2_w 161, 3) := by decide +kernel
theorem dX12_isShelf_6 : decode cX12_isShelf 6 = .ok (.invokestatic 60, 3) := by decide +kernel
theorem dX12_isShelf_9 : decode cX12_isShelf 9 = .ok (.ireturn, 1) := by decide +kernel
set_option maxRecDepth 20000 in
theorem ggX12_sheet_X12_isSheet : GoodIn wsX12_sheet wsX12_isSheet := goodIn_r _ [9, 2, 10, 11, 8, 12] (by decide +kernel) (by decide +kernel)
set_option maxRecDepth 20000 in
theorem gX12_sheet_X12_isSheet : GoodIn wsX12_sheet (va_wsS RX12 263 yX12_isSheet wsX12_isSheet) := goodIn_app (goodIn_of _ (by decide +kernel)) ggX12_sheet_X12_isSheet
set_option maxRecDepth 20000 in
theorem ggX12_sheet_X12_isIn : GoodIn wsX12_sheet wsX12_isIn := goodIn_r _ [12] (by decide +kernel) (by decide +kernel)
set_option maxRecDepth 20000 in
theorem gX12_sheet_X12_isIn : GoodIn wsX12_sheet (va_wsS RX12 60 yX12_isIn wsX12_isIn) := goodIn_app (goodIn_of _ (by decide +kernel)) ggX12_sheet_X12_isIn
theorem dX12_sheet_0 : decode cX12_sheet 0 = .ok (.iload_n 1, 1) := by decide +kernel
theorem dX12_sheet_1 : decode cX12_sheet 1 = .ok (.invokestatic 263, 3) := by decide +kernel
theorem dX12_sheet_4 : decode cX12_sheet 4 = .ok (.ifCond .eq 27, 3) := by decide +kernel
theorem dX12_sheet_7 : decode cX12_sheet 7 = .ok (.iload_n 2, 1) := by decide +kernel
theorem dX12_sheet_8 : decode cX12_sheet 8 = .ok (.i2l, 1) := by decide +kernel
theorem dX12_sheet_9 : decode cX12_sheet 9 = .ok (.ldc2_w 269, 3) := by decide +kernel
theorem dX12_sheet_12 : decode cX12_sheet 12 = .ok (.ldc2_w 161, 3) := by decide +kernel
theorem dX12_sheet_15 : decode cX12_sheet 15 = .ok (.invokestatic 60, 3) := by decide +kernel
theorem dX12_sheet_18 : decode cX12_sheet 18 = .ok (.ifCond .eq 13, 3) := by decide +kernel
theorem dX12_sheet_21 : decode cX12_sheet 21 = .ok (.iload_n 2, 1) := by decide +kernel
theorem dX12_sheet_22 : decode cX12_sheet 22 = .ok (.ifCond .lt 11, 3) := by decide +kernel
theorem dX12_sheet_25 : decode cX12_sheet 25 = .ok (.iload_n 3, 1) := by decide +kernel
theorem dX12_sheet_26 : decode cX12_sheet 26 = .ok (.bipush 40, 2) := by decide +kernel
theorem dX12_sheet_28 : decode cX12_sheet 28 = .ok (.if_icmp .le 5, 3) := by decide +kernel
theorem dX12_sheet_31 : decode cX12_sheet 31 = .ok (.iconst (-1), 1) := by decide +kernel
theorem dX12_sheet_32 : decode cX12_sheet 32 = .ok (.ireturn, 1) := by decide +kernel
theorem dX12_sheet_33 : decode cX12_sheet 33 = .ok (.iload_n 2, 1) := by decide +kernel
theorem dX12_sheet_34 : decode cX12_sheet 34 = .ok (.ifCond .lt 10, 3) := by decide +kernel
theorem dX12_sheet_37 : decode cX12_sheet 37 = .ok (.iload_n 3, 1) := by decide +kernel
theorem dX12_sheet_38 : decode cX12_sheet 38 = .ok (.ifCond .ge 6, 3) := by decide +kernel
theorem dX12_sheet_41 : decode cX12_sheet 41 = .ok (.bipush (-14), 2) := by decide +kernel
theorem dX12_sheet_43 : decode cX12_sheet 43 = .ok (.ireturn, 1) := by decide +kernel
theorem dX12_sheet_44 : decode cX12_sheet 44 = .ok (.aload_n 0, 1) := by decide +kernel
theorem dX12_sheet_45 : decode cX12_sheet 45 = .ok (.getfield 34, 3) := by decide +kernel
theorem dX12_sheet_48 : decode cX12_sheet 48 = .ok (.iload_n 1, 1) := by decide +kernel
theorem dX12_sheet_49 : decode cX12_sheet 49 = .ok (.iload_n 2, 1) := by decide +kernel
theorem dX12_sheet_50 : decode cX12_sheet 50 = .ok (.iastore, 1) := by decide +kernel
theorem dX12_sheet_51 : decode cX12_sheet 51 = .ok (.aload_n 0, 1) := by decide +kernel
theorem dX12_sheet_52 : decode cX12_sheet 52 = .ok (.getfield 37, 3) := by decide +kernel
theorem dX12_sheet_55 : decode cX12_sheet 55 = .ok (.iload_n 1, 1) := by decide +kernel
theorem dX12_sheet_56 : decode cX12_sheet 56 = .ok (.iload_n 2, 1) := by decide +kernel
theorem dX12_sheet_57 : decode cX12_sheet 57 = .ok (.ifCond .ge 7, 3) := by decide +kernel
theorem dX12_sheet_60 : decode cX12_sheet 60 = .ok (.iconst 0, 1) := by decide +kernel
theorem dX12_sheet_61 : decode cX12_sheet 61 = .ok (.goto 4, 3) := by decide +kernel
theorem dX12_sheet_64 : decode cX12_sheet 64 = .ok (.iload_n 3, 1) := by decide +kernel
theorem dX12_sheet_65 : decode cX12_sheet 65 = .ok (.iastore, 1) := by decide +kernel
theorem dX12_sheet_66 : decode cX12_sheet 66 = .ok (.iconst 0, 1) := by decide +kernel
theorem dX12_sheet_67 : decode cX12_sheet 67 = .ok (.istore 4, 2) := by decide +kernel
theorem dX12_sheet_69 : decode cX12_sheet 69 = .ok (.iload 4, 2) := by decide +kernel
theorem dX12_sheet_71 : decode cX12_sheet 71 = .ok (.bipush 40, 2) := by decide +kernel
theorem dX12_sheet_73 : decode cX12_sheet 73 = .ok (.if_icmp .ge 22, 3) := by decide +kernel
theorem dX12_sheet_76 : decode cX12_sheet 76 = .ok (.aload_n 0, 1) := by decide +kernel
theorem dX12_sheet_77 : decode cX12_sheet 77 = .ok (.getfield 40, 3) := by decide +kernel
theorem dX12_sheet_80 : decode cX12_sheet 80 = .ok (.bipush 40, 2) := by decide +kernel
theorem dX12_sheet_82 : decode cX12_sheet 82 = .ok (.iload_n 1, 1) := by decide +kernel
theorem dX12_sheet_83 : decode cX12_sheet 83 = .ok (.imul, 1) := by decide +kernel
theorem dX12_sheet_84 : decode cX12_sheet 84 = .ok (.iload 4, 2) := by decide +kernel
theorem dX12_sheet_86 : decode cX12_sheet 86 = .ok (.iadd, 1) := by decide +kernel
theorem dX12_sheet_87 : decode cX12_sheet 87 = .ok (.iconst 0, 1) := by decide +kernel
theorem dX12_sheet_88 : decode cX12_sheet 88 = .ok (.iastore, 1) := by decide +kernel
theorem dX12_sheet_89 : decode cX12_sheet 89 = .ok (.iinc 4 1, 3) := by decide +kernel
theorem dX12_sheet_92 : decode cX12_sheet 92 = .ok (.goto (-23), 3) := by decide +kernel
theorem dX12_sheet_95 : decode cX12_sheet 95 = .ok (.iconst 1, 1) := by decide +kernel
theorem dX12_sheet_96 : decode cX12_sheet 96 = .ok (.ireturn, 1) := by decide +kernel
set_option maxRecDepth 20000 in
theorem ggX12_put_X12_isSheet : GoodIn wsX12_put wsX12_isSheet := goodIn_r _ [7, 8, 9, 10, 6, 11] (by decide +kernel) (by decide +kernel)
set_option maxRecDepth 20000 in
theorem gX12_put_X12_isSheet : GoodIn wsX12_put (va_wsS RX12 263 yX12_isSheet wsX12_isSheet) := goodIn_app (goodIn_of _ (by decide +kernel)) ggX12_put_X12_isSheet
set_option maxRecDepth 20000 in
theorem ggX12_put_X12_isIn : GoodIn wsX12_put wsX12_isIn := goodIn_r _ [11] (by decide +kernel) (by decide +kernel)
set_option maxRecDepth 20000 in
theorem gX12_put_X12_isIn : GoodIn wsX12_put (va_wsS RX12 60 yX12_isIn wsX12_isIn) := goodIn_app (goodIn_of _ (by decide +kernel)) ggX12_put_X12_isIn
theorem dX12_put_0 : decode cX12_put 0 = .ok (.iload_n 1, 1) := by decide +kernel
theorem dX12_put_1 : decode cX12_put 1 = .ok (.invokestatic 263, 3) := by decide +kernel
theorem dX12_put_4 : decode cX12_put 4 = .ok (.ifCond .ne 5, 3) := by decide +kernel
theorem dX12_put_7 : decode cX12_put 7 = .ok (.iconst (-1), 1) := by decide +kernel
theorem dX12_put_8 : decode cX12_put 8 = .ok (.ireturn, 1) := by decide +kernel
theorem dX12_put_9 : decode cX12_put 9 = .ok (.aload_n 0, 1) := by decide +kernel
theorem dX12_put_10 : decode cX12_put 10 = .ok (.getfield 34, 3) := by decide +kernel
theorem dX12_put_13 : decode cX12_put 13 = .ok (.iload_n 1, 1) := by decide +kernel
theorem dX12_put_14 : decode cX12_put 14 = .ok (.iaload, 1) := by decide +kernel
theorem dX12_put_15 : decode cX12_put 15 = .ok (.ifCond .ge 6, 3) := by decide +kernel
theorem dX12_put_18 : decode cX12_put 18 = .ok (.bipush (-11), 2) := by decide +kernel
theorem dX12_put_20 : decode cX12_put 20 = .ok (.ireturn, 1) := by decide +kernel
theorem dX12_put_21 : decode cX12_put 21 = .ok (.iload_n 2, 1) := by decide +kernel
theorem dX12_put_22 : decode cX12_put 22 = .ok (.i2l, 1) := by decide +kernel
theorem dX12_put_23 : decode cX12_put 23 = .ok (.lconst 0, 1) := by decide +kernel
theorem dX12_put_24 : decode cX12_put 24 = .ok (.aload_n 0, 1) := by decide +kernel
theorem dX12_put_25 : decode cX12_put 25 = .ok (.getfield 37, 3) := by decide +kernel
theorem dX12_put_28 : decode cX12_put 28 = .ok (.iload_n 1, 1) := by decide +kernel
theorem dX12_put_29 : decode cX12_put 29 = .ok (.iaload, 1) := by decide +kernel
theorem dX12_put_30 : decode cX12_put 30 = .ok (.iconst 1, 1) := by decide +kernel
theorem dX12_put_31 : decode cX12_put 31 = .ok (.isub, 1) := by decide +kernel
theorem dX12_put_32 : decode cX12_put 32 = .ok (.i2l, 1) := by decide +kernel
theorem dX12_put_33 : decode cX12_put 33 = .ok (.invokestatic 60, 3) := by decide +kernel
theorem dX12_put_36 : decode cX12_put 36 = .ok (.ifCond .ne 6, 3) := by decide +kernel
theorem dX12_put_39 : decode cX12_put 39 = .ok (.bipush (-12), 2) := by decide +kernel
theorem dX12_put_41 : decode cX12_put 41 = .ok (.ireturn, 1) := by decide +kernel
theorem dX12_put_42 : decode cX12_put 42 = .ok (.aload_n 0, 1) := by decide +kernel
theorem dX12_put_43 : decode cX12_put 43 = .ok (.getfield 40, 3) := by decide +kernel
theorem dX12_put_46 : decode cX12_put 46 = .ok (.bipush 40, 2) := by decide +kernel
theorem dX12_put_48 : decode cX12_put 48 = .ok (.iload_n 1, 1) := by decide +kernel
theorem dX12_put_49 : decode cX12_put 49 = .ok (.imul, 1) := by decide +kernel
theorem dX12_put_50 : decode cX12_put 50 = .ok (.iload_n 2, 1) := by decide +kernel
theorem dX12_put_51 : decode cX12_put 51 = .ok (.iadd, 1) := by decide +kernel
theorem dX12_put_52 : decode cX12_put 52 = .ok (.aload_n 0, 1) := by decide +kernel
theorem dX12_put_53 : decode cX12_put 53 = .ok (.getfield 34, 3) := by decide +kernel
theorem dX12_put_56 : decode cX12_put 56 = .ok (.iload_n 1, 1) := by decide +kernel
theorem dX12_put_57 : decode cX12_put 57 = .ok (.iaload, 1) := by decide +kernel
theorem dX12_put_58 : decode cX12_put 58 = .ok (.ifCond .ne 8, 3) := by decide +kernel
theorem dX12_put_61 : decode cX12_put 61 = .ok (.iload_n 3, 1) := by decide +kernel
theorem dX12_put_62 : decode cX12_put 62 = .ok (.i2b, 1) := by decide +kernel
theorem dX12_put_63 : decode cX12_put 63 = .ok (.goto 19, 3) := by decide +kernel
theorem dX12_put_66 : decode cX12_put 66 = .ok (.aload_n 0, 1) := by decide +kernel
theorem dX12_put_67 : decode cX12_put 67 = .ok (.getfield 34, 3) := by decide +kernel
theorem dX12_put_70 : decode cX12_put 70 = .ok (.iload_n 1, 1) := by decide +kernel
theorem dX12_put_71 : decode cX12_put 71 = .ok (.iaload, 1) := by decide +kernel
theorem dX12_put_72 : decode cX12_put 72 = .ok (.iconst 1, 1) := by decide +kernel
theorem dX12_put_73 : decode cX12_put 73 = .ok (.if_icmp .ne 8, 3) := by decide +kernel
theorem dX12_put_76 : decode cX12_put 76 = .ok (.iload_n 3, 1) := by decide +kernel
theorem dX12_put_77 : decode cX12_put 77 = .ok (.i2s, 1) := by decide +kernel
theorem dX12_put_78 : decode cX12_put 78 = .ok (.goto 4, 3) := by decide +kernel
theorem dX12_put_81 : decode cX12_put 81 = .ok (.iload_n 3, 1) := by decide +kernel
theorem dX12_put_82 : decode cX12_put 82 = .ok (.iastore, 1) := by decide +kernel
theorem dX12_put_83 : decode cX12_put 83 = .ok (.iconst 1, 1) := by decide +kernel
theorem dX12_put_84 : decode cX12_put 84 = .ok (.ireturn, 1) := by decide +kernel
theorem dX12_lacks_0 : decode cX12_lacks 0 = .ok (.aload_n 0, 1) := by decide +kernel
theorem dX12_lacks_1 : decode cX12_lacks 1 = .ok (.getfield 34, 3) := by decide +kernel
theorem dX12_lacks_4 : decode cX12_lacks 4 = .ok (.iload_n 1, 1) := by decide +kernel
theorem dX12_lacks_5 : decode cX12_lacks 5 = .ok (.iaload, 1) := by decide +kernel
theorem dX12_lacks_6 : decode cX12_lacks 6 = .ok (.ifCond .ge 8, 3) := by decide +kernel
theorem dX12_lacks_9 : decode cX12_lacks 9 = .ok (.bipush (-11), 2) := by decide +kernel
theorem dX12_lacks_11 : decode cX12_lacks 11 = .ok (.goto 19, 3) := by decide +kernel
theorem dX12_lacks_14 : decode cX12_lacks 14 = .ok (.aload_n 0, 1) := by decide +kernel
theorem dX12_lacks_15 : decode cX12_lacks 15 = .ok (.getfield 34, 3) := by decide +kernel
theorem dX12_lacks_18 : decode cX12_lacks 18 = .ok (.iload_n 1, 1) := by decide +kernel
theorem dX12_lacks_19 : decode cX12_lacks 19 = .ok (.iaload, 1) := by decide +kernel
theorem dX12_lacks_20 : decode cX12_lacks 20 = .ok (.iload_n 2, 1) := by decide +kernel
theorem dX12_lacks_21 : decode cX12_lacks 21 = .ok (.if_icmp .eq 8, 3) := by decide +kernel
theorem dX12_lacks_24 : decode cX12_lacks 24 = .ok (.bipush (-13), 2) := by decide +kernel
theorem dX12_lacks_26 : decode cX12_lacks 26 = .ok (.goto 4, 3) := by decide +kernel
theorem dX12_lacks_29 : decode cX12_lacks 29 = .ok (.iconst 0, 1) := by decide +kernel
theorem dX12_lacks_30 : decode cX12_lacks 30 = .ok (.ireturn, 1) := by decide +kernel
set_option maxRecDepth 20000 in
theorem ggX12_item_X12_isSheet : GoodIn wsX12_item wsX12_isSheet := goodIn_r _ [7, 1, 8, 9, 6, 10] (by decide +kernel) (by decide +kernel)
set_option maxRecDepth 20000 in
theorem gX12_item_X12_isSheet : GoodIn wsX12_item (va_wsS RX12 263 yX12_isSheet wsX12_isSheet) := goodIn_app (goodIn_of _ (by decide +kernel)) ggX12_item_X12_isSheet
set_option maxRecDepth 20000 in
theorem ggX12_item_X12_isIn : GoodIn wsX12_item wsX12_isIn := goodIn_r _ [10] (by decide +kernel) (by decide +kernel)
set_option maxRecDepth 20000 in
theorem gX12_item_X12_isIn : GoodIn wsX12_item (va_wsS RX12 60 yX12_isIn wsX12_isIn) := goodIn_app (goodIn_of _ (by decide +kernel)) ggX12_item_X12_isIn
set_option maxRecDepth 20000 in
theorem ggX12_item_X12_lacks : GoodIn wsX12_item wsX12_lacks := goodIn_r _ [14, 15, 16, 17, 18, 19, 20, 21, 22, 23, 24, 25, 26, 27, 28, 29, 30, 31, 32, 33, 34, 35, 36, 37, 38, 39, 40, 41, 42, 43] (by decide +kernel) (by decide +kernel)
set_option maxRecDepth 20000 in
theorem gX12_item_X12_lacks : GoodIn wsX12_item (wsV RX12 286 RX12 yX12_lacks wsX12_lacks) := goodIn_app (goodIn_of _ (by decide +kernel)) ggX12_item_X12_lacks
theorem dX12_item_0 : decode cX12_item 0 = .ok (.iload_n 1, 1) := by decide +kernel
theorem dX12_item_1 : decode cX12_item 1 = .ok (.invokestatic 263, 3) := by decide +kernel
theorem dX12_item_4 : decode cX12_item 4 = .ok (.ifCond .eq 15, 3) := by decide +kernel
theorem dX12_item_7 : decode cX12_item 7 = .ok (.iload_n 2, 1) := by decide +kernel
theorem dX12_item_8 : decode cX12_item 8 = .ok (.i2l, 1) := by decide +kernel
theorem dX12_item_9 : decode cX12_item 9 = .ok (.lconst 0, 1) := by decide +kernel
theorem dX12_item_10 : decode cX12_item 10 = .ok (.ldc2_w 161, 3) := by decide +kernel
theorem dX12_item_13 : decode cX12_item 13 = .ok (.invokestatic 60, 3) := by decide +kernel
theorem dX12_item_16 : decode cX12_item 16 = .ok (.ifCond .ne 5, 3) := by decide +kernel
theorem dX12_item_19 : decode cX12_item 19 = .ok (.iconst (-1), 1) := by decide +kernel
theorem dX12_item_20 : decode cX12_item 20 = .ok (.ireturn, 1) := by decide +kernel
theorem dX12_item_21 : decode cX12_item 21 = .ok (.aload_n 0, 1) := by decide +kernel
theorem dX12_item_22 : decode cX12_item 22 = .ok (.iload_n 1, 1) := by decide +kernel
theorem dX12_item_23 : decode cX12_item 23 = .ok (.iload_n 2, 1) := by decide +kernel
theorem dX12_item_24 : decode cX12_item 24 = .ok (.invokevirtual 286, 3) := by decide +kernel
theorem dX12_item_27 : decode cX12_item 27 = .ok (.ifCond .eq 10, 3) := by decide +kernel
theorem dX12_item_30 : decode cX12_item 30 = .ok (.aload_n 0, 1) := by decide +kernel
theorem dX12_item_31 : decode cX12_item 31 = .ok (.iload_n 1, 1) := by decide +kernel
theorem dX12_item_32 : decode cX12_item 32 = .ok (.iload_n 2, 1) := by decide +kernel
theorem dX12_item_33 : decode cX12_item 33 = .ok (.invokevirtual 286, 3) := by decide +kernel
theorem dX12_item_36 : decode cX12_item 36 = .ok (.ireturn, 1) := by decide +kernel
theorem dX12_item_37 : decode cX12_item 37 = .ok (.iload_n 3, 1) := by decide +kernel
theorem dX12_item_38 : decode cX12_item 38 = .ok (.i2l, 1) := by decide +kernel
theorem dX12_item_39 : decode cX12_item 39 = .ok (.lconst 0, 1) := by decide +kernel
theorem dX12_item_40 : decode cX12_item 40 = .ok (.aload_n 0, 1) := by decide +kernel
theorem dX12_item_41 : decode cX12_item 41 = .ok (.getfield 37, 3) := by decide +kernel
theorem dX12_item_44 : decode cX12_item 44 = .ok (.iload_n 1, 1) := by decide +kernel
theorem dX12_item_45 : decode cX12_item 45 = .ok (.iaload, 1) := by decide +kernel
theorem dX12_item_46 : decode cX12_item 46 = .ok (.iconst 1, 1) := by decide +kernel
theorem dX12_item_47 : decode cX12_item 47 = .ok (.isub, 1) := by decide +kernel
theorem dX12_item_48 : decode cX12_item 48 = .ok (.i2l, 1) := by decide +kernel
theorem dX12_item_49 : decode cX12_item 49 = .ok (.invokestatic 60, 3) := by decide +kernel
theorem dX12_item_52 : decode cX12_item 52 = .ok (.ifCond .eq 17, 3) := by decide +kernel
theorem dX12_item_55 : decode cX12_item 55 = .ok (.aload_n 0, 1) := by decide +kernel
theorem dX12_item_56 : decode cX12_item 56 = .ok (.getfield 40, 3) := by decide +kernel
theorem dX12_item_59 : decode cX12_item 59 = .ok (.bipush 40, 2) := by decide +kernel
theorem dX12_item_61 : decode cX12_item 61 = .ok (.iload_n 1, 1) := by decide +kernel
theorem dX12_item_62 : decode cX12_item 62 = .ok (.imul, 1) := by decide +kernel
theorem dX12_item_63 : decode cX12_item 63 = .ok (.iload_n 3, 1) := by decide +kernel
theorem dX12_item_64 : decode cX12_item 64 = .ok (.iadd, 1) := by decide +kernel
theorem dX12_item_65 : decode cX12_item 65 = .ok (.iaload, 1) := by decide +kernel
theorem dX12_item_66 : decode cX12_item 66 = .ok (.goto 5, 3) := by decide +kernel
theorem dX12_item_69 : decode cX12_item 69 = .ok (.bipush (-12), 2) := by decide +kernel
theorem dX12_item_71 : decode cX12_item 71 = .ok (.ireturn, 1) := by decide +kernel
set_option maxRecDepth 20000 in
theorem ggX12_minds_X12_isSheet : GoodIn wsX12_minds wsX12_isSheet := goodIn_r _ [8, 9, 10, 11, 7, 12] (by decide +kernel) (by decide +kernel)
set_option maxRecDepth 20000 in
theorem gX12_minds_X12_isSheet : GoodIn wsX12_minds (va_wsS RX12 263 yX12_isSheet wsX12_isSheet) := goodIn_app (goodIn_of _ (by decide +kernel)) ggX12_minds_X12_isSheet
set_option maxRecDepth 20000 in
theorem ggX12_minds_X12_isOne : GoodIn wsX12_minds wsX12_isOne := goodIn_r _ [16, 2, 25, 26, 27, 28, 29, 30, 31, 32, 33, 34, 35, 36, 37, 38, 39, 40, 41, 42, 43, 44, 45, 46, 47, 48, 49, 50, 51, 52] (by decide +kernel) (by decide +kernel)
set_option maxRecDepth 20000 in
theorem gX12_minds_X12_isOne : GoodIn wsX12_minds (wsV RX12 182 RX12 yX12_isOne wsX12_isOne) := goodIn_app (goodIn_of _ (by decide +kernel)) ggX12_minds_X12_isOne
set_option maxRecDepth 20000 in
theorem ggX12_minds_X12_isIn : GoodIn wsX12_minds wsX12_isIn := goodIn_r _ [12] (by decide +kernel) (by decide +kernel)
set_option maxRecDepth 20000 in
theorem gX12_minds_X12_isIn : GoodIn wsX12_minds (va_wsS RX12 60 yX12_isIn wsX12_isIn) := goodIn_app (goodIn_of _ (by decide +kernel)) ggX12_minds_X12_isIn
set_option maxRecDepth 20000 in
theorem ggX12_minds_X12_lacks : GoodIn wsX12_minds wsX12_lacks := goodIn_r _ [20, 21, 25, 26, 27, 28, 29, 30, 31, 32, 33, 34, 35, 36, 37, 38, 39, 40, 41, 42, 43, 44, 45, 46, 47, 48, 49, 50, 51, 52] (by decide +kernel) (by decide +kernel)
set_option maxRecDepth 20000 in
theorem gX12_minds_X12_lacks : GoodIn wsX12_minds (wsV RX12 286 RX12 yX12_lacks wsX12_lacks) := goodIn_app (goodIn_of _ (by decide +kernel)) ggX12_minds_X12_lacks
set_option maxRecDepth 20000 in
theorem ggX12_minds_X12_within : GoodIn wsX12_minds wsX12_within := goodIn_r _ [24] (by decide +kernel) (by decide +kernel)
set_option maxRecDepth 20000 in
theorem gX12_minds_X12_within : GoodIn wsX12_minds (va_wsS RX12 199 yX12_within wsX12_within) := goodIn_app (goodIn_of _ (by decide +kernel)) ggX12_minds_X12_within
theorem dX12_minds_0 : decode cX12_minds 0 = .ok (.iload_n 1, 1) := by decide +kernel
theorem dX12_minds_1 : decode cX12_minds 1 = .ok (.invokestatic 263, 3) := by decide +kernel
theorem dX12_minds_4 : decode cX12_minds 4 = .ok (.ifCond .eq 37, 3) := by decide +kernel
theorem dX12_minds_7 : decode cX12_minds 7 = .ok (.aload_n 0, 1) := by decide +kernel
theorem dX12_minds_8 : decode cX12_minds 8 = .ok (.iload_n 3, 1) := by decide +kernel
theorem dX12_minds_9 : decode cX12_minds 9 = .ok (.invokevirtual 182, 3) := by decide +kernel
theorem dX12_minds_12 : decode cX12_minds 12 = .ok (.ifCond .eq 29, 3) := by decide +kernel
theorem dX12_minds_15 : decode cX12_minds 15 = .ok (.iload 4, 2) := by decide +kernel
theorem dX12_minds_17 : decode cX12_minds 17 = .ok (.i2l, 1) := by decide +kernel
theorem dX12_minds_18 : decode cX12_minds 18 = .ok (.lconst 0, 1) := by decide +kernel
theorem dX12_minds_19 : decode cX12_minds 19 = .ok (.ldc2_w 58, 3) := by decide +kernel
theorem dX12_minds_22 : decode cX12_minds 22 = .ok (.invokestatic 60, 3) := by decide +kernel
theorem dX12_minds_25 : decode cX12_minds 25 = .ok (.ifCond .eq 16, 3) := by decide +kernel
theorem dX12_minds_28 : decode cX12_minds 28 = .ok (.iload_n 3, 1) := by decide +kernel
theorem dX12_minds_29 : decode cX12_minds 29 = .ok (.iload 4, 2) := by decide +kernel
theorem dX12_minds_31 : decode cX12_minds 31 = .ok (.iadd, 1) := by decide +kernel
theorem dX12_minds_32 : decode cX12_minds 32 = .ok (.aload_n 0, 1) := by decide +kernel
theorem dX12_minds_33 : decode cX12_minds 33 = .ok (.getfield 7, 3) := by decide +kernel
theorem dX12_minds_36 : decode cX12_minds 36 = .ok (.iconst 0, 1) := by decide +kernel
theorem dX12_minds_37 : decode cX12_minds 37 = .ok (.iaload, 1) := by decide +kernel
theorem dX12_minds_38 : decode cX12_minds 38 = .ok (.if_icmp .le 5, 3) := by decide +kernel
theorem dX12_minds_41 : decode cX12_minds 41 = .ok (.iconst (-1), 1) := by decide +kernel
theorem dX12_minds_42 : decode cX12_minds 42 = .ok (.ireturn, 1) := by decide +kernel
theorem dX12_minds_43 : decode cX12_minds 43 = .ok (.aload_n 0, 1) := by decide +kernel
theorem dX12_minds_44 : decode cX12_minds 44 = .ok (.iload_n 1, 1) := by decide +kernel
theorem dX12_minds_45 : decode cX12_minds 45 = .ok (.iconst 0, 1) := by decide +kernel
theorem dX12_minds_46 : decode cX12_minds 46 = .ok (.invokevirtual 286, 3) := by decide +kernel
theorem dX12_minds_49 : decode cX12_minds 49 = .ok (.ifCond .eq 10, 3) := by decide +kernel
theorem dX12_minds_52 : decode cX12_minds 52 = .ok (.aload_n 0, 1) := by decide +kernel
theorem dX12_minds_53 : decode cX12_minds 53 = .ok (.iload_n 1, 1) := by decide +kernel
theorem dX12_minds_54 : decode cX12_minds 54 = .ok (.iconst 0, 1) := by decide +kernel
theorem dX12_minds_55 : decode cX12_minds 55 = .ok (.invokevirtual 286, 3) := by decide +kernel
theorem dX12_minds_58 : decode cX12_minds 58 = .ok (.ireturn, 1) := by decide +kernel
theorem dX12_minds_59 : decode cX12_minds 59 = .ok (.iload_n 2, 1) := by decide +kernel
theorem dX12_minds_60 : decode cX12_minds 60 = .ok (.i2l, 1) := by decide +kernel
theorem dX12_minds_61 : decode cX12_minds 61 = .ok (.lconst 0, 1) := by decide +kernel
theorem dX12_minds_62 : decode cX12_minds 62 = .ok (.aload_n 0, 1) := by decide +kernel
theorem dX12_minds_63 : decode cX12_minds 63 = .ok (.getfield 37, 3) := by decide +kernel
theorem dX12_minds_66 : decode cX12_minds 66 = .ok (.iload_n 1, 1) := by decide +kernel
theorem dX12_minds_67 : decode cX12_minds 67 = .ok (.iaload, 1) := by decide +kernel
theorem dX12_minds_68 : decode cX12_minds 68 = .ok (.i2l, 1) := by decide +kernel
theorem dX12_minds_69 : decode cX12_minds 69 = .ok (.invokestatic 60, 3) := by decide +kernel
theorem dX12_minds_72 : decode cX12_minds 72 = .ok (.ifCond .eq 20, 3) := by decide +kernel
theorem dX12_minds_75 : decode cX12_minds 75 = .ok (.iload_n 2, 1) := by decide +kernel
theorem dX12_minds_76 : decode cX12_minds 76 = .ok (.i2l, 1) := by decide +kernel
theorem dX12_minds_77 : decode cX12_minds 77 = .ok (.iload 4, 2) := by decide +kernel
theorem dX12_minds_79 : decode cX12_minds 79 = .ok (.i2l, 1) := by decide +kernel
theorem dX12_minds_80 : decode cX12_minds 80 = .ok (.ladd, 1) := by decide +kernel
theorem dX12_minds_81 : decode cX12_minds 81 = .ok (.aload_n 0, 1) := by decide +kernel
theorem dX12_minds_82 : decode cX12_minds 82 = .ok (.getfield 37, 3) := by decide +kernel
theorem dX12_minds_85 : decode cX12_minds 85 = .ok (.iload_n 1, 1) := by decide +kernel
theorem dX12_minds_86 : decode cX12_minds 86 = .ok (.iaload, 1) := by decide +kernel
theorem dX12_minds_87 : decode cX12_minds 87 = .ok (.i2l, 1) := by decide +kernel
theorem dX12_minds_88 : decode cX12_minds 88 = .ok (.lcmp, 1) := by decide +kernel
theorem dX12_minds_89 : decode cX12_minds 89 = .ok (.ifCond .le 6, 3) := by decide +kernel
theorem dX12_minds_92 : decode cX12_minds 92 = .ok (.bipush (-12), 2) := by decide +kernel
theorem dX12_minds_94 : decode cX12_minds 94 = .ok (.ireturn, 1) := by decide +kernel
theorem dX12_minds_95 : decode cX12_minds 95 = .ok (.iconst 0, 1) := by decide +kernel
theorem dX12_minds_96 : decode cX12_minds 96 = .ok (.istore 5, 2) := by decide +kernel
theorem dX12_minds_98 : decode cX12_minds 98 = .ok (.iload 5, 2) := by decide +kernel
theorem dX12_minds_100 : decode cX12_minds 100 = .ok (.iload 4, 2) := by decide +kernel
theorem dX12_minds_102 : decode cX12_minds 102 = .ok (.if_icmp .ge 43, 3) := by decide +kernel
theorem dX12_minds_105 : decode cX12_minds 105 = .ok (.aload_n 0, 1) := by decide +kernel
theorem dX12_minds_106 : decode cX12_minds 106 = .ok (.getfield 7, 3) := by decide +kernel
theorem dX12_minds_109 : decode cX12_minds 109 = .ok (.bipush 16, 2) := by decide +kernel
theorem dX12_minds_111 : decode cX12_minds 111 = .ok (.bipush 6, 2) := by decide +kernel
theorem dX12_minds_113 : decode cX12_minds 113 = .ok (.iload_n 3, 1) := by decide +kernel
theorem dX12_minds_114 : decode cX12_minds 114 = .ok (.iload 5, 2) := by decide +kernel
theorem dX12_minds_116 : decode cX12_minds 116 = .ok (.iadd, 1) := by decide +kernel
theorem dX12_minds_117 : decode cX12_minds 117 = .ok (.imul, 1) := by decide +kernel
theorem dX12_minds_118 : decode cX12_minds 118 = .ok (.iadd, 1) := by decide +kernel
theorem dX12_minds_119 : decode cX12_minds 119 = .ok (.iconst 1, 1) := by decide +kernel
theorem dX12_minds_120 : decode cX12_minds 120 = .ok (.iadd, 1) := by decide +kernel
theorem dX12_minds_121 : decode cX12_minds 121 = .ok (.aload_n 0, 1) := by decide +kernel
theorem dX12_minds_122 : decode cX12_minds 122 = .ok (.getfield 40, 3) := by decide +kernel
