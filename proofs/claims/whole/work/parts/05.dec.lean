set_option maxRecDepth 20000 in
theorem gX11_fillFars_X1_life : GoodIn wsX11_fillFars (wsV RX11 131 RX1 yX1_life wsX1_life) := goodIn_app (goodIn_of _ (by decide +kernel)) ggX11_fillFars_X1_life
set_option maxRecDepth 20000 in
theorem ggX11_fillFars_X11_farSworn : GoodIn wsX11_fillFars wsX11_farSworn := goodIn_r _ [20, 21, 22, 23, 15, 24, 25, 2, 26, 27, 28, 29, 30, 31, 32, 33, 34, 35, 36, 37, 38, 39, 40, 41, 42, 43, 44, 6, 45, 46, 47, 48, 49, 9, 10, 11, 12, 50, 51, 52, 53, 54, 55, 14, 16, 56, 57, 58, 59, 60, 61, 62, 63, 64, 65, 66, 67, 68, 69, 70, 71, 72, 73, 74, 75, 76, 77, 78, 79, 80, 81, 82, 83, 84, 85, 86, 87, 88, 89, 90, 91, 92, 93, 94, 95, 96, 97, 98, 99, 100, 101, 102, 103, 104, 105, 106, 107, 108, 109, 110, 111, 112, 113, 114, 115, 116, 117, 118, 119, 120, 121, 122, 123, 124, 125, 126, 127, 128, 129, 130, 131, 132, 133, 134, 135, 136, 137, 138, 139, 140, 141, 142, 143, 144, 145, 146, 147, 148, 149, 150, 151, 152, 153, 154, 155, 156, 157, 158, 159, 160, 161, 162, 163, 164, 165, 166, 167, 168, 169, 170, 171, 172, 173, 174, 175, 176] (by decide +kernel) (by decide +kernel)
set_option maxRecDepth 20000 in
theorem gX11_fillFars_X11_farSworn : GoodIn wsX11_fillFars (wsV RX11 184 RX11 yX11_farSworn wsX11_farSworn) := goodIn_app (goodIn_of _ (by decide +kernel)) ggX11_fillFars_X11_farSworn
theorem dX11_fillFars_0 : decode cX11_fillFars 0 = .ok (.iconst 0, 1) := by decide +kernel
theorem dX11_fillFars_1 : decode cX11_fillFars 1 = .ok (.istore_n 2, 1) := by decide +kernel
theorem dX11_fillFars_2 : decode cX11_fillFars 2 = .ok (.iload_n 2, 1) := by decide +kernel
theorem dX11_fillFars_3 : decode cX11_fillFars 3 = .ok (.aload_n 0, 1) := by decide +kernel
theorem dX11_fillFars_4 : decode cX11_fillFars 4 = .ok (.getfield 74, 3) := by decide +kernel
theorem dX11_fillFars_7 : decode cX11_fillFars 7 = .ok (.arraylength, 1) := by decide +kernel
theorem dX11_fillFars_8 : decode cX11_fillFars 8 = .ok (.if_icmp .ge 41, 3) := by decide +kernel
theorem dX11_fillFars_11 : decode cX11_fillFars 11 = .ok (.aload_n 0, 1) := by decide +kernel
theorem dX11_fillFars_12 : decode cX11_fillFars 12 = .ok (.getfield 30, 3) := by decide +kernel
theorem dX11_fillFars_15 : decode cX11_fillFars 15 = .ok (.iload_n 2, 1) := by decide +kernel
theorem dX11_fillFars_16 : decode cX11_fillFars 16 = .ok (.bipush 8, 2) := by decide +kernel
theorem dX11_fillFars_18 : decode cX11_fillFars 18 = .ok (.idiv, 1) := by decide +kernel
theorem dX11_fillFars_19 : decode cX11_fillFars 19 = .ok (.invokevirtual 131, 3) := by decide +kernel
theorem dX11_fillFars_22 : decode cX11_fillFars 22 = .ok (.astore_n 3, 1) := by decide +kernel
theorem dX11_fillFars_23 : decode cX11_fillFars 23 = .ok (.aload_n 3, 1) := by decide +kernel
theorem dX11_fillFars_24 : decode cX11_fillFars 24 = .ok (.ifnull 19, 3) := by decide +kernel
theorem dX11_fillFars_27 : decode cX11_fillFars 27 = .ok (.aload_n 0, 1) := by decide +kernel
theorem dX11_fillFars_28 : decode cX11_fillFars 28 = .ok (.getfield 74, 3) := by decide +kernel
theorem dX11_fillFars_31 : decode cX11_fillFars 31 = .ok (.iload_n 2, 1) := by decide +kernel
theorem dX11_fillFars_32 : decode cX11_fillFars 32 = .ok (.aload_n 0, 1) := by decide +kernel
theorem dX11_fillFars_33 : decode cX11_fillFars 33 = .ok (.aload_n 3, 1) := by decide +kernel
theorem dX11_fillFars_34 : decode cX11_fillFars 34 = .ok (.iload_n 2, 1) := by decide +kernel
theorem dX11_fillFars_35 : decode cX11_fillFars 35 = .ok (.bipush 8, 2) := by decide +kernel
theorem dX11_fillFars_37 : decode cX11_fillFars 37 = .ok (.irem, 1) := by decide +kernel
theorem dX11_fillFars_38 : decode cX11_fillFars 38 = .ok (.iload_n 1, 1) := by decide +kernel
theorem dX11_fillFars_39 : decode cX11_fillFars 39 = .ok (.invokevirtual 184, 3) := by decide +kernel
theorem dX11_fillFars_42 : decode cX11_fillFars 42 = .ok (.iastore, 1) := by decide +kernel
theorem dX11_fillFars_43 : decode cX11_fillFars 43 = .ok (.iinc 2 1, 3) := by decide +kernel
theorem dX11_fillFars_46 : decode cX11_fillFars 46 = .ok (.goto (-44), 3) := by decide +kernel
theorem dX11_fillFars_49 : decode cX11_fillFars 49 = .ok (.return_, 1) := by decide +kernel
set_option maxRecDepth 20000 in
theorem ggX11_farAt_X11_within : GoodIn wsX11_farAt wsX11_within := goodIn_r _ [5] (by decide +kernel) (by decide +kernel)
set_option maxRecDepth 20000 in
theorem gX11_farAt_X11_within : GoodIn wsX11_farAt (va_wsS RX11 106 yX11_within wsX11_within) := goodIn_app (goodIn_of _ (by decide +kernel)) ggX11_farAt_X11_within
theorem dX11_farAt_0 : decode cX11_farAt 0 = .ok (.iload_n 1, 1) := by decide +kernel
theorem dX11_farAt_1 : decode cX11_farAt 1 = .ok (.bipush 8, 2) := by decide +kernel
theorem dX11_farAt_3 : decode cX11_farAt 3 = .ok (.imul, 1) := by decide +kernel
theorem dX11_farAt_4 : decode cX11_farAt 4 = .ok (.iload_n 2, 1) := by decide +kernel
theorem dX11_farAt_5 : decode cX11_farAt 5 = .ok (.iadd, 1) := by decide +kernel
theorem dX11_farAt_6 : decode cX11_farAt 6 = .ok (.istore_n 3, 1) := by decide +kernel
theorem dX11_farAt_7 : decode cX11_farAt 7 = .ok (.iload_n 3, 1) := by decide +kernel
theorem dX11_farAt_8 : decode cX11_farAt 8 = .ok (.aload_n 0, 1) := by decide +kernel
theorem dX11_farAt_9 : decode cX11_farAt 9 = .ok (.getfield 74, 3) := by decide +kernel
theorem dX11_farAt_12 : decode cX11_farAt 12 = .ok (.arraylength, 1) := by decide +kernel
theorem dX11_farAt_13 : decode cX11_farAt 13 = .ok (.iconst 1, 1) := by decide +kernel
theorem dX11_farAt_14 : decode cX11_farAt 14 = .ok (.isub, 1) := by decide +kernel
theorem dX11_farAt_15 : decode cX11_farAt 15 = .ok (.invokestatic 106, 3) := by decide +kernel
theorem dX11_farAt_18 : decode cX11_farAt 18 = .ok (.ifCond .eq 12, 3) := by decide +kernel
theorem dX11_farAt_21 : decode cX11_farAt 21 = .ok (.aload_n 0, 1) := by decide +kernel
theorem dX11_farAt_22 : decode cX11_farAt 22 = .ok (.getfield 74, 3) := by decide +kernel
theorem dX11_farAt_25 : decode cX11_farAt 25 = .ok (.iload_n 3, 1) := by decide +kernel
theorem dX11_farAt_26 : decode cX11_farAt 26 = .ok (.iaload, 1) := by decide +kernel
theorem dX11_farAt_27 : decode cX11_farAt 27 = .ok (.goto 4, 3) := by decide +kernel
theorem dX11_farAt_30 : decode cX11_farAt 30 = .ok (.iconst 0, 1) := by decide +kernel
theorem dX11_farAt_31 : decode cX11_farAt 31 = .ok (.ireturn, 1) := by decide +kernel
set_option maxRecDepth 20000 in
theorem ggX11_fits_X1_life : GoodIn wsX11_fits wsX1_life := goodIn_r _ [7, 8, 9, 10, 11, 12, 13, 14, 15, 16, 180, 181, 182, 183, 184, 185, 186, 187] (by decide +kernel) (by decide +kernel)
set_option maxRecDepth 20000 in
theorem gX11_fits_X1_life : GoodIn wsX11_fits (wsV RX11 131 RX1 yX1_life wsX1_life) := goodIn_app (goodIn_of _ (by decide +kernel)) ggX11_fits_X1_life
set_option maxRecDepth 20000 in
theorem ggX11_fits_X2_isSheet : GoodIn wsX11_fits wsX2_isSheet := goodIn_r _ [21, 14, 15, 16] (by decide +kernel) (by decide +kernel)
set_option maxRecDepth 20000 in
theorem gX11_fits_X2_isSheet : GoodIn wsX11_fits (wsV RX11 254 RX2 yX2_isSheet wsX2_isSheet) := goodIn_app (goodIn_of _ (by decide +kernel)) ggX11_fits_X2_isSheet
set_option maxRecDepth 20000 in
theorem ggX11_fits_X11_within : GoodIn wsX11_fits wsX11_within := goodIn_r _ [16] (by decide +kernel) (by decide +kernel)
set_option maxRecDepth 20000 in
theorem gX11_fits_X11_within : GoodIn wsX11_fits (va_wsS RX11 106 yX11_within wsX11_within) := goodIn_app (goodIn_of _ (by decide +kernel)) ggX11_fits_X11_within
set_option maxRecDepth 20000 in
theorem ggX11_fits_X2_isMissing : GoodIn wsX11_fits wsX2_isMissing := goodIn_r _ [26, 27, 28, 29, 20, 30, 31, 32, 18, 19, 21, 14, 15, 16, 188, 189, 190, 191, 192, 193] (by decide +kernel) (by decide +kernel)
set_option maxRecDepth 20000 in
theorem gX11_fits_X2_isMissing : GoodIn wsX11_fits (wsV RX11 257 RX2 yX2_isMissing wsX2_isMissing) := goodIn_app (goodIn_of _ (by decide +kernel)) ggX11_fits_X2_isMissing
set_option maxRecDepth 20000 in
theorem ggX11_fits_X11_isFit : GoodIn wsX11_fits wsX11_isFit := goodIn_r _ [36, 37, 38, 2, 1, 39, 40, 41, 42, 43, 44, 45, 46, 47, 48, 49, 50, 51, 52, 53, 54, 55, 20, 56, 57, 32, 18, 19, 21, 14, 15, 16, 58, 59, 60, 6, 61, 62, 63, 64, 65, 9, 10, 11, 12, 66, 67, 68, 69, 70, 71, 72, 73, 74, 75, 76, 77, 78, 79, 80, 81, 82, 83, 84, 85, 86, 87, 88, 89, 90, 91, 92, 93, 94, 95, 96, 97, 98, 99, 100, 101, 102, 103, 104, 105, 106, 107, 108, 109, 22, 110, 111, 112, 113, 114, 115, 116, 117, 118, 119, 120, 121, 122, 123, 124, 125, 126, 127, 128, 129, 130, 131, 132, 133, 134, 135, 136, 137, 138, 139, 140, 141, 142, 143, 144, 145, 146, 147, 148, 149, 150, 151, 152, 153, 154, 155, 156, 157, 158, 159, 160, 161, 162, 163, 164, 165, 166, 167, 168, 169, 170, 171, 172, 173, 174, 175, 176, 177, 178, 179, 194, 195, 196, 197, 198, 199, 180, 181, 182, 183, 184, 185, 186, 187, 188, 189, 190, 191, 192, 193] (by decide +kernel) (by decide +kernel)
set_option maxRecDepth 20000 in
theorem gX11_fits_X11_isFit : GoodIn wsX11_fits (wsV RX11 260 RX11 yX11_isFit wsX11_isFit) := goodIn_app (goodIn_of _ (by decide +kernel)) ggX11_fits_X11_isFit
theorem dX11_fits_0 : decode cX11_fits 0 = .ok (.aload_n 0, 1) := by decide +kernel
theorem dX11_fits_1 : decode cX11_fits 1 = .ok (.getfield 30, 3) := by decide +kernel
theorem dX11_fits_4 : decode cX11_fits 4 = .ok (.iload_n 2, 1) := by decide +kernel
theorem dX11_fits_5 : decode cX11_fits 5 = .ok (.invokevirtual 131, 3) := by decide +kernel
theorem dX11_fits_8 : decode cX11_fits 8 = .ok (.astore 4, 2) := by decide +kernel
theorem dX11_fits_10 : decode cX11_fits 10 = .ok (.aload_n 0, 1) := by decide +kernel
theorem dX11_fits_11 : decode cX11_fits 11 = .ok (.getfield 59, 3) := by decide +kernel
theorem dX11_fits_14 : decode cX11_fits 14 = .ok (.iload_n 1, 1) := by decide +kernel
theorem dX11_fits_15 : decode cX11_fits 15 = .ok (.invokevirtual 254, 3) := by decide +kernel
theorem dX11_fits_18 : decode cX11_fits 18 = .ok (.ifCond .eq 16, 3) := by decide +kernel
theorem dX11_fits_21 : decode cX11_fits 21 = .ok (.aload 4, 2) := by decide +kernel
theorem dX11_fits_23 : decode cX11_fits 23 = .ok (.ifnull 11, 3) := by decide +kernel
theorem dX11_fits_26 : decode cX11_fits 26 = .ok (.iload_n 3, 1) := by decide +kernel
theorem dX11_fits_27 : decode cX11_fits 27 = .ok (.iconst 1, 1) := by decide +kernel
theorem dX11_fits_28 : decode cX11_fits 28 = .ok (.invokestatic 106, 3) := by decide +kernel
theorem dX11_fits_31 : decode cX11_fits 31 = .ok (.ifCond .ne 5, 3) := by decide +kernel
theorem dX11_fits_34 : decode cX11_fits 34 = .ok (.iconst (-1), 1) := by decide +kernel
theorem dX11_fits_35 : decode cX11_fits 35 = .ok (.ireturn, 1) := by decide +kernel
theorem dX11_fits_36 : decode cX11_fits 36 = .ok (.aload_n 0, 1) := by decide +kernel
theorem dX11_fits_37 : decode cX11_fits 37 = .ok (.getfield 59, 3) := by decide +kernel
theorem dX11_fits_40 : decode cX11_fits 40 = .ok (.iload_n 1, 1) := by decide +kernel
theorem dX11_fits_41 : decode cX11_fits 41 = .ok (.invokevirtual 257, 3) := by decide +kernel
theorem dX11_fits_44 : decode cX11_fits 44 = .ok (.ifCond .eq 6, 3) := by decide +kernel
theorem dX11_fits_47 : decode cX11_fits 47 = .ok (.bipush (-11), 2) := by decide +kernel
theorem dX11_fits_49 : decode cX11_fits 49 = .ok (.ireturn, 1) := by decide +kernel
theorem dX11_fits_50 : decode cX11_fits 50 = .ok (.iconst 0, 1) := by decide +kernel
theorem dX11_fits_51 : decode cX11_fits 51 = .ok (.istore 5, 2) := by decide +kernel
theorem dX11_fits_53 : decode cX11_fits 53 = .ok (.bipush (-3), 2) := by decide +kernel
theorem dX11_fits_55 : decode cX11_fits 55 = .ok (.istore 6, 2) := by decide +kernel
theorem dX11_fits_57 : decode cX11_fits 57 = .ok (.bipush 7, 2) := by decide +kernel
theorem dX11_fits_59 : decode cX11_fits 59 = .ok (.istore 7, 2) := by decide +kernel
theorem dX11_fits_61 : decode cX11_fits 61 = .ok (.iload 7, 2) := by decide +kernel
theorem dX11_fits_63 : decode cX11_fits 63 = .ok (.ifCond .lt 28, 3) := by decide +kernel
theorem dX11_fits_66 : decode cX11_fits 66 = .ok (.aload_n 0, 1) := by decide +kernel
theorem dX11_fits_67 : decode cX11_fits 67 = .ok (.iload_n 1, 1) := by decide +kernel
theorem dX11_fits_68 : decode cX11_fits 68 = .ok (.aload 4, 2) := by decide +kernel
theorem dX11_fits_70 : decode cX11_fits 70 = .ok (.iload 7, 2) := by decide +kernel
theorem dX11_fits_72 : decode cX11_fits 72 = .ok (.invokevirtual 260, 3) := by decide +kernel
theorem dX11_fits_75 : decode cX11_fits 75 = .ok (.ifCond .eq 10, 3) := by decide +kernel
theorem dX11_fits_78 : decode cX11_fits 78 = .ok (.iinc 5 1, 3) := by decide +kernel
theorem dX11_fits_81 : decode cX11_fits 81 = .ok (.iload 7, 2) := by decide +kernel
theorem dX11_fits_83 : decode cX11_fits 83 = .ok (.istore 6, 2) := by decide +kernel
theorem dX11_fits_85 : decode cX11_fits 85 = .ok (.iinc 7 (-1), 3) := by decide +kernel
theorem dX11_fits_88 : decode cX11_fits 88 = .ok (.goto (-27), 3) := by decide +kernel
theorem dX11_fits_91 : decode cX11_fits 91 = .ok (.iload_n 3, 1) := by decide +kernel
theorem dX11_fits_92 : decode cX11_fits 92 = .ok (.ifCond .ne 8, 3) := by decide +kernel
theorem dX11_fits_95 : decode cX11_fits 95 = .ok (.iload 5, 2) := by decide +kernel
theorem dX11_fits_97 : decode cX11_fits 97 = .ok (.goto 5, 3) := by decide +kernel
theorem dX11_fits_100 : decode cX11_fits 100 = .ok (.iload 6, 2) := by decide +kernel
theorem dX11_fits_102 : decode cX11_fits 102 = .ok (.ireturn, 1) := by decide +kernel
set_option maxRecDepth 20000 in
theorem ggX11_isFit_X6_become : GoodIn wsX11_isFit wsX6_become := goodIn_r _ [12, 13, 14, 15, 16, 17, 18, 160, 161, 162, 163, 164, 165] (by decide +kernel) (by decide +kernel)
set_option maxRecDepth 20000 in
theorem gX11_isFit_X6_become : GoodIn wsX11_isFit (wsV RX11 203 RX6 yX6_become wsX6_become) := goodIn_app (goodIn_of _ (by decide +kernel)) ggX11_isFit_X6_become
set_option maxRecDepth 20000 in
theorem ggX11_isFit_X2_sizeOf : GoodIn wsX11_isFit wsX2_sizeOf := goodIn_r _ [23, 24, 25, 26, 27, 22, 28, 29, 30, 31, 174, 175, 176, 177, 178, 179] (by decide +kernel) (by decide +kernel)
set_option maxRecDepth 20000 in
theorem gX11_isFit_X2_sizeOf : GoodIn wsX11_isFit (wsV RX11 264 RX2 yX2_sizeOf wsX2_sizeOf) := goodIn_app (goodIn_of _ (by decide +kernel)) ggX11_isFit_X2_sizeOf
set_option maxRecDepth 20000 in
theorem ggX11_isFit_X1_passYearOf : GoodIn wsX11_isFit wsX1_passYearOf := goodIn_r _ [36, 37, 38, 39, 40, 41, 42, 43, 44, 45, 46, 47, 35, 48, 49, 50, 29, 30, 31, 51, 52, 53, 54, 55, 56, 57, 58, 59, 60, 61, 62, 63, 64, 65, 66, 67, 68, 69, 70, 71, 72, 73, 74, 75, 76, 77, 78, 79, 80, 81, 82, 83, 84, 85, 86, 87, 88, 89, 90, 91, 92, 93, 94, 95, 96, 97, 98, 99, 100, 101, 102, 103, 104, 105, 106, 107, 108, 109, 110, 111, 112, 113, 114, 115, 116, 117, 118, 119, 120, 121, 122, 123, 124, 125, 126, 127, 128, 129, 11, 130, 14, 131, 132, 133, 134, 135, 136, 137, 138, 160, 161, 162, 163, 164, 165, 166, 167, 168, 169, 170, 171, 172, 173] (by decide +kernel) (by decide +kernel)
set_option maxRecDepth 20000 in
theorem gX11_isFit_X1_passYearOf : GoodIn wsX11_isFit (wsV RX11 209 RX1 yX1_passYearOf wsX1_passYearOf) := goodIn_app (goodIn_of _ (by decide +kernel)) ggX11_isFit_X1_passYearOf
set_option maxRecDepth 20000 in
theorem ggX11_isFit_X2_itemAt : GoodIn wsX11_isFit wsX2_itemAt := goodIn_r _ [142, 143, 144, 145, 146, 22, 147, 24, 25, 26, 27, 28, 29, 30, 31, 174, 175, 176, 177, 178, 179] (by decide +kernel) (by decide +kernel)
set_option maxRecDepth 20000 in
theorem gX11_isFit_X2_itemAt : GoodIn wsX11_isFit (wsV RX11 267 RX2 yX2_itemAt wsX2_itemAt) := goodIn_app (goodIn_of _ (by decide +kernel)) ggX11_isFit_X2_itemAt
theorem dX11_isFit_0 : decode cX11_isFit 0 = .ok (.aload_n 0, 1) := by decide +kernel
theorem dX11_isFit_1 : decode cX11_isFit 1 = .ok (.getfield 45, 3) := by decide +kernel
theorem dX11_isFit_4 : decode cX11_isFit 4 = .ok (.aload_n 2, 1) := by decide +kernel
theorem dX11_isFit_5 : decode cX11_isFit 5 = .ok (.invokevirtual 203, 3) := by decide +kernel
theorem dX11_isFit_8 : decode cX11_isFit 8 = .ok (.aload_n 0, 1) := by decide +kernel
theorem dX11_isFit_9 : decode cX11_isFit 9 = .ok (.getfield 45, 3) := by decide +kernel
theorem dX11_isFit_12 : decode cX11_isFit 12 = .ok (.iload_n 3, 1) := by decide +kernel
theorem dX11_isFit_13 : decode cX11_isFit 13 = .ok (.putfield 156, 3) := by decide +kernel
theorem dX11_isFit_16 : decode cX11_isFit 16 = .ok (.aload_n 0, 1) := by decide +kernel
theorem dX11_isFit_17 : decode cX11_isFit 17 = .ok (.getfield 59, 3) := by decide +kernel
theorem dX11_isFit_20 : decode cX11_isFit 20 = .ok (.iload_n 1, 1) := by decide +kernel
theorem dX11_isFit_21 : decode cX11_isFit 21 = .ok (.invokevirtual 264, 3) := by decide +kernel
theorem dX11_isFit_24 : decode cX11_isFit 24 = .ok (.istore 4, 2) := by decide +kernel
theorem dX11_isFit_26 : decode cX11_isFit 26 = .ok (.iconst 0, 1) := by decide +kernel
theorem dX11_isFit_27 : decode cX11_isFit 27 = .ok (.istore 5, 2) := by decide +kernel
theorem dX11_isFit_29 : decode cX11_isFit 29 = .ok (.iload 5, 2) := by decide +kernel
theorem dX11_isFit_31 : decode cX11_isFit 31 = .ok (.iload 4, 2) := by decide +kernel
theorem dX11_isFit_33 : decode cX11_isFit 33 = .ok (.if_icmp .ge 67, 3) := by decide +kernel
theorem dX11_isFit_36 : decode cX11_isFit 36 = .ok (.aload_n 0, 1) := by decide +kernel
theorem dX11_isFit_37 : decode cX11_isFit 37 = .ok (.getfield 30, 3) := by decide +kernel
theorem dX11_isFit_40 : decode cX11_isFit 40 = .ok (.aload_n 0, 1) := by decide +kernel
theorem dX11_isFit_41 : decode cX11_isFit 41 = .ok (.getfield 45, 3) := by decide +kernel
theorem dX11_isFit_44 : decode cX11_isFit 44 = .ok (.aload_n 0, 1) := by decide +kernel
theorem dX11_isFit_45 : decode cX11_isFit 45 = .ok (.getfield 30, 3) := by decide +kernel
theorem dX11_isFit_48 : decode cX11_isFit 48 = .ok (.getfield 188, 3) := by decide +kernel
theorem dX11_isFit_51 : decode cX11_isFit 51 = .ok (.iload 5, 2) := by decide +kernel
theorem dX11_isFit_53 : decode cX11_isFit 53 = .ok (.iadd, 1) := by decide +kernel
theorem dX11_isFit_54 : decode cX11_isFit 54 = .ok (.invokevirtual 209, 3) := by decide +kernel
theorem dX11_isFit_57 : decode cX11_isFit 57 = .ok (.aload_n 0, 1) := by decide +kernel
theorem dX11_isFit_58 : decode cX11_isFit 58 = .ok (.getfield 59, 3) := by decide +kernel
theorem dX11_isFit_61 : decode cX11_isFit 61 = .ok (.iload_n 1, 1) := by decide +kernel
theorem dX11_isFit_62 : decode cX11_isFit 62 = .ok (.iload 5, 2) := by decide +kernel
theorem dX11_isFit_64 : decode cX11_isFit 64 = .ok (.invokevirtual 267, 3) := by decide +kernel
theorem dX11_isFit_67 : decode cX11_isFit 67 = .ok (.lstore 6, 2) := by decide +kernel
theorem dX11_isFit_69 : decode cX11_isFit 69 = .ok (.lload 6, 2) := by decide +kernel
theorem dX11_isFit_71 : decode cX11_isFit 71 = .ok (.ldc2_w 271, 3) := by decide +kernel
theorem dX11_isFit_74 : decode cX11_isFit 74 = .ok (.lcmp, 1) := by decide +kernel
theorem dX11_isFit_75 : decode cX11_isFit 75 = .ok (.ifCond .eq 19, 3) := by decide +kernel
theorem dX11_isFit_78 : decode cX11_isFit 78 = .ok (.lload 6, 2) := by decide +kernel
theorem dX11_isFit_80 : decode cX11_isFit 80 = .ok (.aload_n 0, 1) := by decide +kernel
theorem dX11_isFit_81 : decode cX11_isFit 81 = .ok (.getfield 45, 3) := by decide +kernel
theorem dX11_isFit_84 : decode cX11_isFit 84 = .ok (.getfield 200, 3) := by decide +kernel
theorem dX11_isFit_87 : decode cX11_isFit 87 = .ok (.i2l, 1) := by decide +kernel
theorem dX11_isFit_88 : decode cX11_isFit 88 = .ok (.lcmp, 1) := by decide +kernel
theorem dX11_isFit_89 : decode cX11_isFit 89 = .ok (.ifCond .eq 5, 3) := by decide +kernel
theorem dX11_isFit_92 : decode cX11_isFit 92 = .ok (.iconst 0, 1) := by decide +kernel
theorem dX11_isFit_93 : decode cX11_isFit 93 = .ok (.ireturn, 1) := by decide +kernel
theorem dX11_isFit_94 : decode cX11_isFit 94 = .ok (.iinc 5 1, 3) := by decide +kernel
theorem dX11_isFit_97 : decode cX11_isFit 97 = .ok (.goto (-68), 3) := by decide +kernel
theorem dX11_isFit_100 : decode cX11_isFit 100 = .ok (.iconst 1, 1) := by decide +kernel
theorem dX11_isFit_101 : decode cX11_isFit 101 = .ok (.ireturn, 1) := by decide +kernel
set_option maxRecDepth 20000 in
theorem ggX11_odds_X11_within : GoodIn wsX11_odds wsX11_within := goodIn_r _ [8] (by decide +kernel) (by decide +kernel)
set_option maxRecDepth 20000 in
theorem gX11_odds_X11_within : GoodIn wsX11_odds (va_wsS RX11 106 yX11_within wsX11_within) := goodIn_app (goodIn_of _ (by decide +kernel)) ggX11_odds_X11_within
set_option maxRecDepth 20000 in
theorem ggX11_odds_X11_ways : GoodIn wsX11_odds wsX11_ways := goodIn_r _ [11] (by decide +kernel) (by decide +kernel)
set_option maxRecDepth 20000 in
theorem gX11_odds_X11_ways : GoodIn wsX11_odds (va_wsS RX11 273 yX11_ways wsX11_ways) := goodIn_app (goodIn_of _ (by decide +kernel)) ggX11_odds_X11_ways
set_option maxRecDepth 20000 in
theorem ggX11_odds_X11_power : GoodIn wsX11_odds wsX11_power := goodIn_r _ [14] (by decide +kernel) (by decide +kernel)
set_option maxRecDepth 20000 in
theorem gX11_odds_X11_power : GoodIn wsX11_odds (va_wsS RX11 276 yX11_power wsX11_power) := goodIn_app (goodIn_of _ (by decide +kernel)) ggX11_odds_X11_power
set_option maxRecDepth 20000 in
theorem ggX11_odds_X11_partOf : GoodIn wsX11_odds wsX11_partOf := goodIn_r _ [17, 1, 18, 19, 7, 20] (by decide +kernel) (by decide +kernel)
set_option maxRecDepth 20000 in
theorem gX11_odds_X11_partOf : GoodIn wsX11_odds (va_wsS RX11 282 yX11_partOf wsX11_partOf) := goodIn_app (goodIn_of _ (by decide +kernel)) ggX11_odds_X11_partOf
theorem dX11_odds_0 : decode cX11_odds 0 = .ok (.iload_n 1, 1) := by decide +kernel
theorem dX11_odds_1 : decode cX11_odds 1 = .ok (.bipush 8, 2) := by decide +kernel
theorem dX11_odds_3 : decode cX11_odds 3 = .ok (.invokestatic 106, 3) := by decide +kernel
theorem dX11_odds_6 : decode cX11_odds 6 = .ok (.ifCond .eq 19, 3) := by decide +kernel
theorem dX11_odds_9 : decode cX11_odds 9 = .ok (.iload_n 2, 1) := by decide +kernel
theorem dX11_odds_10 : decode cX11_odds 10 = .ok (.iload_n 1, 1) := by decide +kernel
theorem dX11_odds_11 : decode cX11_odds 11 = .ok (.invokestatic 106, 3) := by decide +kernel
theorem dX11_odds_14 : decode cX11_odds 14 = .ok (.ifCond .eq 11, 3) := by decide +kernel
theorem dX11_odds_17 : decode cX11_odds 17 = .ok (.iload_n 3, 1) := by decide +kernel
theorem dX11_odds_18 : decode cX11_odds 18 = .ok (.iconst 1, 1) := by decide +kernel
theorem dX11_odds_19 : decode cX11_odds 19 = .ok (.invokestatic 106, 3) := by decide +kernel
theorem dX11_odds_22 : decode cX11_odds 22 = .ok (.ifCond .ne 7, 3) := by decide +kernel
theorem dX11_odds_25 : decode cX11_odds 25 = .ok (.ldc2_w 271, 3) := by decide +kernel
theorem dX11_odds_28 : decode cX11_odds 28 = .ok (.lreturn, 1) := by decide +kernel
theorem dX11_odds_29 : decode cX11_odds 29 = .ok (.aload_n 0, 1) := by decide +kernel
theorem dX11_odds_30 : decode cX11_odds 30 = .ok (.getfield 30, 3) := by decide +kernel
theorem dX11_odds_33 : decode cX11_odds 33 = .ok (.getfield 113, 3) := by decide +kernel
theorem dX11_odds_36 : decode cX11_odds 36 = .ok (.iconst 3, 1) := by decide +kernel
theorem dX11_odds_37 : decode cX11_odds 37 = .ok (.iaload, 1) := by decide +kernel
theorem dX11_odds_38 : decode cX11_odds 38 = .ok (.i2l, 1) := by decide +kernel
theorem dX11_odds_39 : decode cX11_odds 39 = .ok (.lstore 4, 2) := by decide +kernel
theorem dX11_odds_41 : decode cX11_odds 41 = .ok (.iload_n 1, 1) := by decide +kernel
theorem dX11_odds_42 : decode cX11_odds 42 = .ok (.iload_n 2, 1) := by decide +kernel
theorem dX11_odds_43 : decode cX11_odds 43 = .ok (.invokestatic 273, 3) := by decide +kernel
theorem dX11_odds_46 : decode cX11_odds 46 = .ok (.lload 4, 2) := by decide +kernel
theorem dX11_odds_48 : decode cX11_odds 48 = .ok (.iload_n 2, 1) := by decide +kernel
theorem dX11_odds_49 : decode cX11_odds 49 = .ok (.invokestatic 276, 3) := by decide +kernel
theorem dX11_odds_52 : decode cX11_odds 52 = .ok (.lmul, 1) := by decide +kernel
theorem dX11_odds_53 : decode cX11_odds 53 = .ok (.ldc2_w 280, 3) := by decide +kernel
theorem dX11_odds_56 : decode cX11_odds 56 = .ok (.lload 4, 2) := by decide +kernel
theorem dX11_odds_58 : decode cX11_odds 58 = .ok (.lsub, 1) := by decide +kernel
theorem dX11_odds_59 : decode cX11_odds 59 = .ok (.iload_n 1, 1) := by decide +kernel
theorem dX11_odds_60 : decode cX11_odds 60 = .ok (.iload_n 2, 1) := by decide +kernel
theorem dX11_odds_61 : decode cX11_odds 61 = .ok (.isub, 1) := by decide +kernel
theorem dX11_odds_62 : decode cX11_odds 62 = .ok (.invokestatic 276, 3) := by decide +kernel
theorem dX11_odds_65 : decode cX11_odds 65 = .ok (.lmul, 1) := by decide +kernel
theorem dX11_odds_66 : decode cX11_odds 66 = .ok (.lstore 6, 2) := by decide +kernel
theorem dX11_odds_68 : decode cX11_odds 68 = .ok (.lload 6, 2) := by decide +kernel
theorem dX11_odds_70 : decode cX11_odds 70 = .ok (.ldc2_w 280, 3) := by decide +kernel
theorem dX11_odds_73 : decode cX11_odds 73 = .ok (.iload_n 1, 1) := by decide +kernel
theorem dX11_odds_74 : decode cX11_odds 74 = .ok (.invokestatic 276, 3) := by decide +kernel
theorem dX11_odds_77 : decode cX11_odds 77 = .ok (.iload_n 3, 1) := by decide +kernel
theorem dX11_odds_78 : decode cX11_odds 78 = .ok (.invokestatic 282, 3) := by decide +kernel
theorem dX11_odds_81 : decode cX11_odds 81 = .ok (.lreturn, 1) := by decide +kernel
set_option maxRecDepth 20000 in
theorem ggX11_hope_X11_within : GoodIn wsX11_hope wsX11_within := goodIn_r _ [8] (by decide +kernel) (by decide +kernel)
set_option maxRecDepth 20000 in
theorem gX11_hope_X11_within : GoodIn wsX11_hope (va_wsS RX11 106 yX11_within wsX11_within) := goodIn_app (goodIn_of _ (by decide +kernel)) ggX11_hope_X11_within
set_option maxRecDepth 20000 in
theorem ggX11_hope_X11_partOf : GoodIn wsX11_hope wsX11_partOf := goodIn_r _ [11, 1, 12, 13, 7, 14] (by decide +kernel) (by decide +kernel)
set_option maxRecDepth 20000 in
theorem gX11_hope_X11_partOf : GoodIn wsX11_hope (va_wsS RX11 282 yX11_partOf wsX11_partOf) := goodIn_app (goodIn_of _ (by decide +kernel)) ggX11_hope_X11_partOf
theorem dX11_hope_0 : decode cX11_hope 0 = .ok (.iload_n 1, 1) := by decide +kernel
theorem dX11_hope_1 : decode cX11_hope 1 = .ok (.bipush 99, 2) := by decide +kernel
theorem dX11_hope_3 : decode cX11_hope 3 = .ok (.invokestatic 106, 3) := by decide +kernel
theorem dX11_hope_6 : decode cX11_hope 6 = .ok (.ifCond .eq 11, 3) := by decide +kernel
theorem dX11_hope_9 : decode cX11_hope 9 = .ok (.iload_n 2, 1) := by decide +kernel
theorem dX11_hope_10 : decode cX11_hope 10 = .ok (.iconst 1, 1) := by decide +kernel
theorem dX11_hope_11 : decode cX11_hope 11 = .ok (.invokestatic 106, 3) := by decide +kernel
theorem dX11_hope_14 : decode cX11_hope 14 = .ok (.ifCond .ne 7, 3) := by decide +kernel
theorem dX11_hope_17 : decode cX11_hope 17 = .ok (.ldc2_w 271, 3) := by decide +kernel
theorem dX11_hope_20 : decode cX11_hope 20 = .ok (.lreturn, 1) := by decide +kernel
theorem dX11_hope_21 : decode cX11_hope 21 = .ok (.iload_n 1, 1) := by decide +kernel
theorem dX11_hope_22 : decode cX11_hope 22 = .ok (.i2l, 1) := by decide +kernel
theorem dX11_hope_23 : decode cX11_hope 23 = .ok (.aload_n 0, 1) := by decide +kernel
theorem dX11_hope_24 : decode cX11_hope 24 = .ok (.getfield 30, 3) := by decide +kernel
theorem dX11_hope_27 : decode cX11_hope 27 = .ok (.getfield 113, 3) := by decide +kernel
theorem dX11_hope_30 : decode cX11_hope 30 = .ok (.iconst 3, 1) := by decide +kernel
theorem dX11_hope_31 : decode cX11_hope 31 = .ok (.iaload, 1) := by decide +kernel
theorem dX11_hope_32 : decode cX11_hope 32 = .ok (.i2l, 1) := by decide +kernel
theorem dX11_hope_33 : decode cX11_hope 33 = .ok (.lmul, 1) := by decide +kernel
theorem dX11_hope_34 : decode cX11_hope 34 = .ok (.ldc2_w 280, 3) := by decide +kernel
theorem dX11_hope_37 : decode cX11_hope 37 = .ok (.iload_n 2, 1) := by decide +kernel
theorem dX11_hope_38 : decode cX11_hope 38 = .ok (.invokestatic 282, 3) := by decide +kernel
theorem dX11_hope_41 : decode cX11_hope 41 = .ok (.lreturn, 1) := by decide +kernel
theorem dX11_ways_0 : decode cX11_ways 0 = .ok (.lconst 1, 1) := by decide +kernel
theorem dX11_ways_1 : decode cX11_ways 1 = .ok (.lstore_n 2, 1) := by decide +kernel
theorem dX11_ways_2 : decode cX11_ways 2 = .ok (.iconst 1, 1) := by decide +kernel
theorem dX11_ways_3 : decode cX11_ways 3 = .ok (.istore 4, 2) := by decide +kernel
theorem dX11_ways_5 : decode cX11_ways 5 = .ok (.iload 4, 2) := by decide +kernel
theorem dX11_ways_7 : decode cX11_ways 7 = .ok (.iload_n 1, 1) := by decide +kernel
theorem dX11_ways_8 : decode cX11_ways 8 = .ok (.if_icmp .gt 23, 3) := by decide +kernel
theorem dX11_ways_11 : decode cX11_ways 11 = .ok (.lload_n 2, 1) := by decide +kernel
theorem dX11_ways_12 : decode cX11_ways 12 = .ok (.iload_n 0, 1) := by decide +kernel
theorem dX11_ways_13 : decode cX11_ways 13 = .ok (.iload_n 1, 1) := by decide +kernel
theorem dX11_ways_14 : decode cX11_ways 14 = .ok (.isub, 1) := by decide +kernel
theorem dX11_ways_15 : decode cX11_ways 15 = .ok (.iload 4, 2) := by decide +kernel
theorem dX11_ways_17 : decode cX11_ways 17 = .ok (.iadd, 1) := by decide +kernel
theorem dX11_ways_18 : decode cX11_ways 18 = .ok (.i2l, 1) := by decide +kernel
theorem dX11_ways_19 : decode cX11_ways 19 = .ok (.lmul, 1) := by decide +kernel
theorem dX11_ways_20 : decode cX11_ways 20 = .ok (.iload 4, 2) := by decide +kernel
theorem dX11_ways_22 : decode cX11_ways 22 = .ok (.i2l, 1) := by decide +kernel
theorem dX11_ways_23 : decode cX11_ways 23 = .ok (.ldiv, 1) := by decide +kernel
theorem dX11_ways_24 : decode cX11_ways 24 = .ok (.lstore_n 2, 1) := by decide +kernel
theorem dX11_ways_25 : decode cX11_ways 25 = .ok (.iinc 4 1, 3) := by decide +kernel
theorem dX11_ways_28 : decode cX11_ways 28 = .ok (.goto (-23), 3) := by decide +kernel
theorem dX11_ways_31 : decode cX11_ways 31 = .ok (.lload_n 2, 1) := by decide +kernel
theorem dX11_ways_32 : decode cX11_ways 32 = .ok (.lreturn, 1) := by decide +kernel
theorem dX11_power_0 : decode cX11_power 0 = .ok (.lconst 1, 1) := by decide +kernel
theorem dX11_power_1 : decode cX11_power 1 = .ok (.lstore_n 3, 1) := by decide +kernel
theorem dX11_power_2 : decode cX11_power 2 = .ok (.iconst 0, 1) := by decide +kernel
theorem dX11_power_3 : decode cX11_power 3 = .ok (.istore 5, 2) := by decide +kernel
theorem dX11_power_5 : decode cX11_power 5 = .ok (.iload 5, 2) := by decide +kernel
theorem dX11_power_7 : decode cX11_power 7 = .ok (.iload_n 2, 1) := by decide +kernel
theorem dX11_power_8 : decode cX11_power 8 = .ok (.if_icmp .ge 13, 3) := by decide +kernel
theorem dX11_power_11 : decode cX11_power 11 = .ok (.lload_n 3, 1) := by decide +kernel
theorem dX11_power_12 : decode cX11_power 12 = .ok (.lload_n 0, 1) := by decide +kernel
theorem dX11_power_13 : decode cX11_power 13 = .ok (.lmul, 1) := by decide +kernel
theorem dX11_power_14 : decode cX11_power 14 = .ok (.lstore_n 3, 1) := by decide +kernel
theorem dX11_power_15 : decode cX11_power 15 = .ok (.iinc 5 1, 3) := by decide +kernel
theorem dX11_power_18 : decode cX11_power 18 = .ok (.goto (-13), 3) := by decide +kernel
theorem dX11_power_21 : decode cX11_power 21 = .ok (.lload_n 3, 1) := by decide +kernel
theorem dX11_power_22 : decode cX11_power 22 = .ok (.lreturn, 1) := by decide +kernel
set_option maxRecDepth 20000 in
theorem ggX11_partOf_X11_commonDivisor : GoodIn wsX11_partOf wsX11_commonDivisor := goodIn_r _ [5] (by decide +kernel) (by decide +kernel)
set_option maxRecDepth 20000 in
theorem gX11_partOf_X11_commonDivisor : GoodIn wsX11_partOf (va_wsS RX11 286 yX11_commonDivisor wsX11_commonDivisor) := goodIn_app (goodIn_of _ (by decide +kernel)) ggX11_partOf_X11_commonDivisor
theorem dX11_partOf_0 : decode cX11_partOf 0 = .ok (.lload_n 0, 1) := by decide +kernel
theorem dX11_partOf_1 : decode cX11_partOf 1 = .ok (.lload_n 2, 1) := by decide +kernel
theorem dX11_partOf_2 : decode cX11_partOf 2 = .ok (.invokestatic 286, 3) := by decide +kernel
theorem dX11_partOf_5 : decode cX11_partOf 5 = .ok (.lstore 5, 2) := by decide +kernel
theorem dX11_partOf_7 : decode cX11_partOf 7 = .ok (.lload 5, 2) := by decide +kernel
theorem dX11_partOf_9 : decode cX11_partOf 9 = .ok (.lconst 0, 1) := by decide +kernel
theorem dX11_partOf_10 : decode cX11_partOf 10 = .ok (.lcmp, 1) := by decide +kernel
theorem dX11_partOf_11 : decode cX11_partOf 11 = .ok (.ifCond .ne 7, 3) := by decide +kernel
theorem dX11_partOf_14 : decode cX11_partOf 14 = .ok (.ldc2_w 271, 3) := by decide +kernel
theorem dX11_partOf_17 : decode cX11_partOf 17 = .ok (.lreturn, 1) := by decide +kernel
theorem dX11_partOf_18 : decode cX11_partOf 18 = .ok (.iload 4, 2) := by decide +kernel
theorem dX11_partOf_20 : decode cX11_partOf 20 = .ok (.ifCond .ne 7, 3) := by decide +kernel
theorem dX11_partOf_23 : decode cX11_partOf 23 = .ok (.lload_n 0, 1) := by decide +kernel
theorem dX11_partOf_24 : decode cX11_partOf 24 = .ok (.goto 4, 3) := by decide +kernel
theorem dX11_partOf_27 : decode cX11_partOf 27 = .ok (.lload_n 2, 1) := by decide +kernel
theorem dX11_partOf_28 : decode cX11_partOf 28 = .ok (.lload 5, 2) := by decide +kernel
theorem dX11_partOf_30 : decode cX11_partOf 30 = .ok (.ldiv, 1) := by decide +kernel
theorem dX11_partOf_31 : decode cX11_partOf 31 = .ok (.lreturn, 1) := by decide +kernel
theorem dX11_commonDivisor_0 : decode cX11_commonDivisor 0 = .ok (.lload_n 0, 1) := by decide +kernel
theorem dX11_commonDivisor_1 : decode cX11_commonDivisor 1 = .ok (.lstore 4, 2) := by decide +kernel
theorem dX11_commonDivisor_3 : decode cX11_commonDivisor 3 = .ok (.lload_n 2, 1) := by decide +kernel
theorem dX11_commonDivisor_4 : decode cX11_commonDivisor 4 = .ok (.lstore 6, 2) := by decide +kernel
theorem dX11_commonDivisor_6 : decode cX11_commonDivisor 6 = .ok (.iconst 0, 1) := by decide +kernel
theorem dX11_commonDivisor_7 : decode cX11_commonDivisor 7 = .ok (.istore 8, 2) := by decide +kernel
theorem dX11_commonDivisor_9 : decode cX11_commonDivisor 9 = .ok (.iload 8, 2) := by decide +kernel
theorem dX11_commonDivisor_11 : decode cX11_commonDivisor 11 = .ok (.sipush 200, 3) := by decide +kernel
theorem dX11_commonDivisor_14 : decode cX11_commonDivisor 14 = .ok (.if_icmp .ge 31, 3) := by decide +kernel
theorem dX11_commonDivisor_17 : decode cX11_commonDivisor 17 = .ok (.lload 6, 2) := by decide +kernel
theorem dX11_commonDivisor_19 : decode cX11_commonDivisor 19 = .ok (.lconst 0, 1) := by decide +kernel
theorem dX11_commonDivisor_20 : decode cX11_commonDivisor 20 = .ok (.lcmp, 1) := by decide +kernel
theorem dX11_commonDivisor_21 : decode cX11_commonDivisor 21 = .ok (.ifCond .eq 24, 3) := by decide +kernel
theorem dX11_commonDivisor_24 : decode cX11_commonDivisor 24 = .ok (.lload 4, 2) := by decide +kernel
theorem dX11_commonDivisor_26 : decode cX11_commonDivisor 26 = .ok (.lload 6, 2) := by decide +kernel
theorem dX11_commonDivisor_28 : decode cX11_commonDivisor 28 = .ok (.lrem, 1) := by decide +kernel
theorem dX11_commonDivisor_29 : decode cX11_commonDivisor 29 = .ok (.lstore 9, 2) := by decide +kernel
theorem dX11_commonDivisor_31 : decode cX11_commonDivisor 31 = .ok (.lload 6, 2) := by decide +kernel
theorem dX11_commonDivisor_33 : decode cX11_commonDivisor 33 = .ok (.lstore 4, 2) := by decide +kernel
theorem dX11_commonDivisor_35 : decode cX11_commonDivisor 35 = .ok (.lload 9, 2) := by decide +kernel
theorem dX11_commonDivisor_37 : decode cX11_commonDivisor 37 = .ok (.lstore 6, 2) := by decide +kernel
theorem dX11_commonDivisor_39 : decode cX11_commonDivisor 39 = .ok (.iinc 8 1, 3) := by decide +kernel
theorem dX11_commonDivisor_42 : decode cX11_commonDivisor 42 = .ok (.goto (-33), 3) := by decide +kernel
theorem dX11_commonDivisor_45 : decode cX11_commonDivisor 45 = .ok (.lload 4, 2) := by decide +kernel
theorem dX11_commonDivisor_47 : decode cX11_commonDivisor 47 = .ok (.lreturn, 1) := by decide +kernel
set_option maxRecDepth 20000 in
theorem ggX11_prove_X1_life : GoodIn wsX11_prove wsX1_life := goodIn_r _ [10, 11, 12, 13, 14, 15, 16, 17, 18, 19, 158, 159, 160, 161, 162, 163, 164, 165] (by decide +kernel) (by decide +kernel)
set_option maxRecDepth 20000 in
theorem gX11_prove_X1_life : GoodIn wsX11_prove (wsV RX11 131 RX1 yX1_life wsX1_life) := goodIn_app (goodIn_of _ (by decide +kernel)) ggX11_prove_X1_life
set_option maxRecDepth 20000 in
theorem ggX11_prove_X6_become : GoodIn wsX11_prove wsX6_become := goodIn_r _ [24, 25, 26, 27, 28, 29, 30, 166, 167, 168, 169, 170, 171] (by decide +kernel) (by decide +kernel)
set_option maxRecDepth 20000 in
theorem gX11_prove_X6_become : GoodIn wsX11_prove (wsV RX11 203 RX6 yX6_become wsX6_become) := goodIn_app (goodIn_of _ (by decide +kernel)) ggX11_prove_X6_become
set_option maxRecDepth 20000 in
theorem ggX11_prove_X1_passYearOf : GoodIn wsX11_prove wsX1_passYearOf := goodIn_r _ [34, 35, 36, 37, 38, 12, 13, 14, 15, 39, 40, 41, 9, 42, 43, 44, 17, 18, 19, 45, 46, 47, 48, 49, 50, 51, 52, 53, 54, 55, 56, 57, 58, 59, 60, 61, 62, 63, 64, 65, 66, 67, 68, 69, 70, 71, 72, 73, 74, 75, 76, 77, 78, 79, 80, 81, 82, 83, 84, 85, 86, 87, 88, 89, 90, 91, 92, 93, 94, 95, 96, 97, 98, 99, 100, 101, 102, 103, 104, 105, 106, 107, 108, 109, 110, 111, 112, 113, 114, 115, 116, 117, 118, 119, 120, 121, 122, 123, 23, 124, 26, 125, 126, 127, 128, 129, 130, 131, 132, 166, 167, 168, 169, 170, 171, 158, 159, 160, 161, 162, 163, 164, 165] (by decide +kernel) (by decide +kernel)
set_option maxRecDepth 20000 in
theorem gX11_prove_X1_passYearOf : GoodIn wsX11_prove (wsV RX11 209 RX1 yX1_passYearOf wsX1_passYearOf) := goodIn_app (goodIn_of _ (by decide +kernel)) ggX11_prove_X1_passYearOf
set_option maxRecDepth 20000 in
theorem ggX11_prove_X11_toldOfTried : GoodIn wsX11_prove wsX11_toldOfTried := goodIn_r _ [136, 2, 137, 138, 139, 140, 141, 23, 142, 26, 28, 143, 144, 14, 145, 146, 147, 148, 149, 150, 151, 152, 153, 154, 155, 156, 157, 166, 167, 168, 169, 170, 171] (by decide +kernel) (by decide +kernel)
set_option maxRecDepth 20000 in
theorem gX11_prove_X11_toldOfTried : GoodIn wsX11_prove (wsV RX11 290 RX11 yX11_toldOfTried wsX11_toldOfTried) := goodIn_app (goodIn_of _ (by decide +kernel)) ggX11_prove_X11_toldOfTried
theorem dX11_prove_0 : decode cX11_prove 0 = .ok (.aload_n 0, 1) := by decide +kernel
theorem dX11_prove_1 : decode cX11_prove 1 = .ok (.getfield 30, 3) := by decide +kernel
theorem dX11_prove_4 : decode cX11_prove 4 = .ok (.iload_n 1, 1) := by decide +kernel
theorem dX11_prove_5 : decode cX11_prove 5 = .ok (.invokevirtual 131, 3) := by decide +kernel
theorem dX11_prove_8 : decode cX11_prove 8 = .ok (.astore_n 3, 1) := by decide +kernel
theorem dX11_prove_9 : decode cX11_prove 9 = .ok (.aload_n 3, 1) := by decide +kernel
theorem dX11_prove_10 : decode cX11_prove 10 = .ok (.ifnull 14, 3) := by decide +kernel
theorem dX11_prove_13 : decode cX11_prove 13 = .ok (.iload_n 2, 1) := by decide +kernel
theorem dX11_prove_14 : decode cX11_prove 14 = .ok (.iconst 1, 1) := by decide +kernel
theorem dX11_prove_15 : decode cX11_prove 15 = .ok (.if_icmp .lt 9, 3) := by decide +kernel
theorem dX11_prove_18 : decode cX11_prove 18 = .ok (.iload_n 2, 1) := by decide +kernel
theorem dX11_prove_19 : decode cX11_prove 19 = .ok (.bipush 10, 2) := by decide +kernel
theorem dX11_prove_21 : decode cX11_prove 21 = .ok (.if_icmp .le 5, 3) := by decide +kernel
theorem dX11_prove_24 : decode cX11_prove 24 = .ok (.iconst (-1), 1) := by decide +kernel
theorem dX11_prove_25 : decode cX11_prove 25 = .ok (.ireturn, 1) := by decide +kernel
theorem dX11_prove_26 : decode cX11_prove 26 = .ok (.aload_n 0, 1) := by decide +kernel
theorem dX11_prove_27 : decode cX11_prove 27 = .ok (.getfield 45, 3) := by decide +kernel
theorem dX11_prove_30 : decode cX11_prove 30 = .ok (.aload_n 3, 1) := by decide +kernel
theorem dX11_prove_31 : decode cX11_prove 31 = .ok (.invokevirtual 203, 3) := by decide +kernel
theorem dX11_prove_34 : decode cX11_prove 34 = .ok (.iconst 0, 1) := by decide +kernel
theorem dX11_prove_35 : decode cX11_prove 35 = .ok (.istore 4, 2) := by decide +kernel
theorem dX11_prove_37 : decode cX11_prove 37 = .ok (.iload 4, 2) := by decide +kernel
theorem dX11_prove_39 : decode cX11_prove 39 = .ok (.iload_n 2, 1) := by decide +kernel
theorem dX11_prove_40 : decode cX11_prove 40 = .ok (.if_icmp .ge 63, 3) := by decide +kernel
theorem dX11_prove_43 : decode cX11_prove 43 = .ok (.aload_n 0, 1) := by decide +kernel
theorem dX11_prove_44 : decode cX11_prove 44 = .ok (.getfield 30, 3) := by decide +kernel
theorem dX11_prove_47 : decode cX11_prove 47 = .ok (.aload_n 0, 1) := by decide +kernel
theorem dX11_prove_48 : decode cX11_prove 48 = .ok (.getfield 45, 3) := by decide +kernel
theorem dX11_prove_51 : decode cX11_prove 51 = .ok (.aload_n 0, 1) := by decide +kernel
theorem dX11_prove_52 : decode cX11_prove 52 = .ok (.getfield 30, 3) := by decide +kernel
theorem dX11_prove_55 : decode cX11_prove 55 = .ok (.getfield 188, 3) := by decide +kernel
theorem dX11_prove_58 : decode cX11_prove 58 = .ok (.iload 4, 2) := by decide +kernel
theorem dX11_prove_60 : decode cX11_prove 60 = .ok (.iadd, 1) := by decide +kernel
theorem dX11_prove_61 : decode cX11_prove 61 = .ok (.invokevirtual 209, 3) := by decide +kernel
theorem dX11_prove_64 : decode cX11_prove 64 = .ok (.iconst 0, 1) := by decide +kernel
theorem dX11_prove_65 : decode cX11_prove 65 = .ok (.istore 5, 2) := by decide +kernel
theorem dX11_prove_67 : decode cX11_prove 67 = .ok (.iload 5, 2) := by decide +kernel
theorem dX11_prove_69 : decode cX11_prove 69 = .ok (.iconst 3, 1) := by decide +kernel
theorem dX11_prove_70 : decode cX11_prove 70 = .ok (.if_icmp .ge 27, 3) := by decide +kernel
theorem dX11_prove_73 : decode cX11_prove 73 = .ok (.aload_n 0, 1) := by decide +kernel
theorem dX11_prove_74 : decode cX11_prove 74 = .ok (.getfield 70, 3) := by decide +kernel
theorem dX11_prove_77 : decode cX11_prove 77 = .ok (.iload 4, 2) := by decide +kernel
theorem dX11_prove_79 : decode cX11_prove 79 = .ok (.iconst 3, 1) := by decide +kernel
theorem dX11_prove_80 : decode cX11_prove 80 = .ok (.imul, 1) := by decide +kernel
theorem dX11_prove_81 : decode cX11_prove 81 = .ok (.iload 5, 2) := by decide +kernel
theorem dX11_prove_83 : decode cX11_prove 83 = .ok (.iadd, 1) := by decide +kernel
theorem dX11_prove_84 : decode cX11_prove 84 = .ok (.aload_n 0, 1) := by decide +kernel
theorem dX11_prove_85 : decode cX11_prove 85 = .ok (.iload 5, 2) := by decide +kernel
theorem dX11_prove_87 : decode cX11_prove 87 = .ok (.invokevirtual 290, 3) := by decide +kernel
theorem dX11_prove_90 : decode cX11_prove 90 = .ok (.iastore, 1) := by decide +kernel
theorem dX11_prove_91 : decode cX11_prove 91 = .ok (.iinc 5 1, 3) := by decide +kernel
theorem dX11_prove_94 : decode cX11_prove 94 = .ok (.goto (-27), 3) := by decide +kernel
theorem dX11_prove_97 : decode cX11_prove 97 = .ok (.iinc 4 1, 3) := by decide +kernel
theorem dX11_prove_100 : decode cX11_prove 100 = .ok (.goto (-63), 3) := by decide +kernel
theorem dX11_prove_103 : decode cX11_prove 103 = .ok (.aload_n 0, 1) := by decide +kernel
theorem dX11_prove_104 : decode cX11_prove 104 = .ok (.iload_n 2, 1) := by decide +kernel
theorem dX11_prove_105 : decode cX11_prove 105 = .ok (.putfield 102, 3) := by decide +kernel
theorem dX11_prove_108 : decode cX11_prove 108 = .ok (.iload_n 2, 1) := by decide +kernel
theorem dX11_prove_109 : decode cX11_prove 109 = .ok (.ireturn, 1) := by decide +kernel
set_option maxRecDepth 20000 in
theorem ggX11_toldOfTried_X6_distance : GoodIn wsX11_toldOfTried wsX6_distance := goodIn_r _ [8, 9, 10, 11, 12, 13, 14, 27, 28, 29, 30, 31, 32] (by decide +kernel) (by decide +kernel)
set_option maxRecDepth 20000 in
theorem gX11_toldOfTried_X6_distance : GoodIn wsX11_toldOfTried (wsV RX11 206 RX6 yX6_distance wsX6_distance) := goodIn_app (goodIn_of _ (by decide +kernel)) ggX11_toldOfTried_X6_distance
theorem dX11_toldOfTried_0 : decode cX11_toldOfTried 0 = .ok (.iload_n 1, 1) := by decide +kernel
theorem dX11_toldOfTried_1 : decode cX11_toldOfTried 1 = .ok (.lookupswitch 43 #[(0, 27), (1, 35)], 27) := by decide +kernel
theorem dX11_toldOfTried_28 : decode cX11_toldOfTried 28 = .ok (.aload_n 0, 1) := by decide +kernel
theorem dX11_toldOfTried_29 : decode cX11_toldOfTried 29 = .ok (.getfield 45, 3) := by decide +kernel
theorem dX11_toldOfTried_32 : decode cX11_toldOfTried 32 = .ok (.getfield 200, 3) := by decide +kernel
theorem dX11_toldOfTried_35 : decode cX11_toldOfTried 35 = .ok (.ireturn, 1) := by decide +kernel
theorem dX11_toldOfTried_36 : decode cX11_toldOfTried 36 = .ok (.aload_n 0, 1) := by decide +kernel
theorem dX11_toldOfTried_37 : decode cX11_toldOfTried 37 = .ok (.getfield 45, 3) := by decide +kernel
theorem dX11_toldOfTried_40 : decode cX11_toldOfTried 40 = .ok (.getfield 293, 3) := by decide +kernel
theorem dX11_toldOfTried_43 : decode cX11_toldOfTried 43 = .ok (.ireturn, 1) := by decide +kernel
theorem dX11_toldOfTried_44 : decode cX11_toldOfTried 44 = .ok (.aload_n 0, 1) := by decide +kernel
theorem dX11_toldOfTried_45 : decode cX11_toldOfTried 45 = .ok (.getfield 45, 3) := by decide +kernel
theorem dX11_toldOfTried_48 : decode cX11_toldOfTried 48 = .ok (.invokevirtual 206, 3) := by decide +kernel
theorem dX11_toldOfTried_51 : decode cX11_toldOfTried 51 = .ok (.ireturn, 1) := by decide +kernel
set_option maxRecDepth 20000 in
theorem ggX11_isInRows_X11_within : GoodIn wsX11_isInRows wsX11_within := goodIn_r _ [5] (by decide +kernel) (by decide +kernel)
set_option maxRecDepth 20000 in
theorem gX11_isInRows_X11_within : GoodIn wsX11_isInRows (va_wsS RX11 106 yX11_within wsX11_within) := goodIn_app (goodIn_of _ (by decide +kernel)) ggX11_isInRows_X11_within
theorem dX11_isInRows_0 : decode cX11_isInRows 0 = .ok (.iload_n 1, 1) := by decide +kernel
theorem dX11_isInRows_1 : decode cX11_isInRows 1 = .ok (.aload_n 0, 1) := by decide +kernel
theorem dX11_isInRows_2 : decode cX11_isInRows 2 = .ok (.getfield 102, 3) := by decide +kernel
theorem dX11_isInRows_5 : decode cX11_isInRows 5 = .ok (.iconst 1, 1) := by decide +kernel
theorem dX11_isInRows_6 : decode cX11_isInRows 6 = .ok (.isub, 1) := by decide +kernel
theorem dX11_isInRows_7 : decode cX11_isInRows 7 = .ok (.invokestatic 106, 3) := by decide +kernel
theorem dX11_isInRows_10 : decode cX11_isInRows 10 = .ok (.ifCond .eq 15, 3) := by decide +kernel
theorem dX11_isInRows_13 : decode cX11_isInRows 13 = .ok (.iload_n 2, 1) := by decide +kernel
theorem dX11_isInRows_14 : decode cX11_isInRows 14 = .ok (.iconst 2, 1) := by decide +kernel
theorem dX11_isInRows_15 : decode cX11_isInRows 15 = .ok (.invokestatic 106, 3) := by decide +kernel
theorem dX11_isInRows_18 : decode cX11_isInRows 18 = .ok (.ifCond .eq 7, 3) := by decide +kernel
theorem dX11_isInRows_21 : decode cX11_isInRows 21 = .ok (.iconst 1, 1) := by decide +kernel
theorem dX11_isInRows_22 : decode cX11_isInRows 22 = .ok (.goto 4, 3) := by decide +kernel
theorem dX11_isInRows_25 : decode cX11_isInRows 25 = .ok (.iconst 0, 1) := by decide +kernel
theorem dX11_isInRows_26 : decode cX11_isInRows 26 = .ok (.ireturn, 1) := by decide +kernel
set_option maxRecDepth 20000 in
theorem ggX11_row_X11_isInRows : GoodIn wsX11_row wsX11_isInRows := goodIn_r _ [6, 7, 8, 9, 5, 10, 11, 12, 13, 14, 15, 16, 17, 18, 19, 20, 21, 22] (by decide +kernel) (by decide +kernel)
set_option maxRecDepth 20000 in
theorem gX11_row_X11_isInRows : GoodIn wsX11_row (wsV RX11 296 RX11 yX11_isInRows wsX11_isInRows) := goodIn_app (goodIn_of _ (by decide +kernel)) ggX11_row_X11_isInRows
theorem dX11_row_0 : decode cX11_row 0 = .ok (.aload_n 0, 1) := by decide +kernel
theorem dX11_row_1 : decode cX11_row 1 = .ok (.iload_n 1, 1) := by decide +kernel
theorem dX11_row_2 : decode cX11_row 2 = .ok (.iload_n 2, 1) := by decide +kernel
theorem dX11_row_3 : decode cX11_row 3 = .ok (.invokevirtual 296, 3) := by decide +kernel
theorem dX11_row_6 : decode cX11_row 6 = .ok (.ifCond .eq 16, 3) := by decide +kernel
theorem dX11_row_9 : decode cX11_row 9 = .ok (.aload_n 0, 1) := by decide +kernel
theorem dX11_row_10 : decode cX11_row 10 = .ok (.getfield 70, 3) := by decide +kernel
theorem dX11_row_13 : decode cX11_row 13 = .ok (.iload_n 1, 1) := by decide +kernel
theorem dX11_row_14 : decode cX11_row 14 = .ok (.iconst 3, 1) := by decide +kernel
theorem dX11_row_15 : decode cX11_row 15 = .ok (.imul, 1) := by decide +kernel
theorem dX11_row_16 : decode cX11_row 16 = .ok (.iload_n 2, 1) := by decide +kernel
theorem dX11_row_17 : decode cX11_row 17 = .ok (.iadd, 1) := by decide +kernel
theorem dX11_row_18 : decode cX11_row 18 = .ok (.iaload, 1) := by decide +kernel
theorem dX11_row_19 : decode cX11_row 19 = .ok (.goto 5, 3) := by decide +kernel
theorem dX11_row_22 : decode cX11_row 22 = .ok (.bipush (-9), 2) := by decide +kernel
theorem dX11_row_24 : decode cX11_row 24 = .ok (.ireturn, 1) := by decide +kernel
set_option maxRecDepth 20000 in
theorem ggX11_alterRow_X11_isInRows : GoodIn wsX11_alterRow wsX11_isInRows := goodIn_r _ [6, 7, 8, 9, 5, 10, 11, 12, 13, 14, 15, 16, 17, 18, 19, 20, 21, 22] (by decide +kernel) (by decide +kernel)
set_option maxRecDepth 20000 in
theorem gX11_alterRow_X11_isInRows : GoodIn wsX11_alterRow (wsV RX11 296 RX11 yX11_isInRows wsX11_isInRows) := goodIn_app (goodIn_of _ (by decide +kernel)) ggX11_alterRow_X11_isInRows
theorem dX11_alterRow_0 : decode cX11_alterRow 0 = .ok (.aload_n 0, 1) := by decide +kernel
theorem dX11_alterRow_1 : decode cX11_alterRow 1 = .ok (.iload_n 1, 1) := by decide +kernel
theorem dX11_alterRow_2 : decode cX11_alterRow 2 = .ok (.iload_n 2, 1) := by decide +kernel
theorem dX11_alterRow_3 : decode cX11_alterRow 3 = .ok (.invokevirtual 296, 3) := by decide +kernel
theorem dX11_alterRow_6 : decode cX11_alterRow 6 = .ok (.ifCond .ne 6, 3) := by decide +kernel
theorem dX11_alterRow_9 : decode cX11_alterRow 9 = .ok (.bipush (-9), 2) := by decide +kernel
theorem dX11_alterRow_11 : decode cX11_alterRow 11 = .ok (.ireturn, 1) := by decide +kernel
theorem dX11_alterRow_12 : decode cX11_alterRow 12 = .ok (.aload_n 0, 1) := by decide +kernel
theorem dX11_alterRow_13 : decode cX11_alterRow 13 = .ok (.getfield 70, 3) := by decide +kernel
theorem dX11_alterRow_16 : decode cX11_alterRow 16 = .ok (.iload_n 1, 1) := by decide +kernel
theorem dX11_alterRow_17 : decode cX11_alterRow 17 = .ok (.iconst 3, 1) := by decide +kernel
theorem dX11_alterRow_18 : decode cX11_alterRow 18 = .ok (.imul, 1) := by decide +kernel
theorem dX11_alterRow_19 : decode cX11_alterRow 19 = .ok (.iload_n 2, 1) := by decide +kernel
theorem dX11_alterRow_20 : decode cX11_alterRow 20 = .ok (.iadd, 1) := by decide +kernel
theorem dX11_alterRow_21 : decode cX11_alterRow 21 = .ok (.iaload, 1) := by decide +kernel
theorem dX11_alterRow_22 : decode cX11_alterRow 22 = .ok (.istore 4, 2) := by decide +kernel
theorem dX11_alterRow_24 : decode cX11_alterRow 24 = .ok (.aload_n 0, 1) := by decide +kernel
theorem dX11_alterRow_25 : decode cX11_alterRow 25 = .ok (.getfield 70, 3) := by decide +kernel
theorem dX11_alterRow_28 : decode cX11_alterRow 28 = .ok (.iload_n 1, 1) := by decide +kernel
theorem dX11_alterRow_29 : decode cX11_alterRow 29 = .ok (.iconst 3, 1) := by decide +kernel
theorem dX11_alterRow_30 : decode cX11_alterRow 30 = .ok (.imul, 1) := by decide +kernel
theorem dX11_alterRow_31 : decode cX11_alterRow 31 = .ok (.iload_n 2, 1) := by decide +kernel
theorem dX11_alterRow_32 : decode cX11_alterRow 32 = .ok (.iadd, 1) := by decide +kernel
theorem dX11_alterRow_33 : decode cX11_alterRow 33 = .ok (.iload_n 3, 1) := by decide +kernel
theorem dX11_alterRow_34 : decode cX11_alterRow 34 = .ok (.iastore, 1) := by decide +kernel
theorem dX11_alterRow_35 : decode cX11_alterRow 35 = .ok (.iload 4, 2) := by decide +kernel
theorem dX11_alterRow_37 : decode cX11_alterRow 37 = .ok (.ireturn, 1) := by decide +kernel
set_option maxRecDepth 20000 in
theorem ggX11_judge_X1_life : GoodIn wsX11_judge wsX1_life := goodIn_r _ [10, 11, 12, 13, 14, 15, 16, 17, 18, 19, 158, 159, 160, 161, 162, 163, 164, 165] (by decide +kernel) (by decide +kernel)
set_option maxRecDepth 20000 in
theorem gX11_judge_X1_life : GoodIn wsX11_judge (wsV RX11 131 RX1 yX1_life wsX1_life) := goodIn_app (goodIn_of _ (by decide +kernel)) ggX11_judge_X1_life
set_option maxRecDepth 20000 in
theorem ggX11_judge_X6_become : GoodIn wsX11_judge wsX6_become := goodIn_r _ [24, 25, 26, 27, 28, 29, 30, 166, 167, 168, 169, 170, 171] (by decide +kernel) (by decide +kernel)
set_option maxRecDepth 20000 in
theorem gX11_judge_X6_become : GoodIn wsX11_judge (wsV RX11 203 RX6 yX6_become wsX6_become) := goodIn_app (goodIn_of _ (by decide +kernel)) ggX11_judge_X6_become
set_option maxRecDepth 20000 in
theorem ggX11_judge_X1_passYearOf : GoodIn wsX11_judge wsX1_passYearOf := goodIn_r _ [34, 35, 36, 37, 38, 12, 13, 14, 15, 39, 40, 41, 9, 42, 43, 44, 17, 18, 19, 45, 46, 47, 48, 49, 50, 51, 52, 53, 54, 55, 56, 57, 58, 59, 60, 61, 62, 63, 64, 65, 66, 67, 68, 69, 70, 71, 72, 73, 74, 75, 76, 77, 78, 79, 80, 81, 82, 83, 84, 85, 86, 87, 88, 89, 90, 91, 92, 93, 94, 95, 96, 97, 98, 99, 100, 101, 102, 103, 104, 105, 106, 107, 108, 109, 110, 111, 112, 113, 114, 115, 116, 117, 118, 119, 120, 121, 122, 123, 23, 124, 26, 125, 126, 127, 128, 129, 130, 131, 132, 166, 167, 168, 169, 170, 171, 158, 159, 160, 161, 162, 163, 164, 165] (by decide +kernel) (by decide +kernel)
set_option maxRecDepth 20000 in
theorem gX11_judge_X1_passYearOf : GoodIn wsX11_judge (wsV RX11 209 RX1 yX1_passYearOf wsX1_passYearOf) := goodIn_app (goodIn_of _ (by decide +kernel)) ggX11_judge_X1_passYearOf
set_option maxRecDepth 20000 in
theorem ggX11_judge_X11_toldOfTried : GoodIn wsX11_judge wsX11_toldOfTried := goodIn_r _ [136, 2, 137, 138, 139, 140, 141, 23, 142, 26, 28, 143, 144, 14, 145, 146, 147, 148, 149, 150, 151, 152, 153, 154, 155, 156, 157, 166, 167, 168, 169, 170, 171] (by decide +kernel) (by decide +kernel)
set_option maxRecDepth 20000 in
theorem gX11_judge_X11_toldOfTried : GoodIn wsX11_judge (wsV RX11 290 RX11 yX11_toldOfTried wsX11_toldOfTried) := goodIn_app (goodIn_of _ (by decide +kernel)) ggX11_judge_X11_toldOfTried
theorem dX11_judge_0 : decode cX11_judge 0 = .ok (.aload_n 0, 1) := by decide +kernel
theorem dX11_judge_1 : decode cX11_judge 1 = .ok (.getfield 30, 3) := by decide +kernel
theorem dX11_judge_4 : decode cX11_judge 4 = .ok (.iload_n 1, 1) := by decide +kernel
theorem dX11_judge_5 : decode cX11_judge 5 = .ok (.invokevirtual 131, 3) := by decide +kernel
theorem dX11_judge_8 : decode cX11_judge 8 = .ok (.astore_n 2, 1) := by decide +kernel
theorem dX11_judge_9 : decode cX11_judge 9 = .ok (.aload_n 2, 1) := by decide +kernel
theorem dX11_judge_10 : decode cX11_judge 10 = .ok (.ifnonnull 5, 3) := by decide +kernel
theorem dX11_judge_13 : decode cX11_judge 13 = .ok (.iconst (-1), 1) := by decide +kernel
theorem dX11_judge_14 : decode cX11_judge 14 = .ok (.ireturn, 1) := by decide +kernel
theorem dX11_judge_15 : decode cX11_judge 15 = .ok (.aload_n 0, 1) := by decide +kernel
theorem dX11_judge_16 : decode cX11_judge 16 = .ok (.getfield 45, 3) := by decide +kernel
theorem dX11_judge_19 : decode cX11_judge 19 = .ok (.aload_n 2, 1) := by decide +kernel
theorem dX11_judge_20 : decode cX11_judge 20 = .ok (.invokevirtual 203, 3) := by decide +kernel
theorem dX11_judge_23 : decode cX11_judge 23 = .ok (.iconst 0, 1) := by decide +kernel
theorem dX11_judge_24 : decode cX11_judge 24 = .ok (.istore_n 3, 1) := by decide +kernel
theorem dX11_judge_25 : decode cX11_judge 25 = .ok (.iload_n 3, 1) := by decide +kernel
theorem dX11_judge_26 : decode cX11_judge 26 = .ok (.aload_n 0, 1) := by decide +kernel
theorem dX11_judge_27 : decode cX11_judge 27 = .ok (.getfield 102, 3) := by decide +kernel
theorem dX11_judge_30 : decode cX11_judge 30 = .ok (.if_icmp .ge 68, 3) := by decide +kernel
theorem dX11_judge_33 : decode cX11_judge 33 = .ok (.aload_n 0, 1) := by decide +kernel
theorem dX11_judge_34 : decode cX11_judge 34 = .ok (.getfield 30, 3) := by decide +kernel
theorem dX11_judge_37 : decode cX11_judge 37 = .ok (.aload_n 0, 1) := by decide +kernel
theorem dX11_judge_38 : decode cX11_judge 38 = .ok (.getfield 45, 3) := by decide +kernel
theorem dX11_judge_41 : decode cX11_judge 41 = .ok (.aload_n 0, 1) := by decide +kernel
theorem dX11_judge_42 : decode cX11_judge 42 = .ok (.getfield 30, 3) := by decide +kernel
theorem dX11_judge_45 : decode cX11_judge 45 = .ok (.getfield 188, 3) := by decide +kernel
theorem dX11_judge_48 : decode cX11_judge 48 = .ok (.iload_n 3, 1) := by decide +kernel
theorem dX11_judge_49 : decode cX11_judge 49 = .ok (.iadd, 1) := by decide +kernel
theorem dX11_judge_50 : decode cX11_judge 50 = .ok (.invokevirtual 209, 3) := by decide +kernel
theorem dX11_judge_53 : decode cX11_judge 53 = .ok (.iconst 0, 1) := by decide +kernel
theorem dX11_judge_54 : decode cX11_judge 54 = .ok (.istore 4, 2) := by decide +kernel
theorem dX11_judge_56 : decode cX11_judge 56 = .ok (.iload 4, 2) := by decide +kernel
theorem dX11_judge_58 : decode cX11_judge 58 = .ok (.iconst 3, 1) := by decide +kernel
theorem dX11_judge_59 : decode cX11_judge 59 = .ok (.if_icmp .ge 33, 3) := by decide +kernel
theorem dX11_judge_62 : decode cX11_judge 62 = .ok (.aload_n 0, 1) := by decide +kernel
theorem dX11_judge_63 : decode cX11_judge 63 = .ok (.getfield 70, 3) := by decide +kernel
theorem dX11_judge_66 : decode cX11_judge 66 = .ok (.iload_n 3, 1) := by decide +kernel
theorem dX11_judge_67 : decode cX11_judge 67 = .ok (.iconst 3, 1) := by decide +kernel
theorem dX11_judge_68 : decode cX11_judge 68 = .ok (.imul, 1) := by decide +kernel
theorem dX11_judge_69 : decode cX11_judge 69 = .ok (.iload 4, 2) := by decide +kernel
theorem dX11_judge_71 : decode cX11_judge 71 = .ok (.iadd, 1) := by decide +kernel
theorem dX11_judge_72 : decode cX11_judge 72 = .ok (.iaload, 1) := by decide +kernel
theorem dX11_judge_73 : decode cX11_judge 73 = .ok (.aload_n 0, 1) := by decide +kernel
theorem dX11_judge_74 : decode cX11_judge 74 = .ok (.iload 4, 2) := by decide +kernel
theorem dX11_judge_76 : decode cX11_judge 76 = .ok (.invokevirtual 290, 3) := by decide +kernel
theorem dX11_judge_79 : decode cX11_judge 79 = .ok (.if_icmp .eq 7, 3) := by decide +kernel
theorem dX11_judge_82 : decode cX11_judge 82 = .ok (.iload_n 3, 1) := by decide +kernel
theorem dX11_judge_83 : decode cX11_judge 83 = .ok (.iconst 1, 1) := by decide +kernel
theorem dX11_judge_84 : decode cX11_judge 84 = .ok (.iadd, 1) := by decide +kernel
theorem dX11_judge_85 : decode cX11_judge 85 = .ok (.ireturn, 1) := by decide +kernel
theorem dX11_judge_86 : decode cX11_judge 86 = .ok (.iinc 4 1, 3) := by decide +kernel
theorem dX11_judge_89 : decode cX11_judge 89 = .ok (.goto (-33), 3) := by decide +kernel
theorem dX11_judge_92 : decode cX11_judge 92 = .ok (.iinc 3 1, 3) := by decide +kernel
theorem dX11_judge_95 : decode cX11_judge 95 = .ok (.goto (-70), 3) := by decide +kernel
theorem dX11_judge_98 : decode cX11_judge 98 = .ok (.iconst 0, 1) := by decide +kernel
theorem dX11_judge_99 : decode cX11_judge 99 = .ok (.ireturn, 1) := by decide +kernel
set_option maxRecDepth 20000 in
theorem ggX11_minds_X2_isSheet : GoodIn wsX11_minds wsX2_isSheet := goodIn_r _ [9, 10, 11, 12] (by decide +kernel) (by decide +kernel)
set_option maxRecDepth 20000 in
theorem gX11_minds_X2_isSheet : GoodIn wsX11_minds (wsV RX11 254 RX2 yX2_isSheet wsX2_isSheet) := goodIn_app (goodIn_of _ (by decide +kernel)) ggX11_minds_X2_isSheet
set_option maxRecDepth 20000 in
theorem ggX11_minds_X1_life : GoodIn wsX11_minds wsX1_life := goodIn_r _ [17, 18, 19, 20, 21, 22, 23, 10, 11, 12, 69, 70, 71, 72, 73, 74, 75, 76] (by decide +kernel) (by decide +kernel)
set_option maxRecDepth 20000 in
theorem gX11_minds_X1_life : GoodIn wsX11_minds (wsV RX11 131 RX1 yX1_life wsX1_life) := goodIn_app (goodIn_of _ (by decide +kernel)) ggX11_minds_X1_life
set_option maxRecDepth 20000 in
theorem ggX11_minds_X11_within : GoodIn wsX11_minds wsX11_within := goodIn_r _ [12] (by decide +kernel) (by decide +kernel)
set_option maxRecDepth 20000 in
theorem gX11_minds_X11_within : GoodIn wsX11_minds (va_wsS RX11 106 yX11_within wsX11_within) := goodIn_app (goodIn_of _ (by decide +kernel)) ggX11_minds_X11_within
set_option maxRecDepth 20000 in
theorem ggX11_minds_X2_isMissing : GoodIn wsX11_minds wsX2_isMissing := goodIn_r _ [28, 29, 30, 31, 8, 32, 33, 34, 6, 7, 9, 10, 11, 12, 83, 84, 85, 86, 87, 88] (by decide +kernel) (by decide +kernel)
set_option maxRecDepth 20000 in
theorem gX11_minds_X2_isMissing : GoodIn wsX11_minds (wsV RX11 257 RX2 yX2_isMissing wsX2_isMissing) := goodIn_app (goodIn_of _ (by decide +kernel)) ggX11_minds_X2_isMissing
set_option maxRecDepth 20000 in
theorem ggX11_minds_X2_sortOf : GoodIn wsX11_minds wsX2_sortOf := goodIn_r _ [32, 33, 34, 6, 7, 8, 9, 10, 11, 12, 83, 84, 85, 86, 87, 88] (by decide +kernel) (by decide +kernel)
set_option maxRecDepth 20000 in
theorem gX11_minds_X2_sortOf : GoodIn wsX11_minds (wsV RX11 299 RX2 yX2_sortOf wsX2_sortOf) := goodIn_app (goodIn_of _ (by decide +kernel)) ggX11_minds_X2_sortOf
set_option maxRecDepth 20000 in
theorem ggX11_minds_X2_sizeOf : GoodIn wsX11_minds wsX2_sizeOf := goodIn_r _ [39, 40, 34, 6, 7, 8, 9, 10, 11, 12, 83, 84, 85, 86, 87, 88] (by decide +kernel) (by decide +kernel)
set_option maxRecDepth 20000 in
theorem gX11_minds_X2_sizeOf : GoodIn wsX11_minds (wsV RX11 264 RX2 yX2_sizeOf wsX2_sizeOf) := goodIn_app (goodIn_of _ (by decide +kernel)) ggX11_minds_X2_sizeOf
set_option maxRecDepth 20000 in
theorem ggX11_minds_X2_itemAt : GoodIn wsX11_minds wsX2_itemAt := goodIn_r _ [44, 45, 46, 47, 48, 8, 49, 40, 34, 6, 7, 9, 10, 11, 12, 83, 84, 85, 86, 87, 88] (by decide +kernel) (by decide +kernel)
set_option maxRecDepth 20000 in
theorem gX11_minds_X2_itemAt : GoodIn wsX11_minds (wsV RX11 267 RX2 yX2_itemAt wsX2_itemAt) := goodIn_app (goodIn_of _ (by decide +kernel)) ggX11_minds_X2_itemAt
set_option maxRecDepth 20000 in
theorem ggX11_minds_X11_held : GoodIn wsX11_minds wsX11_held := goodIn_r _ [52, 53, 20, 21, 22, 54, 55, 56] (by decide +kernel) (by decide +kernel)
set_option maxRecDepth 20000 in
theorem gX11_minds_X11_held : GoodIn wsX11_minds (va_wsS RX11 302 yX11_held wsX11_held) := goodIn_app (goodIn_of _ (by decide +kernel)) ggX11_minds_X11_held
theorem dX11_minds_0 : decode cX11_minds 0 = .ok (.aload_n 0, 1) := by decide +kernel
theorem dX11_minds_1 : decode cX11_minds 1 = .ok (.getfield 59, 3) := by decide +kernel
theorem dX11_minds_4 : decode cX11_minds 4 = .ok (.iload_n 1, 1) := by decide +kernel
theorem dX11_minds_5 : decode cX11_minds 5 = .ok (.invokevirtual 254, 3) := by decide +kernel
theorem dX11_minds_8 : decode cX11_minds 8 = .ok (.ifCond .eq 24, 3) := by decide +kernel
theorem dX11_minds_11 : decode cX11_minds 11 = .ok (.aload_n 0, 1) := by decide +kernel
theorem dX11_minds_12 : decode cX11_minds 12 = .ok (.getfield 30, 3) := by decide +kernel
theorem dX11_minds_15 : decode cX11_minds 15 = .ok (.iload_n 3, 1) := by decide +kernel
theorem dX11_minds_16 : decode cX11_minds 16 = .ok (.invokevirtual 131, 3) := by decide +kernel
theorem dX11_minds_19 : decode cX11_minds 19 = .ok (.ifnull 13, 3) := by decide +kernel
theorem dX11_minds_22 : decode cX11_minds 22 = .ok (.iload 4, 2) := by decide +kernel
theorem dX11_minds_24 : decode cX11_minds 24 = .ok (.bipush 8, 2) := by decide +kernel
theorem dX11_minds_26 : decode cX11_minds 26 = .ok (.invokestatic 106, 3) := by decide +kernel
theorem dX11_minds_29 : decode cX11_minds 29 = .ok (.ifCond .ne 5, 3) := by decide +kernel
theorem dX11_minds_32 : decode cX11_minds 32 = .ok (.iconst (-1), 1) := by decide +kernel
theorem dX11_minds_33 : decode cX11_minds 33 = .ok (.ireturn, 1) := by decide +kernel
theorem dX11_minds_34 : decode cX11_minds 34 = .ok (.iload_n 3, 1) := by decide +kernel
theorem dX11_minds_35 : decode cX11_minds 35 = .ok (.iload 4, 2) := by decide +kernel
theorem dX11_minds_37 : decode cX11_minds 37 = .ok (.iadd, 1) := by decide +kernel
theorem dX11_minds_38 : decode cX11_minds 38 = .ok (.aload_n 0, 1) := by decide +kernel
theorem dX11_minds_39 : decode cX11_minds 39 = .ok (.getfield 30, 3) := by decide +kernel
theorem dX11_minds_42 : decode cX11_minds 42 = .ok (.getfield 105, 3) := by decide +kernel
theorem dX11_minds_45 : decode cX11_minds 45 = .ok (.if_icmp .le 5, 3) := by decide +kernel
theorem dX11_minds_48 : decode cX11_minds 48 = .ok (.iconst (-1), 1) := by decide +kernel
theorem dX11_minds_49 : decode cX11_minds 49 = .ok (.ireturn, 1) := by decide +kernel
theorem dX11_minds_50 : decode cX11_minds 50 = .ok (.aload_n 0, 1) := by decide +kernel
theorem dX11_minds_51 : decode cX11_minds 51 = .ok (.getfield 59, 3) := by decide +kernel
theorem dX11_minds_54 : decode cX11_minds 54 = .ok (.iload_n 1, 1) := by decide +kernel
theorem dX11_minds_55 : decode cX11_minds 55 = .ok (.invokevirtual 257, 3) := by decide +kernel
theorem dX11_minds_58 : decode cX11_minds 58 = .ok (.ifCond .eq 6, 3) := by decide +kernel
theorem dX11_minds_61 : decode cX11_minds 61 = .ok (.bipush (-11), 2) := by decide +kernel
theorem dX11_minds_63 : decode cX11_minds 63 = .ok (.ireturn, 1) := by decide +kernel
theorem dX11_minds_64 : decode cX11_minds 64 = .ok (.aload_n 0, 1) := by decide +kernel
theorem dX11_minds_65 : decode cX11_minds 65 = .ok (.getfield 59, 3) := by decide +kernel
theorem dX11_minds_68 : decode cX11_minds 68 = .ok (.iload_n 1, 1) := by decide +kernel
theorem dX11_minds_69 : decode cX11_minds 69 = .ok (.invokevirtual 299, 3) := by decide +kernel
theorem dX11_minds_72 : decode cX11_minds 72 = .ok (.ifCond .eq 6, 3) := by decide +kernel
theorem dX11_minds_75 : decode cX11_minds 75 = .ok (.bipush (-13), 2) := by decide +kernel
theorem dX11_minds_77 : decode cX11_minds 77 = .ok (.ireturn, 1) := by decide +kernel
theorem dX11_minds_78 : decode cX11_minds 78 = .ok (.aload_n 0, 1) := by decide +kernel
theorem dX11_minds_79 : decode cX11_minds 79 = .ok (.getfield 59, 3) := by decide +kernel
theorem dX11_minds_82 : decode cX11_minds 82 = .ok (.iload_n 1, 1) := by decide +kernel
theorem dX11_minds_83 : decode cX11_minds 83 = .ok (.invokevirtual 264, 3) := by decide +kernel
theorem dX11_minds_86 : decode cX11_minds 86 = .ok (.istore 5, 2) := by decide +kernel
theorem dX11_minds_88 : decode cX11_minds 88 = .ok (.iload_n 2, 1) := by decide +kernel
theorem dX11_minds_89 : decode cX11_minds 89 = .ok (.iload 5, 2) := by decide +kernel
theorem dX11_minds_91 : decode cX11_minds 91 = .ok (.invokestatic 106, 3) := by decide +kernel
theorem dX11_minds_94 : decode cX11_minds 94 = .ok (.ifCond .eq 12, 3) := by decide +kernel
theorem dX11_minds_97 : decode cX11_minds 97 = .ok (.iload 4, 2) := by decide +kernel
theorem dX11_minds_99 : decode cX11_minds 99 = .ok (.iload 5, 2) := by decide +kernel
theorem dX11_minds_101 : decode cX11_minds 101 = .ok (.iload_n 2, 1) := by decide +kernel
theorem dX11_minds_102 : decode cX11_minds 102 = .ok (.isub, 1) := by decide +kernel
theorem dX11_minds_103 : decode cX11_minds 103 = .ok (.if_icmp .le 6, 3) := by decide +kernel
theorem dX11_minds_106 : decode cX11_minds 106 = .ok (.bipush (-12), 2) := by decide +kernel
theorem dX11_minds_108 : decode cX11_minds 108 = .ok (.ireturn, 1) := by decide +kernel
theorem dX11_minds_109 : decode cX11_minds 109 = .ok (.iconst 0, 1) := by decide +kernel
theorem dX11_minds_110 : decode cX11_minds 110 = .ok (.istore 6, 2) := by decide +kernel
theorem dX11_minds_112 : decode cX11_minds 112 = .ok (.iload 6, 2) := by decide +kernel
theorem dX11_minds_114 : decode cX11_minds 114 = .ok (.iload 4, 2) := by decide +kernel
theorem dX11_minds_116 : decode cX11_minds 116 = .ok (.if_icmp .ge 48, 3) := by decide +kernel
theorem dX11_minds_119 : decode cX11_minds 119 = .ok (.aload_n 0, 1) := by decide +kernel
theorem dX11_minds_120 : decode cX11_minds 120 = .ok (.getfield 30, 3) := by decide +kernel
theorem dX11_minds_123 : decode cX11_minds 123 = .ok (.iload_n 3, 1) := by decide +kernel
theorem dX11_minds_124 : decode cX11_minds 124 = .ok (.iload 6, 2) := by decide +kernel
theorem dX11_minds_126 : decode cX11_minds 126 = .ok (.iadd, 1) := by decide +kernel
theorem dX11_minds_127 : decode cX11_minds 127 = .ok (.invokevirtual 131, 3) := by decide +kernel
theorem dX11_minds_130 : decode cX11_minds 130 = .ok (.astore 7, 2) := by decide +kernel
theorem dX11_minds_132 : decode cX11_minds 132 = .ok (.aload 7, 2) := by decide +kernel
theorem dX11_minds_134 : decode cX11_minds 134 = .ok (.ifnull 24, 3) := by decide +kernel
theorem dX11_minds_137 : decode cX11_minds 137 = .ok (.aload 7, 2) := by decide +kernel
theorem dX11_minds_139 : decode cX11_minds 139 = .ok (.aload_n 0, 1) := by decide +kernel
theorem dX11_minds_140 : decode cX11_minds 140 = .ok (.getfield 59, 3) := by decide +kernel
theorem dX11_minds_143 : decode cX11_minds 143 = .ok (.iload_n 1, 1) := by decide +kernel
theorem dX11_minds_144 : decode cX11_minds 144 = .ok (.iload_n 2, 1) := by decide +kernel
theorem dX11_minds_145 : decode cX11_minds 145 = .ok (.iload 6, 2) := by decide +kernel
theorem dX11_minds_147 : decode cX11_minds 147 = .ok (.iadd, 1) := by decide +kernel
theorem dX11_minds_148 : decode cX11_minds 148 = .ok (.invokevirtual 267, 3) := by decide +kernel
theorem dX11_minds_151 : decode cX11_minds 151 = .ok (.l2i, 1) := by decide +kernel
theorem dX11_minds_152 : decode cX11_minds 152 = .ok (.invokestatic 302, 3) := by decide +kernel
theorem dX11_minds_155 : decode cX11_minds 155 = .ok (.putfield 200, 3) := by decide +kernel
theorem dX11_minds_158 : decode cX11_minds 158 = .ok (.iinc 6 1, 3) := by decide +kernel
theorem dX11_minds_161 : decode cX11_minds 161 = .ok (.goto (-49), 3) := by decide +kernel
theorem dX11_minds_164 : decode cX11_minds 164 = .ok (.iload 4, 2) := by decide +kernel
theorem dX11_minds_166 : decode cX11_minds 166 = .ok (.ireturn, 1) := by decide +kernel
set_option maxRecDepth 20000 in
theorem ggX11_sheet_X2_isSheet : GoodIn wsX11_sheet wsX2_isSheet := goodIn_r _ [6, 7, 8, 9] (by decide +kernel) (by decide +kernel)
set_option maxRecDepth 20000 in
theorem gX11_sheet_X2_isSheet : GoodIn wsX11_sheet (wsV RX11 254 RX2 yX2_isSheet wsX2_isSheet) := goodIn_app (goodIn_of _ (by decide +kernel)) ggX11_sheet_X2_isSheet
set_option maxRecDepth 20000 in
theorem ggX11_sheet_X2_lay : GoodIn wsX11_sheet wsX2_lay := goodIn_r _ [13, 14, 15, 16, 17, 3, 4, 5, 6, 7, 8, 9, 30, 31, 32, 33, 34, 35] (by decide +kernel) (by decide +kernel)
set_option maxRecDepth 20000 in
theorem gX11_sheet_X2_lay : GoodIn wsX11_sheet (wsV RX11 305 RX2 yX2_lay wsX2_lay) := goodIn_app (goodIn_of _ (by decide +kernel)) ggX11_sheet_X2_lay
theorem dX11_sheet_0 : decode cX11_sheet 0 = .ok (.aload_n 0, 1) := by decide +kernel
theorem dX11_sheet_1 : decode cX11_sheet 1 = .ok (.getfield 59, 3) := by decide +kernel
theorem dX11_sheet_4 : decode cX11_sheet 4 = .ok (.iload_n 1, 1) := by decide +kernel
theorem dX11_sheet_5 : decode cX11_sheet 5 = .ok (.invokevirtual 254, 3) := by decide +kernel
theorem dX11_sheet_8 : decode cX11_sheet 8 = .ok (.ifCond .eq 13, 3) := by decide +kernel
theorem dX11_sheet_11 : decode cX11_sheet 11 = .ok (.iload_n 2, 1) := by decide +kernel
theorem dX11_sheet_12 : decode cX11_sheet 12 = .ok (.iconst (-1), 1) := by decide +kernel
theorem dX11_sheet_13 : decode cX11_sheet 13 = .ok (.if_icmp .lt 8, 3) := by decide +kernel
theorem dX11_sheet_16 : decode cX11_sheet 16 = .ok (.iload_n 2, 1) := by decide +kernel
theorem dX11_sheet_17 : decode cX11_sheet 17 = .ok (.iconst 3, 1) := by decide +kernel
theorem dX11_sheet_18 : decode cX11_sheet 18 = .ok (.if_icmp .le 5, 3) := by decide +kernel
theorem dX11_sheet_21 : decode cX11_sheet 21 = .ok (.iconst (-1), 1) := by decide +kernel
theorem dX11_sheet_22 : decode cX11_sheet 22 = .ok (.ireturn, 1) := by decide +kernel
theorem dX11_sheet_23 : decode cX11_sheet 23 = .ok (.iload_n 2, 1) := by decide +kernel
theorem dX11_sheet_24 : decode cX11_sheet 24 = .ok (.iconst (-1), 1) := by decide +kernel
theorem dX11_sheet_25 : decode cX11_sheet 25 = .ok (.if_icmp .ne 15, 3) := by decide +kernel
theorem dX11_sheet_28 : decode cX11_sheet 28 = .ok (.aload_n 0, 1) := by decide +kernel
theorem dX11_sheet_29 : decode cX11_sheet 29 = .ok (.getfield 59, 3) := by decide +kernel
theorem dX11_sheet_32 : decode cX11_sheet 32 = .ok (.iload_n 1, 1) := by decide +kernel
theorem dX11_sheet_33 : decode cX11_sheet 33 = .ok (.iload_n 2, 1) := by decide +kernel
theorem dX11_sheet_34 : decode cX11_sheet 34 = .ok (.iconst 0, 1) := by decide +kernel
theorem dX11_sheet_35 : decode cX11_sheet 35 = .ok (.invokevirtual 305, 3) := by decide +kernel
theorem dX11_sheet_38 : decode cX11_sheet 38 = .ok (.iconst 1, 1) := by decide +kernel
theorem dX11_sheet_39 : decode cX11_sheet 39 = .ok (.ireturn, 1) := by decide +kernel
theorem dX11_sheet_40 : decode cX11_sheet 40 = .ok (.iload_n 3, 1) := by decide +kernel
theorem dX11_sheet_41 : decode cX11_sheet 41 = .ok (.bipush 40, 2) := by decide +kernel
theorem dX11_sheet_43 : decode cX11_sheet 43 = .ok (.if_icmp .le 5, 3) := by decide +kernel
theorem dX11_sheet_46 : decode cX11_sheet 46 = .ok (.iconst (-1), 1) := by decide +kernel
theorem dX11_sheet_47 : decode cX11_sheet 47 = .ok (.ireturn, 1) := by decide +kernel
theorem dX11_sheet_48 : decode cX11_sheet 48 = .ok (.iload_n 3, 1) := by decide +kernel
theorem dX11_sheet_49 : decode cX11_sheet 49 = .ok (.ifCond .ge 6, 3) := by decide +kernel
theorem dX11_sheet_52 : decode cX11_sheet 52 = .ok (.bipush (-14), 2) := by decide +kernel
theorem dX11_sheet_54 : decode cX11_sheet 54 = .ok (.ireturn, 1) := by decide +kernel
theorem dX11_sheet_55 : decode cX11_sheet 55 = .ok (.aload_n 0, 1) := by decide +kernel
theorem dX11_sheet_56 : decode cX11_sheet 56 = .ok (.getfield 59, 3) := by decide +kernel
theorem dX11_sheet_59 : decode cX11_sheet 59 = .ok (.iload_n 1, 1) := by decide +kernel
theorem dX11_sheet_60 : decode cX11_sheet 60 = .ok (.iload_n 2, 1) := by decide +kernel
theorem dX11_sheet_61 : decode cX11_sheet 61 = .ok (.iload_n 3, 1) := by decide +kernel
theorem dX11_sheet_62 : decode cX11_sheet 62 = .ok (.invokevirtual 305, 3) := by decide +kernel
theorem dX11_sheet_65 : decode cX11_sheet 65 = .ok (.iconst 1, 1) := by decide +kernel
theorem dX11_sheet_66 : decode cX11_sheet 66 = .ok (.ireturn, 1) := by decide +kernel
set_option maxRecDepth 20000 in
theorem ggX11_put_X2_isSheet : GoodIn wsX11_put wsX2_isSheet := goodIn_r _ [6, 7, 8, 9] (by decide +kernel) (by decide +kernel)
set_option maxRecDepth 20000 in
theorem gX11_put_X2_isSheet : GoodIn wsX11_put (wsV RX11 254 RX2 yX2_isSheet wsX2_isSheet) := goodIn_app (goodIn_of _ (by decide +kernel)) ggX11_put_X2_isSheet
set_option maxRecDepth 20000 in
theorem ggX11_put_X2_isMissing : GoodIn wsX11_put wsX2_isMissing := goodIn_r _ [13, 14, 15, 16, 5, 17, 18, 19, 3, 4, 6, 7, 8, 9, 45, 46, 47, 48, 49, 50] (by decide +kernel) (by decide +kernel)
set_option maxRecDepth 20000 in
theorem gX11_put_X2_isMissing : GoodIn wsX11_put (wsV RX11 257 RX2 yX2_isMissing wsX2_isMissing) := goodIn_app (goodIn_of _ (by decide +kernel)) ggX11_put_X2_isMissing
set_option maxRecDepth 20000 in
theorem ggX11_put_X2_write : GoodIn wsX11_put wsX2_write := goodIn_r _ [23, 24, 18, 25, 26, 27, 5, 28, 29, 19, 3, 4, 6, 7, 8, 9, 30, 31, 32, 45, 46, 47, 48, 49, 50] (by decide +kernel) (by decide +kernel)
set_option maxRecDepth 20000 in
theorem gX11_put_X2_write : GoodIn wsX11_put (wsV RX11 309 RX2 yX2_write wsX2_write) := goodIn_app (goodIn_of _ (by decide +kernel)) ggX11_put_X2_write
theorem dX11_put_0 : decode cX11_put 0 = .ok (.aload_n 0, 1) := by decide +kernel
theorem dX11_put_1 : decode cX11_put 1 = .ok (.getfield 59, 3) := by decide +kernel
theorem dX11_put_4 : decode cX11_put 4 = .ok (.iload_n 1, 1) := by decide +kernel
theorem dX11_put_5 : decode cX11_put 5 = .ok (.invokevirtual 254, 3) := by decide +kernel
theorem dX11_put_8 : decode cX11_put 8 = .ok (.ifCond .ne 5, 3) := by decide +kernel
theorem dX11_put_11 : decode cX11_put 11 = .ok (.iconst (-1), 1) := by decide +kernel
theorem dX11_put_12 : decode cX11_put 12 = .ok (.ireturn, 1) := by decide +kernel
theorem dX11_put_13 : decode cX11_put 13 = .ok (.aload_n 0, 1) := by decide +kernel
theorem dX11_put_14 : decode cX11_put 14 = .ok (.getfield 59, 3) := by decide +kernel
theorem dX11_put_17 : decode cX11_put 17 = .ok (.iload_n 1, 1) := by decide +kernel
theorem dX11_put_18 : decode cX11_put 18 = .ok (.invokevirtual 257, 3) := by decide +kernel
theorem dX11_put_21 : decode cX11_put 21 = .ok (.ifCond .eq 6, 3) := by decide +kernel
theorem dX11_put_24 : decode cX11_put 24 = .ok (.bipush (-11), 2) := by decide +kernel
theorem dX11_put_26 : decode cX11_put 26 = .ok (.ireturn, 1) := by decide +kernel
theorem dX11_put_27 : decode cX11_put 27 = .ok (.aload_n 0, 1) := by decide +kernel
theorem dX11_put_28 : decode cX11_put 28 = .ok (.getfield 59, 3) := by decide +kernel
theorem dX11_put_31 : decode cX11_put 31 = .ok (.iload_n 1, 1) := by decide +kernel
theorem dX11_put_32 : decode cX11_put 32 = .ok (.iload_n 2, 1) := by decide +kernel
theorem dX11_put_33 : decode cX11_put 33 = .ok (.iload_n 3, 1) := by decide +kernel
theorem dX11_put_34 : decode cX11_put 34 = .ok (.invokevirtual 309, 3) := by decide +kernel
theorem dX11_put_37 : decode cX11_put 37 = .ok (.ifCond .eq 7, 3) := by decide +kernel
theorem dX11_put_40 : decode cX11_put 40 = .ok (.iconst 1, 1) := by decide +kernel
theorem dX11_put_41 : decode cX11_put 41 = .ok (.goto 5, 3) := by decide +kernel
theorem dX11_put_44 : decode cX11_put 44 = .ok (.bipush (-12), 2) := by decide +kernel
theorem dX11_put_46 : decode cX11_put 46 = .ok (.ireturn, 1) := by decide +kernel
set_option maxRecDepth 20000 in
theorem ggX11_item_X2_isSheet : GoodIn wsX11_item wsX2_isSheet := goodIn_r _ [6, 7, 8, 9] (by decide +kernel) (by decide +kernel)
set_option maxRecDepth 20000 in
theorem gX11_item_X2_isSheet : GoodIn wsX11_item (wsV RX11 254 RX2 yX2_isSheet wsX2_isSheet) := goodIn_app (goodIn_of _ (by decide +kernel)) ggX11_item_X2_isSheet
set_option maxRecDepth 20000 in
theorem ggX11_item_X11_within : GoodIn wsX11_item wsX11_within := goodIn_r _ [9] (by decide +kernel) (by decide +kernel)
set_option maxRecDepth 20000 in
theorem gX11_item_X11_within : GoodIn wsX11_item (va_wsS RX11 106 yX11_within wsX11_within) := goodIn_app (goodIn_of _ (by decide +kernel)) ggX11_item_X11_within
set_option maxRecDepth 20000 in
theorem ggX11_item_X2_isMissing : GoodIn wsX11_item wsX2_isMissing := goodIn_r _ [14, 15, 16, 17, 5, 18, 19, 20, 3, 4, 6, 7, 8, 9, 48, 49, 50, 51, 52, 53] (by decide +kernel) (by decide +kernel)
set_option maxRecDepth 20000 in
theorem gX11_item_X2_isMissing : GoodIn wsX11_item (wsV RX11 257 RX2 yX2_isMissing wsX2_isMissing) := goodIn_app (goodIn_of _ (by decide +kernel)) ggX11_item_X2_isMissing
set_option maxRecDepth 20000 in
theorem ggX11_item_X2_sortOf : GoodIn wsX11_item wsX2_sortOf := goodIn_r _ [18, 19, 20, 3, 4, 5, 6, 7, 8, 9, 48, 49, 50, 51, 52, 53] (by decide +kernel) (by decide +kernel)
set_option maxRecDepth 20000 in
theorem gX11_item_X2_sortOf : GoodIn wsX11_item (wsV RX11 299 RX2 yX2_sortOf wsX2_sortOf) := goodIn_app (goodIn_of _ (by decide +kernel)) ggX11_item_X2_sortOf
set_option maxRecDepth 20000 in
theorem ggX11_item_X2_sizeOf : GoodIn wsX11_item wsX2_sizeOf := goodIn_r _ [25, 26, 20, 3, 4, 5, 6, 7, 8, 9, 48, 49, 50, 51, 52, 53] (by decide +kernel) (by decide +kernel)
set_option maxRecDepth 20000 in
theorem gX11_item_X2_sizeOf : GoodIn wsX11_item (wsV RX11 264 RX2 yX2_sizeOf wsX2_sizeOf) := goodIn_app (goodIn_of _ (by decide +kernel)) ggX11_item_X2_sizeOf
set_option maxRecDepth 20000 in
theorem ggX11_item_X2_itemAt : GoodIn wsX11_item wsX2_itemAt := goodIn_r _ [30, 31, 32, 33, 34, 5, 35, 26, 20, 3, 4, 6, 7, 8, 9, 48, 49, 50, 51, 52, 53] (by decide +kernel) (by decide +kernel)
set_option maxRecDepth 20000 in
theorem gX11_item_X2_itemAt : GoodIn wsX11_item (wsV RX11 267 RX2 yX2_itemAt wsX2_itemAt) := goodIn_app (goodIn_of _ (by decide +kernel)) ggX11_item_X2_itemAt
theorem dX11_item_0 : decode cX11_item 0 = .ok (.aload_n 0, 1) := by decide +kernel
theorem dX11_item_1 : decode cX11_item 1 = .ok (.getfield 59, 3) := by decide +kernel
theorem dX11_item_4 : decode cX11_item 4 = .ok (.iload_n 1, 1) := by decide +kernel
theorem dX11_item_5 : decode cX11_item 5 = .ok (.invokevirtual 254, 3) := by decide +kernel
theorem dX11_item_8 : decode cX11_item 8 = .ok (.ifCond .eq 11, 3) := by decide +kernel
theorem dX11_item_11 : decode cX11_item 11 = .ok (.iload_n 2, 1) := by decide +kernel
theorem dX11_item_12 : decode cX11_item 12 = .ok (.iconst 3, 1) := by decide +kernel
theorem dX11_item_13 : decode cX11_item 13 = .ok (.invokestatic 106, 3) := by decide +kernel
theorem dX11_item_16 : decode cX11_item 16 = .ok (.ifCond .ne 5, 3) := by decide +kernel
theorem dX11_item_19 : decode cX11_item 19 = .ok (.iconst (-1), 1) := by decide +kernel
theorem dX11_item_20 : decode cX11_item 20 = .ok (.ireturn, 1) := by decide +kernel
theorem dX11_item_21 : decode cX11_item 21 = .ok (.aload_n 0, 1) := by decide +kernel
theorem dX11_item_22 : decode cX11_item 22 = .ok (.getfield 59, 3) := by decide +kernel
theorem dX11_item_25 : decode cX11_item 25 = .ok (.iload_n 1, 1) := by decide +kernel
theorem dX11_item_26 : decode cX11_item 26 = .ok (.invokevirtual 257, 3) := by decide +kernel
theorem dX11_item_29 : decode cX11_item 29 = .ok (.ifCond .eq 6, 3) := by decide +kernel
theorem dX11_item_32 : decode cX11_item 32 = .ok (.bipush (-11), 2) := by decide +kernel
theorem dX11_item_34 : decode cX11_item 34 = .ok (.ireturn, 1) := by decide +kernel
theorem dX11_item_35 : decode cX11_item 35 = .ok (.aload_n 0, 1) := by decide +kernel
theorem dX11_item_36 : decode cX11_item 36 = .ok (.getfield 59, 3) := by decide +kernel
theorem dX11_item_39 : decode cX11_item 39 = .ok (.iload_n 1, 1) := by decide +kernel
theorem dX11_item_40 : decode cX11_item 40 = .ok (.invokevirtual 299, 3) := by decide +kernel
theorem dX11_item_43 : decode cX11_item 43 = .ok (.iload_n 2, 1) := by decide +kernel
theorem dX11_item_44 : decode cX11_item 44 = .ok (.if_icmp .eq 6, 3) := by decide +kernel
theorem dX11_item_47 : decode cX11_item 47 = .ok (.bipush (-13), 2) := by decide +kernel
theorem dX11_item_49 : decode cX11_item 49 = .ok (.ireturn, 1) := by decide +kernel
theorem dX11_item_50 : decode cX11_item 50 = .ok (.iload_n 3, 1) := by decide +kernel
theorem dX11_item_51 : decode cX11_item 51 = .ok (.aload_n 0, 1) := by decide +kernel
theorem dX11_item_52 : decode cX11_item 52 = .ok (.getfield 59, 3) := by decide +kernel
theorem dX11_item_55 : decode cX11_item 55 = .ok (.iload_n 1, 1) := by decide +kernel
theorem dX11_item_56 : decode cX11_item 56 = .ok (.invokevirtual 264, 3) := by decide +kernel
theorem dX11_item_59 : decode cX11_item 59 = .ok (.iconst 1, 1) := by decide +kernel
theorem dX11_item_60 : decode cX11_item 60 = .ok (.isub, 1) := by decide +kernel
theorem dX11_item_61 : decode cX11_item 61 = .ok (.invokestatic 106, 3) := by decide +kernel
theorem dX11_item_64 : decode cX11_item 64 = .ok (.ifCond .eq 16, 3) := by decide +kernel
theorem dX11_item_67 : decode cX11_item 67 = .ok (.aload_n 0, 1) := by decide +kernel
theorem dX11_item_68 : decode cX11_item 68 = .ok (.getfield 59, 3) := by decide +kernel
theorem dX11_item_71 : decode cX11_item 71 = .ok (.iload_n 1, 1) := by decide +kernel
theorem dX11_item_72 : decode cX11_item 72 = .ok (.iload_n 3, 1) := by decide +kernel
theorem dX11_item_73 : decode cX11_item 73 = .ok (.invokevirtual 267, 3) := by decide +kernel
theorem dX11_item_76 : decode cX11_item 76 = .ok (.l2i, 1) := by decide +kernel
theorem dX11_item_77 : decode cX11_item 77 = .ok (.goto 5, 3) := by decide +kernel
theorem dX11_item_80 : decode cX11_item 80 = .ok (.bipush (-12), 2) := by decide +kernel
theorem dX11_item_82 : decode cX11_item 82 = .ok (.ireturn, 1) := by decide +kernel
set_option maxRecDepth 20000 in
theorem ggX11_shelf_X2_isShelf : GoodIn wsX11_shelf wsX2_isShelf := goodIn_r _ [7, 8, 9, 10] (by decide +kernel) (by decide +kernel)
set_option maxRecDepth 20000 in
theorem gX11_shelf_X2_isShelf : GoodIn wsX11_shelf (wsV RX11 313 RX2 yX2_isShelf wsX2_isShelf) := goodIn_app (goodIn_of _ (by decide +kernel)) ggX11_shelf_X2_isShelf
set_option maxRecDepth 20000 in
theorem ggX11_shelf_X1_life : GoodIn wsX11_shelf wsX1_life := goodIn_r _ [15, 16, 17, 18, 19, 20, 21, 8, 9, 10, 69, 70, 71, 72, 73, 74, 75, 76] (by decide +kernel) (by decide +kernel)
set_option maxRecDepth 20000 in
theorem gX11_shelf_X1_life : GoodIn wsX11_shelf (wsV RX11 131 RX1 yX1_life wsX1_life) := goodIn_app (goodIn_of _ (by decide +kernel)) ggX11_shelf_X1_life
set_option maxRecDepth 20000 in
theorem ggX11_shelf_X2_shelveChild : GoodIn wsX11_shelf wsX2_shelveChild := goodIn_r _ [25, 26, 27, 28, 6, 29, 30, 31, 32, 33, 4, 5, 7, 8, 9, 10, 77, 78, 79, 80, 81, 82] (by decide +kernel) (by decide +kernel)
set_option maxRecDepth 20000 in
theorem gX11_shelf_X2_shelveChild : GoodIn wsX11_shelf (wsV RX11 316 RX2 yX2_shelveChild wsX2_shelveChild) := goodIn_app (goodIn_of _ (by decide +kernel)) ggX11_shelf_X2_shelveChild
set_option maxRecDepth 20000 in
theorem ggX11_shelf_X2_isSheet : GoodIn wsX11_shelf wsX2_isSheet := goodIn_r _ [37, 8, 9, 10] (by decide +kernel) (by decide +kernel)
set_option maxRecDepth 20000 in
theorem gX11_shelf_X2_isSheet : GoodIn wsX11_shelf (wsV RX11 254 RX2 yX2_isSheet wsX2_isSheet) := goodIn_app (goodIn_of _ (by decide +kernel)) ggX11_shelf_X2_isSheet
set_option maxRecDepth 20000 in
theorem ggX11_shelf_X2_shelveRow : GoodIn wsX11_shelf wsX2_shelveRow := goodIn_r _ [41, 42, 43, 44, 6, 45, 46, 47, 35, 36, 37, 8, 9, 10, 48, 49, 50, 51, 52, 26, 27, 28, 29, 30, 31, 32, 33, 4, 5, 7, 77, 78, 79, 80, 81, 82] (by decide +kernel) (by decide +kernel)
set_option maxRecDepth 20000 in
theorem gX11_shelf_X2_shelveRow : GoodIn wsX11_shelf (wsV RX11 319 RX2 yX2_shelveRow wsX2_shelveRow) := goodIn_app (goodIn_of _ (by decide +kernel)) ggX11_shelf_X2_shelveRow
set_option maxRecDepth 20000 in
theorem ggX11_shelf_X2_shelveNothing : GoodIn wsX11_shelf wsX2_shelveNothing := goodIn_r _ [56, 26, 27, 28, 6, 29, 30, 31, 32, 33, 4, 5, 7, 8, 9, 10, 77, 78, 79, 80, 81, 82] (by decide +kernel) (by decide +kernel)
set_option maxRecDepth 20000 in
theorem gX11_shelf_X2_shelveNothing : GoodIn wsX11_shelf (wsV RX11 322 RX2 yX2_shelveNothing wsX2_shelveNothing) := goodIn_app (goodIn_of _ (by decide +kernel)) ggX11_shelf_X2_shelveNothing
theorem dX11_shelf_0 : decode cX11_shelf 0 = .ok (.aload_n 0, 1) := by decide +kernel
theorem dX11_shelf_1 : decode cX11_shelf 1 = .ok (.getfield 59, 3) := by decide +kernel
theorem dX11_shelf_4 : decode cX11_shelf 4 = .ok (.iload_n 1, 1) := by decide +kernel
theorem dX11_shelf_5 : decode cX11_shelf 5 = .ok (.invokevirtual 313, 3) := by decide +kernel
theorem dX11_shelf_8 : decode cX11_shelf 8 = .ok (.ifCond .ne 5, 3) := by decide +kernel
theorem dX11_shelf_11 : decode cX11_shelf 11 = .ok (.iconst (-1), 1) := by decide +kernel
theorem dX11_shelf_12 : decode cX11_shelf 12 = .ok (.ireturn, 1) := by decide +kernel
theorem dX11_shelf_13 : decode cX11_shelf 13 = .ok (.iload_n 2, 1) := by decide +kernel
theorem dX11_shelf_14 : decode cX11_shelf 14 = .ok (.tableswitch 84 0 2 #[26, 50, 74], 26) := by decide +kernel
theorem dX11_shelf_40 : decode cX11_shelf 40 = .ok (.aload_n 0, 1) := by decide +kernel
theorem dX11_shelf_41 : decode cX11_shelf 41 = .ok (.getfield 30, 3) := by decide +kernel
theorem dX11_shelf_44 : decode cX11_shelf 44 = .ok (.iload_n 3, 1) := by decide +kernel
theorem dX11_shelf_45 : decode cX11_shelf 45 = .ok (.invokevirtual 131, 3) := by decide +kernel
theorem dX11_shelf_48 : decode cX11_shelf 48 = .ok (.ifnonnull 5, 3) := by decide +kernel
theorem dX11_shelf_51 : decode cX11_shelf 51 = .ok (.iconst (-1), 1) := by decide +kernel
theorem dX11_shelf_52 : decode cX11_shelf 52 = .ok (.ireturn, 1) := by decide +kernel
theorem dX11_shelf_53 : decode cX11_shelf 53 = .ok (.aload_n 0, 1) := by decide +kernel
theorem dX11_shelf_54 : decode cX11_shelf 54 = .ok (.getfield 59, 3) := by decide +kernel
theorem dX11_shelf_57 : decode cX11_shelf 57 = .ok (.iload_n 1, 1) := by decide +kernel
theorem dX11_shelf_58 : decode cX11_shelf 58 = .ok (.iload_n 3, 1) := by decide +kernel
theorem dX11_shelf_59 : decode cX11_shelf 59 = .ok (.invokevirtual 316, 3) := by decide +kernel
theorem dX11_shelf_62 : decode cX11_shelf 62 = .ok (.iconst 1, 1) := by decide +kernel
theorem dX11_shelf_63 : decode cX11_shelf 63 = .ok (.ireturn, 1) := by decide +kernel
theorem dX11_shelf_64 : decode cX11_shelf 64 = .ok (.aload_n 0, 1) := by decide +kernel
theorem dX11_shelf_65 : decode cX11_shelf 65 = .ok (.getfield 59, 3) := by decide +kernel
theorem dX11_shelf_68 : decode cX11_shelf 68 = .ok (.iload_n 3, 1) := by decide +kernel
theorem dX11_shelf_69 : decode cX11_shelf 69 = .ok (.invokevirtual 254, 3) := by decide +kernel
theorem dX11_shelf_72 : decode cX11_shelf 72 = .ok (.ifCond .ne 5, 3) := by decide +kernel
theorem dX11_shelf_75 : decode cX11_shelf 75 = .ok (.iconst (-1), 1) := by decide +kernel
theorem dX11_shelf_76 : decode cX11_shelf 76 = .ok (.ireturn, 1) := by decide +kernel
theorem dX11_shelf_77 : decode cX11_shelf 77 = .ok (.aload_n 0, 1) := by decide +kernel
theorem dX11_shelf_78 : decode cX11_shelf 78 = .ok (.getfield 59, 3) := by decide +kernel
theorem dX11_shelf_81 : decode cX11_shelf 81 = .ok (.iload_n 1, 1) := by decide +kernel
theorem dX11_shelf_82 : decode cX11_shelf 82 = .ok (.iload_n 3, 1) := by decide +kernel
theorem dX11_shelf_83 : decode cX11_shelf 83 = .ok (.invokevirtual 319, 3) := by decide +kernel
theorem dX11_shelf_86 : decode cX11_shelf 86 = .ok (.iconst 1, 1) := by decide +kernel
theorem dX11_shelf_87 : decode cX11_shelf 87 = .ok (.ireturn, 1) := by decide +kernel
theorem dX11_shelf_88 : decode cX11_shelf 88 = .ok (.aload_n 0, 1) := by decide +kernel
theorem dX11_shelf_89 : decode cX11_shelf 89 = .ok (.getfield 59, 3) := by decide +kernel
theorem dX11_shelf_92 : decode cX11_shelf 92 = .ok (.iload_n 1, 1) := by decide +kernel
theorem dX11_shelf_93 : decode cX11_shelf 93 = .ok (.invokevirtual 322, 3) := by decide +kernel
theorem dX11_shelf_96 : decode cX11_shelf 96 = .ok (.iconst 1, 1) := by decide +kernel
theorem dX11_shelf_97 : decode cX11_shelf 97 = .ok (.ireturn, 1) := by decide +kernel
theorem dX11_shelf_98 : decode cX11_shelf 98 = .ok (.iconst (-1), 1) := by decide +kernel
theorem dX11_shelf_99 : decode cX11_shelf 99 = .ok (.ireturn, 1) := by decide +kernel
set_option maxRecDepth 20000 in
theorem ggX11_taken_X2_isShelf : GoodIn wsX11_taken wsX2_isShelf := goodIn_r _ [7, 8, 9, 10] (by decide +kernel) (by decide +kernel)
set_option maxRecDepth 20000 in
theorem gX11_taken_X2_isShelf : GoodIn wsX11_taken (wsV RX11 313 RX2 yX2_isShelf wsX2_isShelf) := goodIn_app (goodIn_of _ (by decide +kernel)) ggX11_taken_X2_isShelf
set_option maxRecDepth 20000 in
theorem ggX11_taken_X11_within : GoodIn wsX11_taken wsX11_within := goodIn_r _ [10] (by decide +kernel) (by decide +kernel)
set_option maxRecDepth 20000 in
theorem gX11_taken_X11_within : GoodIn wsX11_taken (va_wsS RX11 106 yX11_within wsX11_within) := goodIn_app (goodIn_of _ (by decide +kernel)) ggX11_taken_X11_within
set_option maxRecDepth 20000 in
theorem ggX11_taken_X2_shelvedSort : GoodIn wsX11_taken wsX2_shelvedSort := goodIn_r _ [15, 16, 17, 4, 5, 6, 7, 8, 9, 10, 66, 67, 68, 69, 70, 71] (by decide +kernel) (by decide +kernel)
set_option maxRecDepth 20000 in
theorem gX11_taken_X2_shelvedSort : GoodIn wsX11_taken (wsV RX11 325 RX2 yX2_shelvedSort wsX2_shelvedSort) := goodIn_app (goodIn_of _ (by decide +kernel)) ggX11_taken_X2_shelvedSort
set_option maxRecDepth 20000 in
theorem ggX11_taken_X2_shelvedSize : GoodIn wsX11_taken wsX2_shelvedSize := goodIn_r _ [21, 22, 17, 4, 5, 6, 7, 8, 9, 10, 66, 67, 68, 69, 70, 71] (by decide +kernel) (by decide +kernel)
set_option maxRecDepth 20000 in
theorem gX11_taken_X2_shelvedSize : GoodIn wsX11_taken (wsV RX11 328 RX2 yX2_shelvedSize wsX2_shelvedSize) := goodIn_app (goodIn_of _ (by decide +kernel)) ggX11_taken_X2_shelvedSize
set_option maxRecDepth 20000 in
theorem ggX11_taken_X2_shelvedChild : GoodIn wsX11_taken wsX2_shelvedChild := goodIn_r _ [26, 27, 17, 4, 5, 6, 7, 8, 9, 10, 66, 67, 68, 69, 70, 71] (by decide +kernel) (by decide +kernel)
set_option maxRecDepth 20000 in
theorem gX11_taken_X2_shelvedChild : GoodIn wsX11_taken (wsV RX11 331 RX2 yX2_shelvedChild wsX2_shelvedChild) := goodIn_app (goodIn_of _ (by decide +kernel)) ggX11_taken_X2_shelvedChild
set_option maxRecDepth 20000 in
theorem ggX11_taken_X1_life : GoodIn wsX11_taken wsX1_life := goodIn_r _ [32, 33, 34, 35, 36, 37, 38, 8, 9, 10, 72, 73, 74, 75, 76, 77, 78, 79] (by decide +kernel) (by decide +kernel)
set_option maxRecDepth 20000 in
theorem gX11_taken_X1_life : GoodIn wsX11_taken (wsV RX11 131 RX1 yX1_life wsX1_life) := goodIn_app (goodIn_of _ (by decide +kernel)) ggX11_taken_X1_life
set_option maxRecDepth 20000 in
theorem ggX11_taken_X1_kindOf : GoodIn wsX11_taken wsX1_kindOf := goodIn_r _ [42, 43, 44, 8, 9, 10, 72, 73, 74, 75, 76, 77, 78, 79, 80, 81, 82, 83, 84, 85] (by decide +kernel) (by decide +kernel)
set_option maxRecDepth 20000 in
theorem gX11_taken_X1_kindOf : GoodIn wsX11_taken (wsV RX11 334 RX1 yX1_kindOf wsX1_kindOf) := goodIn_app (goodIn_of _ (by decide +kernel)) ggX11_taken_X1_kindOf
set_option maxRecDepth 20000 in
theorem ggX11_taken_X11_isUnder : GoodIn wsX11_taken wsX11_isUnder := goodIn_r _ [47, 48, 49, 50, 51, 52, 53] (by decide +kernel) (by decide +kernel)
set_option maxRecDepth 20000 in
theorem gX11_taken_X11_isUnder : GoodIn wsX11_taken (va_wsS RX11 338 yX11_isUnder wsX11_isUnder) := goodIn_app (goodIn_of _ (by decide +kernel)) ggX11_taken_X11_isUnder
theorem dX11_taken_0 : decode cX11_taken 0 = .ok (.iload_n 2, 1) := by decide +kernel
theorem dX11_taken_1 : decode cX11_taken 1 = .ok (.bipush 10, 2) := by decide +kernel
theorem dX11_taken_3 : decode cX11_taken 3 = .ok (.if_icmp .lt 13, 3) := by decide +kernel
theorem dX11_taken_6 : decode cX11_taken 6 = .ok (.iload_n 2, 1) := by decide +kernel
theorem dX11_taken_7 : decode cX11_taken 7 = .ok (.bipush 13, 2) := by decide +kernel
theorem dX11_taken_9 : decode cX11_taken 9 = .ok (.if_icmp .gt 7, 3) := by decide +kernel
theorem dX11_taken_12 : decode cX11_taken 12 = .ok (.iconst 1, 1) := by decide +kernel
theorem dX11_taken_13 : decode cX11_taken 13 = .ok (.goto 4, 3) := by decide +kernel
theorem dX11_taken_16 : decode cX11_taken 16 = .ok (.iconst 0, 1) := by decide +kernel
theorem dX11_taken_17 : decode cX11_taken 17 = .ok (.istore_n 3, 1) := by decide +kernel
theorem dX11_taken_18 : decode cX11_taken 18 = .ok (.aload_n 0, 1) := by decide +kernel
theorem dX11_taken_19 : decode cX11_taken 19 = .ok (.getfield 59, 3) := by decide +kernel
theorem dX11_taken_22 : decode cX11_taken 22 = .ok (.iload_n 1, 1) := by decide +kernel
theorem dX11_taken_23 : decode cX11_taken 23 = .ok (.invokevirtual 313, 3) := by decide +kernel
theorem dX11_taken_26 : decode cX11_taken 26 = .ok (.ifCond .eq 15, 3) := by decide +kernel
theorem dX11_taken_29 : decode cX11_taken 29 = .ok (.iload_n 3, 1) := by decide +kernel
theorem dX11_taken_30 : decode cX11_taken 30 = .ok (.ifCond .ne 13, 3) := by decide +kernel
theorem dX11_taken_33 : decode cX11_taken 33 = .ok (.iload_n 2, 1) := by decide +kernel
theorem dX11_taken_34 : decode cX11_taken 34 = .ok (.iconst 5, 1) := by decide +kernel
theorem dX11_taken_35 : decode cX11_taken 35 = .ok (.invokestatic 106, 3) := by decide +kernel
theorem dX11_taken_38 : decode cX11_taken 38 = .ok (.ifCond .ne 5, 3) := by decide +kernel
theorem dX11_taken_41 : decode cX11_taken 41 = .ok (.iconst (-1), 1) := by decide +kernel
theorem dX11_taken_42 : decode cX11_taken 42 = .ok (.ireturn, 1) := by decide +kernel
theorem dX11_taken_43 : decode cX11_taken 43 = .ok (.aload_n 0, 1) := by decide +kernel
theorem dX11_taken_44 : decode cX11_taken 44 = .ok (.getfield 59, 3) := by decide +kernel
theorem dX11_taken_47 : decode cX11_taken 47 = .ok (.iload_n 1, 1) := by decide +kernel
theorem dX11_taken_48 : decode cX11_taken 48 = .ok (.invokevirtual 325, 3) := by decide +kernel
theorem dX11_taken_51 : decode cX11_taken 51 = .ok (.istore 4, 2) := by decide +kernel
theorem dX11_taken_53 : decode cX11_taken 53 = .ok (.iload 4, 2) := by decide +kernel
theorem dX11_taken_55 : decode cX11_taken 55 = .ok (.iconst (-1), 1) := by decide +kernel
theorem dX11_taken_56 : decode cX11_taken 56 = .ok (.if_icmp .eq 26, 3) := by decide +kernel
theorem dX11_taken_59 : decode cX11_taken 59 = .ok (.iload_n 2, 1) := by decide +kernel
theorem dX11_taken_60 : decode cX11_taken 60 = .ok (.bipush 10, 2) := by decide +kernel
theorem dX11_taken_62 : decode cX11_taken 62 = .ok (.isub, 1) := by decide +kernel
theorem dX11_taken_63 : decode cX11_taken 63 = .ok (.iload 4, 2) := by decide +kernel
theorem dX11_taken_65 : decode cX11_taken 65 = .ok (.if_icmp .ne 14, 3) := by decide +kernel
theorem dX11_taken_68 : decode cX11_taken 68 = .ok (.aload_n 0, 1) := by decide +kernel
theorem dX11_taken_69 : decode cX11_taken 69 = .ok (.getfield 59, 3) := by decide +kernel
theorem dX11_taken_72 : decode cX11_taken 72 = .ok (.iload_n 1, 1) := by decide +kernel
theorem dX11_taken_73 : decode cX11_taken 73 = .ok (.invokevirtual 328, 3) := by decide +kernel
theorem dX11_taken_76 : decode cX11_taken 76 = .ok (.goto 5, 3) := by decide +kernel
theorem dX11_taken_79 : decode cX11_taken 79 = .ok (.bipush (-13), 2) := by decide +kernel
theorem dX11_taken_81 : decode cX11_taken 81 = .ok (.ireturn, 1) := by decide +kernel
theorem dX11_taken_82 : decode cX11_taken 82 = .ok (.aload_n 0, 1) := by decide +kernel
theorem dX11_taken_83 : decode cX11_taken 83 = .ok (.getfield 59, 3) := by decide +kernel
theorem dX11_taken_86 : decode cX11_taken 86 = .ok (.iload_n 1, 1) := by decide +kernel
theorem dX11_taken_87 : decode cX11_taken 87 = .ok (.invokevirtual 331, 3) := by decide +kernel
theorem dX11_taken_90 : decode cX11_taken 90 = .ok (.istore 5, 2) := by decide +kernel
theorem dX11_taken_92 : decode cX11_taken 92 = .ok (.aload_n 0, 1) := by decide +kernel
theorem dX11_taken_93 : decode cX11_taken 93 = .ok (.getfield 30, 3) := by decide +kernel
theorem dX11_taken_96 : decode cX11_taken 96 = .ok (.iload 5, 2) := by decide +kernel
theorem dX11_taken_98 : decode cX11_taken 98 = .ok (.invokevirtual 131, 3) := by decide +kernel
theorem dX11_taken_101 : decode cX11_taken 101 = .ok (.astore 6, 2) := by decide +kernel
theorem dX11_taken_103 : decode cX11_taken 103 = .ok (.aload 6, 2) := by decide +kernel
theorem dX11_taken_105 : decode cX11_taken 105 = .ok (.ifnonnull 6, 3) := by decide +kernel
theorem dX11_taken_108 : decode cX11_taken 108 = .ok (.bipush (-11), 2) := by decide +kernel
theorem dX11_taken_110 : decode cX11_taken 110 = .ok (.ireturn, 1) := by decide +kernel
theorem dX11_taken_111 : decode cX11_taken 111 = .ok (.aload_n 0, 1) := by decide +kernel
theorem dX11_taken_112 : decode cX11_taken 112 = .ok (.getfield 30, 3) := by decide +kernel
theorem dX11_taken_115 : decode cX11_taken 115 = .ok (.aload 6, 2) := by decide +kernel
theorem dX11_taken_117 : decode cX11_taken 117 = .ok (.invokevirtual 334, 3) := by decide +kernel
theorem dX11_taken_120 : decode cX11_taken 120 = .ok (.iload_n 2, 1) := by decide +kernel
theorem dX11_taken_121 : decode cX11_taken 121 = .ok (.invokestatic 338, 3) := by decide +kernel
theorem dX11_taken_124 : decode cX11_taken 124 = .ok (.ifCond .eq 8, 3) := by decide +kernel
theorem dX11_taken_127 : decode cX11_taken 127 = .ok (.iload 5, 2) := by decide +kernel
theorem dX11_taken_129 : decode cX11_taken 129 = .ok (.goto 5, 3) := by decide +kernel
theorem dX11_taken_132 : decode cX11_taken 132 = .ok (.bipush (-13), 2) := by decide +kernel
theorem dX11_taken_134 : decode cX11_taken 134 = .ok (.ireturn, 1) := by decide +kernel
theorem dX11_isUnder_0 : decode cX11_isUnder 0 = .ok (.iload_n 1, 1) := by decide +kernel
theorem dX11_isUnder_1 : decode cX11_isUnder 1 = .ok (.tableswitch 69 0 5 #[39, 44, 49, 54, 59, 64], 39) := by decide +kernel
theorem dX11_isUnder_40 : decode cX11_isUnder 40 = .ok (.aload_n 0, 1) := by decide +kernel
theorem dX11_isUnder_41 : decode cX11_isUnder 41 = .ok (.instanceof 7, 3) := by decide +kernel
theorem dX11_isUnder_44 : decode cX11_isUnder 44 = .ok (.ireturn, 1) := by decide +kernel
theorem dX11_isUnder_45 : decode cX11_isUnder 45 = .ok (.aload_n 0, 1) := by decide +kernel
theorem dX11_isUnder_46 : decode cX11_isUnder 46 = .ok (.instanceof 10, 3) := by decide +kernel
theorem dX11_isUnder_49 : decode cX11_isUnder 49 = .ok (.ireturn, 1) := by decide +kernel
theorem dX11_isUnder_50 : decode cX11_isUnder 50 = .ok (.aload_n 0, 1) := by decide +kernel
theorem dX11_isUnder_51 : decode cX11_isUnder 51 = .ok (.instanceof 13, 3) := by decide +kernel
theorem dX11_isUnder_54 : decode cX11_isUnder 54 = .ok (.ireturn, 1) := by decide +kernel
theorem dX11_isUnder_55 : decode cX11_isUnder 55 = .ok (.aload_n 0, 1) := by decide +kernel
theorem dX11_isUnder_56 : decode cX11_isUnder 56 = .ok (.instanceof 16, 3) := by decide +kernel
theorem dX11_isUnder_59 : decode cX11_isUnder 59 = .ok (.ireturn, 1) := by decide +kernel
theorem dX11_isUnder_60 : decode cX11_isUnder 60 = .ok (.aload_n 0, 1) := by decide +kernel
theorem dX11_isUnder_61 : decode cX11_isUnder 61 = .ok (.instanceof 19, 3) := by decide +kernel
theorem dX11_isUnder_64 : decode cX11_isUnder 64 = .ok (.ireturn, 1) := by decide +kernel
theorem dX11_isUnder_65 : decode cX11_isUnder 65 = .ok (.aload_n 0, 1) := by decide +kernel
theorem dX11_isUnder_66 : decode cX11_isUnder 66 = .ok (.instanceof 22, 3) := by decide +kernel
theorem dX11_isUnder_69 : decode cX11_isUnder 69 = .ok (.ireturn, 1) := by decide +kernel
theorem dX11_isUnder_70 : decode cX11_isUnder 70 = .ok (.iconst 0, 1) := by decide +kernel
theorem dX11_isUnder_71 : decode cX11_isUnder 71 = .ok (.ireturn, 1) := by decide +kernel
set_option maxRecDepth 20000 in
theorem ggX11_act_X2_shelvedChild : GoodIn wsX11_act wsX2_shelvedChild := goodIn_r _ [10, 11, 12, 13, 14, 9, 15, 16, 17, 18, 184, 185, 186, 187, 188, 189] (by decide +kernel) (by decide +kernel)
set_option maxRecDepth 20000 in
theorem gX11_act_X2_shelvedChild : GoodIn wsX11_act (wsV RX11 331 RX2 yX2_shelvedChild wsX2_shelvedChild) := goodIn_app (goodIn_of _ (by decide +kernel)) ggX11_act_X2_shelvedChild
set_option maxRecDepth 20000 in
theorem ggX11_act_X1_life : GoodIn wsX11_act wsX1_life := goodIn_r _ [23, 24, 25, 26, 27, 28, 29, 16, 17, 18, 190, 191, 192, 193, 194, 195, 196, 197] (by decide +kernel) (by decide +kernel)
set_option maxRecDepth 20000 in
theorem gX11_act_X1_life : GoodIn wsX11_act (wsV RX11 131 RX1 yX1_life wsX1_life) := goodIn_app (goodIn_of _ (by decide +kernel)) ggX11_act_X1_life
set_option maxRecDepth 20000 in
theorem ggX11_act_X4_begin : GoodIn wsX11_act wsX4_begin := goodIn_r _ [34, 35, 36, 37, 38, 179, 180, 181, 182, 183] (by decide +kernel) (by decide +kernel)
set_option maxRecDepth 20000 in
theorem gX11_act_X4_begin : GoodIn wsX11_act (wsV RX11 342 RX4 yX4_begin wsX4_begin) := goodIn_app (goodIn_of _ (by decide +kernel)) ggX11_act_X4_begin
set_option maxRecDepth 20000 in
theorem ggX11_act_X1_kindOf : GoodIn wsX11_act wsX1_kindOf := goodIn_r _ [42, 43, 44, 16, 17, 18, 190, 191, 192, 193, 194, 195, 196, 197, 173, 174, 175, 176, 177, 178] (by decide +kernel) (by decide +kernel)
set_option maxRecDepth 20000 in
theorem gX11_act_X1_kindOf : GoodIn wsX11_act (wsV RX11 334 RX1 yX1_kindOf wsX1_kindOf) := goodIn_app (goodIn_of _ (by decide +kernel)) ggX11_act_X1_kindOf
set_option maxRecDepth 20000 in
theorem ggX11_act_X0_kicks : GoodIn wsX11_act wsX0_kicks := goodIn_r _ [49, 50, 51, 52, 53, 33, 54, 38, 37, 55, 179, 180, 181, 182, 183] (by decide +kernel) (by decide +kernel)
set_option maxRecDepth 20000 in
theorem gX11_act_X0_kicks : GoodIn wsX11_act (wsV RX11 344 RX0 yX0_kicks wsX0_kicks) := goodIn_app (goodIn_of _ (by decide +kernel)) ggX11_act_X0_kicks
set_option maxRecDepth 20000 in
theorem ggX11_act_X3_kicks : GoodIn wsX11_act wsX3_kicks := goodIn_r _ [62, 63, 64, 52, 53, 33, 54, 38, 37, 55, 179, 180, 181, 182, 183] (by decide +kernel) (by decide +kernel)
set_option maxRecDepth 20000 in
theorem gX11_act_X3_kicks_u344X3 : GoodIn wsX11_act (va_wsO RX11 344 RX3 "BoundGodmothers$Child" ⟨"BoundGodmothers$Child", "kicks", "(ILBoundGodmothers$Deed;)I"⟩ yX3_kicks wsX3_kicks) := goodIn_app (goodIn_of _ (by decide +kernel)) ggX11_act_X3_kicks
set_option maxRecDepth 20000 in
theorem gX11_act_X0_kicks_u344X5 : GoodIn wsX11_act (va_wsU RX11 344 RX5 "BoundGodmothers$Child" ⟨"BoundGodmothers$Child", "kicks", "(ILBoundGodmothers$Deed;)I"⟩ yX0_kicks wsX0_kicks) := goodIn_app (goodIn_of _ (by decide +kernel)) ggX11_act_X0_kicks
set_option maxRecDepth 20000 in
theorem ggX11_act_X7_kicks : GoodIn wsX11_act wsX7_kicks := goodIn_r _ [69, 70, 52, 53, 33, 54, 38, 37, 55, 71, 72, 73, 74, 75, 76, 77, 78, 57, 79, 46, 48, 49, 50, 51, 179, 180, 181, 182, 183] (by decide +kernel) (by decide +kernel)
set_option maxRecDepth 20000 in
theorem gX11_act_X7_kicks_u344X7 : GoodIn wsX11_act (va_wsO RX11 344 RX7 "BoundGodmothers$Child" ⟨"BoundGodmothers$Child", "kicks", "(ILBoundGodmothers$Deed;)I"⟩ yX7_kicks wsX7_kicks) := goodIn_app (goodIn_of _ (by decide +kernel)) ggX11_act_X7_kicks
set_option maxRecDepth 20000 in
theorem gX11_act_X0_kicks_u344X9 : GoodIn wsX11_act (va_wsU RX11 344 RX9 "BoundGodmothers$Child" ⟨"BoundGodmothers$Child", "kicks", "(ILBoundGodmothers$Deed;)I"⟩ yX0_kicks wsX0_kicks) := goodIn_app (goodIn_of _ (by decide +kernel)) ggX11_act_X0_kicks
set_option maxRecDepth 20000 in
theorem ggX11_act_X10_kicks : GoodIn wsX11_act wsX10_kicks := goodIn_r _ [76, 77, 52, 53, 33, 54, 38, 37, 55, 78, 57, 79, 46, 48, 49, 50, 51, 179, 180, 181, 182, 183] (by decide +kernel) (by decide +kernel)
set_option maxRecDepth 20000 in
theorem gX11_act_X10_kicks_u344X10 : GoodIn wsX11_act (va_wsO RX11 344 RX10 "BoundGodmothers$Child" ⟨"BoundGodmothers$Child", "kicks", "(ILBoundGodmothers$Deed;)I"⟩ yX10_kicks wsX10_kicks) := goodIn_app (goodIn_of _ (by decide +kernel)) ggX11_act_X10_kicks
set_option maxRecDepth 20000 in
theorem ggX11_act_X0_prays : GoodIn wsX11_act wsX0_prays := goodIn_r _ [85, 86, 51, 52, 53, 33, 54, 38, 37, 55, 87, 46, 47, 48, 49, 50, 88, 57, 58, 59, 60, 61, 62, 63, 64, 65, 66, 67, 68, 69, 70, 71, 72, 73, 74, 75, 76, 77, 78, 79, 80, 81, 179, 180, 181, 182, 183] (by decide +kernel) (by decide +kernel)
set_option maxRecDepth 20000 in
theorem gX11_act_X0_prays : GoodIn wsX11_act (wsV RX11 348 RX0 yX0_prays wsX0_prays) := goodIn_app (goodIn_of _ (by decide +kernel)) ggX11_act_X0_prays
set_option maxRecDepth 20000 in
theorem ggX11_act_X5_prays : GoodIn wsX11_act wsX5_prays := goodIn_r _ [95, 96, 52, 53, 33, 54, 38, 37, 55, 97, 90, 98, 83, 48, 85, 86, 51, 87, 46, 47, 49, 50, 88, 57, 58, 59, 60, 61, 62, 63, 64, 65, 66, 67, 68, 69, 70, 71, 72, 73, 74, 75, 76, 77, 78, 79, 80, 81, 179, 180, 181, 182, 183] (by decide +kernel) (by decide +kernel)
set_option maxRecDepth 20000 in
theorem gX11_act_X5_prays_u348X3 : GoodIn wsX11_act (va_wsO RX11 348 RX3 "BoundGodmothers$Child" ⟨"BoundGodmothers$Child", "prays", "(ILBoundGodmothers$Deed;)I"⟩ yX5_prays wsX5_prays) := goodIn_app (goodIn_of _ (by decide +kernel)) ggX11_act_X5_prays
set_option maxRecDepth 20000 in
theorem gX11_act_X5_prays_u348X5 : GoodIn wsX11_act (va_wsO RX11 348 RX5 "BoundGodmothers$Child" ⟨"BoundGodmothers$Child", "prays", "(ILBoundGodmothers$Deed;)I"⟩ yX5_prays wsX5_prays) := goodIn_app (goodIn_of _ (by decide +kernel)) ggX11_act_X5_prays
set_option maxRecDepth 20000 in
theorem ggX11_act_X7_prays : GoodIn wsX11_act wsX7_prays := goodIn_r _ [102, 103, 70, 52, 53, 33, 54, 38, 37, 55, 104, 67, 105, 68, 69, 71, 72, 73, 74, 75, 76, 77, 78, 57, 79, 46, 48, 49, 50, 51, 179, 180, 181, 182, 183] (by decide +kernel) (by decide +kernel)
set_option maxRecDepth 20000 in
theorem gX11_act_X7_prays_u348X7 : GoodIn wsX11_act (va_wsO RX11 348 RX7 "BoundGodmothers$Child" ⟨"BoundGodmothers$Child", "prays", "(ILBoundGodmothers$Deed;)I"⟩ yX7_prays wsX7_prays) := goodIn_app (goodIn_of _ (by decide +kernel)) ggX11_act_X7_prays
set_option maxRecDepth 20000 in
theorem gX11_act_X0_prays_u348X9 : GoodIn wsX11_act (va_wsU RX11 348 RX9 "BoundGodmothers$Child" ⟨"BoundGodmothers$Child", "prays", "(ILBoundGodmothers$Deed;)I"⟩ yX0_prays wsX0_prays) := goodIn_app (goodIn_of _ (by decide +kernel)) ggX11_act_X0_prays
set_option maxRecDepth 20000 in
theorem gX11_act_X0_prays_u348X10 : GoodIn wsX11_act (va_wsU RX11 348 RX10 "BoundGodmothers$Child" ⟨"BoundGodmothers$Child", "prays", "(ILBoundGodmothers$Deed;)I"⟩ yX0_prays wsX0_prays) := goodIn_app (goodIn_of _ (by decide +kernel)) ggX11_act_X0_prays
set_option maxRecDepth 20000 in
theorem ggX11_act_X0_parts : GoodIn wsX11_act wsX0_parts := goodIn_r _ [111, 51, 52, 53, 33, 54, 38, 37, 55, 112, 113, 114, 115, 36, 35, 179, 180, 181, 182, 183] (by decide +kernel) (by decide +kernel)
set_option maxRecDepth 20000 in
theorem gX11_act_X0_parts : GoodIn wsX11_act (wsV RX11 351 RX0 yX0_parts wsX0_parts) := goodIn_app (goodIn_of _ (by decide +kernel)) ggX11_act_X0_parts
set_option maxRecDepth 20000 in
theorem ggX11_act_X3_parts : GoodIn wsX11_act wsX3_parts := goodIn_r _ [121, 64, 52, 53, 33, 54, 38, 37, 55, 179, 180, 181, 182, 183] (by decide +kernel) (by decide +kernel)
set_option maxRecDepth 20000 in
theorem gX11_act_X3_parts_u351X3 : GoodIn wsX11_act (va_wsO RX11 351 RX3 "BoundGodmothers$Child" ⟨"BoundGodmothers$Child", "parts", "(ILBoundGodmothers$Deed;)I"⟩ yX3_parts wsX3_parts) := goodIn_app (goodIn_of _ (by decide +kernel)) ggX11_act_X3_parts
set_option maxRecDepth 20000 in
theorem gX11_act_X0_parts_u351X5 : GoodIn wsX11_act (va_wsU RX11 351 RX5 "BoundGodmothers$Child" ⟨"BoundGodmothers$Child", "parts", "(ILBoundGodmothers$Deed;)I"⟩ yX0_parts wsX0_parts) := goodIn_app (goodIn_of _ (by decide +kernel)) ggX11_act_X0_parts
set_option maxRecDepth 20000 in
theorem gX11_act_X0_parts_u351X7 : GoodIn wsX11_act (va_wsU RX11 351 RX7 "BoundGodmothers$Child" ⟨"BoundGodmothers$Child", "parts", "(ILBoundGodmothers$Deed;)I"⟩ yX0_parts wsX0_parts) := goodIn_app (goodIn_of _ (by decide +kernel)) ggX11_act_X0_parts
set_option maxRecDepth 20000 in
theorem ggX11_act_X9_parts : GoodIn wsX11_act wsX9_parts := goodIn_r _ [127, 128, 129, 52, 53, 33, 54, 38, 37, 55, 130, 117, 131, 109, 48, 111, 51, 112, 113, 114, 115, 36, 35, 132, 133, 134, 46, 49, 50, 179, 180, 181, 182, 183] (by decide +kernel) (by decide +kernel)
set_option maxRecDepth 20000 in
theorem gX11_act_X9_parts_u351X9 : GoodIn wsX11_act (va_wsO RX11 351 RX9 "BoundGodmothers$Child" ⟨"BoundGodmothers$Child", "parts", "(ILBoundGodmothers$Deed;)I"⟩ yX9_parts wsX9_parts) := goodIn_app (goodIn_of _ (by decide +kernel)) ggX11_act_X9_parts
set_option maxRecDepth 20000 in
theorem gX11_act_X0_parts_u351X10 : GoodIn wsX11_act (va_wsU RX11 351 RX10 "BoundGodmothers$Child" ⟨"BoundGodmothers$Child", "parts", "(ILBoundGodmothers$Deed;)I"⟩ yX0_parts wsX0_parts) := goodIn_app (goodIn_of _ (by decide +kernel)) ggX11_act_X0_parts
set_option maxRecDepth 20000 in
theorem ggX11_act_X0_grows : GoodIn wsX11_act wsX0_grows := goodIn_r _ [139, 51, 52, 53, 33, 54, 38, 37, 55, 140, 83, 84, 48, 85, 86, 87, 46, 47, 49, 50, 88, 57, 58, 59, 60, 61, 62, 63, 64, 65, 66, 67, 68, 69, 70, 71, 72, 73, 74, 75, 76, 77, 78, 79, 80, 81, 141, 90, 91, 92, 93, 94, 95, 96, 97, 98, 99, 100, 101, 102, 103, 104, 105, 106, 107, 179, 180, 181, 182, 183] (by decide +kernel) (by decide +kernel)
set_option maxRecDepth 20000 in
theorem gX11_act_X0_grows : GoodIn wsX11_act (wsV RX11 354 RX0 yX0_grows wsX0_grows) := goodIn_app (goodIn_of _ (by decide +kernel)) ggX11_act_X0_grows
set_option maxRecDepth 20000 in
theorem gX11_act_X0_grows_u354X3 : GoodIn wsX11_act (va_wsU RX11 354 RX3 "BoundGodmothers$Child" ⟨"BoundGodmothers$Child", "grows", "(ILBoundGodmothers$Deed;)I"⟩ yX0_grows wsX0_grows) := goodIn_app (goodIn_of _ (by decide +kernel)) ggX11_act_X0_grows
set_option maxRecDepth 20000 in
theorem gX11_act_X0_grows_u354X5 : GoodIn wsX11_act (va_wsU RX11 354 RX5 "BoundGodmothers$Child" ⟨"BoundGodmothers$Child", "grows", "(ILBoundGodmothers$Deed;)I"⟩ yX0_grows wsX0_grows) := goodIn_app (goodIn_of _ (by decide +kernel)) ggX11_act_X0_grows
set_option maxRecDepth 20000 in
theorem ggX11_act_X10_grows : GoodIn wsX11_act wsX10_grows := goodIn_r _ [149, 150, 77, 52, 53, 33, 54, 38, 37, 55, 151, 143, 79, 137, 48, 139, 51, 140, 83, 84, 85, 86, 87, 46, 47, 49, 50, 88, 57, 58, 59, 60, 61, 62, 63, 64, 65, 66, 67, 68, 69, 70, 71, 72, 73, 74, 75, 76, 78, 80, 81, 141, 90, 91, 92, 93, 94, 95, 96, 97, 98, 99, 100, 101, 102, 103, 104, 105, 106, 107, 152, 153, 154, 109, 111, 112, 113, 114, 115, 36, 35, 155, 179, 180, 181, 182, 183] (by decide +kernel) (by decide +kernel)
set_option maxRecDepth 20000 in
theorem gX11_act_X10_grows_u354X7 : GoodIn wsX11_act (va_wsO RX11 354 RX7 "BoundGodmothers$Child" ⟨"BoundGodmothers$Child", "grows", "(ILBoundGodmothers$Deed;)I"⟩ yX10_grows wsX10_grows) := goodIn_app (goodIn_of _ (by decide +kernel)) ggX11_act_X10_grows
set_option maxRecDepth 20000 in
theorem ggX11_act_X9_grows : GoodIn wsX11_act wsX9_grows := goodIn_r _ [158, 129, 52, 53, 33, 54, 38, 37, 55, 159, 143, 131, 137, 48, 139, 51, 140, 83, 84, 85, 86, 87, 46, 47, 49, 50, 88, 57, 58, 59, 60, 61, 62, 63, 64, 65, 66, 67, 68, 69, 70, 71, 72, 73, 74, 75, 76, 77, 78, 79, 80, 81, 141, 90, 91, 92, 93, 94, 95, 96, 97, 98, 99, 100, 101, 102, 103, 104, 105, 106, 107, 179, 180, 181, 182, 183] (by decide +kernel) (by decide +kernel)
set_option maxRecDepth 20000 in
theorem gX11_act_X9_grows_u354X9 : GoodIn wsX11_act (va_wsO RX11 354 RX9 "BoundGodmothers$Child" ⟨"BoundGodmothers$Child", "grows", "(ILBoundGodmothers$Deed;)I"⟩ yX9_grows wsX9_grows) := goodIn_app (goodIn_of _ (by decide +kernel)) ggX11_act_X9_grows
set_option maxRecDepth 20000 in
theorem gX11_act_X10_grows_u354X10 : GoodIn wsX11_act (va_wsO RX11 354 RX10 "BoundGodmothers$Child" ⟨"BoundGodmothers$Child", "grows", "(ILBoundGodmothers$Deed;)I"⟩ yX10_grows wsX10_grows) := goodIn_app (goodIn_of _ (by decide +kernel)) ggX11_act_X10_grows
theorem dX11_act_0 : decode cX11_act 0 = .ok (.aload_n 0, 1) := by decide +kernel
theorem dX11_act_1 : decode cX11_act 1 = .ok (.getfield 59, 3) := by decide +kernel
theorem dX11_act_4 : decode cX11_act 4 = .ok (.iload_n 1, 1) := by decide +kernel
theorem dX11_act_5 : decode cX11_act 5 = .ok (.invokevirtual 331, 3) := by decide +kernel
theorem dX11_act_8 : decode cX11_act 8 = .ok (.istore 4, 2) := by decide +kernel
theorem dX11_act_10 : decode cX11_act 10 = .ok (.aload_n 0, 1) := by decide +kernel
theorem dX11_act_11 : decode cX11_act 11 = .ok (.getfield 30, 3) := by decide +kernel
theorem dX11_act_14 : decode cX11_act 14 = .ok (.iload 4, 2) := by decide +kernel
theorem dX11_act_16 : decode cX11_act 16 = .ok (.invokevirtual 131, 3) := by decide +kernel
theorem dX11_act_19 : decode cX11_act 19 = .ok (.astore 5, 2) := by decide +kernel
theorem dX11_act_21 : decode cX11_act 21 = .ok (.aload_n 0, 1) := by decide +kernel
theorem dX11_act_22 : decode cX11_act 22 = .ok (.getfield 66, 3) := by decide +kernel
theorem dX11_act_25 : decode cX11_act 25 = .ok (.iload 4, 2) := by decide +kernel
theorem dX11_act_27 : decode cX11_act 27 = .ok (.aload 5, 2) := by decide +kernel
theorem dX11_act_29 : decode cX11_act 29 = .ok (.ifnonnull 7, 3) := by decide +kernel
theorem dX11_act_32 : decode cX11_act 32 = .ok (.iconst 0, 1) := by decide +kernel
theorem dX11_act_33 : decode cX11_act 33 = .ok (.goto 8, 3) := by decide +kernel
theorem dX11_act_36 : decode cX11_act 36 = .ok (.aload 5, 2) := by decide +kernel
theorem dX11_act_38 : decode cX11_act 38 = .ok (.getfield 156, 3) := by decide +kernel
theorem dX11_act_41 : decode cX11_act 41 = .ok (.invokevirtual 342, 3) := by decide +kernel
theorem dX11_act_44 : decode cX11_act 44 = .ok (.aload 5, 2) := by decide +kernel
theorem dX11_act_46 : decode cX11_act 46 = .ok (.ifnonnull 5, 3) := by decide +kernel
theorem dX11_act_49 : decode cX11_act 49 = .ok (.iconst 0, 1) := by decide +kernel
theorem dX11_act_50 : decode cX11_act 50 = .ok (.ireturn, 1) := by decide +kernel
theorem dX11_act_51 : decode cX11_act 51 = .ok (.aload_n 0, 1) := by decide +kernel
theorem dX11_act_52 : decode cX11_act 52 = .ok (.getfield 30, 3) := by decide +kernel
theorem dX11_act_55 : decode cX11_act 55 = .ok (.aload 5, 2) := by decide +kernel
theorem dX11_act_57 : decode cX11_act 57 = .ok (.invokevirtual 334, 3) := by decide +kernel
theorem dX11_act_60 : decode cX11_act 60 = .ok (.astore 6, 2) := by decide +kernel
theorem dX11_act_62 : decode cX11_act 62 = .ok (.iload_n 2, 1) := by decide +kernel
theorem dX11_act_63 : decode cX11_act 63 = .ok (.tableswitch 89 0 3 #[29, 44, 59, 74], 29) := by decide +kernel
theorem dX11_act_92 : decode cX11_act 92 = .ok (.aload 6, 2) := by decide +kernel
theorem dX11_act_94 : decode cX11_act 94 = .ok (.iload_n 3, 1) := by decide +kernel
theorem dX11_act_95 : decode cX11_act 95 = .ok (.aload_n 0, 1) := by decide +kernel
theorem dX11_act_96 : decode cX11_act 96 = .ok (.getfield 66, 3) := by decide +kernel
theorem dX11_act_99 : decode cX11_act 99 = .ok (.invokevirtual 344, 3) := by decide +kernel
theorem dX11_act_102 : decode cX11_act 102 = .ok (.istore 7, 2) := by decide +kernel
theorem dX11_act_104 : decode cX11_act 104 = .ok (.goto 51, 3) := by decide +kernel
theorem dX11_act_107 : decode cX11_act 107 = .ok (.aload 6, 2) := by decide +kernel
theorem dX11_act_109 : decode cX11_act 109 = .ok (.iload_n 3, 1) := by decide +kernel
theorem dX11_act_110 : decode cX11_act 110 = .ok (.aload_n 0, 1) := by decide +kernel
theorem dX11_act_111 : decode cX11_act 111 = .ok (.getfield 66, 3) := by decide +kernel
theorem dX11_act_114 : decode cX11_act 114 = .ok (.invokevirtual 348, 3) := by decide +kernel
theorem dX11_act_117 : decode cX11_act 117 = .ok (.istore 7, 2) := by decide +kernel
theorem dX11_act_119 : decode cX11_act 119 = .ok (.goto 36, 3) := by decide +kernel
theorem dX11_act_122 : decode cX11_act 122 = .ok (.aload 6, 2) := by decide +kernel
theorem dX11_act_124 : decode cX11_act 124 = .ok (.iload_n 3, 1) := by decide +kernel
theorem dX11_act_125 : decode cX11_act 125 = .ok (.aload_n 0, 1) := by decide +kernel
theorem dX11_act_126 : decode cX11_act 126 = .ok (.getfield 66, 3) := by decide +kernel
theorem dX11_act_129 : decode cX11_act 129 = .ok (.invokevirtual 351, 3) := by decide +kernel
theorem dX11_act_132 : decode cX11_act 132 = .ok (.istore 7, 2) := by decide +kernel
theorem dX11_act_134 : decode cX11_act 134 = .ok (.goto 21, 3) := by decide +kernel
theorem dX11_act_137 : decode cX11_act 137 = .ok (.aload 6, 2) := by decide +kernel
theorem dX11_act_139 : decode cX11_act 139 = .ok (.iload_n 3, 1) := by decide +kernel
theorem dX11_act_140 : decode cX11_act 140 = .ok (.aload_n 0, 1) := by decide +kernel
theorem dX11_act_141 : decode cX11_act 141 = .ok (.getfield 66, 3) := by decide +kernel
theorem dX11_act_144 : decode cX11_act 144 = .ok (.invokevirtual 354, 3) := by decide +kernel
theorem dX11_act_147 : decode cX11_act 147 = .ok (.istore 7, 2) := by decide +kernel
theorem dX11_act_149 : decode cX11_act 149 = .ok (.goto 6, 3) := by decide +kernel
theorem dX11_act_152 : decode cX11_act 152 = .ok (.iconst 0, 1) := by decide +kernel
theorem dX11_act_153 : decode cX11_act 153 = .ok (.istore 7, 2) := by decide +kernel
theorem dX11_act_155 : decode cX11_act 155 = .ok (.aload_n 0, 1) := by decide +kernel
theorem dX11_act_156 : decode cX11_act 156 = .ok (.getfield 66, 3) := by decide +kernel
theorem dX11_act_159 : decode cX11_act 159 = .ok (.getfield 357, 3) := by decide +kernel
theorem dX11_act_162 : decode cX11_act 162 = .ok (.ifCond .eq 8, 3) := by decide +kernel
theorem dX11_act_165 : decode cX11_act 165 = .ok (.bipush (-15), 2) := by decide +kernel
theorem dX11_act_167 : decode cX11_act 167 = .ok (.goto 5, 3) := by decide +kernel
theorem dX11_act_170 : decode cX11_act 170 = .ok (.iload 7, 2) := by decide +kernel
theorem dX11_act_172 : decode cX11_act 172 = .ok (.ireturn, 1) := by decide +kernel
set_option maxRecDepth 20000 in
theorem ggX11_trace_X11_within : GoodIn wsX11_trace wsX11_within := goodIn_r _ [7] (by decide +kernel) (by decide +kernel)
set_option maxRecDepth 20000 in
theorem gX11_trace_X11_within : GoodIn wsX11_trace (va_wsS RX11 106 yX11_within wsX11_within) := goodIn_app (goodIn_of _ (by decide +kernel)) ggX11_trace_X11_within
theorem dX11_trace_0 : decode cX11_trace 0 = .ok (.iload_n 1, 1) := by decide +kernel
theorem dX11_trace_1 : decode cX11_trace 1 = .ok (.aload_n 0, 1) := by decide +kernel
theorem dX11_trace_2 : decode cX11_trace 2 = .ok (.getfield 66, 3) := by decide +kernel
theorem dX11_trace_5 : decode cX11_trace 5 = .ok (.getfield 361, 3) := by decide +kernel
theorem dX11_trace_8 : decode cX11_trace 8 = .ok (.iconst 1, 1) := by decide +kernel
theorem dX11_trace_9 : decode cX11_trace 9 = .ok (.isub, 1) := by decide +kernel
theorem dX11_trace_10 : decode cX11_trace 10 = .ok (.invokestatic 106, 3) := by decide +kernel
theorem dX11_trace_13 : decode cX11_trace 13 = .ok (.ifCond .eq 15, 3) := by decide +kernel
theorem dX11_trace_16 : decode cX11_trace 16 = .ok (.aload_n 0, 1) := by decide +kernel
theorem dX11_trace_17 : decode cX11_trace 17 = .ok (.getfield 66, 3) := by decide +kernel
theorem dX11_trace_20 : decode cX11_trace 20 = .ok (.getfield 362, 3) := by decide +kernel
theorem dX11_trace_23 : decode cX11_trace 23 = .ok (.iload_n 1, 1) := by decide +kernel
theorem dX11_trace_24 : decode cX11_trace 24 = .ok (.iaload, 1) := by decide +kernel
theorem dX11_trace_25 : decode cX11_trace 25 = .ok (.goto 5, 3) := by decide +kernel
theorem dX11_trace_28 : decode cX11_trace 28 = .ok (.bipush (-3), 2) := by decide +kernel
theorem dX11_trace_30 : decode cX11_trace 30 = .ok (.ireturn, 1) := by decide +kernel
set_option maxRecDepth 20000 in
theorem ggX11_many_X1_ofAge : GoodIn wsX11_many wsX1_ofAge := goodIn_r _ [13, 14, 15, 16, 17, 12, 18, 19, 20, 21, 22, 23, 24, 25, 26, 27, 28, 29, 30, 31, 32, 33, 34, 35, 36, 37, 38, 39, 40, 41, 42, 43, 44, 45, 46, 47, 48, 49, 50, 51, 52, 53, 54, 55, 56, 57, 58, 59, 60, 61, 62, 63, 64, 65, 66, 67, 68, 69, 70, 71, 72, 73, 74, 75, 76, 77, 78, 79, 80, 81, 110, 111, 112, 113, 114, 115, 116, 117, 129, 130, 131, 132, 133, 134] (by decide +kernel) (by decide +kernel)
set_option maxRecDepth 20000 in
theorem gX11_many_X1_ofAge : GoodIn wsX11_many (wsV RX11 194 RX1 yX1_ofAge wsX1_ofAge) := goodIn_app (goodIn_of _ (by decide +kernel)) ggX11_many_X1_ofAge
set_option maxRecDepth 20000 in
theorem ggX11_many_J6_bitCount_0f7a4 : GoodIn wsX11_many wsJ6_bitCount_0f7a4 := goodIn_r _ [85, 86, 87, 88] (by decide +kernel) (by decide +kernel)
set_option maxRecDepth 20000 in
theorem gX11_many_J6_bitCount_0f7a4 : GoodIn wsX11_many (va_wsS RX11 237 yJ6_bitCount_0f7a4 wsJ6_bitCount_0f7a4) := goodIn_app (goodIn_of _ (by decide +kernel)) ggX11_many_J6_bitCount_0f7a4
set_option maxRecDepth 20000 in
theorem ggX11_many_X1_godmothersInUse : GoodIn wsX11_many wsX1_godmothersInUse := goodIn_r _ [92, 93, 94, 95, 12, 96, 14, 97, 24, 25, 26, 27, 28, 29, 22, 30, 31, 32, 33, 34, 110, 111, 112, 113, 114, 115, 116, 117, 129, 130, 131, 132, 133, 134] (by decide +kernel) (by decide +kernel)
set_option maxRecDepth 20000 in
theorem gX11_many_X1_godmothersInUse : GoodIn wsX11_many (wsV RX11 365 RX1 yX1_godmothersInUse wsX1_godmothersInUse) := goodIn_app (goodIn_of _ (by decide +kernel)) ggX11_many_X1_godmothersInUse
theorem dX11_many_0 : decode cX11_many 0 = .ok (.iload_n 1, 1) := by decide +kernel
theorem dX11_many_1 : decode cX11_many 1 = .ok (.tableswitch 110 0 6 #[43, 51, 70, 81, 89, 94, 102], 43) := by decide +kernel
theorem dX11_many_44 : decode cX11_many 44 = .ok (.aload_n 0, 1) := by decide +kernel
theorem dX11_many_45 : decode cX11_many 45 = .ok (.getfield 30, 3) := by decide +kernel
theorem dX11_many_48 : decode cX11_many 48 = .ok (.getfield 105, 3) := by decide +kernel
theorem dX11_many_51 : decode cX11_many 51 = .ok (.ireturn, 1) := by decide +kernel
theorem dX11_many_52 : decode cX11_many 52 = .ok (.aload_n 0, 1) := by decide +kernel
theorem dX11_many_53 : decode cX11_many 53 = .ok (.getfield 30, 3) := by decide +kernel
theorem dX11_many_56 : decode cX11_many 56 = .ok (.getfield 105, 3) := by decide +kernel
theorem dX11_many_59 : decode cX11_many 59 = .ok (.aload_n 0, 1) := by decide +kernel
theorem dX11_many_60 : decode cX11_many 60 = .ok (.getfield 30, 3) := by decide +kernel
theorem dX11_many_63 : decode cX11_many 63 = .ok (.invokevirtual 194, 3) := by decide +kernel
theorem dX11_many_66 : decode cX11_many 66 = .ok (.invokestatic 237, 3) := by decide +kernel
theorem dX11_many_69 : decode cX11_many 69 = .ok (.isub, 1) := by decide +kernel
theorem dX11_many_70 : decode cX11_many 70 = .ok (.ireturn, 1) := by decide +kernel
theorem dX11_many_71 : decode cX11_many 71 = .ok (.aload_n 0, 1) := by decide +kernel
theorem dX11_many_72 : decode cX11_many 72 = .ok (.getfield 30, 3) := by decide +kernel
theorem dX11_many_75 : decode cX11_many 75 = .ok (.getfield 165, 3) := by decide +kernel
theorem dX11_many_78 : decode cX11_many 78 = .ok (.invokestatic 237, 3) := by decide +kernel
theorem dX11_many_81 : decode cX11_many 81 = .ok (.ireturn, 1) := by decide +kernel
theorem dX11_many_82 : decode cX11_many 82 = .ok (.aload_n 0, 1) := by decide +kernel
theorem dX11_many_83 : decode cX11_many 83 = .ok (.getfield 30, 3) := by decide +kernel
theorem dX11_many_86 : decode cX11_many 86 = .ok (.invokevirtual 365, 3) := by decide +kernel
theorem dX11_many_89 : decode cX11_many 89 = .ok (.ireturn, 1) := by decide +kernel
theorem dX11_many_90 : decode cX11_many 90 = .ok (.aload_n 0, 1) := by decide +kernel
theorem dX11_many_91 : decode cX11_many 91 = .ok (.getfield 102, 3) := by decide +kernel
theorem dX11_many_94 : decode cX11_many 94 = .ok (.ireturn, 1) := by decide +kernel
theorem dX11_many_95 : decode cX11_many 95 = .ok (.aload_n 0, 1) := by decide +kernel
theorem dX11_many_96 : decode cX11_many 96 = .ok (.getfield 52, 3) := by decide +kernel
theorem dX11_many_99 : decode cX11_many 99 = .ok (.getfield 84, 3) := by decide +kernel
theorem dX11_many_102 : decode cX11_many 102 = .ok (.ireturn, 1) := by decide +kernel
theorem dX11_many_103 : decode cX11_many 103 = .ok (.aload_n 0, 1) := by decide +kernel
theorem dX11_many_104 : decode cX11_many 104 = .ok (.getfield 66, 3) := by decide +kernel
theorem dX11_many_107 : decode cX11_many 107 = .ok (.getfield 361, 3) := by decide +kernel
theorem dX11_many_110 : decode cX11_many 110 = .ok (.ireturn, 1) := by decide +kernel
theorem dX11_many_111 : decode cX11_many 111 = .ok (.iconst (-1), 1) := by decide +kernel
theorem dX11_many_112 : decode cX11_many 112 = .ok (.ireturn, 1) := by decide +kernel
set_option maxRecDepth 20000 in
theorem ggX11_keep_X1_become : GoodIn wsX11_keep wsX1_become := goodIn_r _ [8, 9, 10, 11, 12, 13, 14, 15, 16, 17, 18, 19, 20, 21, 22, 23, 24, 25, 26, 39, 40, 41, 42, 43, 44, 45, 46, 47, 48, 49, 50, 51, 52] (by decide +kernel) (by decide +kernel)
set_option maxRecDepth 20000 in
theorem gX11_keep_X1_become : GoodIn wsX11_keep (wsV RX11 98 RX1 yX1_become wsX1_become) := goodIn_app (goodIn_of _ (by decide +kernel)) ggX11_keep_X1_become
theorem dX11_keep_0 : decode cX11_keep 0 = .ok (.aload_n 0, 1) := by decide +kernel
theorem dX11_keep_1 : decode cX11_keep 1 = .ok (.getfield 36, 3) := by decide +kernel
theorem dX11_keep_4 : decode cX11_keep 4 = .ok (.aload_n 0, 1) := by decide +kernel
theorem dX11_keep_5 : decode cX11_keep 5 = .ok (.getfield 30, 3) := by decide +kernel
theorem dX11_keep_8 : decode cX11_keep 8 = .ok (.invokevirtual 98, 3) := by decide +kernel
theorem dX11_keep_11 : decode cX11_keep 11 = .ok (.aload_n 0, 1) := by decide +kernel
theorem dX11_keep_12 : decode cX11_keep 12 = .ok (.iconst 1, 1) := by decide +kernel
theorem dX11_keep_13 : decode cX11_keep 13 = .ok (.putfield 368, 3) := by decide +kernel
theorem dX11_keep_16 : decode cX11_keep 16 = .ok (.iconst 1, 1) := by decide +kernel
theorem dX11_keep_17 : decode cX11_keep 17 = .ok (.ireturn, 1) := by decide +kernel
set_option maxRecDepth 20000 in
theorem ggX11_again_X1_become : GoodIn wsX11_again wsX1_become := goodIn_r _ [9, 10, 11, 12, 13, 14, 15, 16, 17, 18, 19, 20, 21, 22, 23, 24, 25, 26, 27, 40, 41, 42, 43, 44, 45, 46, 47, 48, 49, 50, 51, 52, 53] (by decide +kernel) (by decide +kernel)
set_option maxRecDepth 20000 in
theorem gX11_again_X1_become : GoodIn wsX11_again (wsV RX11 98 RX1 yX1_become wsX1_become) := goodIn_app (goodIn_of _ (by decide +kernel)) ggX11_again_X1_become
theorem dX11_again_0 : decode cX11_again 0 = .ok (.aload_n 0, 1) := by decide +kernel
theorem dX11_again_1 : decode cX11_again 1 = .ok (.getfield 368, 3) := by decide +kernel
theorem dX11_again_4 : decode cX11_again 4 = .ok (.ifCond .ne 6, 3) := by decide +kernel
theorem dX11_again_7 : decode cX11_again 7 = .ok (.bipush (-3), 2) := by decide +kernel
theorem dX11_again_9 : decode cX11_again 9 = .ok (.ireturn, 1) := by decide +kernel
theorem dX11_again_10 : decode cX11_again 10 = .ok (.aload_n 0, 1) := by decide +kernel
theorem dX11_again_11 : decode cX11_again 11 = .ok (.getfield 30, 3) := by decide +kernel
theorem dX11_again_14 : decode cX11_again 14 = .ok (.aload_n 0, 1) := by decide +kernel
theorem dX11_again_15 : decode cX11_again 15 = .ok (.getfield 36, 3) := by decide +kernel
theorem dX11_again_18 : decode cX11_again 18 = .ok (.invokevirtual 98, 3) := by decide +kernel
theorem dX11_again_21 : decode cX11_again 21 = .ok (.aload_n 0, 1) := by decide +kernel
theorem dX11_again_22 : decode cX11_again 22 = .ok (.getfield 30, 3) := by decide +kernel
theorem dX11_again_25 : decode cX11_again 25 = .ok (.getfield 105, 3) := by decide +kernel
theorem dX11_again_28 : decode cX11_again 28 = .ok (.ireturn, 1) := by decide +kernel
theorem dX11_within_0 : decode cX11_within 0 = .ok (.iload_n 0, 1) := by decide +kernel
theorem dX11_within_1 : decode cX11_within 1 = .ok (.ifCond .lt 12, 3) := by decide +kernel
theorem dX11_within_4 : decode cX11_within 4 = .ok (.iload_n 0, 1) := by decide +kernel
theorem dX11_within_5 : decode cX11_within 5 = .ok (.iload_n 1, 1) := by decide +kernel
theorem dX11_within_6 : decode cX11_within 6 = .ok (.if_icmp .gt 7, 3) := by decide +kernel
theorem dX11_within_9 : decode cX11_within 9 = .ok (.iconst 1, 1) := by decide +kernel
theorem dX11_within_10 : decode cX11_within 10 = .ok (.goto 4, 3) := by decide +kernel
theorem dX11_within_13 : decode cX11_within 13 = .ok (.iconst 0, 1) := by decide +kernel
theorem dX11_within_14 : decode cX11_within 14 = .ok (.ireturn, 1) := by decide +kernel
set_option maxRecDepth 20000 in
theorem ggX11_isGodmother_X11_within : GoodIn wsX11_isGodmother wsX11_within := goodIn_r _ [4] (by decide +kernel) (by decide +kernel)
set_option maxRecDepth 20000 in
theorem gX11_isGodmother_X11_within : GoodIn wsX11_isGodmother (va_wsS RX11 106 yX11_within wsX11_within) := goodIn_app (goodIn_of _ (by decide +kernel)) ggX11_isGodmother_X11_within
theorem dX11_isGodmother_0 : decode cX11_isGodmother 0 = .ok (.iload_n 0, 1) := by decide +kernel
theorem dX11_isGodmother_1 : decode cX11_isGodmother 1 = .ok (.bipush 7, 2) := by decide +kernel
theorem dX11_isGodmother_3 : decode cX11_isGodmother 3 = .ok (.invokestatic 106, 3) := by decide +kernel
theorem dX11_isGodmother_6 : decode cX11_isGodmother 6 = .ok (.ireturn, 1) := by decide +kernel
set_option maxRecDepth 20000 in
theorem ggX11_isKindWithFire_X11_within : GoodIn wsX11_isKindWithFire wsX11_within := goodIn_r _ [4] (by decide +kernel) (by decide +kernel)
set_option maxRecDepth 20000 in
theorem gX11_isKindWithFire_X11_within : GoodIn wsX11_isKindWithFire (va_wsS RX11 106 yX11_within wsX11_within) := goodIn_app (goodIn_of _ (by decide +kernel)) ggX11_isKindWithFire_X11_within
theorem dX11_isKindWithFire_0 : decode cX11_isKindWithFire 0 = .ok (.iload_n 0, 1) := by decide +kernel
theorem dX11_isKindWithFire_1 : decode cX11_isKindWithFire 1 = .ok (.iconst 5, 1) := by decide +kernel
theorem dX11_isKindWithFire_2 : decode cX11_isKindWithFire 2 = .ok (.invokestatic 106, 3) := by decide +kernel
theorem dX11_isKindWithFire_5 : decode cX11_isKindWithFire 5 = .ok (.ifCond .eq 16, 3) := by decide +kernel
theorem dX11_isKindWithFire_8 : decode cX11_isKindWithFire 8 = .ok (.iload_n 1, 1) := by decide +kernel
theorem dX11_isKindWithFire_9 : decode cX11_isKindWithFire 9 = .ok (.bipush 9, 2) := by decide +kernel
theorem dX11_isKindWithFire_11 : decode cX11_isKindWithFire 11 = .ok (.invokestatic 106, 3) := by decide +kernel
theorem dX11_isKindWithFire_14 : decode cX11_isKindWithFire 14 = .ok (.ifCond .eq 7, 3) := by decide +kernel
theorem dX11_isKindWithFire_17 : decode cX11_isKindWithFire 17 = .ok (.iconst 1, 1) := by decide +kernel
theorem dX11_isKindWithFire_18 : decode cX11_isKindWithFire 18 = .ok (.goto 4, 3) := by decide +kernel
theorem dX11_isKindWithFire_21 : decode cX11_isKindWithFire 21 = .ok (.iconst 0, 1) := by decide +kernel
theorem dX11_isKindWithFire_22 : decode cX11_isKindWithFire 22 = .ok (.ireturn, 1) := by decide +kernel
theorem dX11_isPlan_0 : decode cX11_isPlan 0 = .ok (.iload_n 0, 1) := by decide +kernel
theorem dX11_isPlan_1 : decode cX11_isPlan 1 = .ok (.iconst 1, 1) := by decide +kernel
theorem dX11_isPlan_2 : decode cX11_isPlan 2 = .ok (.if_icmp .lt 13, 3) := by decide +kernel
theorem dX11_isPlan_5 : decode cX11_isPlan 5 = .ok (.iload_n 0, 1) := by decide +kernel
theorem dX11_isPlan_6 : decode cX11_isPlan 6 = .ok (.bipush 30, 2) := by decide +kernel
theorem dX11_isPlan_8 : decode cX11_isPlan 8 = .ok (.if_icmp .gt 7, 3) := by decide +kernel
theorem dX11_isPlan_11 : decode cX11_isPlan 11 = .ok (.iconst 1, 1) := by decide +kernel
theorem dX11_isPlan_12 : decode cX11_isPlan 12 = .ok (.goto 4, 3) := by decide +kernel
theorem dX11_isPlan_15 : decode cX11_isPlan 15 = .ok (.iconst 0, 1) := by decide +kernel
theorem dX11_isPlan_16 : decode cX11_isPlan 16 = .ok (.ireturn, 1) := by decide +kernel
theorem dX11_held_0 : decode cX11_held 0 = .ok (.iconst 0, 1) := by decide +kernel
theorem dX11_held_1 : decode cX11_held 1 = .ok (.bipush 99, 2) := by decide +kernel
theorem dX11_held_3 : decode cX11_held 3 = .ok (.iload_n 0, 1) := by decide +kernel
theorem dX11_held_4 : decode cX11_held 4 = .ok (.invokestatic 242, 3) := by decide +kernel
theorem dX11_held_7 : decode cX11_held 7 = .ok (.invokestatic 216, 3) := by decide +kernel
theorem dX11_held_10 : decode cX11_held 10 = .ok (.ireturn, 1) := by decide +kernel
set_option maxRecDepth 20000 in
theorem ggX12_init_X12_begins : GoodIn wsX12_init wsX12_begins := goodIn_r _ [24, 5, 25, 26, 27, 28, 29, 30, 31, 32, 33, 34, 35, 36, 37, 38, 39, 40, 41, 42, 43, 44, 45, 46, 47, 48, 49, 50, 51, 52] (by decide +kernel) (by decide +kernel)
set_option maxRecDepth 20000 in
theorem gX12_init_X12_begins : GoodIn wsX12_init (wsV RX12 55 RX12 yX12_begins wsX12_begins) := goodIn_app (goodIn_of _ (by decide +kernel)) ggX12_init_X12_begins
theorem dX12_init_0 : decode cX12_init 0 = .ok (.aload_n 0, 1) := by decide +kernel
theorem dX12_init_1 : decode cX12_init 1 = .ok (.invokespecial 1, 3) := by decide +kernel
theorem dX12_init_4 : decode cX12_init 4 = .ok (.aload_n 0, 1) := by decide +kernel
theorem dX12_init_5 : decode cX12_init 5 = .ok (.bipush 64, 2) := by decide +kernel
theorem dX12_init_7 : decode cX12_init 7 = .ok (.newarray .int, 2) := by decide +kernel
theorem dX12_init_9 : decode cX12_init 9 = .ok (.putfield 7, 3) := by decide +kernel
theorem dX12_init_12 : decode cX12_init 12 = .ok (.aload_n 0, 1) := by decide +kernel
theorem dX12_init_13 : decode cX12_init 13 = .ok (.bipush 64, 2) := by decide +kernel
theorem dX12_init_15 : decode cX12_init 15 = .ok (.newarray .int, 2) := by decide +kernel
theorem dX12_init_17 : decode cX12_init 17 = .ok (.putfield 13, 3) := by decide +kernel
theorem dX12_init_20 : decode cX12_init 20 = .ok (.aload_n 0, 1) := by decide +kernel
theorem dX12_init_21 : decode cX12_init 21 = .ok (.bipush 64, 2) := by decide +kernel
theorem dX12_init_23 : decode cX12_init 23 = .ok (.newarray .int, 2) := by decide +kernel
theorem dX12_init_25 : decode cX12_init 25 = .ok (.putfield 16, 3) := by decide +kernel
theorem dX12_init_28 : decode cX12_init 28 = .ok (.aload_n 0, 1) := by decide +kernel
theorem dX12_init_29 : decode cX12_init 29 = .ok (.bipush 64, 2) := by decide +kernel
theorem dX12_init_31 : decode cX12_init 31 = .ok (.newarray .int, 2) := by decide +kernel
theorem dX12_init_33 : decode cX12_init 33 = .ok (.putfield 19, 3) := by decide +kernel
theorem dX12_init_36 : decode cX12_init 36 = .ok (.aload_n 0, 1) := by decide +kernel
theorem dX12_init_37 : decode cX12_init 37 = .ok (.sipush 200, 3) := by decide +kernel
theorem dX12_init_40 : decode cX12_init 40 = .ok (.newarray .int, 2) := by decide +kernel
theorem dX12_init_42 : decode cX12_init 42 = .ok (.putfield 22, 3) := by decide +kernel
theorem dX12_init_45 : decode cX12_init 45 = .ok (.aload_n 0, 1) := by decide +kernel
theorem dX12_init_46 : decode cX12_init 46 = .ok (.bipush 64, 2) := by decide +kernel
theorem dX12_init_48 : decode cX12_init 48 = .ok (.newarray .int, 2) := by decide +kernel
theorem dX12_init_50 : decode cX12_init 50 = .ok (.putfield 25, 3) := by decide +kernel
theorem dX12_init_53 : decode cX12_init 53 = .ok (.aload_n 0, 1) := by decide +kernel
theorem dX12_init_54 : decode cX12_init 54 = .ok (.sipush 256, 3) := by decide +kernel
theorem dX12_init_57 : decode cX12_init 57 = .ok (.newarray .int, 2) := by decide +kernel
theorem dX12_init_59 : decode cX12_init 59 = .ok (.putfield 28, 3) := by decide +kernel
theorem dX12_init_62 : decode cX12_init 62 = .ok (.aload_n 0, 1) := by decide +kernel
theorem dX12_init_63 : decode cX12_init 63 = .ok (.bipush 30, 2) := by decide +kernel
theorem dX12_init_65 : decode cX12_init 65 = .ok (.newarray .int, 2) := by decide +kernel
theorem dX12_init_67 : decode cX12_init 67 = .ok (.putfield 31, 3) := by decide +kernel
theorem dX12_init_70 : decode cX12_init 70 = .ok (.aload_n 0, 1) := by decide +kernel
theorem dX12_init_71 : decode cX12_init 71 = .ok (.iconst 4, 1) := by decide +kernel
theorem dX12_init_72 : decode cX12_init 72 = .ok (.newarray .int, 2) := by decide +kernel
theorem dX12_init_74 : decode cX12_init 74 = .ok (.dup, 1) := by decide +kernel
theorem dX12_init_75 : decode cX12_init 75 = .ok (.iconst 0, 1) := by decide +kernel
theorem dX12_init_76 : decode cX12_init 76 = .ok (.iconst (-1), 1) := by decide +kernel
theorem dX12_init_77 : decode cX12_init 77 = .ok (.iastore, 1) := by decide +kernel
theorem dX12_init_78 : decode cX12_init 78 = .ok (.dup, 1) := by decide +kernel
theorem dX12_init_79 : decode cX12_init 79 = .ok (.iconst 1, 1) := by decide +kernel
theorem dX12_init_80 : decode cX12_init 80 = .ok (.iconst (-1), 1) := by decide +kernel
theorem dX12_init_81 : decode cX12_init 81 = .ok (.iastore, 1) := by decide +kernel
theorem dX12_init_82 : decode cX12_init 82 = .ok (.dup, 1) := by decide +kernel
theorem dX12_init_83 : decode cX12_init 83 = .ok (.iconst 2, 1) := by decide +kernel
theorem dX12_init_84 : decode cX12_init 84 = .ok (.iconst (-1), 1) := by decide +kernel
theorem dX12_init_85 : decode cX12_init 85 = .ok (.iastore, 1) := by decide +kernel
theorem dX12_init_86 : decode cX12_init 86 = .ok (.dup, 1) := by decide +kernel
theorem dX12_init_87 : decode cX12_init 87 = .ok (.iconst 3, 1) := by decide +kernel
theorem dX12_init_88 : decode cX12_init 88 = .ok (.iconst (-1), 1) := by decide +kernel
theorem dX12_init_89 : decode cX12_init 89 = .ok (.iastore, 1) := by decide +kernel
theorem dX12_init_90 : decode cX12_init 90 = .ok (.putfield 34, 3) := by decide +kernel
theorem dX12_init_93 : decode cX12_init 93 = .ok (.aload_n 0, 1) := by decide +kernel
theorem dX12_init_94 : decode cX12_init 94 = .ok (.iconst 4, 1) := by decide +kernel
theorem dX12_init_95 : decode cX12_init 95 = .ok (.newarray .int, 2) := by decide +kernel
theorem dX12_init_97 : decode cX12_init 97 = .ok (.putfield 37, 3) := by decide +kernel
theorem dX12_init_100 : decode cX12_init 100 = .ok (.aload_n 0, 1) := by decide +kernel
theorem dX12_init_101 : decode cX12_init 101 = .ok (.sipush 160, 3) := by decide +kernel
theorem dX12_init_104 : decode cX12_init 104 = .ok (.newarray .int, 2) := by decide +kernel
theorem dX12_init_106 : decode cX12_init 106 = .ok (.putfield 40, 3) := by decide +kernel
theorem dX12_init_109 : decode cX12_init 109 = .ok (.aload_n 0, 1) := by decide +kernel
theorem dX12_init_110 : decode cX12_init 110 = .ok (.iconst 4, 1) := by decide +kernel
theorem dX12_init_111 : decode cX12_init 111 = .ok (.newarray .int, 2) := by decide +kernel
theorem dX12_init_113 : decode cX12_init 113 = .ok (.putfield 43, 3) := by decide +kernel
theorem dX12_init_116 : decode cX12_init 116 = .ok (.aload_n 0, 1) := by decide +kernel
theorem dX12_init_117 : decode cX12_init 117 = .ok (.iconst 4, 1) := by decide +kernel
theorem dX12_init_118 : decode cX12_init 118 = .ok (.newarray .int, 2) := by decide +kernel
theorem dX12_init_120 : decode cX12_init 120 = .ok (.putfield 46, 3) := by decide +kernel
theorem dX12_init_123 : decode cX12_init 123 = .ok (.aload_n 0, 1) := by decide +kernel
theorem dX12_init_124 : decode cX12_init 124 = .ok (.iconst 4, 1) := by decide +kernel
theorem dX12_init_125 : decode cX12_init 125 = .ok (.newarray .int, 2) := by decide +kernel
theorem dX12_init_127 : decode cX12_init 127 = .ok (.putfield 49, 3) := by decide +kernel
theorem dX12_init_130 : decode cX12_init 130 = .ok (.aload_n 0, 1) := by decide +kernel
theorem dX12_init_131 : decode cX12_init 131 = .ok (.bipush 30, 2) := by decide +kernel
theorem dX12_init_133 : decode cX12_init 133 = .ok (.newarray .int, 2) := by decide +kernel
theorem dX12_init_135 : decode cX12_init 135 = .ok (.putfield 52, 3) := by decide +kernel
theorem dX12_init_138 : decode cX12_init 138 = .ok (.aload_n 0, 1) := by decide +kernel
theorem dX12_init_139 : decode cX12_init 139 = .ok (.invokevirtual 55, 3) := by decide +kernel
theorem dX12_init_142 : decode cX12_init 142 = .ok (.aload_n 0, 1) := by decide +kernel
theorem dX12_init_143 : decode cX12_init 143 = .ok (.getfield 7, 3) := by decide +kernel
theorem dX12_init_146 : decode cX12_init 146 = .ok (.iconst 2, 1) := by decide +kernel
theorem dX12_init_147 : decode cX12_init 147 = .ok (.iconst 1, 1) := by decide +kernel
theorem dX12_init_148 : decode cX12_init 148 = .ok (.iastore, 1) := by decide +kernel
theorem dX12_init_149 : decode cX12_init 149 = .ok (.return_, 1) := by decide +kernel
theorem dX12_begins_0 : decode cX12_begins 0 = .ok (.aload_n 0, 1) := by decide +kernel
theorem dX12_begins_1 : decode cX12_begins 1 = .ok (.getfield 7, 3) := by decide +kernel
theorem dX12_begins_4 : decode cX12_begins 4 = .ok (.iconst 2, 1) := by decide +kernel
theorem dX12_begins_5 : decode cX12_begins 5 = .ok (.iaload, 1) := by decide +kernel
theorem dX12_begins_6 : decode cX12_begins 6 = .ok (.istore_n 1, 1) := by decide +kernel
theorem dX12_begins_7 : decode cX12_begins 7 = .ok (.iconst 0, 1) := by decide +kernel
theorem dX12_begins_8 : decode cX12_begins 8 = .ok (.istore_n 2, 1) := by decide +kernel
theorem dX12_begins_9 : decode cX12_begins 9 = .ok (.iload_n 2, 1) := by decide +kernel
theorem dX12_begins_10 : decode cX12_begins 10 = .ok (.bipush 64, 2) := by decide +kernel
theorem dX12_begins_12 : decode cX12_begins 12 = .ok (.if_icmp .ge 16, 3) := by decide +kernel
theorem dX12_begins_15 : decode cX12_begins 15 = .ok (.aload_n 0, 1) := by decide +kernel
theorem dX12_begins_16 : decode cX12_begins 16 = .ok (.getfield 7, 3) := by decide +kernel
theorem dX12_begins_19 : decode cX12_begins 19 = .ok (.iload_n 2, 1) := by decide +kernel
theorem dX12_begins_20 : decode cX12_begins 20 = .ok (.iconst 0, 1) := by decide +kernel
theorem dX12_begins_21 : decode cX12_begins 21 = .ok (.iastore, 1) := by decide +kernel
theorem dX12_begins_22 : decode cX12_begins 22 = .ok (.iinc 2 1, 3) := by decide +kernel
theorem dX12_begins_25 : decode cX12_begins 25 = .ok (.goto (-16), 3) := by decide +kernel
theorem dX12_begins_28 : decode cX12_begins 28 = .ok (.aload_n 0, 1) := by decide +kernel
theorem dX12_begins_29 : decode cX12_begins 29 = .ok (.getfield 7, 3) := by decide +kernel
theorem dX12_begins_32 : decode cX12_begins 32 = .ok (.iconst 2, 1) := by decide +kernel
theorem dX12_begins_33 : decode cX12_begins 33 = .ok (.iload_n 1, 1) := by decide +kernel
theorem dX12_begins_34 : decode cX12_begins 34 = .ok (.iastore, 1) := by decide +kernel
theorem dX12_begins_35 : decode cX12_begins 35 = .ok (.aload_n 0, 1) := by decide +kernel
theorem dX12_begins_36 : decode cX12_begins 36 = .ok (.getfield 7, 3) := by decide +kernel
theorem dX12_begins_39 : decode cX12_begins 39 = .ok (.iconst 3, 1) := by decide +kernel
theorem dX12_begins_40 : decode cX12_begins 40 = .ok (.iconst 2, 1) := by decide +kernel
theorem dX12_begins_41 : decode cX12_begins 41 = .ok (.iastore, 1) := by decide +kernel
theorem dX12_begins_42 : decode cX12_begins 42 = .ok (.aload_n 0, 1) := by decide +kernel
theorem dX12_begins_43 : decode cX12_begins 43 = .ok (.getfield 7, 3) := by decide +kernel
theorem dX12_begins_46 : decode cX12_begins 46 = .ok (.iconst 4, 1) := by decide +kernel
theorem dX12_begins_47 : decode cX12_begins 47 = .ok (.iconst 1, 1) := by decide +kernel
theorem dX12_begins_48 : decode cX12_begins 48 = .ok (.iastore, 1) := by decide +kernel
theorem dX12_begins_49 : decode cX12_begins 49 = .ok (.aload_n 0, 1) := by decide +kernel
theorem dX12_begins_50 : decode cX12_begins 50 = .ok (.getfield 7, 3) := by decide +kernel
theorem dX12_begins_53 : decode cX12_begins 53 = .ok (.iconst 5, 1) := by decide +kernel
theorem dX12_begins_54 : decode cX12_begins 54 = .ok (.bipush 9, 2) := by decide +kernel
theorem dX12_begins_56 : decode cX12_begins 56 = .ok (.iastore, 1) := by decide +kernel
theorem dX12_begins_57 : decode cX12_begins 57 = .ok (.aload_n 0, 1) := by decide +kernel
theorem dX12_begins_58 : decode cX12_begins 58 = .ok (.getfield 7, 3) := by decide +kernel
theorem dX12_begins_61 : decode cX12_begins 61 = .ok (.bipush 6, 2) := by decide +kernel
theorem dX12_begins_63 : decode cX12_begins 63 = .ok (.bipush 20, 2) := by decide +kernel
theorem dX12_begins_65 : decode cX12_begins 65 = .ok (.iastore, 1) := by decide +kernel
theorem dX12_begins_66 : decode cX12_begins 66 = .ok (.iconst 0, 1) := by decide +kernel
theorem dX12_begins_67 : decode cX12_begins 67 = .ok (.istore_n 2, 1) := by decide +kernel
theorem dX12_begins_68 : decode cX12_begins 68 = .ok (.iload_n 2, 1) := by decide +kernel
theorem dX12_begins_69 : decode cX12_begins 69 = .ok (.bipush 8, 2) := by decide +kernel
theorem dX12_begins_71 : decode cX12_begins 71 = .ok (.if_icmp .ge 20, 3) := by decide +kernel
theorem dX12_begins_74 : decode cX12_begins 74 = .ok (.aload_n 0, 1) := by decide +kernel
theorem dX12_begins_75 : decode cX12_begins 75 = .ok (.getfield 7, 3) := by decide +kernel
theorem dX12_begins_78 : decode cX12_begins 78 = .ok (.bipush 8, 2) := by decide +kernel
theorem dX12_begins_80 : decode cX12_begins 80 = .ok (.iload_n 2, 1) := by decide +kernel
theorem dX12_begins_81 : decode cX12_begins 81 = .ok (.iadd, 1) := by decide +kernel
theorem dX12_begins_82 : decode cX12_begins 82 = .ok (.bipush 50, 2) := by decide +kernel
theorem dX12_begins_84 : decode cX12_begins 84 = .ok (.iastore, 1) := by decide +kernel
theorem dX12_begins_85 : decode cX12_begins 85 = .ok (.iinc 2 1, 3) := by decide +kernel
theorem dX12_begins_88 : decode cX12_begins 88 = .ok (.goto (-20), 3) := by decide +kernel
theorem dX12_begins_91 : decode cX12_begins 91 = .ok (.return_, 1) := by decide +kernel
theorem dX12_isIn_0 : decode cX12_isIn 0 = .ok (.lload_n 0, 1) := by decide +kernel
theorem dX12_isIn_1 : decode cX12_isIn 1 = .ok (.lload_n 2, 1) := by decide +kernel
theorem dX12_isIn_2 : decode cX12_isIn 2 = .ok (.lcmp, 1) := by decide +kernel
theorem dX12_isIn_3 : decode cX12_isIn 3 = .ok (.ifCond .lt 14, 3) := by decide +kernel
theorem dX12_isIn_6 : decode cX12_isIn 6 = .ok (.lload_n 0, 1) := by decide +kernel
theorem dX12_isIn_7 : decode cX12_isIn 7 = .ok (.lload 4, 2) := by decide +kernel
theorem dX12_isIn_9 : decode cX12_isIn 9 = .ok (.lcmp, 1) := by decide +kernel
theorem dX12_isIn_10 : decode cX12_isIn 10 = .ok (.ifCond .gt 7, 3) := by decide +kernel
theorem dX12_isIn_13 : decode cX12_isIn 13 = .ok (.iconst 1, 1) := by decide +kernel
theorem dX12_isIn_14 : decode cX12_isIn 14 = .ok (.goto 4, 3) := by decide +kernel
theorem dX12_isIn_17 : decode cX12_isIn 17 = .ok (.iconst 0, 1) := by decide +kernel
theorem dX12_isIn_18 : decode cX12_isIn 18 = .ok (.ireturn, 1) := by decide +kernel
theorem dX12_isMother_0 : decode cX12_isMother 0 = .ok (.iload_n 0, 1) := by decide +kernel
theorem dX12_isMother_1 : decode cX12_isMother 1 = .ok (.ifCond .lt 13, 3) := by decide +kernel
theorem dX12_isMother_4 : decode cX12_isMother 4 = .ok (.iload_n 0, 1) := by decide +kernel
theorem dX12_isMother_5 : decode cX12_isMother 5 = .ok (.bipush 8, 2) := by decide +kernel
theorem dX12_isMother_7 : decode cX12_isMother 7 = .ok (.if_icmp .ge 7, 3) := by decide +kernel
theorem dX12_isMother_10 : decode cX12_isMother 10 = .ok (.iconst 1, 1) := by decide +kernel
theorem dX12_isMother_11 : decode cX12_isMother 11 = .ok (.goto 4, 3) := by decide +kernel
theorem dX12_isMother_14 : decode cX12_isMother 14 = .ok (.iconst 0, 1) := by decide +kernel
theorem dX12_isMother_15 : decode cX12_isMother 15 = .ok (.ireturn, 1) := by decide +kernel
theorem dX12_isOne_0 : decode cX12_isOne 0 = .ok (.iload_n 1, 1) := by decide +kernel
theorem dX12_isOne_1 : decode cX12_isOne 1 = .ok (.ifCond .lt 17, 3) := by decide +kernel
theorem dX12_isOne_4 : decode cX12_isOne 4 = .ok (.iload_n 1, 1) := by decide +kernel
theorem dX12_isOne_5 : decode cX12_isOne 5 = .ok (.aload_n 0, 1) := by decide +kernel
theorem dX12_isOne_6 : decode cX12_isOne 6 = .ok (.getfield 7, 3) := by decide +kernel
theorem dX12_isOne_9 : decode cX12_isOne 9 = .ok (.iconst 0, 1) := by decide +kernel
theorem dX12_isOne_10 : decode cX12_isOne 10 = .ok (.iaload, 1) := by decide +kernel
theorem dX12_isOne_11 : decode cX12_isOne 11 = .ok (.if_icmp .ge 7, 3) := by decide +kernel
theorem dX12_isOne_14 : decode cX12_isOne 14 = .ok (.iconst 1, 1) := by decide +kernel
theorem dX12_isOne_15 : decode cX12_isOne 15 = .ok (.goto 4, 3) := by decide +kernel
theorem dX12_isOne_18 : decode cX12_isOne 18 = .ok (.iconst 0, 1) := by decide +kernel
theorem dX12_isOne_19 : decode cX12_isOne 19 = .ok (.ireturn, 1) := by decide +kernel
theorem dX12_its_0 : decode cX12_its 0 = .ok (.aload_n 0, 1) := by decide +kernel
theorem dX12_its_1 : decode cX12_its 1 = .ok (.getfield 7, 3) := by decide +kernel
theorem dX12_its_4 : decode cX12_its 4 = .ok (.bipush 16, 2) := by decide +kernel
theorem dX12_its_6 : decode cX12_its 6 = .ok (.bipush 6, 2) := by decide +kernel
theorem dX12_its_8 : decode cX12_its 8 = .ok (.iload_n 1, 1) := by decide +kernel
theorem dX12_its_9 : decode cX12_its 9 = .ok (.imul, 1) := by decide +kernel
theorem dX12_its_10 : decode cX12_its 10 = .ok (.iadd, 1) := by decide +kernel
theorem dX12_its_11 : decode cX12_its 11 = .ok (.iload_n 2, 1) := by decide +kernel
theorem dX12_its_12 : decode cX12_its 12 = .ok (.iadd, 1) := by decide +kernel
theorem dX12_its_13 : decode cX12_its 13 = .ok (.iaload, 1) := by decide +kernel
theorem dX12_its_14 : decode cX12_its 14 = .ok (.ireturn, 1) := by decide +kernel
theorem dX12_lets_0 : decode cX12_lets 0 = .ok (.aload_n 0, 1) := by decide +kernel
theorem dX12_lets_1 : decode cX12_lets 1 = .ok (.getfield 7, 3) := by decide +kernel
theorem dX12_lets_4 : decode cX12_lets 4 = .ok (.iload_n 1, 1) := by decide +kernel
theorem dX12_lets_5 : decode cX12_lets 5 = .ok (.iaload, 1) := by decide +kernel
theorem dX12_lets_6 : decode cX12_lets 6 = .ok (.istore_n 3, 1) := by decide +kernel
theorem dX12_lets_7 : decode cX12_lets 7 = .ok (.aload_n 0, 1) := by decide +kernel
theorem dX12_lets_8 : decode cX12_lets 8 = .ok (.getfield 7, 3) := by decide +kernel
theorem dX12_lets_11 : decode cX12_lets 11 = .ok (.iload_n 1, 1) := by decide +kernel
theorem dX12_lets_12 : decode cX12_lets 12 = .ok (.iload_n 2, 1) := by decide +kernel
theorem dX12_lets_13 : decode cX12_lets 13 = .ok (.iastore, 1) := by decide +kernel
theorem dX12_lets_14 : decode cX12_lets 14 = .ok (.iload_n 3, 1) := by decide +kernel
theorem dX12_lets_15 : decode cX12_lets 15 = .ok (.ireturn, 1) := by decide +kernel
theorem dX12_copyRow_0 : decode cX12_copyRow 0 = .ok (.iconst 0, 1) := by decide +kernel
theorem dX12_copyRow_1 : decode cX12_copyRow 1 = .ok (.istore_n 2, 1) := by decide +kernel
theorem dX12_copyRow_2 : decode cX12_copyRow 2 = .ok (.iload_n 2, 1) := by decide +kernel
theorem dX12_copyRow_3 : decode cX12_copyRow 3 = .ok (.bipush 64, 2) := by decide +kernel
theorem dX12_copyRow_5 : decode cX12_copyRow 5 = .ok (.if_icmp .ge 15, 3) := by decide +kernel
theorem dX12_copyRow_8 : decode cX12_copyRow 8 = .ok (.aload_n 1, 1) := by decide +kernel
theorem dX12_copyRow_9 : decode cX12_copyRow 9 = .ok (.iload_n 2, 1) := by decide +kernel
theorem dX12_copyRow_10 : decode cX12_copyRow 10 = .ok (.aload_n 0, 1) := by decide +kernel
theorem dX12_copyRow_11 : decode cX12_copyRow 11 = .ok (.iload_n 2, 1) := by decide +kernel
theorem dX12_copyRow_12 : decode cX12_copyRow 12 = .ok (.iaload, 1) := by decide +kernel
theorem dX12_copyRow_13 : decode cX12_copyRow 13 = .ok (.iastore, 1) := by decide +kernel
theorem dX12_copyRow_14 : decode cX12_copyRow 14 = .ok (.iinc 2 1, 3) := by decide +kernel
theorem dX12_copyRow_17 : decode cX12_copyRow 17 = .ok (.goto (-15), 3) := by decide +kernel
theorem dX12_copyRow_20 : decode cX12_copyRow 20 = .ok (.return_, 1) := by decide +kernel
theorem dX12_least_0 : decode cX12_least 0 = .ok (.iload_n 0, 1) := by decide +kernel
theorem dX12_least_1 : decode cX12_least 1 = .ok (.iload_n 1, 1) := by decide +kernel
theorem dX12_least_2 : decode cX12_least 2 = .ok (.if_icmp .ge 7, 3) := by decide +kernel
theorem dX12_least_5 : decode cX12_least 5 = .ok (.iload_n 0, 1) := by decide +kernel
theorem dX12_least_6 : decode cX12_least 6 = .ok (.goto 4, 3) := by decide +kernel
theorem dX12_least_9 : decode cX12_least 9 = .ok (.iload_n 1, 1) := by decide +kernel
theorem dX12_least_10 : decode cX12_least 10 = .ok (.ireturn, 1) := by decide +kernel
theorem dX12_greatest_0 : decode cX12_greatest 0 = .ok (.iload_n 0, 1) := by decide +kernel
theorem dX12_greatest_1 : decode cX12_greatest 1 = .ok (.iload_n 1, 1) := by decide +kernel
theorem dX12_greatest_2 : decode cX12_greatest 2 = .ok (.if_icmp .le 7, 3) := by decide +kernel
theorem dX12_greatest_5 : decode cX12_greatest 5 = .ok (.iload_n 0, 1) := by decide +kernel
theorem dX12_greatest_6 : decode cX12_greatest 6 = .ok (.goto 4, 3) := by decide +kernel
theorem dX12_greatest_9 : decode cX12_greatest 9 = .ok (.iload_n 1, 1) := by decide +kernel
theorem dX12_greatest_10 : decode cX12_greatest 10 = .ok (.ireturn, 1) := by decide +kernel
theorem dX12_apart_0 : decode cX12_apart 0 = .ok (.iload_n 0, 1) := by decide +kernel
theorem dX12_apart_1 : decode cX12_apart 1 = .ok (.iload_n 1, 1) := by decide +kernel
theorem dX12_apart_2 : decode cX12_apart 2 = .ok (.if_icmp .ge 9, 3) := by decide +kernel
theorem dX12_apart_5 : decode cX12_apart 5 = .ok (.iload_n 1, 1) := by decide +kernel
theorem dX12_apart_6 : decode cX12_apart 6 = .ok (.iload_n 0, 1) := by decide +kernel
theorem dX12_apart_7 : decode cX12_apart 7 = .ok (.isub, 1) := by decide +kernel
theorem dX12_apart_8 : decode cX12_apart 8 = .ok (.goto 6, 3) := by decide +kernel
theorem dX12_apart_11 : decode cX12_apart 11 = .ok (.iload_n 0, 1) := by decide +kernel
theorem dX12_apart_12 : decode cX12_apart 12 = .ok (.iload_n 1, 1) := by decide +kernel
theorem dX12_apart_13 : decode cX12_apart 13 = .ok (.isub, 1) := by decide +kernel
theorem dX12_apart_14 : decode cX12_apart 14 = .ok (.ireturn, 1) := by decide +kernel
theorem dX12_within_0 : decode cX12_within 0 = .ok (.iload_n 0, 1) := by decide +kernel
theorem dX12_within_1 : decode cX12_within 1 = .ok (.ifCond .ge 7, 3) := by decide +kernel
theorem dX12_within_4 : decode cX12_within 4 = .ok (.iconst 0, 1) := by decide +kernel
theorem dX12_within_5 : decode cX12_within 5 = .ok (.goto 15, 3) := by decide +kernel
theorem dX12_within_8 : decode cX12_within 8 = .ok (.iload_n 0, 1) := by decide +kernel
theorem dX12_within_9 : decode cX12_within 9 = .ok (.bipush 99, 2) := by decide +kernel
theorem dX12_within_11 : decode cX12_within 11 = .ok (.if_icmp .le 8, 3) := by decide +kernel
theorem dX12_within_14 : decode cX12_within 14 = .ok (.bipush 99, 2) := by decide +kernel
theorem dX12_within_16 : decode cX12_within 16 = .ok (.goto 4, 3) := by decide +kernel
theorem dX12_within_19 : decode cX12_within 19 = .ok (.iload_n 0, 1) := by decide +kernel
theorem dX12_within_20 : decode cX12_within 20 = .ok (.ireturn, 1) := by decide +kernel
theorem dX12_size_0 : decode cX12_size 0 = .ok (.iconst 0, 1) := by decide +kernel
theorem dX12_size_1 : decode cX12_size 1 = .ok (.istore_n 1, 1) := by decide +kernel
theorem dX12_size_2 : decode cX12_size 2 = .ok (.iload_n 0, 1) := by decide +kernel
theorem dX12_size_3 : decode cX12_size 3 = .ok (.istore_n 2, 1) := by decide +kernel
theorem dX12_size_4 : decode cX12_size 4 = .ok (.iload_n 2, 1) := by decide +kernel
theorem dX12_size_5 : decode cX12_size 5 = .ok (.ifCond .eq 15, 3) := by decide +kernel
theorem dX12_size_8 : decode cX12_size 8 = .ok (.iinc 1 1, 3) := by decide +kernel
theorem dX12_size_11 : decode cX12_size 11 = .ok (.iload_n 2, 1) := by decide +kernel
theorem dX12_size_12 : decode cX12_size 12 = .ok (.iload_n 2, 1) := by decide +kernel
theorem dX12_size_13 : decode cX12_size 13 = .ok (.iconst 1, 1) := by decide +kernel
theorem dX12_size_14 : decode cX12_size 14 = .ok (.isub, 1) := by decide +kernel
theorem dX12_size_15 : decode cX12_size 15 = .ok (.iand, 1) := by decide +kernel
theorem dX12_size_16 : decode cX12_size 16 = .ok (.istore_n 2, 1) := by decide +kernel
theorem dX12_size_17 : decode cX12_size 17 = .ok (.goto (-13), 3) := by decide +kernel
theorem dX12_size_20 : decode cX12_size 20 = .ok (.iload_n 1, 1) := by decide +kernel
theorem dX12_size_21 : decode cX12_size 21 = .ok (.ireturn, 1) := by decide +kernel
theorem dX12_isUnder_0 : decode cX12_isUnder 0 = .ok (.iload_n 1, 1) := by decide +kernel
theorem dX12_isUnder_1 : decode cX12_isUnder 1 = .ok (.ifCond .eq 28, 3) := by decide +kernel
theorem dX12_isUnder_4 : decode cX12_isUnder 4 = .ok (.iload_n 0, 1) := by decide +kernel
theorem dX12_isUnder_5 : decode cX12_isUnder 5 = .ok (.iload_n 1, 1) := by decide +kernel
theorem dX12_isUnder_6 : decode cX12_isUnder 6 = .ok (.if_icmp .eq 23, 3) := by decide +kernel
theorem dX12_isUnder_9 : decode cX12_isUnder 9 = .ok (.iload_n 1, 1) := by decide +kernel
theorem dX12_isUnder_10 : decode cX12_isUnder 10 = .ok (.iconst 1, 1) := by decide +kernel
theorem dX12_isUnder_11 : decode cX12_isUnder 11 = .ok (.if_icmp .ne 8, 3) := by decide +kernel
theorem dX12_isUnder_14 : decode cX12_isUnder 14 = .ok (.iload_n 0, 1) := by decide +kernel
theorem dX12_isUnder_15 : decode cX12_isUnder 15 = .ok (.iconst 3, 1) := by decide +kernel
theorem dX12_isUnder_16 : decode cX12_isUnder 16 = .ok (.if_icmp .eq 13, 3) := by decide +kernel
theorem dX12_isUnder_19 : decode cX12_isUnder 19 = .ok (.iload_n 1, 1) := by decide +kernel
theorem dX12_isUnder_20 : decode cX12_isUnder 20 = .ok (.iconst 2, 1) := by decide +kernel
theorem dX12_isUnder_21 : decode cX12_isUnder 21 = .ok (.if_icmp .ne 12, 3) := by decide +kernel
theorem dX12_isUnder_24 : decode cX12_isUnder 24 = .ok (.iload_n 0, 1) := by decide +kernel
theorem dX12_isUnder_25 : decode cX12_isUnder 25 = .ok (.iconst 4, 1) := by decide +kernel
theorem dX12_isUnder_26 : decode cX12_isUnder 26 = .ok (.if_icmp .ne 7, 3) := by decide +kernel
theorem dX12_isUnder_29 : decode cX12_isUnder 29 = .ok (.iconst 1, 1) := by decide +kernel
theorem dX12_isUnder_30 : decode cX12_isUnder 30 = .ok (.goto 4, 3) := by decide +kernel
theorem dX12_isUnder_33 : decode cX12_isUnder 33 = .ok (.iconst 0, 1) := by decide +kernel
theorem dX12_isUnder_34 : decode cX12_isUnder 34 = .ok (.ireturn, 1) := by decide +kernel
set_option maxRecDepth 20000 in
theorem ggX12_feed_X12_isIn : GoodIn wsX12_feed wsX12_isIn := goodIn_r _ [8] (by decide +kernel) (by decide +kernel)
set_option maxRecDepth 20000 in
theorem gX12_feed_X12_isIn : GoodIn wsX12_feed (va_wsS RX12 60 yX12_isIn wsX12_isIn) := goodIn_app (goodIn_of _ (by decide +kernel)) ggX12_feed_X12_isIn
theorem dX12_feed_0 : decode cX12_feed 0 = .ok (.iload_n 3, 1) := by decide +kernel
theorem dX12_feed_1 : decode cX12_feed 1 = .ok (.i2l, 1) := by decide +kernel
theorem dX12_feed_2 : decode cX12_feed 2 = .ok (.lconst 1, 1) := by decide +kernel
theorem dX12_feed_3 : decode cX12_feed 3 = .ok (.ldc2_w 58, 3) := by decide +kernel
theorem dX12_feed_6 : decode cX12_feed 6 = .ok (.invokestatic 60, 3) := by decide +kernel
theorem dX12_feed_9 : decode cX12_feed 9 = .ok (.ifCond .ne 5, 3) := by decide +kernel
theorem dX12_feed_12 : decode cX12_feed 12 = .ok (.iconst (-1), 1) := by decide +kernel
theorem dX12_feed_13 : decode cX12_feed 13 = .ok (.ireturn, 1) := by decide +kernel
theorem dX12_feed_14 : decode cX12_feed 14 = .ok (.aload_n 0, 1) := by decide +kernel
theorem dX12_feed_15 : decode cX12_feed 15 = .ok (.getfield 64, 3) := by decide +kernel
theorem dX12_feed_18 : decode cX12_feed 18 = .ok (.iload_n 3, 1) := by decide +kernel
theorem dX12_feed_19 : decode cX12_feed 19 = .ok (.iadd, 1) := by decide +kernel
theorem dX12_feed_20 : decode cX12_feed 20 = .ok (.sipush 200, 3) := by decide +kernel
theorem dX12_feed_23 : decode cX12_feed 23 = .ok (.if_icmp .le 6, 3) := by decide +kernel
theorem dX12_feed_26 : decode cX12_feed 26 = .ok (.bipush (-2), 2) := by decide +kernel
theorem dX12_feed_28 : decode cX12_feed 28 = .ok (.ireturn, 1) := by decide +kernel
theorem dX12_feed_29 : decode cX12_feed 29 = .ok (.iconst 0, 1) := by decide +kernel
theorem dX12_feed_30 : decode cX12_feed 30 = .ok (.istore 4, 2) := by decide +kernel
theorem dX12_feed_32 : decode cX12_feed 32 = .ok (.iload 4, 2) := by decide +kernel
theorem dX12_feed_34 : decode cX12_feed 34 = .ok (.iload_n 3, 1) := by decide +kernel
theorem dX12_feed_35 : decode cX12_feed 35 = .ok (.if_icmp .ge 40, 3) := by decide +kernel
theorem dX12_feed_38 : decode cX12_feed 38 = .ok (.aload_n 0, 1) := by decide +kernel
theorem dX12_feed_39 : decode cX12_feed 39 = .ok (.getfield 22, 3) := by decide +kernel
theorem dX12_feed_42 : decode cX12_feed 42 = .ok (.aload_n 0, 1) := by decide +kernel
theorem dX12_feed_43 : decode cX12_feed 43 = .ok (.getfield 64, 3) := by decide +kernel
theorem dX12_feed_46 : decode cX12_feed 46 = .ok (.lload_n 1, 1) := by decide +kernel
theorem dX12_feed_47 : decode cX12_feed 47 = .ok (.bipush 8, 2) := by decide +kernel
theorem dX12_feed_49 : decode cX12_feed 49 = .ok (.iload 4, 2) := by decide +kernel
theorem dX12_feed_51 : decode cX12_feed 51 = .ok (.imul, 1) := by decide +kernel
theorem dX12_feed_52 : decode cX12_feed 52 = .ok (.lshr, 1) := by decide +kernel
theorem dX12_feed_53 : decode cX12_feed 53 = .ok (.ldc2_w 68, 3) := by decide +kernel
theorem dX12_feed_56 : decode cX12_feed 56 = .ok (.land, 1) := by decide +kernel
theorem dX12_feed_57 : decode cX12_feed 57 = .ok (.l2i, 1) := by decide +kernel
theorem dX12_feed_58 : decode cX12_feed 58 = .ok (.iastore, 1) := by decide +kernel
theorem dX12_feed_59 : decode cX12_feed 59 = .ok (.aload_n 0, 1) := by decide +kernel
theorem dX12_feed_60 : decode cX12_feed 60 = .ok (.dup, 1) := by decide +kernel
theorem dX12_feed_61 : decode cX12_feed 61 = .ok (.getfield 64, 3) := by decide +kernel
theorem dX12_feed_64 : decode cX12_feed 64 = .ok (.iconst 1, 1) := by decide +kernel
theorem dX12_feed_65 : decode cX12_feed 65 = .ok (.iadd, 1) := by decide +kernel
theorem dX12_feed_66 : decode cX12_feed 66 = .ok (.putfield 64, 3) := by decide +kernel
theorem dX12_feed_69 : decode cX12_feed 69 = .ok (.iinc 4 1, 3) := by decide +kernel
theorem dX12_feed_72 : decode cX12_feed 72 = .ok (.goto (-40), 3) := by decide +kernel
theorem dX12_feed_75 : decode cX12_feed 75 = .ok (.aload_n 0, 1) := by decide +kernel
theorem dX12_feed_76 : decode cX12_feed 76 = .ok (.getfield 64, 3) := by decide +kernel
theorem dX12_feed_79 : decode cX12_feed 79 = .ok (.ireturn, 1) := by decide +kernel
theorem dX12_isAlpha_0 : decode cX12_isAlpha 0 = .ok (.iload_n 0, 1) := by decide +kernel
theorem dX12_isAlpha_1 : decode cX12_isAlpha 1 = .ok (.bipush 97, 2) := by decide +kernel
theorem dX12_isAlpha_3 : decode cX12_isAlpha 3 = .ok (.if_icmp .lt 13, 3) := by decide +kernel
theorem dX12_isAlpha_6 : decode cX12_isAlpha 6 = .ok (.iload_n 0, 1) := by decide +kernel
theorem dX12_isAlpha_7 : decode cX12_isAlpha 7 = .ok (.bipush 122, 2) := by decide +kernel
theorem dX12_isAlpha_9 : decode cX12_isAlpha 9 = .ok (.if_icmp .gt 7, 3) := by decide +kernel
theorem dX12_isAlpha_12 : decode cX12_isAlpha 12 = .ok (.iconst 1, 1) := by decide +kernel
theorem dX12_isAlpha_13 : decode cX12_isAlpha 13 = .ok (.goto 4, 3) := by decide +kernel
theorem dX12_isAlpha_16 : decode cX12_isAlpha 16 = .ok (.iconst 0, 1) := by decide +kernel
theorem dX12_isAlpha_17 : decode cX12_isAlpha 17 = .ok (.ireturn, 1) := by decide +kernel
theorem dX12_isDigit_0 : decode cX12_isDigit 0 = .ok (.iload_n 0, 1) := by decide +kernel
theorem dX12_isDigit_1 : decode cX12_isDigit 1 = .ok (.bipush 48, 2) := by decide +kernel
theorem dX12_isDigit_3 : decode cX12_isDigit 3 = .ok (.if_icmp .lt 13, 3) := by decide +kernel
theorem dX12_isDigit_6 : decode cX12_isDigit 6 = .ok (.iload_n 0, 1) := by decide +kernel
theorem dX12_isDigit_7 : decode cX12_isDigit 7 = .ok (.bipush 57, 2) := by decide +kernel
theorem dX12_isDigit_9 : decode cX12_isDigit 9 = .ok (.if_icmp .gt 7, 3) := by decide +kernel
theorem dX12_isDigit_12 : decode cX12_isDigit 12 = .ok (.iconst 1, 1) := by decide +kernel
theorem dX12_isDigit_13 : decode cX12_isDigit 13 = .ok (.goto 4, 3) := by decide +kernel
theorem dX12_isDigit_16 : decode cX12_isDigit 16 = .ok (.iconst 0, 1) := by decide +kernel
theorem dX12_isDigit_17 : decode cX12_isDigit 17 = .ok (.ireturn, 1) := by decide +kernel
theorem dX12_byteAt_0 : decode cX12_byteAt 0 = .ok (.iload_n 1, 1) := by decide +kernel
theorem dX12_byteAt_1 : decode cX12_byteAt 1 = .ok (.aload_n 0, 1) := by decide +kernel
theorem dX12_byteAt_2 : decode cX12_byteAt 2 = .ok (.getfield 64, 3) := by decide +kernel
theorem dX12_byteAt_5 : decode cX12_byteAt 5 = .ok (.if_icmp .ge 12, 3) := by decide +kernel
theorem dX12_byteAt_8 : decode cX12_byteAt 8 = .ok (.aload_n 0, 1) := by decide +kernel
theorem dX12_byteAt_9 : decode cX12_byteAt 9 = .ok (.getfield 22, 3) := by decide +kernel
theorem dX12_byteAt_12 : decode cX12_byteAt 12 = .ok (.iload_n 1, 1) := by decide +kernel
theorem dX12_byteAt_13 : decode cX12_byteAt 13 = .ok (.iaload, 1) := by decide +kernel
theorem dX12_byteAt_14 : decode cX12_byteAt 14 = .ok (.goto 4, 3) := by decide +kernel
theorem dX12_byteAt_17 : decode cX12_byteAt 17 = .ok (.iconst (-1), 1) := by decide +kernel
theorem dX12_byteAt_18 : decode cX12_byteAt 18 = .ok (.ireturn, 1) := by decide +kernel
set_option maxRecDepth 20000 in
theorem ggX12_nextToken_X12_byteAt : GoodIn wsX12_nextToken wsX12_byteAt := goodIn_r _ [9, 10, 11, 18, 19, 20, 21, 22, 23, 24, 25, 26, 27, 28, 29, 30, 31, 32, 33, 34, 35, 36, 37, 38, 39, 40, 41, 42, 43, 44, 45] (by decide +kernel) (by decide +kernel)
set_option maxRecDepth 20000 in
theorem gX12_nextToken_X12_byteAt : GoodIn wsX12_nextToken (wsV RX12 76 RX12 yX12_byteAt wsX12_byteAt) := goodIn_app (goodIn_of _ (by decide +kernel)) ggX12_nextToken_X12_byteAt
set_option maxRecDepth 20000 in
theorem ggX12_nextToken_X12_isAlpha : GoodIn wsX12_nextToken wsX12_isAlpha := goodIn_r _ [14] (by decide +kernel) (by decide +kernel)
set_option maxRecDepth 20000 in
theorem gX12_nextToken_X12_isAlpha : GoodIn wsX12_nextToken (va_wsS RX12 80 yX12_isAlpha wsX12_isAlpha) := goodIn_app (goodIn_of _ (by decide +kernel)) ggX12_nextToken_X12_isAlpha
set_option maxRecDepth 20000 in
theorem ggX12_nextToken_X12_isDigit : GoodIn wsX12_nextToken wsX12_isDigit := goodIn_r _ [17] (by decide +kernel) (by decide +kernel)
set_option maxRecDepth 20000 in
theorem gX12_nextToken_X12_isDigit : GoodIn wsX12_nextToken (va_wsS RX12 84 yX12_isDigit wsX12_isDigit) := goodIn_app (goodIn_of _ (by decide +kernel)) ggX12_nextToken_X12_isDigit
theorem dX12_nextToken_0 : decode cX12_nextToken 0 = .ok (.aload_n 0, 1) := by decide +kernel
theorem dX12_nextToken_1 : decode cX12_nextToken 1 = .ok (.aload_n 0, 1) := by decide +kernel
theorem dX12_nextToken_2 : decode cX12_nextToken 2 = .ok (.getfield 70, 3) := by decide +kernel
theorem dX12_nextToken_5 : decode cX12_nextToken 5 = .ok (.putfield 73, 3) := by decide +kernel
theorem dX12_nextToken_8 : decode cX12_nextToken 8 = .ok (.aload_n 0, 1) := by decide +kernel
theorem dX12_nextToken_9 : decode cX12_nextToken 9 = .ok (.aload_n 0, 1) := by decide +kernel
theorem dX12_nextToken_10 : decode cX12_nextToken 10 = .ok (.getfield 73, 3) := by decide +kernel
theorem dX12_nextToken_13 : decode cX12_nextToken 13 = .ok (.invokevirtual 76, 3) := by decide +kernel
theorem dX12_nextToken_16 : decode cX12_nextToken 16 = .ok (.bipush 32, 2) := by decide +kernel
theorem dX12_nextToken_18 : decode cX12_nextToken 18 = .ok (.if_icmp .ne 16, 3) := by decide +kernel
theorem dX12_nextToken_21 : decode cX12_nextToken 21 = .ok (.aload_n 0, 1) := by decide +kernel
theorem dX12_nextToken_22 : decode cX12_nextToken 22 = .ok (.dup, 1) := by decide +kernel
theorem dX12_nextToken_23 : decode cX12_nextToken 23 = .ok (.getfield 73, 3) := by decide +kernel
theorem dX12_nextToken_26 : decode cX12_nextToken 26 = .ok (.iconst 1, 1) := by decide +kernel
theorem dX12_nextToken_27 : decode cX12_nextToken 27 = .ok (.iadd, 1) := by decide +kernel
theorem dX12_nextToken_28 : decode cX12_nextToken 28 = .ok (.putfield 73, 3) := by decide +kernel
theorem dX12_nextToken_31 : decode cX12_nextToken 31 = .ok (.goto (-23), 3) := by decide +kernel
theorem dX12_nextToken_34 : decode cX12_nextToken 34 = .ok (.aload_n 0, 1) := by decide +kernel
theorem dX12_nextToken_35 : decode cX12_nextToken 35 = .ok (.aload_n 0, 1) := by decide +kernel
theorem dX12_nextToken_36 : decode cX12_nextToken 36 = .ok (.getfield 73, 3) := by decide +kernel
theorem dX12_nextToken_39 : decode cX12_nextToken 39 = .ok (.putfield 70, 3) := by decide +kernel
theorem dX12_nextToken_42 : decode cX12_nextToken 42 = .ok (.aload_n 0, 1) := by decide +kernel
theorem dX12_nextToken_43 : decode cX12_nextToken 43 = .ok (.aload_n 0, 1) := by decide +kernel
theorem dX12_nextToken_44 : decode cX12_nextToken 44 = .ok (.getfield 73, 3) := by decide +kernel
theorem dX12_nextToken_47 : decode cX12_nextToken 47 = .ok (.invokevirtual 76, 3) := by decide +kernel
theorem dX12_nextToken_50 : decode cX12_nextToken 50 = .ok (.istore_n 1, 1) := by decide +kernel
theorem dX12_nextToken_51 : decode cX12_nextToken 51 = .ok (.aload_n 0, 1) := by decide +kernel
theorem dX12_nextToken_52 : decode cX12_nextToken 52 = .ok (.iload_n 1, 1) := by decide +kernel
theorem dX12_nextToken_53 : decode cX12_nextToken 53 = .ok (.ifCond .ge 7, 3) := by decide +kernel
theorem dX12_nextToken_56 : decode cX12_nextToken 56 = .ok (.iconst 0, 1) := by decide +kernel
theorem dX12_nextToken_57 : decode cX12_nextToken 57 = .ok (.goto 26, 3) := by decide +kernel
theorem dX12_nextToken_60 : decode cX12_nextToken 60 = .ok (.iload_n 1, 1) := by decide +kernel
theorem dX12_nextToken_61 : decode cX12_nextToken 61 = .ok (.invokestatic 80, 3) := by decide +kernel
theorem dX12_nextToken_64 : decode cX12_nextToken 64 = .ok (.ifCond .eq 7, 3) := by decide +kernel
theorem dX12_nextToken_67 : decode cX12_nextToken 67 = .ok (.iconst 1, 1) := by decide +kernel
theorem dX12_nextToken_68 : decode cX12_nextToken 68 = .ok (.goto 15, 3) := by decide +kernel
theorem dX12_nextToken_71 : decode cX12_nextToken 71 = .ok (.iload_n 1, 1) := by decide +kernel
