theorem dX8_lawTold_31 : decode cX8_lawTold 31 = .ok (.iconst 2, 1) := by decide +kernel
theorem dX8_lawTold_32 : decode cX8_lawTold 32 = .ok (.ireturn, 1) := by decide +kernel
theorem dX8_lawTold_33 : decode cX8_lawTold 33 = .ok (.aload_n 0, 1) := by decide +kernel
theorem dX8_lawTold_34 : decode cX8_lawTold 34 = .ok (.ldc 135, 2) := by decide +kernel
theorem dX8_lawTold_36 : decode cX8_lawTold 36 = .ok (.invokevirtual 65, 3) := by decide +kernel
theorem dX8_lawTold_39 : decode cX8_lawTold 39 = .ok (.ifCond .eq 5, 3) := by decide +kernel
theorem dX8_lawTold_42 : decode cX8_lawTold 42 = .ok (.iconst 3, 1) := by decide +kernel
theorem dX8_lawTold_43 : decode cX8_lawTold 43 = .ok (.ireturn, 1) := by decide +kernel
theorem dX8_lawTold_44 : decode cX8_lawTold 44 = .ok (.bipush (-3), 2) := by decide +kernel
theorem dX8_lawTold_46 : decode cX8_lawTold 46 = .ok (.ireturn, 1) := by decide +kernel
set_option maxRecDepth 20000 in
theorem ggX8_option_X8_isName : GoodIn wsX8_option wsX8_isName := goodIn_r _ [6, 7, 8, 9, 10, 11, 12, 13, 14, 15, 16, 17, 18, 19, 20, 21, 22, 23, 24, 5, 25, 26, 27, 28, 29, 30, 31, 32, 33, 34, 35, 36, 37, 38, 39, 40, 41, 42, 43, 44, 45, 46, 47, 48, 49, 50, 51, 52, 53, 54, 55, 56, 57, 58, 59, 60, 61, 62, 63, 64, 88, 89, 90, 91, 92, 93] (by decide +kernel) (by decide +kernel)
set_option maxRecDepth 20000 in
theorem gX8_option_X8_isName : GoodIn wsX8_option (wsV RX8 65 RX8 yX8_isName wsX8_isName) := goodIn_app (goodIn_of _ (by decide +kernel)) ggX8_option_X8_isName
set_option maxRecDepth 20000 in
theorem ggX8_option_X8_step : GoodIn wsX8_option wsX8_step := goodIn_r _ [68, 8, 9, 7, 22, 23, 24, 5, 25, 26, 27, 69, 70, 71, 72, 88, 89, 90, 91, 92, 93] (by decide +kernel) (by decide +kernel)
set_option maxRecDepth 20000 in
theorem gX8_option_X8_step : GoodIn wsX8_option (wsV RX8 29 RX8 yX8_step wsX8_step) := goodIn_app (goodIn_of _ (by decide +kernel)) ggX8_option_X8_step
set_option maxRecDepth 20000 in
theorem ggX8_option_X8_number : GoodIn wsX8_option wsX8_number := goodIn_r _ [76, 1, 77, 78, 79, 5, 80, 7, 8, 9, 22, 23, 24, 25, 26, 27, 81, 82, 83, 84, 85, 86, 87, 65, 66, 67, 68, 69, 70, 71, 72, 88, 89, 90, 91, 92, 93] (by decide +kernel) (by decide +kernel)
set_option maxRecDepth 20000 in
theorem gX8_option_X8_number : GoodIn wsX8_option (wsV RX8 59 RX8 yX8_number wsX8_number) := goodIn_app (goodIn_of _ (by decide +kernel)) ggX8_option_X8_number
theorem dX8_option_0 : decode cX8_option 0 = .ok (.aload_n 0, 1) := by decide +kernel
theorem dX8_option_1 : decode cX8_option 1 = .ok (.getfield 26, 3) := by decide +kernel
theorem dX8_option_4 : decode cX8_option 4 = .ok (.ifCond .ge 11, 3) := by decide +kernel
theorem dX8_option_7 : decode cX8_option 7 = .ok (.aload_n 0, 1) := by decide +kernel
theorem dX8_option_8 : decode cX8_option 8 = .ok (.aload_n 1, 1) := by decide +kernel
theorem dX8_option_9 : decode cX8_option 9 = .ok (.invokevirtual 65, 3) := by decide +kernel
theorem dX8_option_12 : decode cX8_option 12 = .ok (.ifCond .ne 5, 3) := by decide +kernel
theorem dX8_option_15 : decode cX8_option 15 = .ok (.iload_n 3, 1) := by decide +kernel
theorem dX8_option_16 : decode cX8_option 16 = .ok (.ireturn, 1) := by decide +kernel
theorem dX8_option_17 : decode cX8_option 17 = .ok (.aload_n 0, 1) := by decide +kernel
theorem dX8_option_18 : decode cX8_option 18 = .ok (.invokevirtual 29, 3) := by decide +kernel
theorem dX8_option_21 : decode cX8_option 21 = .ok (.aload_n 0, 1) := by decide +kernel
theorem dX8_option_22 : decode cX8_option 22 = .ok (.iload_n 2, 1) := by decide +kernel
theorem dX8_option_23 : decode cX8_option 23 = .ok (.invokevirtual 59, 3) := by decide +kernel
theorem dX8_option_26 : decode cX8_option 26 = .ok (.ireturn, 1) := by decide +kernel
theorem dX8_failHere_0 : decode cX8_failHere 0 = .ok (.aload_n 0, 1) := by decide +kernel
theorem dX8_failHere_1 : decode cX8_failHere 1 = .ok (.getfield 26, 3) := by decide +kernel
theorem dX8_failHere_4 : decode cX8_failHere 4 = .ok (.ifCond .ge 11, 3) := by decide +kernel
theorem dX8_failHere_7 : decode cX8_failHere 7 = .ok (.aload_n 0, 1) := by decide +kernel
theorem dX8_failHere_8 : decode cX8_failHere 8 = .ok (.aload_n 0, 1) := by decide +kernel
theorem dX8_failHere_9 : decode cX8_failHere 9 = .ok (.getfield 137, 3) := by decide +kernel
theorem dX8_failHere_12 : decode cX8_failHere 12 = .ok (.putfield 26, 3) := by decide +kernel
theorem dX8_failHere_15 : decode cX8_failHere 15 = .ok (.return_, 1) := by decide +kernel
set_option maxRecDepth 20000 in
theorem ggX8_name_X8_isName : GoodIn wsX8_name wsX8_isName := goodIn_r _ [5, 6, 7, 8, 9, 10, 11, 12, 13, 14, 15, 16, 17, 18, 19, 20, 21, 22, 23, 4, 24, 25, 26, 27, 28, 29, 30, 31, 32, 33, 34, 35, 36, 37, 38, 39, 40, 41, 42, 43, 44, 45, 46, 47, 48, 49, 50, 51, 52, 53, 54, 55, 56, 57, 58, 59, 60, 61, 62, 63, 77, 78, 79, 80, 81, 82] (by decide +kernel) (by decide +kernel)
set_option maxRecDepth 20000 in
theorem gX8_name_X8_isName : GoodIn wsX8_name (wsV RX8 65 RX8 yX8_isName wsX8_isName) := goodIn_app (goodIn_of _ (by decide +kernel)) ggX8_name_X8_isName
set_option maxRecDepth 20000 in
theorem ggX8_name_X8_step : GoodIn wsX8_name wsX8_step := goodIn_r _ [67, 7, 8, 6, 21, 22, 23, 4, 24, 25, 26, 68, 69, 70, 71, 77, 78, 79, 80, 81, 82] (by decide +kernel) (by decide +kernel)
set_option maxRecDepth 20000 in
theorem gX8_name_X8_step : GoodIn wsX8_name (wsV RX8 29 RX8 yX8_step wsX8_step) := goodIn_app (goodIn_of _ (by decide +kernel)) ggX8_name_X8_step
set_option maxRecDepth 20000 in
theorem ggX8_name_X8_failHere : GoodIn wsX8_name wsX8_failHere := goodIn_r _ [75, 76, 8, 77, 78, 79, 80, 81, 82] (by decide +kernel) (by decide +kernel)
set_option maxRecDepth 20000 in
theorem gX8_name_X8_failHere : GoodIn wsX8_name (wsV RX8 83 RX8 yX8_failHere wsX8_failHere) := goodIn_app (goodIn_of _ (by decide +kernel)) ggX8_name_X8_failHere
theorem dX8_name_0 : decode cX8_name 0 = .ok (.aload_n 0, 1) := by decide +kernel
theorem dX8_name_1 : decode cX8_name 1 = .ok (.aload_n 1, 1) := by decide +kernel
theorem dX8_name_2 : decode cX8_name 2 = .ok (.invokevirtual 65, 3) := by decide +kernel
theorem dX8_name_5 : decode cX8_name 5 = .ok (.ifCond .eq 10, 3) := by decide +kernel
theorem dX8_name_8 : decode cX8_name 8 = .ok (.aload_n 0, 1) := by decide +kernel
theorem dX8_name_9 : decode cX8_name 9 = .ok (.invokevirtual 29, 3) := by decide +kernel
theorem dX8_name_12 : decode cX8_name 12 = .ok (.goto 7, 3) := by decide +kernel
theorem dX8_name_15 : decode cX8_name 15 = .ok (.aload_n 0, 1) := by decide +kernel
theorem dX8_name_16 : decode cX8_name 16 = .ok (.invokevirtual 83, 3) := by decide +kernel
theorem dX8_name_19 : decode cX8_name 19 = .ok (.return_, 1) := by decide +kernel
set_option maxRecDepth 20000 in
theorem ggX8_number_X8_valueTold : GoodIn wsX8_number wsX8_valueTold := goodIn_r _ [6, 7, 8, 9, 10, 11, 12, 5, 13, 14, 15, 31, 32, 33, 34, 35, 36] (by decide +kernel) (by decide +kernel)
set_option maxRecDepth 20000 in
theorem gX8_number_X8_valueTold : GoodIn wsX8_number (wsV RX8 139 RX8 yX8_valueTold wsX8_valueTold) := goodIn_app (goodIn_of _ (by decide +kernel)) ggX8_number_X8_valueTold
set_option maxRecDepth 20000 in
theorem ggX8_number_X11_within : GoodIn wsX8_number wsX11_within := goodIn_r _ [18] (by decide +kernel) (by decide +kernel)
set_option maxRecDepth 20000 in
theorem gX8_number_X11_within_n19 : GoodIn wsX8_number (wsX11_within) := ggX8_number_X11_within
set_option maxRecDepth 20000 in
theorem ggX8_number_X8_failHere : GoodIn wsX8_number wsX8_failHere := goodIn_r _ [22, 1, 9, 31, 32, 33, 34, 35, 36] (by decide +kernel) (by decide +kernel)
set_option maxRecDepth 20000 in
theorem gX8_number_X8_failHere : GoodIn wsX8_number (wsV RX8 83 RX8 yX8_failHere wsX8_failHere) := goodIn_app (goodIn_of _ (by decide +kernel)) ggX8_number_X8_failHere
set_option maxRecDepth 20000 in
theorem ggX8_number_X8_step : GoodIn wsX8_number wsX8_step := goodIn_r _ [26, 8, 9, 7, 10, 11, 12, 5, 13, 14, 15, 27, 28, 29, 30, 31, 32, 33, 34, 35, 36] (by decide +kernel) (by decide +kernel)
set_option maxRecDepth 20000 in
theorem gX8_number_X8_step : GoodIn wsX8_number (wsV RX8 29 RX8 yX8_step wsX8_step) := goodIn_app (goodIn_of _ (by decide +kernel)) ggX8_number_X8_step
theorem dX8_number_0 : decode cX8_number 0 = .ok (.aload_n 0, 1) := by decide +kernel
theorem dX8_number_1 : decode cX8_number 1 = .ok (.invokevirtual 139, 3) := by decide +kernel
theorem dX8_number_4 : decode cX8_number 4 = .ok (.istore_n 2, 1) := by decide +kernel
theorem dX8_number_5 : decode cX8_number 5 = .ok (.iload_n 2, 1) := by decide +kernel
theorem dX8_number_6 : decode cX8_number 6 = .ok (.iload_n 1, 1) := by decide +kernel
theorem dX8_number_7 : decode cX8_number 7 = .ok (.invokestatic 19, 3) := by decide +kernel
theorem dX8_number_10 : decode cX8_number 10 = .ok (.ifCond .ne 7, 3) := by decide +kernel
theorem dX8_number_13 : decode cX8_number 13 = .ok (.aload_n 0, 1) := by decide +kernel
theorem dX8_number_14 : decode cX8_number 14 = .ok (.invokevirtual 83, 3) := by decide +kernel
theorem dX8_number_17 : decode cX8_number 17 = .ok (.aload_n 0, 1) := by decide +kernel
theorem dX8_number_18 : decode cX8_number 18 = .ok (.getfield 26, 3) := by decide +kernel
theorem dX8_number_21 : decode cX8_number 21 = .ok (.ifCond .lt 5, 3) := by decide +kernel
theorem dX8_number_24 : decode cX8_number 24 = .ok (.iconst 0, 1) := by decide +kernel
theorem dX8_number_25 : decode cX8_number 25 = .ok (.ireturn, 1) := by decide +kernel
theorem dX8_number_26 : decode cX8_number 26 = .ok (.aload_n 0, 1) := by decide +kernel
theorem dX8_number_27 : decode cX8_number 27 = .ok (.invokevirtual 29, 3) := by decide +kernel
theorem dX8_number_30 : decode cX8_number 30 = .ok (.iload_n 2, 1) := by decide +kernel
theorem dX8_number_31 : decode cX8_number 31 = .ok (.ireturn, 1) := by decide +kernel
set_option maxRecDepth 20000 in
theorem ggX8_semicolon_X8_byteAt : GoodIn wsX8_semicolon wsX8_byteAt := goodIn_r _ [7, 8, 9, 24, 25, 26, 27, 28, 29] (by decide +kernel) (by decide +kernel)
set_option maxRecDepth 20000 in
theorem gX8_semicolon_X8_byteAt : GoodIn wsX8_semicolon (wsV RX8 142 RX8 yX8_byteAt wsX8_byteAt) := goodIn_app (goodIn_of _ (by decide +kernel)) ggX8_semicolon_X8_byteAt
set_option maxRecDepth 20000 in
theorem ggX8_semicolon_X8_step : GoodIn wsX8_semicolon wsX8_step := goodIn_r _ [13, 14, 2, 1, 3, 4, 5, 6, 7, 8, 9, 15, 16, 17, 18, 24, 25, 26, 27, 28, 29] (by decide +kernel) (by decide +kernel)
set_option maxRecDepth 20000 in
theorem gX8_semicolon_X8_step : GoodIn wsX8_semicolon (wsV RX8 29 RX8 yX8_step wsX8_step) := goodIn_app (goodIn_of _ (by decide +kernel)) ggX8_semicolon_X8_step
set_option maxRecDepth 20000 in
theorem ggX8_semicolon_X8_failHere : GoodIn wsX8_semicolon wsX8_failHere := goodIn_r _ [22, 23, 2, 24, 25, 26, 27, 28, 29] (by decide +kernel) (by decide +kernel)
set_option maxRecDepth 20000 in
theorem gX8_semicolon_X8_failHere : GoodIn wsX8_semicolon (wsV RX8 83 RX8 yX8_failHere wsX8_failHere) := goodIn_app (goodIn_of _ (by decide +kernel)) ggX8_semicolon_X8_failHere
theorem dX8_semicolon_0 : decode cX8_semicolon 0 = .ok (.aload_n 0, 1) := by decide +kernel
theorem dX8_semicolon_1 : decode cX8_semicolon 1 = .ok (.getfield 32, 3) := by decide +kernel
theorem dX8_semicolon_4 : decode cX8_semicolon 4 = .ok (.iconst 3, 1) := by decide +kernel
theorem dX8_semicolon_5 : decode cX8_semicolon 5 = .ok (.if_icmp .ne 23, 3) := by decide +kernel
theorem dX8_semicolon_8 : decode cX8_semicolon 8 = .ok (.aload_n 0, 1) := by decide +kernel
theorem dX8_semicolon_9 : decode cX8_semicolon 9 = .ok (.aload_n 0, 1) := by decide +kernel
theorem dX8_semicolon_10 : decode cX8_semicolon 10 = .ok (.getfield 137, 3) := by decide +kernel
theorem dX8_semicolon_13 : decode cX8_semicolon 13 = .ok (.invokevirtual 142, 3) := by decide +kernel
theorem dX8_semicolon_16 : decode cX8_semicolon 16 = .ok (.bipush 59, 2) := by decide +kernel
theorem dX8_semicolon_18 : decode cX8_semicolon 18 = .ok (.if_icmp .ne 10, 3) := by decide +kernel
theorem dX8_semicolon_21 : decode cX8_semicolon 21 = .ok (.aload_n 0, 1) := by decide +kernel
theorem dX8_semicolon_22 : decode cX8_semicolon 22 = .ok (.invokevirtual 29, 3) := by decide +kernel
theorem dX8_semicolon_25 : decode cX8_semicolon 25 = .ok (.goto 7, 3) := by decide +kernel
theorem dX8_semicolon_28 : decode cX8_semicolon 28 = .ok (.aload_n 0, 1) := by decide +kernel
theorem dX8_semicolon_29 : decode cX8_semicolon 29 = .ok (.invokevirtual 83, 3) := by decide +kernel
theorem dX8_semicolon_32 : decode cX8_semicolon 32 = .ok (.return_, 1) := by decide +kernel
set_option maxRecDepth 20000 in
theorem ggX8_isName_J0_length_8abf5 : GoodIn wsX8_isName wsJ0_length_8abf5 := goodIn_r _ [8, 9, 10, 11, 12, 7, 13, 14, 15] (by decide +kernel) (by decide +kernel)
set_option maxRecDepth 20000 in
theorem gX8_isName_J0_length_8abf5 : GoodIn wsX8_isName (wsV RX8 145 RJ0 yJ0_length_8abf5 wsJ0_length_8abf5) := goodIn_app (goodIn_of _ (by decide +kernel)) ggX8_isName_J0_length_8abf5
set_option maxRecDepth 20000 in
theorem ggX8_isName_X8_byteAt : GoodIn wsX8_isName wsX8_byteAt := goodIn_r _ [20, 21, 22, 60, 61, 62, 63, 64, 65] (by decide +kernel) (by decide +kernel)
set_option maxRecDepth 20000 in
theorem gX8_isName_X8_byteAt : GoodIn wsX8_isName (wsV RX8 142 RX8 yX8_byteAt wsX8_byteAt) := goodIn_app (goodIn_of _ (by decide +kernel)) ggX8_isName_X8_byteAt
set_option maxRecDepth 20000 in
theorem ggX8_isName_J0_charAt_5068e : GoodIn wsX8_isName wsJ0_charAt_5068e := goodIn_r _ [26, 9, 27, 28, 29, 7, 30, 14, 15, 31, 32, 33, 34, 35, 36, 37, 38, 39, 40, 41, 42, 43, 44, 45, 46, 47, 48, 49, 50, 51, 52, 53, 54, 55, 56, 57, 58, 59] (by decide +kernel) (by decide +kernel)
set_option maxRecDepth 20000 in
theorem gX8_isName_J0_charAt_5068e : GoodIn wsX8_isName (wsV RX8 150 RJ0 yJ0_charAt_5068e wsJ0_charAt_5068e) := goodIn_app (goodIn_of _ (by decide +kernel)) ggX8_isName_J0_charAt_5068e
theorem dX8_isName_0 : decode cX8_isName 0 = .ok (.aload_n 0, 1) := by decide +kernel
theorem dX8_isName_1 : decode cX8_isName 1 = .ok (.getfield 32, 3) := by decide +kernel
theorem dX8_isName_4 : decode cX8_isName 4 = .ok (.iconst 1, 1) := by decide +kernel
theorem dX8_isName_5 : decode cX8_isName 5 = .ok (.if_icmp .ne 19, 3) := by decide +kernel
theorem dX8_isName_8 : decode cX8_isName 8 = .ok (.aload_n 0, 1) := by decide +kernel
theorem dX8_isName_9 : decode cX8_isName 9 = .ok (.getfield 23, 3) := by decide +kernel
theorem dX8_isName_12 : decode cX8_isName 12 = .ok (.aload_n 0, 1) := by decide +kernel
theorem dX8_isName_13 : decode cX8_isName 13 = .ok (.getfield 137, 3) := by decide +kernel
theorem dX8_isName_16 : decode cX8_isName 16 = .ok (.isub, 1) := by decide +kernel
theorem dX8_isName_17 : decode cX8_isName 17 = .ok (.aload_n 1, 1) := by decide +kernel
theorem dX8_isName_18 : decode cX8_isName 18 = .ok (.invokevirtual 145, 3) := by decide +kernel
theorem dX8_isName_21 : decode cX8_isName 21 = .ok (.if_icmp .eq 5, 3) := by decide +kernel
theorem dX8_isName_24 : decode cX8_isName 24 = .ok (.iconst 0, 1) := by decide +kernel
theorem dX8_isName_25 : decode cX8_isName 25 = .ok (.ireturn, 1) := by decide +kernel
theorem dX8_isName_26 : decode cX8_isName 26 = .ok (.iconst 0, 1) := by decide +kernel
theorem dX8_isName_27 : decode cX8_isName 27 = .ok (.istore_n 2, 1) := by decide +kernel
theorem dX8_isName_28 : decode cX8_isName 28 = .ok (.iload_n 2, 1) := by decide +kernel
theorem dX8_isName_29 : decode cX8_isName 29 = .ok (.aload_n 1, 1) := by decide +kernel
theorem dX8_isName_30 : decode cX8_isName 30 = .ok (.invokevirtual 145, 3) := by decide +kernel
theorem dX8_isName_33 : decode cX8_isName 33 = .ok (.if_icmp .ge 29, 3) := by decide +kernel
theorem dX8_isName_36 : decode cX8_isName 36 = .ok (.aload_n 0, 1) := by decide +kernel
theorem dX8_isName_37 : decode cX8_isName 37 = .ok (.aload_n 0, 1) := by decide +kernel
theorem dX8_isName_38 : decode cX8_isName 38 = .ok (.getfield 137, 3) := by decide +kernel
theorem dX8_isName_41 : decode cX8_isName 41 = .ok (.iload_n 2, 1) := by decide +kernel
theorem dX8_isName_42 : decode cX8_isName 42 = .ok (.iadd, 1) := by decide +kernel
theorem dX8_isName_43 : decode cX8_isName 43 = .ok (.invokevirtual 142, 3) := by decide +kernel
theorem dX8_isName_46 : decode cX8_isName 46 = .ok (.aload_n 1, 1) := by decide +kernel
theorem dX8_isName_47 : decode cX8_isName 47 = .ok (.iload_n 2, 1) := by decide +kernel
theorem dX8_isName_48 : decode cX8_isName 48 = .ok (.invokevirtual 150, 3) := by decide +kernel
theorem dX8_isName_51 : decode cX8_isName 51 = .ok (.if_icmp .eq 5, 3) := by decide +kernel
theorem dX8_isName_54 : decode cX8_isName 54 = .ok (.iconst 0, 1) := by decide +kernel
theorem dX8_isName_55 : decode cX8_isName 55 = .ok (.ireturn, 1) := by decide +kernel
theorem dX8_isName_56 : decode cX8_isName 56 = .ok (.iinc 2 1, 3) := by decide +kernel
theorem dX8_isName_59 : decode cX8_isName 59 = .ok (.goto (-31), 3) := by decide +kernel
theorem dX8_isName_62 : decode cX8_isName 62 = .ok (.iconst 1, 1) := by decide +kernel
theorem dX8_isName_63 : decode cX8_isName 63 = .ok (.ireturn, 1) := by decide +kernel
set_option maxRecDepth 20000 in
theorem ggX8_valueTold_X8_byteAt : GoodIn wsX8_valueTold wsX8_byteAt := goodIn_r _ [8, 9, 10, 11, 12, 13, 14, 15, 16] (by decide +kernel) (by decide +kernel)
set_option maxRecDepth 20000 in
theorem gX8_valueTold_X8_byteAt : GoodIn wsX8_valueTold (wsV RX8 142 RX8 yX8_byteAt wsX8_byteAt) := goodIn_app (goodIn_of _ (by decide +kernel)) ggX8_valueTold_X8_byteAt
theorem dX8_valueTold_0 : decode cX8_valueTold 0 = .ok (.aload_n 0, 1) := by decide +kernel
theorem dX8_valueTold_1 : decode cX8_valueTold 1 = .ok (.getfield 32, 3) := by decide +kernel
theorem dX8_valueTold_4 : decode cX8_valueTold 4 = .ok (.iconst 2, 1) := by decide +kernel
theorem dX8_valueTold_5 : decode cX8_valueTold 5 = .ok (.if_icmp .ne 16, 3) := by decide +kernel
theorem dX8_valueTold_8 : decode cX8_valueTold 8 = .ok (.aload_n 0, 1) := by decide +kernel
theorem dX8_valueTold_9 : decode cX8_valueTold 9 = .ok (.getfield 23, 3) := by decide +kernel
theorem dX8_valueTold_12 : decode cX8_valueTold 12 = .ok (.aload_n 0, 1) := by decide +kernel
theorem dX8_valueTold_13 : decode cX8_valueTold 13 = .ok (.getfield 137, 3) := by decide +kernel
theorem dX8_valueTold_16 : decode cX8_valueTold 16 = .ok (.isub, 1) := by decide +kernel
theorem dX8_valueTold_17 : decode cX8_valueTold 17 = .ok (.iconst 3, 1) := by decide +kernel
theorem dX8_valueTold_18 : decode cX8_valueTold 18 = .ok (.if_icmp .le 5, 3) := by decide +kernel
theorem dX8_valueTold_21 : decode cX8_valueTold 21 = .ok (.iconst (-1), 1) := by decide +kernel
theorem dX8_valueTold_22 : decode cX8_valueTold 22 = .ok (.ireturn, 1) := by decide +kernel
theorem dX8_valueTold_23 : decode cX8_valueTold 23 = .ok (.iconst 0, 1) := by decide +kernel
theorem dX8_valueTold_24 : decode cX8_valueTold 24 = .ok (.istore_n 1, 1) := by decide +kernel
theorem dX8_valueTold_25 : decode cX8_valueTold 25 = .ok (.aload_n 0, 1) := by decide +kernel
theorem dX8_valueTold_26 : decode cX8_valueTold 26 = .ok (.getfield 137, 3) := by decide +kernel
theorem dX8_valueTold_29 : decode cX8_valueTold 29 = .ok (.istore_n 2, 1) := by decide +kernel
theorem dX8_valueTold_30 : decode cX8_valueTold 30 = .ok (.iload_n 2, 1) := by decide +kernel
theorem dX8_valueTold_31 : decode cX8_valueTold 31 = .ok (.aload_n 0, 1) := by decide +kernel
theorem dX8_valueTold_32 : decode cX8_valueTold 32 = .ok (.getfield 23, 3) := by decide +kernel
theorem dX8_valueTold_35 : decode cX8_valueTold 35 = .ok (.if_icmp .ge 23, 3) := by decide +kernel
theorem dX8_valueTold_38 : decode cX8_valueTold 38 = .ok (.iload_n 1, 1) := by decide +kernel
theorem dX8_valueTold_39 : decode cX8_valueTold 39 = .ok (.bipush 10, 2) := by decide +kernel
theorem dX8_valueTold_41 : decode cX8_valueTold 41 = .ok (.imul, 1) := by decide +kernel
theorem dX8_valueTold_42 : decode cX8_valueTold 42 = .ok (.aload_n 0, 1) := by decide +kernel
theorem dX8_valueTold_43 : decode cX8_valueTold 43 = .ok (.iload_n 2, 1) := by decide +kernel
theorem dX8_valueTold_44 : decode cX8_valueTold 44 = .ok (.invokevirtual 142, 3) := by decide +kernel
theorem dX8_valueTold_47 : decode cX8_valueTold 47 = .ok (.iadd, 1) := by decide +kernel
theorem dX8_valueTold_48 : decode cX8_valueTold 48 = .ok (.bipush 48, 2) := by decide +kernel
theorem dX8_valueTold_50 : decode cX8_valueTold 50 = .ok (.isub, 1) := by decide +kernel
theorem dX8_valueTold_51 : decode cX8_valueTold 51 = .ok (.istore_n 1, 1) := by decide +kernel
theorem dX8_valueTold_52 : decode cX8_valueTold 52 = .ok (.iinc 2 1, 3) := by decide +kernel
theorem dX8_valueTold_55 : decode cX8_valueTold 55 = .ok (.goto (-25), 3) := by decide +kernel
theorem dX8_valueTold_58 : decode cX8_valueTold 58 = .ok (.iload_n 1, 1) := by decide +kernel
theorem dX8_valueTold_59 : decode cX8_valueTold 59 = .ok (.ireturn, 1) := by decide +kernel
set_option maxRecDepth 20000 in
theorem ggX8_step_X8_byteAt : GoodIn wsX8_step wsX8_byteAt := goodIn_r _ [8, 9, 10, 15, 16, 17, 18, 19, 20] (by decide +kernel) (by decide +kernel)
set_option maxRecDepth 20000 in
theorem gX8_step_X8_byteAt : GoodIn wsX8_step (wsV RX8 142 RX8 yX8_byteAt wsX8_byteAt) := goodIn_app (goodIn_of _ (by decide +kernel)) ggX8_step_X8_byteAt
set_option maxRecDepth 20000 in
theorem ggX8_step_X8_sortAt : GoodIn wsX8_step wsX8_sortAt := goodIn_r _ [14, 9, 10, 15, 16, 17, 18, 19, 20] (by decide +kernel) (by decide +kernel)
set_option maxRecDepth 20000 in
theorem gX8_step_X8_sortAt : GoodIn wsX8_step (wsV RX8 154 RX8 yX8_sortAt wsX8_sortAt) := goodIn_app (goodIn_of _ (by decide +kernel)) ggX8_step_X8_sortAt
theorem dX8_step_0 : decode cX8_step 0 = .ok (.aload_n 0, 1) := by decide +kernel
theorem dX8_step_1 : decode cX8_step 1 = .ok (.aload_n 0, 1) := by decide +kernel
theorem dX8_step_2 : decode cX8_step 2 = .ok (.getfield 23, 3) := by decide +kernel
theorem dX8_step_5 : decode cX8_step 5 = .ok (.putfield 137, 3) := by decide +kernel
theorem dX8_step_8 : decode cX8_step 8 = .ok (.iconst 0, 1) := by decide +kernel
theorem dX8_step_9 : decode cX8_step 9 = .ok (.istore_n 1, 1) := by decide +kernel
theorem dX8_step_10 : decode cX8_step 10 = .ok (.iload_n 1, 1) := by decide +kernel
theorem dX8_step_11 : decode cX8_step 11 = .ok (.sipush 200, 3) := by decide +kernel
theorem dX8_step_14 : decode cX8_step 14 = .ok (.if_icmp .ge 32, 3) := by decide +kernel
theorem dX8_step_17 : decode cX8_step 17 = .ok (.aload_n 0, 1) := by decide +kernel
theorem dX8_step_18 : decode cX8_step 18 = .ok (.aload_n 0, 1) := by decide +kernel
theorem dX8_step_19 : decode cX8_step 19 = .ok (.getfield 137, 3) := by decide +kernel
theorem dX8_step_22 : decode cX8_step 22 = .ok (.invokevirtual 142, 3) := by decide +kernel
theorem dX8_step_25 : decode cX8_step 25 = .ok (.bipush 32, 2) := by decide +kernel
theorem dX8_step_27 : decode cX8_step 27 = .ok (.if_icmp .ne 19, 3) := by decide +kernel
theorem dX8_step_30 : decode cX8_step 30 = .ok (.aload_n 0, 1) := by decide +kernel
theorem dX8_step_31 : decode cX8_step 31 = .ok (.dup, 1) := by decide +kernel
theorem dX8_step_32 : decode cX8_step 32 = .ok (.getfield 137, 3) := by decide +kernel
theorem dX8_step_35 : decode cX8_step 35 = .ok (.iconst 1, 1) := by decide +kernel
theorem dX8_step_36 : decode cX8_step 36 = .ok (.iadd, 1) := by decide +kernel
theorem dX8_step_37 : decode cX8_step 37 = .ok (.putfield 137, 3) := by decide +kernel
theorem dX8_step_40 : decode cX8_step 40 = .ok (.iinc 1 1, 3) := by decide +kernel
theorem dX8_step_43 : decode cX8_step 43 = .ok (.goto (-33), 3) := by decide +kernel
theorem dX8_step_46 : decode cX8_step 46 = .ok (.aload_n 0, 1) := by decide +kernel
theorem dX8_step_47 : decode cX8_step 47 = .ok (.aload_n 0, 1) := by decide +kernel
theorem dX8_step_48 : decode cX8_step 48 = .ok (.aload_n 0, 1) := by decide +kernel
theorem dX8_step_49 : decode cX8_step 49 = .ok (.getfield 137, 3) := by decide +kernel
theorem dX8_step_52 : decode cX8_step 52 = .ok (.invokevirtual 154, 3) := by decide +kernel
theorem dX8_step_55 : decode cX8_step 55 = .ok (.putfield 32, 3) := by decide +kernel
theorem dX8_step_58 : decode cX8_step 58 = .ok (.aload_n 0, 1) := by decide +kernel
theorem dX8_step_59 : decode cX8_step 59 = .ok (.aload_n 0, 1) := by decide +kernel
theorem dX8_step_60 : decode cX8_step 60 = .ok (.getfield 32, 3) := by decide +kernel
theorem dX8_step_63 : decode cX8_step 63 = .ok (.ifCond .ne 10, 3) := by decide +kernel
theorem dX8_step_66 : decode cX8_step 66 = .ok (.aload_n 0, 1) := by decide +kernel
theorem dX8_step_67 : decode cX8_step 67 = .ok (.getfield 137, 3) := by decide +kernel
theorem dX8_step_70 : decode cX8_step 70 = .ok (.goto 9, 3) := by decide +kernel
theorem dX8_step_73 : decode cX8_step 73 = .ok (.aload_n 0, 1) := by decide +kernel
theorem dX8_step_74 : decode cX8_step 74 = .ok (.getfield 137, 3) := by decide +kernel
theorem dX8_step_77 : decode cX8_step 77 = .ok (.iconst 1, 1) := by decide +kernel
theorem dX8_step_78 : decode cX8_step 78 = .ok (.iadd, 1) := by decide +kernel
theorem dX8_step_79 : decode cX8_step 79 = .ok (.putfield 23, 3) := by decide +kernel
theorem dX8_step_82 : decode cX8_step 82 = .ok (.aload_n 0, 1) := by decide +kernel
theorem dX8_step_83 : decode cX8_step 83 = .ok (.getfield 32, 3) := by decide +kernel
theorem dX8_step_86 : decode cX8_step 86 = .ok (.iconst 1, 1) := by decide +kernel
theorem dX8_step_87 : decode cX8_step 87 = .ok (.if_icmp .eq 11, 3) := by decide +kernel
theorem dX8_step_90 : decode cX8_step 90 = .ok (.aload_n 0, 1) := by decide +kernel
theorem dX8_step_91 : decode cX8_step 91 = .ok (.getfield 32, 3) := by decide +kernel
theorem dX8_step_94 : decode cX8_step 94 = .ok (.iconst 2, 1) := by decide +kernel
theorem dX8_step_95 : decode cX8_step 95 = .ok (.if_icmp .ne 7, 3) := by decide +kernel
theorem dX8_step_98 : decode cX8_step 98 = .ok (.iconst 1, 1) := by decide +kernel
theorem dX8_step_99 : decode cX8_step 99 = .ok (.goto 4, 3) := by decide +kernel
theorem dX8_step_102 : decode cX8_step 102 = .ok (.iconst 0, 1) := by decide +kernel
theorem dX8_step_103 : decode cX8_step 103 = .ok (.istore_n 1, 1) := by decide +kernel
theorem dX8_step_104 : decode cX8_step 104 = .ok (.iconst 0, 1) := by decide +kernel
theorem dX8_step_105 : decode cX8_step 105 = .ok (.istore_n 2, 1) := by decide +kernel
theorem dX8_step_106 : decode cX8_step 106 = .ok (.iload_n 2, 1) := by decide +kernel
theorem dX8_step_107 : decode cX8_step 107 = .ok (.sipush 200, 3) := by decide +kernel
theorem dX8_step_110 : decode cX8_step 110 = .ok (.if_icmp .ge 38, 3) := by decide +kernel
theorem dX8_step_113 : decode cX8_step 113 = .ok (.iload_n 1, 1) := by decide +kernel
theorem dX8_step_114 : decode cX8_step 114 = .ok (.ifCond .eq 34, 3) := by decide +kernel
theorem dX8_step_117 : decode cX8_step 117 = .ok (.aload_n 0, 1) := by decide +kernel
theorem dX8_step_118 : decode cX8_step 118 = .ok (.aload_n 0, 1) := by decide +kernel
theorem dX8_step_119 : decode cX8_step 119 = .ok (.getfield 23, 3) := by decide +kernel
theorem dX8_step_122 : decode cX8_step 122 = .ok (.invokevirtual 154, 3) := by decide +kernel
theorem dX8_step_125 : decode cX8_step 125 = .ok (.aload_n 0, 1) := by decide +kernel
theorem dX8_step_126 : decode cX8_step 126 = .ok (.getfield 32, 3) := by decide +kernel
theorem dX8_step_129 : decode cX8_step 129 = .ok (.if_icmp .ne 19, 3) := by decide +kernel
theorem dX8_step_132 : decode cX8_step 132 = .ok (.aload_n 0, 1) := by decide +kernel
theorem dX8_step_133 : decode cX8_step 133 = .ok (.dup, 1) := by decide +kernel
theorem dX8_step_134 : decode cX8_step 134 = .ok (.getfield 23, 3) := by decide +kernel
theorem dX8_step_137 : decode cX8_step 137 = .ok (.iconst 1, 1) := by decide +kernel
theorem dX8_step_138 : decode cX8_step 138 = .ok (.iadd, 1) := by decide +kernel
theorem dX8_step_139 : decode cX8_step 139 = .ok (.putfield 23, 3) := by decide +kernel
theorem dX8_step_142 : decode cX8_step 142 = .ok (.iinc 2 1, 3) := by decide +kernel
theorem dX8_step_145 : decode cX8_step 145 = .ok (.goto (-39), 3) := by decide +kernel
theorem dX8_step_148 : decode cX8_step 148 = .ok (.return_, 1) := by decide +kernel
theorem dX8_sortAt_0 : decode cX8_sortAt 0 = .ok (.iload_n 1, 1) := by decide +kernel
theorem dX8_sortAt_1 : decode cX8_sortAt 1 = .ok (.ifCond .lt 18, 3) := by decide +kernel
theorem dX8_sortAt_4 : decode cX8_sortAt 4 = .ok (.iload_n 1, 1) := by decide +kernel
theorem dX8_sortAt_5 : decode cX8_sortAt 5 = .ok (.aload_n 0, 1) := by decide +kernel
theorem dX8_sortAt_6 : decode cX8_sortAt 6 = .ok (.getfield 15, 3) := by decide +kernel
theorem dX8_sortAt_9 : decode cX8_sortAt 9 = .ok (.if_icmp .ge 10, 3) := by decide +kernel
theorem dX8_sortAt_12 : decode cX8_sortAt 12 = .ok (.iload_n 1, 1) := by decide +kernel
theorem dX8_sortAt_13 : decode cX8_sortAt 13 = .ok (.sipush 200, 3) := by decide +kernel
theorem dX8_sortAt_16 : decode cX8_sortAt 16 = .ok (.if_icmp .lt 5, 3) := by decide +kernel
theorem dX8_sortAt_19 : decode cX8_sortAt 19 = .ok (.iconst 0, 1) := by decide +kernel
theorem dX8_sortAt_20 : decode cX8_sortAt 20 = .ok (.ireturn, 1) := by decide +kernel
theorem dX8_sortAt_21 : decode cX8_sortAt 21 = .ok (.aload_n 0, 1) := by decide +kernel
theorem dX8_sortAt_22 : decode cX8_sortAt 22 = .ok (.getfield 11, 3) := by decide +kernel
theorem dX8_sortAt_25 : decode cX8_sortAt 25 = .ok (.iload_n 1, 1) := by decide +kernel
theorem dX8_sortAt_26 : decode cX8_sortAt 26 = .ok (.baload, 1) := by decide +kernel
theorem dX8_sortAt_27 : decode cX8_sortAt 27 = .ok (.istore_n 2, 1) := by decide +kernel
theorem dX8_sortAt_28 : decode cX8_sortAt 28 = .ok (.iload_n 2, 1) := by decide +kernel
theorem dX8_sortAt_29 : decode cX8_sortAt 29 = .ok (.bipush 97, 2) := by decide +kernel
theorem dX8_sortAt_31 : decode cX8_sortAt 31 = .ok (.if_icmp .lt 11, 3) := by decide +kernel
theorem dX8_sortAt_34 : decode cX8_sortAt 34 = .ok (.iload_n 2, 1) := by decide +kernel
theorem dX8_sortAt_35 : decode cX8_sortAt 35 = .ok (.bipush 122, 2) := by decide +kernel
theorem dX8_sortAt_37 : decode cX8_sortAt 37 = .ok (.if_icmp .gt 5, 3) := by decide +kernel
theorem dX8_sortAt_40 : decode cX8_sortAt 40 = .ok (.iconst 1, 1) := by decide +kernel
theorem dX8_sortAt_41 : decode cX8_sortAt 41 = .ok (.ireturn, 1) := by decide +kernel
theorem dX8_sortAt_42 : decode cX8_sortAt 42 = .ok (.iload_n 2, 1) := by decide +kernel
theorem dX8_sortAt_43 : decode cX8_sortAt 43 = .ok (.bipush 48, 2) := by decide +kernel
theorem dX8_sortAt_45 : decode cX8_sortAt 45 = .ok (.if_icmp .lt 13, 3) := by decide +kernel
theorem dX8_sortAt_48 : decode cX8_sortAt 48 = .ok (.iload_n 2, 1) := by decide +kernel
theorem dX8_sortAt_49 : decode cX8_sortAt 49 = .ok (.bipush 57, 2) := by decide +kernel
theorem dX8_sortAt_51 : decode cX8_sortAt 51 = .ok (.if_icmp .gt 7, 3) := by decide +kernel
theorem dX8_sortAt_54 : decode cX8_sortAt 54 = .ok (.iconst 2, 1) := by decide +kernel
theorem dX8_sortAt_55 : decode cX8_sortAt 55 = .ok (.goto 4, 3) := by decide +kernel
theorem dX8_sortAt_58 : decode cX8_sortAt 58 = .ok (.iconst 3, 1) := by decide +kernel
theorem dX8_sortAt_59 : decode cX8_sortAt 59 = .ok (.ireturn, 1) := by decide +kernel
theorem dX8_byteAt_0 : decode cX8_byteAt 0 = .ok (.iload_n 1, 1) := by decide +kernel
theorem dX8_byteAt_1 : decode cX8_byteAt 1 = .ok (.ifCond .lt 27, 3) := by decide +kernel
theorem dX8_byteAt_4 : decode cX8_byteAt 4 = .ok (.iload_n 1, 1) := by decide +kernel
theorem dX8_byteAt_5 : decode cX8_byteAt 5 = .ok (.aload_n 0, 1) := by decide +kernel
theorem dX8_byteAt_6 : decode cX8_byteAt 6 = .ok (.getfield 15, 3) := by decide +kernel
theorem dX8_byteAt_9 : decode cX8_byteAt 9 = .ok (.if_icmp .ge 19, 3) := by decide +kernel
theorem dX8_byteAt_12 : decode cX8_byteAt 12 = .ok (.iload_n 1, 1) := by decide +kernel
theorem dX8_byteAt_13 : decode cX8_byteAt 13 = .ok (.sipush 200, 3) := by decide +kernel
theorem dX8_byteAt_16 : decode cX8_byteAt 16 = .ok (.if_icmp .ge 12, 3) := by decide +kernel
theorem dX8_byteAt_19 : decode cX8_byteAt 19 = .ok (.aload_n 0, 1) := by decide +kernel
theorem dX8_byteAt_20 : decode cX8_byteAt 20 = .ok (.getfield 11, 3) := by decide +kernel
theorem dX8_byteAt_23 : decode cX8_byteAt 23 = .ok (.iload_n 1, 1) := by decide +kernel
theorem dX8_byteAt_24 : decode cX8_byteAt 24 = .ok (.baload, 1) := by decide +kernel
theorem dX8_byteAt_25 : decode cX8_byteAt 25 = .ok (.goto 4, 3) := by decide +kernel
theorem dX8_byteAt_28 : decode cX8_byteAt 28 = .ok (.iconst 0, 1) := by decide +kernel
theorem dX8_byteAt_29 : decode cX8_byteAt 29 = .ok (.ireturn, 1) := by decide +kernel
set_option maxRecDepth 20000 in
theorem ggX9_init_X0_init : GoodIn wsX9_init wsX0_init := goodIn_r _ [4, 5, 6, 7] (by decide +kernel) (by decide +kernel)
set_option maxRecDepth 20000 in
theorem gX9_init_X0_init : GoodIn wsX9_init (wsX0_init) := ggX9_init_X0_init
theorem dX9_init_0 : decode cX9_init 0 = .ok (.aload_n 0, 1) := by decide +kernel
theorem dX9_init_1 : decode cX9_init 1 = .ok (.invokespecial 1, 3) := by decide +kernel
theorem dX9_init_4 : decode cX9_init 4 = .ok (.return_, 1) := by decide +kernel
set_option maxRecDepth 20000 in
theorem ggX9_moves_X0_moves : GoodIn wsX9_moves wsX0_moves := goodIn_r _ [6] (by decide +kernel) (by decide +kernel)
set_option maxRecDepth 20000 in
theorem gX9_moves_X0_moves_s7 : GoodIn wsX9_moves (va_wsSU RX9 7 yX0_moves wsX0_moves) := goodIn_app (goodIn_of _ (by decide +kernel)) ggX9_moves_X0_moves
theorem dX9_moves_0 : decode cX9_moves 0 = .ok (.iload_n 3, 1) := by decide +kernel
theorem dX9_moves_1 : decode cX9_moves 1 = .ok (.iconst 2, 1) := by decide +kernel
theorem dX9_moves_2 : decode cX9_moves 2 = .ok (.irem, 1) := by decide +kernel
theorem dX9_moves_3 : decode cX9_moves 3 = .ok (.ifCond .ne 13, 3) := by decide +kernel
theorem dX9_moves_6 : decode cX9_moves 6 = .ok (.aload_n 0, 1) := by decide +kernel
theorem dX9_moves_7 : decode cX9_moves 7 = .ok (.iload_n 1, 1) := by decide +kernel
theorem dX9_moves_8 : decode cX9_moves 8 = .ok (.aload_n 2, 1) := by decide +kernel
theorem dX9_moves_9 : decode cX9_moves 9 = .ok (.iload_n 3, 1) := by decide +kernel
theorem dX9_moves_10 : decode cX9_moves 10 = .ok (.invokespecial 7, 3) := by decide +kernel
theorem dX9_moves_13 : decode cX9_moves 13 = .ok (.goto 4, 3) := by decide +kernel
theorem dX9_moves_16 : decode cX9_moves 16 = .ok (.iconst 0, 1) := by decide +kernel
theorem dX9_moves_17 : decode cX9_moves 17 = .ok (.ireturn, 1) := by decide +kernel
set_option maxRecDepth 20000 in
theorem ggX9_grows_X4_runs : GoodIn wsX9_grows wsX4_runs := goodIn_r _ [5, 6, 7, 8, 71, 72, 73, 74, 75] (by decide +kernel) (by decide +kernel)
set_option maxRecDepth 20000 in
theorem gX9_grows_X4_runs : GoodIn wsX9_grows (wsV RX9 11 RX4 yX4_runs wsX4_runs) := goodIn_app (goodIn_of _ (by decide +kernel)) ggX9_grows_X4_runs
set_option maxRecDepth 20000 in
theorem ggX9_grows_X0_grows : GoodIn wsX9_grows wsX0_grows := goodIn_r _ [14, 15, 2, 3, 4, 5, 6, 7, 8, 16, 17, 18, 13, 19, 20, 21, 22, 23, 24, 25, 26, 27, 28, 29, 30, 31, 32, 33, 34, 35, 36, 37, 38, 39, 40, 41, 42, 43, 44, 45, 46, 47, 48, 49, 50, 51, 52, 53, 54, 55, 56, 57, 58, 59, 60, 61, 62, 63, 64, 65, 66, 67, 68, 69, 70, 71, 72, 73, 74, 75] (by decide +kernel) (by decide +kernel)
set_option maxRecDepth 20000 in
theorem gX9_grows_X0_grows_s17 : GoodIn wsX9_grows (va_wsSU RX9 17 yX0_grows wsX0_grows) := goodIn_app (goodIn_of _ (by decide +kernel)) ggX9_grows_X0_grows
theorem dX9_grows_0 : decode cX9_grows 0 = .ok (.aload_n 2, 1) := by decide +kernel
theorem dX9_grows_1 : decode cX9_grows 1 = .ok (.bipush 60, 2) := by decide +kernel
theorem dX9_grows_3 : decode cX9_grows 3 = .ok (.invokevirtual 11, 3) := by decide +kernel
theorem dX9_grows_6 : decode cX9_grows 6 = .ok (.aload_n 0, 1) := by decide +kernel
theorem dX9_grows_7 : decode cX9_grows 7 = .ok (.iload_n 1, 1) := by decide +kernel
theorem dX9_grows_8 : decode cX9_grows 8 = .ok (.aload_n 2, 1) := by decide +kernel
theorem dX9_grows_9 : decode cX9_grows 9 = .ok (.invokespecial 17, 3) := by decide +kernel
theorem dX9_grows_12 : decode cX9_grows 12 = .ok (.iconst 3, 1) := by decide +kernel
theorem dX9_grows_13 : decode cX9_grows 13 = .ok (.imul, 1) := by decide +kernel
theorem dX9_grows_14 : decode cX9_grows 14 = .ok (.ireturn, 1) := by decide +kernel
set_option maxRecDepth 20000 in
theorem ggX9_parts_X4_runs : GoodIn wsX9_parts wsX4_runs := goodIn_r _ [6, 7, 8, 9, 29, 30, 31, 32, 33] (by decide +kernel) (by decide +kernel)
set_option maxRecDepth 20000 in
theorem gX9_parts_X4_runs : GoodIn wsX9_parts (wsV RX9 11 RX4 yX4_runs wsX4_runs) := goodIn_app (goodIn_of _ (by decide +kernel)) ggX9_parts_X4_runs
set_option maxRecDepth 20000 in
theorem ggX9_parts_X0_parts : GoodIn wsX9_parts wsX0_parts := goodIn_r _ [15, 16, 3, 4, 5, 6, 7, 8, 9, 17, 18, 19, 20, 21, 22, 29, 30, 31, 32, 33] (by decide +kernel) (by decide +kernel)
set_option maxRecDepth 20000 in
theorem gX9_parts_X0_parts_s21 : GoodIn wsX9_parts (va_wsSU RX9 21 yX0_parts wsX0_parts) := goodIn_app (goodIn_of _ (by decide +kernel)) ggX9_parts_X0_parts
set_option maxRecDepth 20000 in
theorem ggX9_parts_X0_kicks : GoodIn wsX9_parts wsX0_kicks := goodIn_r _ [27, 28, 16, 3, 4, 5, 6, 7, 8, 9, 29, 30, 31, 32, 33] (by decide +kernel) (by decide +kernel)
set_option maxRecDepth 20000 in
theorem gX9_parts_X0_kicks_u28X9 : GoodIn wsX9_parts (va_wsU RX9 28 RX9 "BoundGodmothers$Child" ⟨"BoundGodmothers$Twin", "kicks", "(ILBoundGodmothers$Deed;)I"⟩ yX0_kicks wsX0_kicks) := goodIn_app (goodIn_of _ (by decide +kernel)) ggX9_parts_X0_kicks
theorem dX9_parts_0 : decode cX9_parts 0 = .ok (.aload_n 2, 1) := by decide +kernel
theorem dX9_parts_1 : decode cX9_parts 1 = .ok (.bipush 61, 2) := by decide +kernel
theorem dX9_parts_3 : decode cX9_parts 3 = .ok (.invokevirtual 11, 3) := by decide +kernel
theorem dX9_parts_6 : decode cX9_parts 6 = .ok (.aload_n 0, 1) := by decide +kernel
theorem dX9_parts_7 : decode cX9_parts 7 = .ok (.iload_n 1, 1) := by decide +kernel
theorem dX9_parts_8 : decode cX9_parts 8 = .ok (.aload_n 2, 1) := by decide +kernel
theorem dX9_parts_9 : decode cX9_parts 9 = .ok (.invokespecial 21, 3) := by decide +kernel
theorem dX9_parts_12 : decode cX9_parts 12 = .ok (.aload_n 0, 1) := by decide +kernel
theorem dX9_parts_13 : decode cX9_parts 13 = .ok (.aload_n 2, 1) := by decide +kernel
theorem dX9_parts_14 : decode cX9_parts 14 = .ok (.getfield 24, 3) := by decide +kernel
theorem dX9_parts_17 : decode cX9_parts 17 = .ok (.aload_n 2, 1) := by decide +kernel
theorem dX9_parts_18 : decode cX9_parts 18 = .ok (.invokevirtual 28, 3) := by decide +kernel
theorem dX9_parts_21 : decode cX9_parts 21 = .ok (.iadd, 1) := by decide +kernel
theorem dX9_parts_22 : decode cX9_parts 22 = .ok (.ireturn, 1) := by decide +kernel
set_option maxRecDepth 20000 in
theorem ggX10_init_X0_init : GoodIn wsX10_init wsX0_init := goodIn_r _ [4, 5, 6, 7] (by decide +kernel) (by decide +kernel)
set_option maxRecDepth 20000 in
theorem gX10_init_X0_init : GoodIn wsX10_init (wsX0_init) := ggX10_init_X0_init
theorem dX10_init_0 : decode cX10_init 0 = .ok (.aload_n 0, 1) := by decide +kernel
theorem dX10_init_1 : decode cX10_init 1 = .ok (.invokespecial 3, 3) := by decide +kernel
theorem dX10_init_4 : decode cX10_init 4 = .ok (.return_, 1) := by decide +kernel
set_option maxRecDepth 20000 in
theorem ggX10_moves_X0_moves : GoodIn wsX10_moves wsX0_moves := goodIn_r _ [7] (by decide +kernel) (by decide +kernel)
set_option maxRecDepth 20000 in
theorem gX10_moves_X0_moves_s9 : GoodIn wsX10_moves (va_wsSU RX10 9 yX0_moves wsX0_moves) := goodIn_app (goodIn_of _ (by decide +kernel)) ggX10_moves_X0_moves
theorem dX10_moves_0 : decode cX10_moves 0 = .ok (.aload_n 0, 1) := by decide +kernel
theorem dX10_moves_1 : decode cX10_moves 1 = .ok (.iload_n 1, 1) := by decide +kernel
theorem dX10_moves_2 : decode cX10_moves 2 = .ok (.aload_n 2, 1) := by decide +kernel
theorem dX10_moves_3 : decode cX10_moves 3 = .ok (.iload_n 3, 1) := by decide +kernel
theorem dX10_moves_4 : decode cX10_moves 4 = .ok (.invokespecial 9, 3) := by decide +kernel
theorem dX10_moves_7 : decode cX10_moves 7 = .ok (.aload_n 2, 1) := by decide +kernel
theorem dX10_moves_8 : decode cX10_moves 8 = .ok (.getfield 13, 3) := by decide +kernel
theorem dX10_moves_11 : decode cX10_moves 11 = .ok (.iconst 1, 1) := by decide +kernel
theorem dX10_moves_12 : decode cX10_moves 12 = .ok (.iaload, 1) := by decide +kernel
theorem dX10_moves_13 : decode cX10_moves 13 = .ok (.iadd, 1) := by decide +kernel
theorem dX10_moves_14 : decode cX10_moves 14 = .ok (.ireturn, 1) := by decide +kernel
set_option maxRecDepth 20000 in
theorem ggX10_ends_X0_ends : GoodIn wsX10_ends wsX0_ends := goodIn_r _ [6] (by decide +kernel) (by decide +kernel)
set_option maxRecDepth 20000 in
theorem gX10_ends_X0_ends_s19 : GoodIn wsX10_ends (va_wsSU RX10 19 yX0_ends wsX0_ends) := goodIn_app (goodIn_of _ (by decide +kernel)) ggX10_ends_X0_ends
theorem dX10_ends_0 : decode cX10_ends 0 = .ok (.aload_n 0, 1) := by decide +kernel
theorem dX10_ends_1 : decode cX10_ends 1 = .ok (.iload_n 1, 1) := by decide +kernel
theorem dX10_ends_2 : decode cX10_ends 2 = .ok (.aload_n 2, 1) := by decide +kernel
theorem dX10_ends_3 : decode cX10_ends 3 = .ok (.invokespecial 19, 3) := by decide +kernel
theorem dX10_ends_6 : decode cX10_ends 6 = .ok (.bipush 7, 2) := by decide +kernel
theorem dX10_ends_8 : decode cX10_ends 8 = .ok (.isub, 1) := by decide +kernel
theorem dX10_ends_9 : decode cX10_ends 9 = .ok (.ireturn, 1) := by decide +kernel
set_option maxRecDepth 20000 in
theorem ggX10_kicks_X4_runs : GoodIn wsX10_kicks wsX4_runs := goodIn_r _ [5, 6, 7, 8, 17, 18, 19, 20, 21] (by decide +kernel) (by decide +kernel)
set_option maxRecDepth 20000 in
theorem gX10_kicks_X4_runs : GoodIn wsX10_kicks (wsV RX10 23 RX4 yX4_runs wsX4_runs) := goodIn_app (goodIn_of _ (by decide +kernel)) ggX10_kicks_X4_runs
set_option maxRecDepth 20000 in
theorem ggX10_kicks_X0_kicks : GoodIn wsX10_kicks wsX0_kicks := goodIn_r _ [14, 15, 16, 2, 3, 4, 5, 6, 7, 8, 17, 18, 19, 20, 21] (by decide +kernel) (by decide +kernel)
set_option maxRecDepth 20000 in
theorem gX10_kicks_X0_kicks_s29 : GoodIn wsX10_kicks (va_wsSU RX10 29 yX0_kicks wsX0_kicks) := goodIn_app (goodIn_of _ (by decide +kernel)) ggX10_kicks_X0_kicks
theorem dX10_kicks_0 : decode cX10_kicks 0 = .ok (.aload_n 2, 1) := by decide +kernel
theorem dX10_kicks_1 : decode cX10_kicks 1 = .ok (.bipush 30, 2) := by decide +kernel
theorem dX10_kicks_3 : decode cX10_kicks 3 = .ok (.invokevirtual 23, 3) := by decide +kernel
theorem dX10_kicks_6 : decode cX10_kicks 6 = .ok (.iconst 0, 1) := by decide +kernel
theorem dX10_kicks_7 : decode cX10_kicks 7 = .ok (.aload_n 0, 1) := by decide +kernel
theorem dX10_kicks_8 : decode cX10_kicks 8 = .ok (.iload_n 1, 1) := by decide +kernel
theorem dX10_kicks_9 : decode cX10_kicks 9 = .ok (.aload_n 2, 1) := by decide +kernel
theorem dX10_kicks_10 : decode cX10_kicks 10 = .ok (.invokespecial 29, 3) := by decide +kernel
theorem dX10_kicks_13 : decode cX10_kicks 13 = .ok (.isub, 1) := by decide +kernel
theorem dX10_kicks_14 : decode cX10_kicks 14 = .ok (.ireturn, 1) := by decide +kernel
set_option maxRecDepth 20000 in
theorem ggX10_grows_X4_runs : GoodIn wsX10_grows wsX4_runs := goodIn_r _ [6, 7, 8, 9, 82, 83, 84, 85, 86] (by decide +kernel) (by decide +kernel)
set_option maxRecDepth 20000 in
theorem gX10_grows_X4_runs : GoodIn wsX10_grows (wsV RX10 23 RX4 yX4_runs wsX4_runs) := goodIn_app (goodIn_of _ (by decide +kernel)) ggX10_grows_X4_runs
set_option maxRecDepth 20000 in
theorem ggX10_grows_X0_grows : GoodIn wsX10_grows wsX0_grows := goodIn_r _ [15, 16, 3, 4, 5, 6, 7, 8, 9, 17, 18, 19, 14, 20, 21, 22, 23, 24, 25, 26, 27, 28, 29, 30, 31, 32, 33, 34, 35, 36, 37, 38, 39, 40, 41, 42, 43, 44, 45, 46, 47, 2, 48, 12, 49, 50, 51, 52, 53, 54, 55, 56, 57, 58, 59, 60, 61, 62, 63, 64, 65, 66, 67, 68, 69, 82, 83, 84, 85, 86] (by decide +kernel) (by decide +kernel)
set_option maxRecDepth 20000 in
theorem gX10_grows_X0_grows_s33 : GoodIn wsX10_grows (va_wsSU RX10 33 yX0_grows wsX0_grows) := goodIn_app (goodIn_of _ (by decide +kernel)) ggX10_grows_X0_grows
set_option maxRecDepth 20000 in
theorem ggX10_grows_X0_parts : GoodIn wsX10_grows wsX0_parts := goodIn_r _ [74, 16, 3, 4, 5, 6, 7, 8, 9, 75, 76, 77, 78, 79, 80, 82, 83, 84, 85, 86] (by decide +kernel) (by decide +kernel)
set_option maxRecDepth 20000 in
theorem gX10_grows_X0_parts_u40X7 : GoodIn wsX10_grows (va_wsU RX10 40 RX7 "BoundGodmothers$Child" ⟨"BoundGodmothers$Urchin", "parts", "(ILBoundGodmothers$Deed;)I"⟩ yX0_parts wsX0_parts) := goodIn_app (goodIn_of _ (by decide +kernel)) ggX10_grows_X0_parts
set_option maxRecDepth 20000 in
theorem gX10_grows_X0_parts_u40X10 : GoodIn wsX10_grows (va_wsU RX10 40 RX10 "BoundGodmothers$Child" ⟨"BoundGodmothers$Urchin", "parts", "(ILBoundGodmothers$Deed;)I"⟩ yX0_parts wsX0_parts) := goodIn_app (goodIn_of _ (by decide +kernel)) ggX10_grows_X0_parts
theorem dX10_grows_0 : decode cX10_grows 0 = .ok (.aload_n 2, 1) := by decide +kernel
theorem dX10_grows_1 : decode cX10_grows 1 = .ok (.bipush 31, 2) := by decide +kernel
theorem dX10_grows_3 : decode cX10_grows 3 = .ok (.invokevirtual 23, 3) := by decide +kernel
theorem dX10_grows_6 : decode cX10_grows 6 = .ok (.aload_n 0, 1) := by decide +kernel
theorem dX10_grows_7 : decode cX10_grows 7 = .ok (.iload_n 1, 1) := by decide +kernel
theorem dX10_grows_8 : decode cX10_grows 8 = .ok (.aload_n 2, 1) := by decide +kernel
theorem dX10_grows_9 : decode cX10_grows 9 = .ok (.invokespecial 33, 3) := by decide +kernel
theorem dX10_grows_12 : decode cX10_grows 12 = .ok (.aload_n 0, 1) := by decide +kernel
theorem dX10_grows_13 : decode cX10_grows 13 = .ok (.aload_n 2, 1) := by decide +kernel
theorem dX10_grows_14 : decode cX10_grows 14 = .ok (.getfield 36, 3) := by decide +kernel
theorem dX10_grows_17 : decode cX10_grows 17 = .ok (.aload_n 2, 1) := by decide +kernel
theorem dX10_grows_18 : decode cX10_grows 18 = .ok (.invokevirtual 40, 3) := by decide +kernel
theorem dX10_grows_21 : decode cX10_grows 21 = .ok (.iadd, 1) := by decide +kernel
theorem dX10_grows_22 : decode cX10_grows 22 = .ok (.ireturn, 1) := by decide +kernel
set_option maxRecDepth 20000 in
theorem ggX11_init_X0_init : GoodIn wsX11_init wsX0_init := goodIn_r _ [50, 51, 2, 3] (by decide +kernel) (by decide +kernel)
set_option maxRecDepth 20000 in
theorem gX11_init_X0_init : GoodIn wsX11_init (wsX0_init) := ggX11_init_X0_init
set_option maxRecDepth 20000 in
theorem ggX11_init_X5_init : GoodIn wsX11_init wsX5_init := goodIn_r _ [54, 55, 49, 6, 50, 51, 2, 3] (by decide +kernel) (by decide +kernel)
set_option maxRecDepth 20000 in
theorem gX11_init_X5_init : GoodIn wsX11_init (wsX5_init) := ggX11_init_X5_init
set_option maxRecDepth 20000 in
theorem ggX11_init_X10_init : GoodIn wsX11_init wsX10_init := goodIn_r _ [58, 59, 49, 6, 50, 51, 2, 3] (by decide +kernel) (by decide +kernel)
set_option maxRecDepth 20000 in
theorem gX11_init_X10_init : GoodIn wsX11_init (wsX10_init) := ggX11_init_X10_init
set_option maxRecDepth 20000 in
theorem ggX11_init_X3_init : GoodIn wsX11_init wsX3_init := goodIn_r _ [62, 63, 53, 9, 54, 55, 49, 6, 50, 51, 2, 3] (by decide +kernel) (by decide +kernel)
set_option maxRecDepth 20000 in
theorem gX11_init_X3_init : GoodIn wsX11_init (wsX3_init) := ggX11_init_X3_init
set_option maxRecDepth 20000 in
theorem ggX11_init_X7_init : GoodIn wsX11_init wsX7_init := goodIn_r _ [66, 67, 57, 12, 58, 59, 49, 6, 50, 51, 2, 3] (by decide +kernel) (by decide +kernel)
set_option maxRecDepth 20000 in
theorem gX11_init_X7_init : GoodIn wsX11_init (wsX7_init) := ggX11_init_X7_init
set_option maxRecDepth 20000 in
theorem ggX11_init_X9_init : GoodIn wsX11_init wsX9_init := goodIn_r _ [70, 71, 49, 6, 50, 51, 2, 3] (by decide +kernel) (by decide +kernel)
set_option maxRecDepth 20000 in
theorem gX11_init_X9_init : GoodIn wsX11_init (wsX9_init) := ggX11_init_X9_init
set_option maxRecDepth 20000 in
theorem ggX11_init_X1_init : GoodIn wsX11_init wsX1_init := goodIn_r _ [74, 75, 2, 3, 76, 44, 77, 78, 79, 80, 29, 30, 81, 82, 83, 84, 85, 86, 87, 88, 24, 89, 90, 91, 92, 116, 117, 118, 119, 120, 121, 122, 123, 136, 137, 138, 139, 140, 141] (by decide +kernel) (by decide +kernel)
set_option maxRecDepth 20000 in
theorem gX11_init_X1_init : GoodIn wsX11_init (wsX1_init) := ggX11_init_X1_init
set_option maxRecDepth 20000 in
theorem ggX11_init_X6_init : GoodIn wsX11_init wsX6_init := goodIn_r _ [84, 85, 2, 3] (by decide +kernel) (by decide +kernel)
set_option maxRecDepth 20000 in
theorem gX11_init_X6_init : GoodIn wsX11_init (wsX6_init) := ggX11_init_X6_init
set_option maxRecDepth 20000 in
theorem ggX11_init_X8_init : GoodIn wsX11_init wsX8_init := goodIn_r _ [96, 97, 2, 3, 98, 99, 142, 143, 144, 145, 146, 147] (by decide +kernel) (by decide +kernel)
set_option maxRecDepth 20000 in
theorem gX11_init_X8_init : GoodIn wsX11_init (wsX8_init) := ggX11_init_X8_init
set_option maxRecDepth 20000 in
theorem ggX11_init_X2_init : GoodIn wsX11_init wsX2_init := goodIn_r _ [102, 103, 2, 3, 44, 104, 105, 106, 107, 108, 109, 110, 148, 149, 150, 151, 152, 153] (by decide +kernel) (by decide +kernel)
set_option maxRecDepth 20000 in
theorem gX11_init_X2_init : GoodIn wsX11_init (wsX2_init) := ggX11_init_X2_init
set_option maxRecDepth 20000 in
theorem ggX11_init_X4_init : GoodIn wsX11_init wsX4_init := goodIn_r _ [113, 114, 2, 3, 44, 115, 154, 155, 156, 157, 158] (by decide +kernel) (by decide +kernel)
set_option maxRecDepth 20000 in
theorem gX11_init_X4_init : GoodIn wsX11_init (wsX4_init) := ggX11_init_X4_init
theorem dX11_init_0 : decode cX11_init 0 = .ok (.aload_n 0, 1) := by decide +kernel
theorem dX11_init_1 : decode cX11_init 1 = .ok (.invokespecial 1, 3) := by decide +kernel
theorem dX11_init_4 : decode cX11_init 4 = .ok (.bipush 6, 2) := by decide +kernel
theorem dX11_init_6 : decode cX11_init 6 = .ok (.anewarray 7, 3) := by decide +kernel
theorem dX11_init_9 : decode cX11_init 9 = .ok (.dup, 1) := by decide +kernel
theorem dX11_init_10 : decode cX11_init 10 = .ok (.iconst 0, 1) := by decide +kernel
theorem dX11_init_11 : decode cX11_init 11 = .ok (.new 7, 3) := by decide +kernel
theorem dX11_init_14 : decode cX11_init 14 = .ok (.dup, 1) := by decide +kernel
theorem dX11_init_15 : decode cX11_init 15 = .ok (.invokespecial 9, 3) := by decide +kernel
theorem dX11_init_18 : decode cX11_init 18 = .ok (.aastore, 1) := by decide +kernel
theorem dX11_init_19 : decode cX11_init 19 = .ok (.dup, 1) := by decide +kernel
theorem dX11_init_20 : decode cX11_init 20 = .ok (.iconst 1, 1) := by decide +kernel
theorem dX11_init_21 : decode cX11_init 21 = .ok (.new 10, 3) := by decide +kernel
theorem dX11_init_24 : decode cX11_init 24 = .ok (.dup, 1) := by decide +kernel
theorem dX11_init_25 : decode cX11_init 25 = .ok (.invokespecial 12, 3) := by decide +kernel
theorem dX11_init_28 : decode cX11_init 28 = .ok (.aastore, 1) := by decide +kernel
theorem dX11_init_29 : decode cX11_init 29 = .ok (.dup, 1) := by decide +kernel
theorem dX11_init_30 : decode cX11_init 30 = .ok (.iconst 2, 1) := by decide +kernel
theorem dX11_init_31 : decode cX11_init 31 = .ok (.new 13, 3) := by decide +kernel
theorem dX11_init_34 : decode cX11_init 34 = .ok (.dup, 1) := by decide +kernel
theorem dX11_init_35 : decode cX11_init 35 = .ok (.invokespecial 15, 3) := by decide +kernel
theorem dX11_init_38 : decode cX11_init 38 = .ok (.aastore, 1) := by decide +kernel
theorem dX11_init_39 : decode cX11_init 39 = .ok (.dup, 1) := by decide +kernel
theorem dX11_init_40 : decode cX11_init 40 = .ok (.iconst 3, 1) := by decide +kernel
theorem dX11_init_41 : decode cX11_init 41 = .ok (.new 16, 3) := by decide +kernel
theorem dX11_init_44 : decode cX11_init 44 = .ok (.dup, 1) := by decide +kernel
theorem dX11_init_45 : decode cX11_init 45 = .ok (.invokespecial 18, 3) := by decide +kernel
theorem dX11_init_48 : decode cX11_init 48 = .ok (.aastore, 1) := by decide +kernel
theorem dX11_init_49 : decode cX11_init 49 = .ok (.dup, 1) := by decide +kernel
theorem dX11_init_50 : decode cX11_init 50 = .ok (.iconst 4, 1) := by decide +kernel
theorem dX11_init_51 : decode cX11_init 51 = .ok (.new 19, 3) := by decide +kernel
theorem dX11_init_54 : decode cX11_init 54 = .ok (.dup, 1) := by decide +kernel
theorem dX11_init_55 : decode cX11_init 55 = .ok (.invokespecial 21, 3) := by decide +kernel
theorem dX11_init_58 : decode cX11_init 58 = .ok (.aastore, 1) := by decide +kernel
theorem dX11_init_59 : decode cX11_init 59 = .ok (.dup, 1) := by decide +kernel
theorem dX11_init_60 : decode cX11_init 60 = .ok (.iconst 5, 1) := by decide +kernel
theorem dX11_init_61 : decode cX11_init 61 = .ok (.new 22, 3) := by decide +kernel
theorem dX11_init_64 : decode cX11_init 64 = .ok (.dup, 1) := by decide +kernel
theorem dX11_init_65 : decode cX11_init 65 = .ok (.invokespecial 24, 3) := by decide +kernel
theorem dX11_init_68 : decode cX11_init 68 = .ok (.aastore, 1) := by decide +kernel
theorem dX11_init_69 : decode cX11_init 69 = .ok (.astore_n 1, 1) := by decide +kernel
theorem dX11_init_70 : decode cX11_init 70 = .ok (.aload_n 0, 1) := by decide +kernel
theorem dX11_init_71 : decode cX11_init 71 = .ok (.new 25, 3) := by decide +kernel
theorem dX11_init_74 : decode cX11_init 74 = .ok (.dup, 1) := by decide +kernel
theorem dX11_init_75 : decode cX11_init 75 = .ok (.aload_n 1, 1) := by decide +kernel
theorem dX11_init_76 : decode cX11_init 76 = .ok (.invokespecial 27, 3) := by decide +kernel
theorem dX11_init_79 : decode cX11_init 79 = .ok (.putfield 30, 3) := by decide +kernel
theorem dX11_init_82 : decode cX11_init 82 = .ok (.aload_n 0, 1) := by decide +kernel
theorem dX11_init_83 : decode cX11_init 83 = .ok (.new 25, 3) := by decide +kernel
theorem dX11_init_86 : decode cX11_init 86 = .ok (.dup, 1) := by decide +kernel
theorem dX11_init_87 : decode cX11_init 87 = .ok (.aload_n 1, 1) := by decide +kernel
theorem dX11_init_88 : decode cX11_init 88 = .ok (.invokespecial 27, 3) := by decide +kernel
theorem dX11_init_91 : decode cX11_init 91 = .ok (.putfield 36, 3) := by decide +kernel
theorem dX11_init_94 : decode cX11_init 94 = .ok (.aload_n 0, 1) := by decide +kernel
theorem dX11_init_95 : decode cX11_init 95 = .ok (.new 25, 3) := by decide +kernel
theorem dX11_init_98 : decode cX11_init 98 = .ok (.dup, 1) := by decide +kernel
theorem dX11_init_99 : decode cX11_init 99 = .ok (.aload_n 1, 1) := by decide +kernel
theorem dX11_init_100 : decode cX11_init 100 = .ok (.invokespecial 27, 3) := by decide +kernel
theorem dX11_init_103 : decode cX11_init 103 = .ok (.putfield 39, 3) := by decide +kernel
theorem dX11_init_106 : decode cX11_init 106 = .ok (.aload_n 0, 1) := by decide +kernel
theorem dX11_init_107 : decode cX11_init 107 = .ok (.new 42, 3) := by decide +kernel
theorem dX11_init_110 : decode cX11_init 110 = .ok (.dup, 1) := by decide +kernel
theorem dX11_init_111 : decode cX11_init 111 = .ok (.invokespecial 44, 3) := by decide +kernel
theorem dX11_init_114 : decode cX11_init 114 = .ok (.putfield 45, 3) := by decide +kernel
theorem dX11_init_117 : decode cX11_init 117 = .ok (.aload_n 0, 1) := by decide +kernel
theorem dX11_init_118 : decode cX11_init 118 = .ok (.new 49, 3) := by decide +kernel
theorem dX11_init_121 : decode cX11_init 121 = .ok (.dup, 1) := by decide +kernel
theorem dX11_init_122 : decode cX11_init 122 = .ok (.invokespecial 51, 3) := by decide +kernel
theorem dX11_init_125 : decode cX11_init 125 = .ok (.putfield 52, 3) := by decide +kernel
theorem dX11_init_128 : decode cX11_init 128 = .ok (.aload_n 0, 1) := by decide +kernel
theorem dX11_init_129 : decode cX11_init 129 = .ok (.new 56, 3) := by decide +kernel
theorem dX11_init_132 : decode cX11_init 132 = .ok (.dup, 1) := by decide +kernel
theorem dX11_init_133 : decode cX11_init 133 = .ok (.invokespecial 58, 3) := by decide +kernel
theorem dX11_init_136 : decode cX11_init 136 = .ok (.putfield 59, 3) := by decide +kernel
theorem dX11_init_139 : decode cX11_init 139 = .ok (.aload_n 0, 1) := by decide +kernel
theorem dX11_init_140 : decode cX11_init 140 = .ok (.new 63, 3) := by decide +kernel
theorem dX11_init_143 : decode cX11_init 143 = .ok (.dup, 1) := by decide +kernel
theorem dX11_init_144 : decode cX11_init 144 = .ok (.invokespecial 65, 3) := by decide +kernel
theorem dX11_init_147 : decode cX11_init 147 = .ok (.putfield 66, 3) := by decide +kernel
theorem dX11_init_150 : decode cX11_init 150 = .ok (.aload_n 0, 1) := by decide +kernel
theorem dX11_init_151 : decode cX11_init 151 = .ok (.bipush 30, 2) := by decide +kernel
theorem dX11_init_153 : decode cX11_init 153 = .ok (.newarray .int, 2) := by decide +kernel
theorem dX11_init_155 : decode cX11_init 155 = .ok (.putfield 70, 3) := by decide +kernel
theorem dX11_init_158 : decode cX11_init 158 = .ok (.aload_n 0, 1) := by decide +kernel
theorem dX11_init_159 : decode cX11_init 159 = .ok (.bipush 64, 2) := by decide +kernel
theorem dX11_init_161 : decode cX11_init 161 = .ok (.newarray .int, 2) := by decide +kernel
theorem dX11_init_163 : decode cX11_init 163 = .ok (.putfield 74, 3) := by decide +kernel
theorem dX11_init_166 : decode cX11_init 166 = .ok (.aload_n 0, 1) := by decide +kernel
theorem dX11_init_167 : decode cX11_init 167 = .ok (.sipush 256, 3) := by decide +kernel
theorem dX11_init_170 : decode cX11_init 170 = .ok (.newarray .int, 2) := by decide +kernel
theorem dX11_init_172 : decode cX11_init 172 = .ok (.putfield 77, 3) := by decide +kernel
theorem dX11_init_175 : decode cX11_init 175 = .ok (.return_, 1) := by decide +kernel
set_option maxRecDepth 20000 in
theorem ggX11_feed_X8_takes : GoodIn wsX11_feed wsX8_takes := goodIn_r _ [7, 8, 9, 10, 11, 12, 25, 26, 27, 28, 29, 30] (by decide +kernel) (by decide +kernel)
set_option maxRecDepth 20000 in
theorem gX11_feed_X8_takes : GoodIn wsX11_feed (wsV RX11 80 RX8 yX8_takes wsX8_takes) := goodIn_app (goodIn_of _ (by decide +kernel)) ggX11_feed_X8_takes
theorem dX11_feed_0 : decode cX11_feed 0 = .ok (.iload_n 3, 1) := by decide +kernel
theorem dX11_feed_1 : decode cX11_feed 1 = .ok (.iconst 1, 1) := by decide +kernel
theorem dX11_feed_2 : decode cX11_feed 2 = .ok (.if_icmp .lt 9, 3) := by decide +kernel
theorem dX11_feed_5 : decode cX11_feed 5 = .ok (.iload_n 3, 1) := by decide +kernel
theorem dX11_feed_6 : decode cX11_feed 6 = .ok (.bipush 8, 2) := by decide +kernel
theorem dX11_feed_8 : decode cX11_feed 8 = .ok (.if_icmp .le 5, 3) := by decide +kernel
theorem dX11_feed_11 : decode cX11_feed 11 = .ok (.iconst (-1), 1) := by decide +kernel
theorem dX11_feed_12 : decode cX11_feed 12 = .ok (.ireturn, 1) := by decide +kernel
theorem dX11_feed_13 : decode cX11_feed 13 = .ok (.aload_n 0, 1) := by decide +kernel
theorem dX11_feed_14 : decode cX11_feed 14 = .ok (.getfield 52, 3) := by decide +kernel
theorem dX11_feed_17 : decode cX11_feed 17 = .ok (.lload_n 1, 1) := by decide +kernel
theorem dX11_feed_18 : decode cX11_feed 18 = .ok (.iload_n 3, 1) := by decide +kernel
theorem dX11_feed_19 : decode cX11_feed 19 = .ok (.invokevirtual 80, 3) := by decide +kernel
theorem dX11_feed_22 : decode cX11_feed 22 = .ok (.ifCond .eq 13, 3) := by decide +kernel
theorem dX11_feed_25 : decode cX11_feed 25 = .ok (.aload_n 0, 1) := by decide +kernel
theorem dX11_feed_26 : decode cX11_feed 26 = .ok (.getfield 52, 3) := by decide +kernel
theorem dX11_feed_29 : decode cX11_feed 29 = .ok (.getfield 84, 3) := by decide +kernel
theorem dX11_feed_32 : decode cX11_feed 32 = .ok (.goto 5, 3) := by decide +kernel
theorem dX11_feed_35 : decode cX11_feed 35 = .ok (.bipush (-2), 2) := by decide +kernel
theorem dX11_feed_37 : decode cX11_feed 37 = .ok (.ireturn, 1) := by decide +kernel
set_option maxRecDepth 20000 in
theorem ggX11_church_X1_beAsAtFirst : GoodIn wsX11_church wsX1_beAsAtFirst := goodIn_r _ [12, 13, 14, 15, 16, 17, 187, 188, 189, 190, 191, 192, 193, 194] (by decide +kernel) (by decide +kernel)
set_option maxRecDepth 20000 in
theorem gX11_church_X1_beAsAtFirst : GoodIn wsX11_church (wsV RX11 88 RX1 yX1_beAsAtFirst wsX1_beAsAtFirst) := goodIn_app (goodIn_of _ (by decide +kernel)) ggX11_church_X1_beAsAtFirst
set_option maxRecDepth 20000 in
theorem ggX11_church_X8_tells : GoodIn wsX11_church wsX8_tells := goodIn_r _ [22, 23, 24, 25, 26, 27, 28, 21, 29, 30, 31, 32, 33, 34, 35, 36, 37, 38, 39, 40, 41, 42, 43, 44, 45, 46, 47, 48, 49, 50, 51, 52, 53, 54, 55, 56, 57, 58, 59, 60, 61, 62, 63, 64, 65, 66, 67, 68, 69, 70, 71, 72, 73, 74, 75, 76, 77, 78, 79, 80, 81, 82, 83, 84, 85, 86, 87, 88, 89, 90, 91, 92, 93, 94, 95, 96, 97, 98, 99, 100, 101, 102, 103, 104, 105, 106, 107, 108, 109, 110, 111, 112, 113, 114, 115, 116, 117, 11, 118, 16, 119, 120, 121, 122, 123, 124, 125, 126, 127, 128, 129, 130, 131, 132, 133, 134, 135, 136, 137, 138, 139, 140, 141, 142, 143, 144, 145, 146, 147, 148, 149, 150, 151, 152, 153, 154, 155, 156, 157, 158, 159, 160, 161, 162, 163, 164, 165, 195, 196, 197, 198, 199, 200, 187, 188, 189, 190, 191, 192, 193, 194, 201, 202, 203, 204, 205, 206] (by decide +kernel) (by decide +kernel)
set_option maxRecDepth 20000 in
theorem gX11_church_X8_tells : GoodIn wsX11_church (wsV RX11 94 RX8 yX8_tells wsX8_tells) := goodIn_app (goodIn_of _ (by decide +kernel)) ggX11_church_X8_tells
set_option maxRecDepth 20000 in
theorem ggX11_church_X1_become : GoodIn wsX11_church wsX1_become := goodIn_r _ [169, 13, 14, 127, 15, 16, 17, 170, 171, 172, 173, 154, 174, 156, 157, 158, 160, 161, 159, 187, 188, 189, 190, 191, 192, 193, 194, 201, 202, 203, 204, 205, 206] (by decide +kernel) (by decide +kernel)
set_option maxRecDepth 20000 in
theorem gX11_church_X1_become : GoodIn wsX11_church (wsV RX11 98 RX1 yX1_become wsX1_become) := goodIn_app (goodIn_of _ (by decide +kernel)) ggX11_church_X1_become
theorem dX11_church_0 : decode cX11_church 0 = .ok (.aload_n 0, 1) := by decide +kernel
theorem dX11_church_1 : decode cX11_church 1 = .ok (.getfield 39, 3) := by decide +kernel
theorem dX11_church_4 : decode cX11_church 4 = .ok (.invokevirtual 88, 3) := by decide +kernel
theorem dX11_church_7 : decode cX11_church 7 = .ok (.aload_n 0, 1) := by decide +kernel
theorem dX11_church_8 : decode cX11_church 8 = .ok (.getfield 39, 3) := by decide +kernel
theorem dX11_church_11 : decode cX11_church 11 = .ok (.aload_n 0, 1) := by decide +kernel
theorem dX11_church_12 : decode cX11_church 12 = .ok (.getfield 30, 3) := by decide +kernel
theorem dX11_church_15 : decode cX11_church 15 = .ok (.getfield 91, 3) := by decide +kernel
theorem dX11_church_18 : decode cX11_church 18 = .ok (.putfield 91, 3) := by decide +kernel
theorem dX11_church_21 : decode cX11_church 21 = .ok (.aload_n 0, 1) := by decide +kernel
theorem dX11_church_22 : decode cX11_church 22 = .ok (.getfield 52, 3) := by decide +kernel
theorem dX11_church_25 : decode cX11_church 25 = .ok (.aload_n 0, 1) := by decide +kernel
theorem dX11_church_26 : decode cX11_church 26 = .ok (.getfield 39, 3) := by decide +kernel
theorem dX11_church_29 : decode cX11_church 29 = .ok (.invokevirtual 94, 3) := by decide +kernel
theorem dX11_church_32 : decode cX11_church 32 = .ok (.istore_n 1, 1) := by decide +kernel
theorem dX11_church_33 : decode cX11_church 33 = .ok (.aload_n 0, 1) := by decide +kernel
theorem dX11_church_34 : decode cX11_church 34 = .ok (.getfield 52, 3) := by decide +kernel
theorem dX11_church_37 : decode cX11_church 37 = .ok (.iconst 0, 1) := by decide +kernel
theorem dX11_church_38 : decode cX11_church 38 = .ok (.putfield 84, 3) := by decide +kernel
theorem dX11_church_41 : decode cX11_church 41 = .ok (.iload_n 1, 1) := by decide +kernel
theorem dX11_church_42 : decode cX11_church 42 = .ok (.ifCond .lt 8, 3) := by decide +kernel
theorem dX11_church_45 : decode cX11_church 45 = .ok (.bipush (-100), 2) := by decide +kernel
theorem dX11_church_47 : decode cX11_church 47 = .ok (.iload_n 1, 1) := by decide +kernel
theorem dX11_church_48 : decode cX11_church 48 = .ok (.isub, 1) := by decide +kernel
theorem dX11_church_49 : decode cX11_church 49 = .ok (.ireturn, 1) := by decide +kernel
theorem dX11_church_50 : decode cX11_church 50 = .ok (.aload_n 0, 1) := by decide +kernel
theorem dX11_church_51 : decode cX11_church 51 = .ok (.getfield 30, 3) := by decide +kernel
theorem dX11_church_54 : decode cX11_church 54 = .ok (.aload_n 0, 1) := by decide +kernel
theorem dX11_church_55 : decode cX11_church 55 = .ok (.getfield 39, 3) := by decide +kernel
theorem dX11_church_58 : decode cX11_church 58 = .ok (.invokevirtual 98, 3) := by decide +kernel
theorem dX11_church_61 : decode cX11_church 61 = .ok (.aload_n 0, 1) := by decide +kernel
theorem dX11_church_62 : decode cX11_church 62 = .ok (.iconst 0, 1) := by decide +kernel
theorem dX11_church_63 : decode cX11_church 63 = .ok (.putfield 102, 3) := by decide +kernel
theorem dX11_church_66 : decode cX11_church 66 = .ok (.aload_n 0, 1) := by decide +kernel
theorem dX11_church_67 : decode cX11_church 67 = .ok (.getfield 30, 3) := by decide +kernel
theorem dX11_church_70 : decode cX11_church 70 = .ok (.getfield 105, 3) := by decide +kernel
theorem dX11_church_73 : decode cX11_church 73 = .ok (.ireturn, 1) := by decide +kernel
set_option maxRecDepth 20000 in
theorem ggX11_set_X11_within : GoodIn wsX11_set wsX11_within := goodIn_r _ [7] (by decide +kernel) (by decide +kernel)
set_option maxRecDepth 20000 in
theorem gX11_set_X11_within : GoodIn wsX11_set (va_wsS RX11 106 yX11_within wsX11_within) := goodIn_app (goodIn_of _ (by decide +kernel)) ggX11_set_X11_within
theorem dX11_set_0 : decode cX11_set 0 = .ok (.iload_n 1, 1) := by decide +kernel
theorem dX11_set_1 : decode cX11_set 1 = .ok (.iconst 3, 1) := by decide +kernel
theorem dX11_set_2 : decode cX11_set 2 = .ok (.invokestatic 106, 3) := by decide +kernel
theorem dX11_set_5 : decode cX11_set 5 = .ok (.ifCond .eq 15, 3) := by decide +kernel
theorem dX11_set_8 : decode cX11_set 8 = .ok (.iload_n 2, 1) := by decide +kernel
theorem dX11_set_9 : decode cX11_set 9 = .ok (.getstatic 110, 3) := by decide +kernel
theorem dX11_set_12 : decode cX11_set 12 = .ok (.iload_n 1, 1) := by decide +kernel
theorem dX11_set_13 : decode cX11_set 13 = .ok (.iaload, 1) := by decide +kernel
theorem dX11_set_14 : decode cX11_set 14 = .ok (.invokestatic 106, 3) := by decide +kernel
theorem dX11_set_17 : decode cX11_set 17 = .ok (.ifCond .ne 5, 3) := by decide +kernel
theorem dX11_set_20 : decode cX11_set 20 = .ok (.iconst (-1), 1) := by decide +kernel
theorem dX11_set_21 : decode cX11_set 21 = .ok (.ireturn, 1) := by decide +kernel
theorem dX11_set_22 : decode cX11_set 22 = .ok (.aload_n 0, 1) := by decide +kernel
theorem dX11_set_23 : decode cX11_set 23 = .ok (.getfield 30, 3) := by decide +kernel
theorem dX11_set_26 : decode cX11_set 26 = .ok (.getfield 113, 3) := by decide +kernel
theorem dX11_set_29 : decode cX11_set 29 = .ok (.iload_n 1, 1) := by decide +kernel
theorem dX11_set_30 : decode cX11_set 30 = .ok (.iaload, 1) := by decide +kernel
theorem dX11_set_31 : decode cX11_set 31 = .ok (.istore_n 3, 1) := by decide +kernel
theorem dX11_set_32 : decode cX11_set 32 = .ok (.aload_n 0, 1) := by decide +kernel
theorem dX11_set_33 : decode cX11_set 33 = .ok (.getfield 30, 3) := by decide +kernel
theorem dX11_set_36 : decode cX11_set 36 = .ok (.getfield 113, 3) := by decide +kernel
theorem dX11_set_39 : decode cX11_set 39 = .ok (.iload_n 1, 1) := by decide +kernel
theorem dX11_set_40 : decode cX11_set 40 = .ok (.iload_n 2, 1) := by decide +kernel
theorem dX11_set_41 : decode cX11_set 41 = .ok (.iastore, 1) := by decide +kernel
theorem dX11_set_42 : decode cX11_set 42 = .ok (.iload_n 3, 1) := by decide +kernel
theorem dX11_set_43 : decode cX11_set 43 = .ok (.ireturn, 1) := by decide +kernel
set_option maxRecDepth 20000 in
theorem ggX11_lawOf_X11_within : GoodIn wsX11_lawOf wsX11_within := goodIn_r _ [6] (by decide +kernel) (by decide +kernel)
set_option maxRecDepth 20000 in
theorem gX11_lawOf_X11_within : GoodIn wsX11_lawOf (va_wsS RX11 106 yX11_within wsX11_within) := goodIn_app (goodIn_of _ (by decide +kernel)) ggX11_lawOf_X11_within
theorem dX11_lawOf_0 : decode cX11_lawOf 0 = .ok (.iload_n 1, 1) := by decide +kernel
theorem dX11_lawOf_1 : decode cX11_lawOf 1 = .ok (.iconst 3, 1) := by decide +kernel
theorem dX11_lawOf_2 : decode cX11_lawOf 2 = .ok (.invokestatic 106, 3) := by decide +kernel
theorem dX11_lawOf_5 : decode cX11_lawOf 5 = .ok (.ifCond .eq 15, 3) := by decide +kernel
theorem dX11_lawOf_8 : decode cX11_lawOf 8 = .ok (.aload_n 0, 1) := by decide +kernel
theorem dX11_lawOf_9 : decode cX11_lawOf 9 = .ok (.getfield 30, 3) := by decide +kernel
theorem dX11_lawOf_12 : decode cX11_lawOf 12 = .ok (.getfield 113, 3) := by decide +kernel
theorem dX11_lawOf_15 : decode cX11_lawOf 15 = .ok (.iload_n 1, 1) := by decide +kernel
theorem dX11_lawOf_16 : decode cX11_lawOf 16 = .ok (.iaload, 1) := by decide +kernel
theorem dX11_lawOf_17 : decode cX11_lawOf 17 = .ok (.goto 4, 3) := by decide +kernel
theorem dX11_lawOf_20 : decode cX11_lawOf 20 = .ok (.iconst (-1), 1) := by decide +kernel
theorem dX11_lawOf_21 : decode cX11_lawOf 21 = .ok (.ireturn, 1) := by decide +kernel
set_option maxRecDepth 20000 in
theorem ggX11_child_X11_isKindWithFire : GoodIn wsX11_child wsX11_isKindWithFire := goodIn_r _ [6, 7, 8, 5, 9] (by decide +kernel) (by decide +kernel)
set_option maxRecDepth 20000 in
theorem gX11_child_X11_isKindWithFire : GoodIn wsX11_child (va_wsS RX11 116 yX11_isKindWithFire wsX11_isKindWithFire) := goodIn_app (goodIn_of _ (by decide +kernel)) ggX11_child_X11_isKindWithFire
set_option maxRecDepth 20000 in
theorem ggX11_child_X11_within : GoodIn wsX11_child wsX11_within := goodIn_r _ [9] (by decide +kernel) (by decide +kernel)
set_option maxRecDepth 20000 in
theorem gX11_child_X11_within : GoodIn wsX11_child (va_wsS RX11 106 yX11_within wsX11_within) := goodIn_app (goodIn_of _ (by decide +kernel)) ggX11_child_X11_within
set_option maxRecDepth 20000 in
theorem ggX11_child_X11_isGodmother : GoodIn wsX11_child wsX11_isGodmother := goodIn_r _ [12, 7, 8, 5, 9] (by decide +kernel) (by decide +kernel)
set_option maxRecDepth 20000 in
theorem gX11_child_X11_isGodmother : GoodIn wsX11_child (va_wsS RX11 119 yX11_isGodmother wsX11_isGodmother) := goodIn_app (goodIn_of _ (by decide +kernel)) ggX11_child_X11_isGodmother
set_option maxRecDepth 20000 in
theorem ggX11_child_X1_added : GoodIn wsX11_child wsX1_added := goodIn_r _ [17, 18, 19, 20, 21, 16, 22, 23, 24, 25, 26, 27, 8, 5, 9, 51, 52, 53, 54, 55, 56, 57, 58] (by decide +kernel) (by decide +kernel)
set_option maxRecDepth 20000 in
theorem gX11_child_X1_added : GoodIn wsX11_child (wsV RX11 123 RX1 yX1_added wsX1_added) := goodIn_app (goodIn_of _ (by decide +kernel)) ggX11_child_X1_added
set_option maxRecDepth 20000 in
theorem ggX11_child_X6_begin : GoodIn wsX11_child wsX6_begin := goodIn_r _ [32, 33, 34, 35, 36, 37, 38, 59, 60, 61, 62, 63, 64] (by decide +kernel) (by decide +kernel)
set_option maxRecDepth 20000 in
theorem gX11_child_X6_begin : GoodIn wsX11_child (wsV RX11 127 RX6 yX6_begin wsX6_begin) := goodIn_app (goodIn_of _ (by decide +kernel)) ggX11_child_X6_begin
theorem dX11_child_0 : decode cX11_child 0 = .ok (.iload_n 1, 1) := by decide +kernel
theorem dX11_child_1 : decode cX11_child 1 = .ok (.iload_n 3, 1) := by decide +kernel
theorem dX11_child_2 : decode cX11_child 2 = .ok (.invokestatic 116, 3) := by decide +kernel
theorem dX11_child_5 : decode cX11_child 5 = .ok (.ifCond .eq 20, 3) := by decide +kernel
theorem dX11_child_8 : decode cX11_child 8 = .ok (.iload_n 2, 1) := by decide +kernel
theorem dX11_child_9 : decode cX11_child 9 = .ok (.bipush 99, 2) := by decide +kernel
theorem dX11_child_11 : decode cX11_child 11 = .ok (.invokestatic 106, 3) := by decide +kernel
theorem dX11_child_14 : decode cX11_child 14 = .ok (.ifCond .eq 11, 3) := by decide +kernel
theorem dX11_child_17 : decode cX11_child 17 = .ok (.iload 4, 2) := by decide +kernel
theorem dX11_child_19 : decode cX11_child 19 = .ok (.invokestatic 119, 3) := by decide +kernel
theorem dX11_child_22 : decode cX11_child 22 = .ok (.ifCond .ne 5, 3) := by decide +kernel
theorem dX11_child_25 : decode cX11_child 25 = .ok (.iconst (-1), 1) := by decide +kernel
theorem dX11_child_26 : decode cX11_child 26 = .ok (.ireturn, 1) := by decide +kernel
theorem dX11_child_27 : decode cX11_child 27 = .ok (.aload_n 0, 1) := by decide +kernel
theorem dX11_child_28 : decode cX11_child 28 = .ok (.getfield 30, 3) := by decide +kernel
theorem dX11_child_31 : decode cX11_child 31 = .ok (.invokevirtual 123, 3) := by decide +kernel
theorem dX11_child_34 : decode cX11_child 34 = .ok (.astore 5, 2) := by decide +kernel
theorem dX11_child_36 : decode cX11_child 36 = .ok (.aload 5, 2) := by decide +kernel
theorem dX11_child_38 : decode cX11_child 38 = .ok (.ifnonnull 6, 3) := by decide +kernel
theorem dX11_child_41 : decode cX11_child 41 = .ok (.bipush (-2), 2) := by decide +kernel
theorem dX11_child_43 : decode cX11_child 43 = .ok (.ireturn, 1) := by decide +kernel
theorem dX11_child_44 : decode cX11_child 44 = .ok (.aload 5, 2) := by decide +kernel
theorem dX11_child_46 : decode cX11_child 46 = .ok (.iload_n 1, 1) := by decide +kernel
theorem dX11_child_47 : decode cX11_child 47 = .ok (.iload_n 2, 1) := by decide +kernel
theorem dX11_child_48 : decode cX11_child 48 = .ok (.iload_n 3, 1) := by decide +kernel
theorem dX11_child_49 : decode cX11_child 49 = .ok (.iload 4, 2) := by decide +kernel
theorem dX11_child_51 : decode cX11_child 51 = .ok (.invokevirtual 127, 3) := by decide +kernel
theorem dX11_child_54 : decode cX11_child 54 = .ok (.aload_n 0, 1) := by decide +kernel
theorem dX11_child_55 : decode cX11_child 55 = .ok (.getfield 30, 3) := by decide +kernel
theorem dX11_child_58 : decode cX11_child 58 = .ok (.getfield 105, 3) := by decide +kernel
theorem dX11_child_61 : decode cX11_child 61 = .ok (.iconst 1, 1) := by decide +kernel
theorem dX11_child_62 : decode cX11_child 62 = .ok (.isub, 1) := by decide +kernel
theorem dX11_child_63 : decode cX11_child 63 = .ok (.ireturn, 1) := by decide +kernel
set_option maxRecDepth 20000 in
theorem ggX11_of_X1_life : GoodIn wsX11_of wsX1_life := goodIn_r _ [6, 7, 8, 9, 10, 11, 12, 13, 14, 15, 40, 41, 42, 43, 44, 45, 46, 47] (by decide +kernel) (by decide +kernel)
set_option maxRecDepth 20000 in
theorem gX11_of_X1_life : GoodIn wsX11_of (wsV RX11 131 RX1 yX1_life wsX1_life) := goodIn_app (goodIn_of _ (by decide +kernel)) ggX11_of_X1_life
set_option maxRecDepth 20000 in
theorem ggX11_of_X11_within : GoodIn wsX11_of wsX11_within := goodIn_r _ [15] (by decide +kernel) (by decide +kernel)
set_option maxRecDepth 20000 in
theorem gX11_of_X11_within : GoodIn wsX11_of (va_wsS RX11 106 yX11_within wsX11_within) := goodIn_app (goodIn_of _ (by decide +kernel)) ggX11_of_X11_within
set_option maxRecDepth 20000 in
theorem ggX11_of_X6_mark : GoodIn wsX11_of wsX6_mark := goodIn_r _ [21, 22, 23, 24, 25, 26, 27, 48, 49, 50, 51, 52, 53] (by decide +kernel) (by decide +kernel)
set_option maxRecDepth 20000 in
theorem gX11_of_X6_mark : GoodIn wsX11_of (wsV RX11 135 RX6 yX6_mark wsX6_mark) := goodIn_app (goodIn_of _ (by decide +kernel)) ggX11_of_X6_mark
theorem dX11_of_0 : decode cX11_of 0 = .ok (.aload_n 0, 1) := by decide +kernel
theorem dX11_of_1 : decode cX11_of 1 = .ok (.getfield 30, 3) := by decide +kernel
theorem dX11_of_4 : decode cX11_of 4 = .ok (.iload_n 1, 1) := by decide +kernel
theorem dX11_of_5 : decode cX11_of 5 = .ok (.invokevirtual 131, 3) := by decide +kernel
theorem dX11_of_8 : decode cX11_of 8 = .ok (.astore_n 3, 1) := by decide +kernel
theorem dX11_of_9 : decode cX11_of 9 = .ok (.aload_n 3, 1) := by decide +kernel
theorem dX11_of_10 : decode cX11_of 10 = .ok (.ifnull 19, 3) := by decide +kernel
theorem dX11_of_13 : decode cX11_of 13 = .ok (.iload_n 2, 1) := by decide +kernel
theorem dX11_of_14 : decode cX11_of 14 = .ok (.iconst 5, 1) := by decide +kernel
theorem dX11_of_15 : decode cX11_of 15 = .ok (.invokestatic 106, 3) := by decide +kernel
theorem dX11_of_18 : decode cX11_of 18 = .ok (.ifCond .eq 11, 3) := by decide +kernel
theorem dX11_of_21 : decode cX11_of 21 = .ok (.aload_n 3, 1) := by decide +kernel
theorem dX11_of_22 : decode cX11_of 22 = .ok (.iload_n 2, 1) := by decide +kernel
theorem dX11_of_23 : decode cX11_of 23 = .ok (.invokevirtual 135, 3) := by decide +kernel
theorem dX11_of_26 : decode cX11_of 26 = .ok (.goto 4, 3) := by decide +kernel
theorem dX11_of_29 : decode cX11_of 29 = .ok (.iconst (-1), 1) := by decide +kernel
theorem dX11_of_30 : decode cX11_of 30 = .ok (.ireturn, 1) := by decide +kernel
set_option maxRecDepth 20000 in
theorem ggX11_does_X1_life : GoodIn wsX11_does wsX1_life := goodIn_r _ [6, 7, 8, 9, 10, 11, 12, 13, 14, 15, 112, 113, 114, 115, 116, 117, 118, 119] (by decide +kernel) (by decide +kernel)
set_option maxRecDepth 20000 in
theorem gX11_does_X1_life : GoodIn wsX11_does (wsV RX11 131 RX1 yX1_life wsX1_life) := goodIn_app (goodIn_of _ (by decide +kernel)) ggX11_does_X1_life
set_option maxRecDepth 20000 in
theorem ggX11_does_X1_movesOf : GoodIn wsX11_does wsX1_movesOf := goodIn_r _ [19, 20, 21, 22, 23, 24, 5, 25, 26, 27, 13, 14, 15, 28, 29, 30, 31, 32, 33, 34, 35, 36, 37, 38, 39, 40, 41, 42, 43, 44, 45, 46, 47, 48, 49, 50, 51, 52, 53, 54, 55, 56, 57, 58, 59, 60, 61, 62, 63, 64, 65, 66, 67, 68, 69, 120, 121, 122, 123, 124, 125, 112, 113, 114, 115, 116, 117, 118, 119] (by decide +kernel) (by decide +kernel)
set_option maxRecDepth 20000 in
theorem gX11_does_X1_movesOf : GoodIn wsX11_does (wsV RX11 139 RX1 yX1_movesOf wsX1_movesOf) := goodIn_app (goodIn_of _ (by decide +kernel)) ggX11_does_X1_movesOf
set_option maxRecDepth 20000 in
theorem ggX11_does_X1_endsOf : GoodIn wsX11_does wsX1_endsOf := goodIn_r _ [73, 20, 22, 23, 24, 5, 25, 26, 27, 13, 14, 15, 74, 75, 76, 31, 77, 78, 79, 80, 81, 82, 38, 83, 40, 84, 85, 43, 86, 45, 87, 88, 48, 89, 90, 91, 52, 92, 93, 94, 56, 95, 58, 96, 97, 62, 98, 99, 120, 121, 122, 123, 124, 125, 112, 113, 114, 115, 116, 117, 118, 119] (by decide +kernel) (by decide +kernel)
set_option maxRecDepth 20000 in
theorem gX11_does_X1_endsOf : GoodIn wsX11_does (wsV RX11 143 RX1 yX1_endsOf wsX1_endsOf) := goodIn_app (goodIn_of _ (by decide +kernel)) ggX11_does_X1_endsOf
theorem dX11_does_0 : decode cX11_does 0 = .ok (.aload_n 0, 1) := by decide +kernel
theorem dX11_does_1 : decode cX11_does 1 = .ok (.getfield 30, 3) := by decide +kernel
theorem dX11_does_4 : decode cX11_does 4 = .ok (.iload_n 1, 1) := by decide +kernel
theorem dX11_does_5 : decode cX11_does 5 = .ok (.invokevirtual 131, 3) := by decide +kernel
theorem dX11_does_8 : decode cX11_does 8 = .ok (.astore_n 3, 1) := by decide +kernel
theorem dX11_does_9 : decode cX11_does 9 = .ok (.aload_n 3, 1) := by decide +kernel
theorem dX11_does_10 : decode cX11_does 10 = .ok (.ifnonnull 5, 3) := by decide +kernel
theorem dX11_does_13 : decode cX11_does 13 = .ok (.iconst (-1), 1) := by decide +kernel
theorem dX11_does_14 : decode cX11_does 14 = .ok (.ireturn, 1) := by decide +kernel
theorem dX11_does_15 : decode cX11_does 15 = .ok (.iload_n 2, 1) := by decide +kernel
theorem dX11_does_16 : decode cX11_does 16 = .ok (.lookupswitch 46 #[(0, 28), (1, 37)], 28) := by decide +kernel
theorem dX11_does_44 : decode cX11_does 44 = .ok (.aload_n 0, 1) := by decide +kernel
theorem dX11_does_45 : decode cX11_does 45 = .ok (.getfield 30, 3) := by decide +kernel
theorem dX11_does_48 : decode cX11_does 48 = .ok (.aload_n 3, 1) := by decide +kernel
theorem dX11_does_49 : decode cX11_does 49 = .ok (.invokevirtual 139, 3) := by decide +kernel
theorem dX11_does_52 : decode cX11_does 52 = .ok (.ireturn, 1) := by decide +kernel
theorem dX11_does_53 : decode cX11_does 53 = .ok (.aload_n 0, 1) := by decide +kernel
theorem dX11_does_54 : decode cX11_does 54 = .ok (.getfield 30, 3) := by decide +kernel
theorem dX11_does_57 : decode cX11_does 57 = .ok (.aload_n 3, 1) := by decide +kernel
theorem dX11_does_58 : decode cX11_does 58 = .ok (.invokevirtual 143, 3) := by decide +kernel
theorem dX11_does_61 : decode cX11_does 61 = .ok (.ireturn, 1) := by decide +kernel
theorem dX11_does_62 : decode cX11_does 62 = .ok (.iconst (-1), 1) := by decide +kernel
theorem dX11_does_63 : decode cX11_does 63 = .ok (.ireturn, 1) := by decide +kernel
set_option maxRecDepth 20000 in
theorem ggX11_mind_X1_life : GoodIn wsX11_mind wsX1_life := goodIn_r _ [8, 9, 10, 11, 12, 13, 14, 15, 16, 17, 40, 41, 42, 43, 44, 45, 46, 47] (by decide +kernel) (by decide +kernel)
set_option maxRecDepth 20000 in
theorem gX11_mind_X1_life : GoodIn wsX11_mind (wsV RX11 131 RX1 yX1_life wsX1_life) := goodIn_app (goodIn_of _ (by decide +kernel)) ggX11_mind_X1_life
set_option maxRecDepth 20000 in
theorem ggX11_mind_X11_isKindWithFire : GoodIn wsX11_mind wsX11_isKindWithFire := goodIn_r _ [20, 21, 15, 16, 17] (by decide +kernel) (by decide +kernel)
set_option maxRecDepth 20000 in
theorem gX11_mind_X11_isKindWithFire : GoodIn wsX11_mind (va_wsS RX11 116 yX11_isKindWithFire wsX11_isKindWithFire) := goodIn_app (goodIn_of _ (by decide +kernel)) ggX11_mind_X11_isKindWithFire
theorem dX11_mind_0 : decode cX11_mind 0 = .ok (.aload_n 0, 1) := by decide +kernel
theorem dX11_mind_1 : decode cX11_mind 1 = .ok (.getfield 30, 3) := by decide +kernel
theorem dX11_mind_4 : decode cX11_mind 4 = .ok (.iload_n 1, 1) := by decide +kernel
theorem dX11_mind_5 : decode cX11_mind 5 = .ok (.invokevirtual 131, 3) := by decide +kernel
theorem dX11_mind_8 : decode cX11_mind 8 = .ok (.astore 4, 2) := by decide +kernel
theorem dX11_mind_10 : decode cX11_mind 10 = .ok (.aload 4, 2) := by decide +kernel
theorem dX11_mind_12 : decode cX11_mind 12 = .ok (.ifnull 11, 3) := by decide +kernel
theorem dX11_mind_15 : decode cX11_mind 15 = .ok (.iload_n 2, 1) := by decide +kernel
theorem dX11_mind_16 : decode cX11_mind 16 = .ok (.iload_n 3, 1) := by decide +kernel
theorem dX11_mind_17 : decode cX11_mind 17 = .ok (.invokestatic 116, 3) := by decide +kernel
theorem dX11_mind_20 : decode cX11_mind 20 = .ok (.ifCond .ne 5, 3) := by decide +kernel
theorem dX11_mind_23 : decode cX11_mind 23 = .ok (.iconst (-1), 1) := by decide +kernel
theorem dX11_mind_24 : decode cX11_mind 24 = .ok (.ireturn, 1) := by decide +kernel
theorem dX11_mind_25 : decode cX11_mind 25 = .ok (.aload 4, 2) := by decide +kernel
theorem dX11_mind_27 : decode cX11_mind 27 = .ok (.getfield 146, 3) := by decide +kernel
theorem dX11_mind_30 : decode cX11_mind 30 = .ok (.istore 5, 2) := by decide +kernel
theorem dX11_mind_32 : decode cX11_mind 32 = .ok (.aload 4, 2) := by decide +kernel
theorem dX11_mind_34 : decode cX11_mind 34 = .ok (.iload_n 2, 1) := by decide +kernel
theorem dX11_mind_35 : decode cX11_mind 35 = .ok (.putfield 146, 3) := by decide +kernel
theorem dX11_mind_38 : decode cX11_mind 38 = .ok (.aload 4, 2) := by decide +kernel
theorem dX11_mind_40 : decode cX11_mind 40 = .ok (.iload_n 3, 1) := by decide +kernel
theorem dX11_mind_41 : decode cX11_mind 41 = .ok (.putfield 149, 3) := by decide +kernel
theorem dX11_mind_44 : decode cX11_mind 44 = .ok (.iload 5, 2) := by decide +kernel
theorem dX11_mind_46 : decode cX11_mind 46 = .ok (.ireturn, 1) := by decide +kernel
set_option maxRecDepth 20000 in
theorem ggX11_change_X1_life : GoodIn wsX11_change wsX1_life := goodIn_r _ [6, 7, 8, 9, 10, 11, 12, 13, 14, 15, 44, 45, 46, 47, 48, 49, 50, 51] (by decide +kernel) (by decide +kernel)
set_option maxRecDepth 20000 in
theorem gX11_change_X1_life : GoodIn wsX11_change (wsV RX11 131 RX1 yX1_life wsX1_life) := goodIn_app (goodIn_of _ (by decide +kernel)) ggX11_change_X1_life
set_option maxRecDepth 20000 in
theorem ggX11_change_X11_within : GoodIn wsX11_change wsX11_within := goodIn_r _ [15] (by decide +kernel) (by decide +kernel)
set_option maxRecDepth 20000 in
theorem gX11_change_X11_within : GoodIn wsX11_change (va_wsS RX11 106 yX11_within wsX11_within) := goodIn_app (goodIn_of _ (by decide +kernel)) ggX11_change_X11_within
set_option maxRecDepth 20000 in
theorem ggX11_change_X6_mark : GoodIn wsX11_change wsX6_mark := goodIn_r _ [21, 22, 23, 24, 25, 26, 27, 52, 53, 54, 55, 56, 57] (by decide +kernel) (by decide +kernel)
set_option maxRecDepth 20000 in
theorem gX11_change_X6_mark : GoodIn wsX11_change (wsV RX11 135 RX6 yX6_mark wsX6_mark) := goodIn_app (goodIn_of _ (by decide +kernel)) ggX11_change_X6_mark
set_option maxRecDepth 20000 in
theorem ggX11_change_X6_remark : GoodIn wsX11_change wsX6_remark := goodIn_r _ [31, 22, 23, 24, 25, 26, 27, 52, 53, 54, 55, 56, 57] (by decide +kernel) (by decide +kernel)
set_option maxRecDepth 20000 in
theorem gX11_change_X6_remark : GoodIn wsX11_change (wsV RX11 152 RX6 yX6_remark wsX6_remark) := goodIn_app (goodIn_of _ (by decide +kernel)) ggX11_change_X6_remark
theorem dX11_change_0 : decode cX11_change 0 = .ok (.aload_n 0, 1) := by decide +kernel
theorem dX11_change_1 : decode cX11_change 1 = .ok (.getfield 30, 3) := by decide +kernel
theorem dX11_change_4 : decode cX11_change 4 = .ok (.iload_n 1, 1) := by decide +kernel
theorem dX11_change_5 : decode cX11_change 5 = .ok (.invokevirtual 131, 3) := by decide +kernel
theorem dX11_change_8 : decode cX11_change 8 = .ok (.astore 4, 2) := by decide +kernel
theorem dX11_change_10 : decode cX11_change 10 = .ok (.iload_n 2, 1) := by decide +kernel
theorem dX11_change_11 : decode cX11_change 11 = .ok (.iconst 1, 1) := by decide +kernel
theorem dX11_change_12 : decode cX11_change 12 = .ok (.if_icmp .eq 13, 3) := by decide +kernel
theorem dX11_change_15 : decode cX11_change 15 = .ok (.iload_n 2, 1) := by decide +kernel
theorem dX11_change_16 : decode cX11_change 16 = .ok (.iconst 3, 1) := by decide +kernel
theorem dX11_change_17 : decode cX11_change 17 = .ok (.if_icmp .eq 8, 3) := by decide +kernel
theorem dX11_change_20 : decode cX11_change 20 = .ok (.iload_n 2, 1) := by decide +kernel
theorem dX11_change_21 : decode cX11_change 21 = .ok (.iconst 4, 1) := by decide +kernel
theorem dX11_change_22 : decode cX11_change 22 = .ok (.if_icmp .ne 7, 3) := by decide +kernel
theorem dX11_change_25 : decode cX11_change 25 = .ok (.iconst 1, 1) := by decide +kernel
theorem dX11_change_26 : decode cX11_change 26 = .ok (.goto 4, 3) := by decide +kernel
theorem dX11_change_29 : decode cX11_change 29 = .ok (.iconst 0, 1) := by decide +kernel
theorem dX11_change_30 : decode cX11_change 30 = .ok (.istore 5, 2) := by decide +kernel
theorem dX11_change_32 : decode cX11_change 32 = .ok (.aload 4, 2) := by decide +kernel
theorem dX11_change_34 : decode cX11_change 34 = .ok (.ifnull 17, 3) := by decide +kernel
theorem dX11_change_37 : decode cX11_change 37 = .ok (.iload 5, 2) := by decide +kernel
theorem dX11_change_39 : decode cX11_change 39 = .ok (.ifCond .eq 12, 3) := by decide +kernel
theorem dX11_change_42 : decode cX11_change 42 = .ok (.iload_n 3, 1) := by decide +kernel
theorem dX11_change_43 : decode cX11_change 43 = .ok (.bipush 99, 2) := by decide +kernel
theorem dX11_change_45 : decode cX11_change 45 = .ok (.invokestatic 106, 3) := by decide +kernel
theorem dX11_change_48 : decode cX11_change 48 = .ok (.ifCond .ne 5, 3) := by decide +kernel
theorem dX11_change_51 : decode cX11_change 51 = .ok (.iconst (-1), 1) := by decide +kernel
theorem dX11_change_52 : decode cX11_change 52 = .ok (.ireturn, 1) := by decide +kernel
theorem dX11_change_53 : decode cX11_change 53 = .ok (.aload 4, 2) := by decide +kernel
theorem dX11_change_55 : decode cX11_change 55 = .ok (.iload_n 2, 1) := by decide +kernel
theorem dX11_change_56 : decode cX11_change 56 = .ok (.invokevirtual 135, 3) := by decide +kernel
theorem dX11_change_59 : decode cX11_change 59 = .ok (.istore 6, 2) := by decide +kernel
theorem dX11_change_61 : decode cX11_change 61 = .ok (.aload 4, 2) := by decide +kernel
theorem dX11_change_63 : decode cX11_change 63 = .ok (.iload_n 2, 1) := by decide +kernel
theorem dX11_change_64 : decode cX11_change 64 = .ok (.iload_n 3, 1) := by decide +kernel
theorem dX11_change_65 : decode cX11_change 65 = .ok (.invokevirtual 152, 3) := by decide +kernel
theorem dX11_change_68 : decode cX11_change 68 = .ok (.iload 6, 2) := by decide +kernel
theorem dX11_change_70 : decode cX11_change 70 = .ok (.ireturn, 1) := by decide +kernel
set_option maxRecDepth 20000 in
theorem ggX11_swear_X1_life : GoodIn wsX11_swear wsX1_life := goodIn_r _ [7, 8, 9, 10, 11, 12, 13, 14, 15, 16, 39, 40, 41, 42, 43, 44, 45, 46] (by decide +kernel) (by decide +kernel)
set_option maxRecDepth 20000 in
theorem gX11_swear_X1_life : GoodIn wsX11_swear (wsV RX11 131 RX1 yX1_life wsX1_life) := goodIn_app (goodIn_of _ (by decide +kernel)) ggX11_swear_X1_life
set_option maxRecDepth 20000 in
theorem ggX11_swear_X11_isGodmother : GoodIn wsX11_swear wsX11_isGodmother := goodIn_r _ [19, 20, 14, 15, 16] (by decide +kernel) (by decide +kernel)
set_option maxRecDepth 20000 in
theorem gX11_swear_X11_isGodmother : GoodIn wsX11_swear (va_wsS RX11 119 yX11_isGodmother wsX11_isGodmother) := goodIn_app (goodIn_of _ (by decide +kernel)) ggX11_swear_X11_isGodmother
theorem dX11_swear_0 : decode cX11_swear 0 = .ok (.aload_n 0, 1) := by decide +kernel
theorem dX11_swear_1 : decode cX11_swear 1 = .ok (.getfield 30, 3) := by decide +kernel
theorem dX11_swear_4 : decode cX11_swear 4 = .ok (.iload_n 1, 1) := by decide +kernel
theorem dX11_swear_5 : decode cX11_swear 5 = .ok (.invokevirtual 131, 3) := by decide +kernel
theorem dX11_swear_8 : decode cX11_swear 8 = .ok (.astore_n 3, 1) := by decide +kernel
theorem dX11_swear_9 : decode cX11_swear 9 = .ok (.aload_n 3, 1) := by decide +kernel
theorem dX11_swear_10 : decode cX11_swear 10 = .ok (.ifnull 10, 3) := by decide +kernel
theorem dX11_swear_13 : decode cX11_swear 13 = .ok (.iload_n 2, 1) := by decide +kernel
theorem dX11_swear_14 : decode cX11_swear 14 = .ok (.invokestatic 119, 3) := by decide +kernel
theorem dX11_swear_17 : decode cX11_swear 17 = .ok (.ifCond .ne 5, 3) := by decide +kernel
theorem dX11_swear_20 : decode cX11_swear 20 = .ok (.iconst (-1), 1) := by decide +kernel
theorem dX11_swear_21 : decode cX11_swear 21 = .ok (.ireturn, 1) := by decide +kernel
theorem dX11_swear_22 : decode cX11_swear 22 = .ok (.aload_n 3, 1) := by decide +kernel
theorem dX11_swear_23 : decode cX11_swear 23 = .ok (.getfield 156, 3) := by decide +kernel
theorem dX11_swear_26 : decode cX11_swear 26 = .ok (.istore 4, 2) := by decide +kernel
theorem dX11_swear_28 : decode cX11_swear 28 = .ok (.aload_n 3, 1) := by decide +kernel
theorem dX11_swear_29 : decode cX11_swear 29 = .ok (.iload_n 2, 1) := by decide +kernel
theorem dX11_swear_30 : decode cX11_swear 30 = .ok (.putfield 156, 3) := by decide +kernel
theorem dX11_swear_33 : decode cX11_swear 33 = .ok (.iload 4, 2) := by decide +kernel
theorem dX11_swear_35 : decode cX11_swear 35 = .ok (.ireturn, 1) := by decide +kernel
set_option maxRecDepth 20000 in
theorem ggX11_vice_X11_isGodmother : GoodIn wsX11_vice wsX11_isGodmother := goodIn_r _ [6, 7, 8, 5, 9] (by decide +kernel) (by decide +kernel)
set_option maxRecDepth 20000 in
theorem gX11_vice_X11_isGodmother : GoodIn wsX11_vice (va_wsS RX11 119 yX11_isGodmother wsX11_isGodmother) := goodIn_app (goodIn_of _ (by decide +kernel)) ggX11_vice_X11_isGodmother
set_option maxRecDepth 20000 in
theorem ggX11_vice_X11_within : GoodIn wsX11_vice wsX11_within := goodIn_r _ [9] (by decide +kernel) (by decide +kernel)
set_option maxRecDepth 20000 in
theorem gX11_vice_X11_within : GoodIn wsX11_vice (va_wsS RX11 106 yX11_within wsX11_within) := goodIn_app (goodIn_of _ (by decide +kernel)) ggX11_vice_X11_within
theorem dX11_vice_0 : decode cX11_vice 0 = .ok (.iload_n 1, 1) := by decide +kernel
theorem dX11_vice_1 : decode cX11_vice 1 = .ok (.invokestatic 119, 3) := by decide +kernel
theorem dX11_vice_4 : decode cX11_vice 4 = .ok (.ifCond .eq 12, 3) := by decide +kernel
theorem dX11_vice_7 : decode cX11_vice 7 = .ok (.iload_n 2, 1) := by decide +kernel
theorem dX11_vice_8 : decode cX11_vice 8 = .ok (.bipush 99, 2) := by decide +kernel
theorem dX11_vice_10 : decode cX11_vice 10 = .ok (.invokestatic 106, 3) := by decide +kernel
theorem dX11_vice_13 : decode cX11_vice 13 = .ok (.ifCond .ne 5, 3) := by decide +kernel
theorem dX11_vice_16 : decode cX11_vice 16 = .ok (.iconst (-1), 1) := by decide +kernel
theorem dX11_vice_17 : decode cX11_vice 17 = .ok (.ireturn, 1) := by decide +kernel
theorem dX11_vice_18 : decode cX11_vice 18 = .ok (.aload_n 0, 1) := by decide +kernel
theorem dX11_vice_19 : decode cX11_vice 19 = .ok (.getfield 30, 3) := by decide +kernel
theorem dX11_vice_22 : decode cX11_vice 22 = .ok (.getfield 159, 3) := by decide +kernel
theorem dX11_vice_25 : decode cX11_vice 25 = .ok (.iload_n 1, 1) := by decide +kernel
theorem dX11_vice_26 : decode cX11_vice 26 = .ok (.iaload, 1) := by decide +kernel
theorem dX11_vice_27 : decode cX11_vice 27 = .ok (.istore_n 3, 1) := by decide +kernel
theorem dX11_vice_28 : decode cX11_vice 28 = .ok (.aload_n 0, 1) := by decide +kernel
theorem dX11_vice_29 : decode cX11_vice 29 = .ok (.getfield 30, 3) := by decide +kernel
theorem dX11_vice_32 : decode cX11_vice 32 = .ok (.getfield 159, 3) := by decide +kernel
theorem dX11_vice_35 : decode cX11_vice 35 = .ok (.iload_n 1, 1) := by decide +kernel
theorem dX11_vice_36 : decode cX11_vice 36 = .ok (.iload_n 2, 1) := by decide +kernel
theorem dX11_vice_37 : decode cX11_vice 37 = .ok (.iastore, 1) := by decide +kernel
theorem dX11_vice_38 : decode cX11_vice 38 = .ok (.iload_n 3, 1) := by decide +kernel
theorem dX11_vice_39 : decode cX11_vice 39 = .ok (.ireturn, 1) := by decide +kernel
set_option maxRecDepth 20000 in
theorem ggX11_easy_X11_isGodmother : GoodIn wsX11_easy wsX11_isGodmother := goodIn_r _ [6, 7, 8, 5, 9] (by decide +kernel) (by decide +kernel)
set_option maxRecDepth 20000 in
theorem gX11_easy_X11_isGodmother : GoodIn wsX11_easy (va_wsS RX11 119 yX11_isGodmother wsX11_isGodmother) := goodIn_app (goodIn_of _ (by decide +kernel)) ggX11_easy_X11_isGodmother
set_option maxRecDepth 20000 in
theorem ggX11_easy_X11_within : GoodIn wsX11_easy wsX11_within := goodIn_r _ [9] (by decide +kernel) (by decide +kernel)
set_option maxRecDepth 20000 in
theorem gX11_easy_X11_within : GoodIn wsX11_easy (va_wsS RX11 106 yX11_within wsX11_within) := goodIn_app (goodIn_of _ (by decide +kernel)) ggX11_easy_X11_within
set_option maxRecDepth 20000 in
theorem ggX11_easy_X1_isEasy : GoodIn wsX11_easy wsX1_isEasy := goodIn_r _ [14, 15, 28, 29, 30, 31, 32, 33, 34, 35] (by decide +kernel) (by decide +kernel)
set_option maxRecDepth 20000 in
theorem gX11_easy_X1_isEasy : GoodIn wsX11_easy (wsV RX11 162 RX1 yX1_isEasy wsX1_isEasy) := goodIn_app (goodIn_of _ (by decide +kernel)) ggX11_easy_X1_isEasy
theorem dX11_easy_0 : decode cX11_easy 0 = .ok (.iload_n 1, 1) := by decide +kernel
theorem dX11_easy_1 : decode cX11_easy 1 = .ok (.invokestatic 119, 3) := by decide +kernel
theorem dX11_easy_4 : decode cX11_easy 4 = .ok (.ifCond .eq 11, 3) := by decide +kernel
theorem dX11_easy_7 : decode cX11_easy 7 = .ok (.iload_n 2, 1) := by decide +kernel
theorem dX11_easy_8 : decode cX11_easy 8 = .ok (.iconst 1, 1) := by decide +kernel
theorem dX11_easy_9 : decode cX11_easy 9 = .ok (.invokestatic 106, 3) := by decide +kernel
theorem dX11_easy_12 : decode cX11_easy 12 = .ok (.ifCond .ne 5, 3) := by decide +kernel
theorem dX11_easy_15 : decode cX11_easy 15 = .ok (.iconst (-1), 1) := by decide +kernel
theorem dX11_easy_16 : decode cX11_easy 16 = .ok (.ireturn, 1) := by decide +kernel
theorem dX11_easy_17 : decode cX11_easy 17 = .ok (.aload_n 0, 1) := by decide +kernel
theorem dX11_easy_18 : decode cX11_easy 18 = .ok (.getfield 30, 3) := by decide +kernel
theorem dX11_easy_21 : decode cX11_easy 21 = .ok (.iload_n 1, 1) := by decide +kernel
theorem dX11_easy_22 : decode cX11_easy 22 = .ok (.invokevirtual 162, 3) := by decide +kernel
theorem dX11_easy_25 : decode cX11_easy 25 = .ok (.ifCond .eq 7, 3) := by decide +kernel
theorem dX11_easy_28 : decode cX11_easy 28 = .ok (.iconst 1, 1) := by decide +kernel
theorem dX11_easy_29 : decode cX11_easy 29 = .ok (.goto 4, 3) := by decide +kernel
theorem dX11_easy_32 : decode cX11_easy 32 = .ok (.iconst 0, 1) := by decide +kernel
theorem dX11_easy_33 : decode cX11_easy 33 = .ok (.istore_n 3, 1) := by decide +kernel
theorem dX11_easy_34 : decode cX11_easy 34 = .ok (.aload_n 0, 1) := by decide +kernel
theorem dX11_easy_35 : decode cX11_easy 35 = .ok (.getfield 30, 3) := by decide +kernel
theorem dX11_easy_38 : decode cX11_easy 38 = .ok (.aload_n 0, 1) := by decide +kernel
theorem dX11_easy_39 : decode cX11_easy 39 = .ok (.getfield 30, 3) := by decide +kernel
theorem dX11_easy_42 : decode cX11_easy 42 = .ok (.getfield 165, 3) := by decide +kernel
theorem dX11_easy_45 : decode cX11_easy 45 = .ok (.iconst 1, 1) := by decide +kernel
theorem dX11_easy_46 : decode cX11_easy 46 = .ok (.iload_n 1, 1) := by decide +kernel
theorem dX11_easy_47 : decode cX11_easy 47 = .ok (.ishl, 1) := by decide +kernel
theorem dX11_easy_48 : decode cX11_easy 48 = .ok (.iconst (-1), 1) := by decide +kernel
theorem dX11_easy_49 : decode cX11_easy 49 = .ok (.ixor, 1) := by decide +kernel
theorem dX11_easy_50 : decode cX11_easy 50 = .ok (.iand, 1) := by decide +kernel
theorem dX11_easy_51 : decode cX11_easy 51 = .ok (.iload_n 2, 1) := by decide +kernel
theorem dX11_easy_52 : decode cX11_easy 52 = .ok (.iload_n 1, 1) := by decide +kernel
theorem dX11_easy_53 : decode cX11_easy 53 = .ok (.ishl, 1) := by decide +kernel
theorem dX11_easy_54 : decode cX11_easy 54 = .ok (.ior, 1) := by decide +kernel
theorem dX11_easy_55 : decode cX11_easy 55 = .ok (.putfield 165, 3) := by decide +kernel
theorem dX11_easy_58 : decode cX11_easy 58 = .ok (.iload_n 3, 1) := by decide +kernel
theorem dX11_easy_59 : decode cX11_easy 59 = .ok (.ireturn, 1) := by decide +kernel
set_option maxRecDepth 20000 in
theorem ggX11_godmother_X11_isGodmother : GoodIn wsX11_godmother wsX11_isGodmother := goodIn_r _ [6, 7, 8, 5, 9] (by decide +kernel) (by decide +kernel)
set_option maxRecDepth 20000 in
theorem gX11_godmother_X11_isGodmother : GoodIn wsX11_godmother (va_wsS RX11 119 yX11_isGodmother wsX11_isGodmother) := goodIn_app (goodIn_of _ (by decide +kernel)) ggX11_godmother_X11_isGodmother
set_option maxRecDepth 20000 in
theorem ggX11_godmother_X1_isEasy : GoodIn wsX11_godmother wsX1_isEasy := goodIn_r _ [14, 15, 43, 44, 45, 46, 47, 48, 49, 50] (by decide +kernel) (by decide +kernel)
set_option maxRecDepth 20000 in
theorem gX11_godmother_X1_isEasy : GoodIn wsX11_godmother (wsV RX11 162 RX1 yX1_isEasy wsX1_isEasy) := goodIn_app (goodIn_of _ (by decide +kernel)) ggX11_godmother_X1_isEasy
set_option maxRecDepth 20000 in
theorem ggX11_godmother_X1_swornTo : GoodIn wsX11_godmother wsX1_swornTo := goodIn_r _ [19, 20, 21, 22, 23, 24, 13, 25, 26, 27, 28, 29, 30, 8, 5, 9, 43, 44, 45, 46, 47, 48, 49, 50, 51, 52, 53, 54, 55, 56] (by decide +kernel) (by decide +kernel)
set_option maxRecDepth 20000 in
theorem gX11_godmother_X1_swornTo : GoodIn wsX11_godmother (wsV RX11 168 RX1 yX1_swornTo wsX1_swornTo) := goodIn_app (goodIn_of _ (by decide +kernel)) ggX11_godmother_X1_swornTo
theorem dX11_godmother_0 : decode cX11_godmother 0 = .ok (.iload_n 1, 1) := by decide +kernel
theorem dX11_godmother_1 : decode cX11_godmother 1 = .ok (.invokestatic 119, 3) := by decide +kernel
theorem dX11_godmother_4 : decode cX11_godmother 4 = .ok (.ifCond .ne 5, 3) := by decide +kernel
theorem dX11_godmother_7 : decode cX11_godmother 7 = .ok (.iconst (-1), 1) := by decide +kernel
theorem dX11_godmother_8 : decode cX11_godmother 8 = .ok (.ireturn, 1) := by decide +kernel
theorem dX11_godmother_9 : decode cX11_godmother 9 = .ok (.iload_n 2, 1) := by decide +kernel
theorem dX11_godmother_10 : decode cX11_godmother 10 = .ok (.tableswitch 62 0 2 #[26, 36, 53], 26) := by decide +kernel
theorem dX11_godmother_36 : decode cX11_godmother 36 = .ok (.aload_n 0, 1) := by decide +kernel
theorem dX11_godmother_37 : decode cX11_godmother 37 = .ok (.getfield 30, 3) := by decide +kernel
theorem dX11_godmother_40 : decode cX11_godmother 40 = .ok (.getfield 159, 3) := by decide +kernel
theorem dX11_godmother_43 : decode cX11_godmother 43 = .ok (.iload_n 1, 1) := by decide +kernel
theorem dX11_godmother_44 : decode cX11_godmother 44 = .ok (.iaload, 1) := by decide +kernel
theorem dX11_godmother_45 : decode cX11_godmother 45 = .ok (.ireturn, 1) := by decide +kernel
theorem dX11_godmother_46 : decode cX11_godmother 46 = .ok (.aload_n 0, 1) := by decide +kernel
theorem dX11_godmother_47 : decode cX11_godmother 47 = .ok (.getfield 30, 3) := by decide +kernel
theorem dX11_godmother_50 : decode cX11_godmother 50 = .ok (.iload_n 1, 1) := by decide +kernel
theorem dX11_godmother_51 : decode cX11_godmother 51 = .ok (.invokevirtual 162, 3) := by decide +kernel
theorem dX11_godmother_54 : decode cX11_godmother 54 = .ok (.ifCond .eq 7, 3) := by decide +kernel
theorem dX11_godmother_57 : decode cX11_godmother 57 = .ok (.iconst 1, 1) := by decide +kernel
theorem dX11_godmother_58 : decode cX11_godmother 58 = .ok (.goto 4, 3) := by decide +kernel
theorem dX11_godmother_61 : decode cX11_godmother 61 = .ok (.iconst 0, 1) := by decide +kernel
theorem dX11_godmother_62 : decode cX11_godmother 62 = .ok (.ireturn, 1) := by decide +kernel
theorem dX11_godmother_63 : decode cX11_godmother 63 = .ok (.aload_n 0, 1) := by decide +kernel
theorem dX11_godmother_64 : decode cX11_godmother 64 = .ok (.getfield 30, 3) := by decide +kernel
theorem dX11_godmother_67 : decode cX11_godmother 67 = .ok (.iload_n 1, 1) := by decide +kernel
theorem dX11_godmother_68 : decode cX11_godmother 68 = .ok (.invokevirtual 168, 3) := by decide +kernel
theorem dX11_godmother_71 : decode cX11_godmother 71 = .ok (.ireturn, 1) := by decide +kernel
theorem dX11_godmother_72 : decode cX11_godmother 72 = .ok (.iconst (-1), 1) := by decide +kernel
theorem dX11_godmother_73 : decode cX11_godmother 73 = .ok (.ireturn, 1) := by decide +kernel
set_option maxRecDepth 20000 in
theorem ggX11_years_X1_passYear : GoodIn wsX11_years wsX1_passYear := goodIn_r _ [6, 7, 8, 9, 10, 11, 5, 12, 13, 14, 15, 16, 17, 18, 19, 20, 21, 22, 23, 24, 25, 26, 27, 28, 29, 30, 31, 32, 33, 34, 35, 36, 37, 38, 39, 40, 41, 42, 43, 44, 45, 46, 47, 48, 49, 50, 51, 52, 53, 54, 55, 56, 57, 58, 59, 60, 61, 62, 63, 64, 65, 66, 67, 68, 69, 70, 71, 72, 73, 74, 75, 76, 77, 78, 79, 80, 81, 82, 83, 84, 85, 86, 87, 88, 89, 90, 91, 92, 93, 94, 95, 96, 97, 98, 99, 100, 101, 102, 103, 104, 105, 106, 107, 108, 109, 110, 111, 112, 113, 114, 115, 116, 117, 118, 119, 120, 121, 122, 123, 124, 142, 143, 144, 145, 146, 147, 148, 149, 150, 151, 152, 153, 154, 155] (by decide +kernel) (by decide +kernel)
set_option maxRecDepth 20000 in
theorem gX11_years_X1_passYear : GoodIn wsX11_years (wsV RX11 171 RX1 yX1_passYear wsX1_passYear) := goodIn_app (goodIn_of _ (by decide +kernel)) ggX11_years_X1_passYear
set_option maxRecDepth 20000 in
theorem ggX11_years_X1_traitsTogether : GoodIn wsX11_years wsX1_traitsTogether := goodIn_r _ [128, 7, 129, 9, 10, 11, 5, 12, 13, 14, 15, 16, 17, 18, 19, 20, 142, 143, 144, 145, 146, 147, 148, 149, 150, 151, 152, 153, 154, 155] (by decide +kernel) (by decide +kernel)
set_option maxRecDepth 20000 in
theorem gX11_years_X1_traitsTogether : GoodIn wsX11_years (wsV RX11 174 RX1 yX1_traitsTogether wsX1_traitsTogether) := goodIn_app (goodIn_of _ (by decide +kernel)) ggX11_years_X1_traitsTogether
theorem dX11_years_0 : decode cX11_years 0 = .ok (.iload_n 1, 1) := by decide +kernel
theorem dX11_years_1 : decode cX11_years 1 = .ok (.iconst 1, 1) := by decide +kernel
theorem dX11_years_2 : decode cX11_years 2 = .ok (.if_icmp .lt 9, 3) := by decide +kernel
theorem dX11_years_5 : decode cX11_years 5 = .ok (.iload_n 1, 1) := by decide +kernel
theorem dX11_years_6 : decode cX11_years 6 = .ok (.bipush 60, 2) := by decide +kernel
theorem dX11_years_8 : decode cX11_years 8 = .ok (.if_icmp .le 5, 3) := by decide +kernel
theorem dX11_years_11 : decode cX11_years 11 = .ok (.iconst (-1), 1) := by decide +kernel
theorem dX11_years_12 : decode cX11_years 12 = .ok (.ireturn, 1) := by decide +kernel
theorem dX11_years_13 : decode cX11_years 13 = .ok (.iconst 0, 1) := by decide +kernel
theorem dX11_years_14 : decode cX11_years 14 = .ok (.istore_n 2, 1) := by decide +kernel
theorem dX11_years_15 : decode cX11_years 15 = .ok (.iload_n 2, 1) := by decide +kernel
theorem dX11_years_16 : decode cX11_years 16 = .ok (.iload_n 1, 1) := by decide +kernel
theorem dX11_years_17 : decode cX11_years 17 = .ok (.if_icmp .ge 16, 3) := by decide +kernel
theorem dX11_years_20 : decode cX11_years 20 = .ok (.aload_n 0, 1) := by decide +kernel
theorem dX11_years_21 : decode cX11_years 21 = .ok (.getfield 30, 3) := by decide +kernel
theorem dX11_years_24 : decode cX11_years 24 = .ok (.invokevirtual 171, 3) := by decide +kernel
theorem dX11_years_27 : decode cX11_years 27 = .ok (.iinc 2 1, 3) := by decide +kernel
theorem dX11_years_30 : decode cX11_years 30 = .ok (.goto (-15), 3) := by decide +kernel
theorem dX11_years_33 : decode cX11_years 33 = .ok (.aload_n 0, 1) := by decide +kernel
theorem dX11_years_34 : decode cX11_years 34 = .ok (.getfield 30, 3) := by decide +kernel
theorem dX11_years_37 : decode cX11_years 37 = .ok (.invokevirtual 174, 3) := by decide +kernel
theorem dX11_years_40 : decode cX11_years 40 = .ok (.ireturn, 1) := by decide +kernel
theorem dX11_seed_0 : decode cX11_seed 0 = .ok (.aload_n 0, 1) := by decide +kernel
theorem dX11_seed_1 : decode cX11_seed 1 = .ok (.getfield 30, 3) := by decide +kernel
theorem dX11_seed_4 : decode cX11_seed 4 = .ok (.getfield 91, 3) := by decide +kernel
theorem dX11_seed_7 : decode cX11_seed 7 = .ok (.istore_n 2, 1) := by decide +kernel
theorem dX11_seed_8 : decode cX11_seed 8 = .ok (.aload_n 0, 1) := by decide +kernel
theorem dX11_seed_9 : decode cX11_seed 9 = .ok (.getfield 30, 3) := by decide +kernel
theorem dX11_seed_12 : decode cX11_seed 12 = .ok (.iload_n 1, 1) := by decide +kernel
theorem dX11_seed_13 : decode cX11_seed 13 = .ok (.putfield 91, 3) := by decide +kernel
theorem dX11_seed_16 : decode cX11_seed 16 = .ok (.iload_n 2, 1) := by decide +kernel
theorem dX11_seed_17 : decode cX11_seed 17 = .ok (.ireturn, 1) := by decide +kernel
set_option maxRecDepth 20000 in
theorem ggX11_year_X1_drawSlip : GoodIn wsX11_year wsX1_drawSlip := goodIn_r _ [7, 8, 9, 10, 11, 12, 6, 13, 14, 15, 161, 162, 163, 164, 165, 166, 167, 168] (by decide +kernel) (by decide +kernel)
set_option maxRecDepth 20000 in
theorem gX11_year_X1_drawSlip : GoodIn wsX11_year (wsV RX11 178 RX1 yX1_drawSlip wsX1_drawSlip) := goodIn_app (goodIn_of _ (by decide +kernel)) ggX11_year_X1_drawSlip
set_option maxRecDepth 20000 in
theorem ggX11_year_X1_life : GoodIn wsX11_year wsX1_life := goodIn_r _ [19, 8, 20, 21, 22, 23, 24, 25, 26, 27, 161, 162, 163, 164, 165, 166, 167, 168] (by decide +kernel) (by decide +kernel)
set_option maxRecDepth 20000 in
theorem gX11_year_X1_life : GoodIn wsX11_year (wsV RX11 131 RX1 yX1_life wsX1_life) := goodIn_app (goodIn_of _ (by decide +kernel)) ggX11_year_X1_life
set_option maxRecDepth 20000 in
theorem ggX11_year_X1_passYear : GoodIn wsX11_year wsX1_passYear := goodIn_r _ [31, 8, 32, 33, 17, 18, 6, 19, 20, 21, 22, 23, 24, 25, 26, 27, 34, 35, 36, 37, 38, 39, 40, 41, 42, 43, 44, 45, 46, 47, 48, 49, 50, 51, 52, 53, 54, 55, 56, 57, 58, 59, 60, 61, 62, 63, 64, 65, 66, 67, 68, 69, 70, 71, 72, 73, 74, 75, 76, 77, 78, 79, 80, 81, 82, 83, 84, 85, 86, 87, 88, 89, 90, 91, 92, 93, 94, 95, 96, 97, 98, 99, 100, 101, 102, 103, 104, 105, 106, 107, 108, 109, 110, 111, 112, 113, 114, 115, 116, 117, 118, 119, 120, 121, 122, 123, 124, 125, 126, 127, 128, 129, 130, 131, 132, 133, 134, 135, 136, 137, 161, 162, 163, 164, 165, 166, 167, 168, 155, 156, 157, 158, 159, 160] (by decide +kernel) (by decide +kernel)
set_option maxRecDepth 20000 in
theorem gX11_year_X1_passYear : GoodIn wsX11_year (wsV RX11 171 RX1 yX1_passYear wsX1_passYear) := goodIn_app (goodIn_of _ (by decide +kernel)) ggX11_year_X1_passYear
set_option maxRecDepth 20000 in
theorem ggX11_year_X1_traitsTogether : GoodIn wsX11_year wsX1_traitsTogether := goodIn_r _ [141, 8, 142, 33, 17, 18, 6, 19, 20, 21, 22, 23, 24, 25, 26, 27, 161, 162, 163, 164, 165, 166, 167, 168, 155, 156, 157, 158, 159, 160] (by decide +kernel) (by decide +kernel)
set_option maxRecDepth 20000 in
theorem gX11_year_X1_traitsTogether : GoodIn wsX11_year (wsV RX11 174 RX1 yX1_traitsTogether wsX1_traitsTogether) := goodIn_app (goodIn_of _ (by decide +kernel)) ggX11_year_X1_traitsTogether
theorem dX11_year_0 : decode cX11_year 0 = .ok (.aload_n 0, 1) := by decide +kernel
theorem dX11_year_1 : decode cX11_year 1 = .ok (.getfield 30, 3) := by decide +kernel
theorem dX11_year_4 : decode cX11_year 4 = .ok (.invokevirtual 178, 3) := by decide +kernel
theorem dX11_year_7 : decode cX11_year 7 = .ok (.istore_n 1, 1) := by decide +kernel
theorem dX11_year_8 : decode cX11_year 8 = .ok (.iload_n 1, 1) := by decide +kernel
theorem dX11_year_9 : decode cX11_year 9 = .ok (.ifCond .lt 27, 3) := by decide +kernel
theorem dX11_year_12 : decode cX11_year 12 = .ok (.aload_n 0, 1) := by decide +kernel
theorem dX11_year_13 : decode cX11_year 13 = .ok (.getfield 30, 3) := by decide +kernel
theorem dX11_year_16 : decode cX11_year 16 = .ok (.iload_n 1, 1) := by decide +kernel
theorem dX11_year_17 : decode cX11_year 17 = .ok (.bipush 8, 2) := by decide +kernel
theorem dX11_year_19 : decode cX11_year 19 = .ok (.idiv, 1) := by decide +kernel
theorem dX11_year_20 : decode cX11_year 20 = .ok (.invokevirtual 131, 3) := by decide +kernel
theorem dX11_year_23 : decode cX11_year 23 = .ok (.astore_n 2, 1) := by decide +kernel
theorem dX11_year_24 : decode cX11_year 24 = .ok (.aload_n 2, 1) := by decide +kernel
theorem dX11_year_25 : decode cX11_year 25 = .ok (.ifnull 11, 3) := by decide +kernel
theorem dX11_year_28 : decode cX11_year 28 = .ok (.aload_n 2, 1) := by decide +kernel
theorem dX11_year_29 : decode cX11_year 29 = .ok (.iload_n 1, 1) := by decide +kernel
theorem dX11_year_30 : decode cX11_year 30 = .ok (.bipush 8, 2) := by decide +kernel
theorem dX11_year_32 : decode cX11_year 32 = .ok (.irem, 1) := by decide +kernel
theorem dX11_year_33 : decode cX11_year 33 = .ok (.putfield 156, 3) := by decide +kernel
theorem dX11_year_36 : decode cX11_year 36 = .ok (.aload_n 0, 1) := by decide +kernel
theorem dX11_year_37 : decode cX11_year 37 = .ok (.getfield 30, 3) := by decide +kernel
theorem dX11_year_40 : decode cX11_year 40 = .ok (.invokevirtual 171, 3) := by decide +kernel
theorem dX11_year_43 : decode cX11_year 43 = .ok (.aload_n 0, 1) := by decide +kernel
theorem dX11_year_44 : decode cX11_year 44 = .ok (.getfield 30, 3) := by decide +kernel
theorem dX11_year_47 : decode cX11_year 47 = .ok (.invokevirtual 174, 3) := by decide +kernel
theorem dX11_year_50 : decode cX11_year 50 = .ok (.ireturn, 1) := by decide +kernel
set_option maxRecDepth 20000 in
theorem ggX11_luck_X1_drawSlip : GoodIn wsX11_luck wsX1_drawSlip := goodIn_r _ [7, 8, 9, 10, 11, 12, 6, 13, 14, 15, 179, 180, 181, 182, 183, 184, 185, 186] (by decide +kernel) (by decide +kernel)
set_option maxRecDepth 20000 in
theorem gX11_luck_X1_drawSlip : GoodIn wsX11_luck (wsV RX11 178 RX1 yX1_drawSlip wsX1_drawSlip) := goodIn_app (goodIn_of _ (by decide +kernel)) ggX11_luck_X1_drawSlip
set_option maxRecDepth 20000 in
theorem ggX11_luck_X11_isLucky : GoodIn wsX11_luck wsX11_isLucky := goodIn_r _ [20, 1, 21, 22, 23, 24, 6, 25, 8, 26, 27, 28, 29, 30, 31, 19, 32, 33, 34, 35, 36, 37, 38, 39, 40, 41, 42, 43, 44, 45, 46, 47, 48, 49, 50, 51, 52, 53, 54, 55, 56, 57, 58, 59, 60, 61, 62, 63, 64, 65, 66, 67, 68, 69, 70, 71, 72, 73, 74, 75, 76, 77, 78, 79, 80, 81, 82, 83, 84, 85, 86, 87, 88, 89, 90, 91, 92, 93, 94, 95, 96, 97, 98, 99, 100, 101, 102, 103, 104, 105, 106, 107, 108, 109, 110, 111, 112, 113, 114, 115, 116, 117, 118, 119, 120, 121, 122, 123, 124, 125, 126, 127, 128, 129, 130, 131, 132, 133, 134, 135, 136, 137, 138, 139, 140, 141, 142, 143, 144, 145, 146, 147, 148, 149, 150, 151, 152, 153, 154, 155, 156, 157, 158, 159, 160, 161, 162, 163, 164, 165, 166, 167, 168, 169, 170, 171, 172, 173, 174, 175, 176, 177, 178, 187, 188, 189, 190, 191, 192, 179, 180, 181, 182, 183, 184, 185, 186] (by decide +kernel) (by decide +kernel)
set_option maxRecDepth 20000 in
theorem gX11_luck_X11_isLucky : GoodIn wsX11_luck (wsV RX11 181 RX11 yX11_isLucky wsX11_isLucky) := goodIn_app (goodIn_of _ (by decide +kernel)) ggX11_luck_X11_isLucky
theorem dX11_luck_0 : decode cX11_luck 0 = .ok (.iload_n 1, 1) := by decide +kernel
theorem dX11_luck_1 : decode cX11_luck 1 = .ok (.iconst 1, 1) := by decide +kernel
theorem dX11_luck_2 : decode cX11_luck 2 = .ok (.if_icmp .lt 9, 3) := by decide +kernel
theorem dX11_luck_5 : decode cX11_luck 5 = .ok (.iload_n 1, 1) := by decide +kernel
theorem dX11_luck_6 : decode cX11_luck 6 = .ok (.bipush 30, 2) := by decide +kernel
theorem dX11_luck_8 : decode cX11_luck 8 = .ok (.if_icmp .le 5, 3) := by decide +kernel
theorem dX11_luck_11 : decode cX11_luck 11 = .ok (.iconst (-1), 1) := by decide +kernel
theorem dX11_luck_12 : decode cX11_luck 12 = .ok (.ireturn, 1) := by decide +kernel
theorem dX11_luck_13 : decode cX11_luck 13 = .ok (.aload_n 0, 1) := by decide +kernel
theorem dX11_luck_14 : decode cX11_luck 14 = .ok (.getfield 30, 3) := by decide +kernel
theorem dX11_luck_17 : decode cX11_luck 17 = .ok (.getfield 91, 3) := by decide +kernel
theorem dX11_luck_20 : decode cX11_luck 20 = .ok (.istore_n 2, 1) := by decide +kernel
theorem dX11_luck_21 : decode cX11_luck 21 = .ok (.iconst 0, 1) := by decide +kernel
theorem dX11_luck_22 : decode cX11_luck 22 = .ok (.istore_n 3, 1) := by decide +kernel
theorem dX11_luck_23 : decode cX11_luck 23 = .ok (.iconst 0, 1) := by decide +kernel
theorem dX11_luck_24 : decode cX11_luck 24 = .ok (.istore 4, 2) := by decide +kernel
theorem dX11_luck_26 : decode cX11_luck 26 = .ok (.iload 4, 2) := by decide +kernel
theorem dX11_luck_28 : decode cX11_luck 28 = .ok (.iload_n 1, 1) := by decide +kernel
theorem dX11_luck_29 : decode cX11_luck 29 = .ok (.if_icmp .ge 26, 3) := by decide +kernel
theorem dX11_luck_32 : decode cX11_luck 32 = .ok (.aload_n 0, 1) := by decide +kernel
theorem dX11_luck_33 : decode cX11_luck 33 = .ok (.aload_n 0, 1) := by decide +kernel
theorem dX11_luck_34 : decode cX11_luck 34 = .ok (.getfield 30, 3) := by decide +kernel
theorem dX11_luck_37 : decode cX11_luck 37 = .ok (.invokevirtual 178, 3) := by decide +kernel
theorem dX11_luck_40 : decode cX11_luck 40 = .ok (.invokevirtual 181, 3) := by decide +kernel
theorem dX11_luck_43 : decode cX11_luck 43 = .ok (.ifCond .eq 6, 3) := by decide +kernel
theorem dX11_luck_46 : decode cX11_luck 46 = .ok (.iinc 3 1, 3) := by decide +kernel
theorem dX11_luck_49 : decode cX11_luck 49 = .ok (.iinc 4 1, 3) := by decide +kernel
theorem dX11_luck_52 : decode cX11_luck 52 = .ok (.goto (-26), 3) := by decide +kernel
theorem dX11_luck_55 : decode cX11_luck 55 = .ok (.aload_n 0, 1) := by decide +kernel
theorem dX11_luck_56 : decode cX11_luck 56 = .ok (.getfield 30, 3) := by decide +kernel
theorem dX11_luck_59 : decode cX11_luck 59 = .ok (.iload_n 2, 1) := by decide +kernel
theorem dX11_luck_60 : decode cX11_luck 60 = .ok (.putfield 91, 3) := by decide +kernel
theorem dX11_luck_63 : decode cX11_luck 63 = .ok (.iload_n 3, 1) := by decide +kernel
theorem dX11_luck_64 : decode cX11_luck 64 = .ok (.ireturn, 1) := by decide +kernel
set_option maxRecDepth 20000 in
theorem ggX11_isLucky_X1_life : GoodIn wsX11_isLucky wsX1_life := goodIn_r _ [7, 8, 9, 10, 11, 12, 13, 14, 15, 16, 169, 170, 171, 172, 173, 174, 175, 176] (by decide +kernel) (by decide +kernel)
set_option maxRecDepth 20000 in
theorem gX11_isLucky_X1_life : GoodIn wsX11_isLucky (wsV RX11 131 RX1 yX1_life wsX1_life) := goodIn_app (goodIn_of _ (by decide +kernel)) ggX11_isLucky_X1_life
set_option maxRecDepth 20000 in
theorem ggX11_isLucky_X11_farSworn : GoodIn wsX11_isLucky wsX11_farSworn := goodIn_r _ [20, 21, 22, 23, 15, 24, 25, 1, 26, 27, 28, 29, 30, 31, 32, 33, 34, 35, 36, 37, 38, 39, 40, 41, 42, 43, 44, 6, 45, 46, 47, 48, 49, 9, 10, 11, 12, 50, 51, 52, 53, 54, 55, 14, 16, 56, 57, 58, 59, 60, 61, 62, 63, 64, 65, 66, 67, 68, 69, 70, 71, 72, 73, 74, 75, 76, 77, 78, 79, 80, 81, 82, 83, 84, 85, 86, 87, 88, 89, 90, 91, 92, 93, 94, 95, 96, 97, 98, 99, 100, 101, 102, 103, 104, 105, 106, 107, 108, 109, 110, 111, 112, 113, 114, 115, 116, 117, 118, 119, 120, 121, 122, 123, 124, 125, 126, 127, 128, 129, 130, 131, 132, 133, 134, 135, 136, 137, 138, 139, 140, 141, 142, 143, 144, 145, 146, 147, 148, 149, 150, 151, 152, 153, 154, 155, 156, 157, 158, 159, 160, 161, 162, 169, 170, 171, 172, 173, 174, 175, 176, 163, 164, 165, 166, 167, 168] (by decide +kernel) (by decide +kernel)
set_option maxRecDepth 20000 in
theorem gX11_isLucky_X11_farSworn : GoodIn wsX11_isLucky (wsV RX11 184 RX11 yX11_farSworn wsX11_farSworn) := goodIn_app (goodIn_of _ (by decide +kernel)) ggX11_isLucky_X11_farSworn
theorem dX11_isLucky_0 : decode cX11_isLucky 0 = .ok (.iload_n 1, 1) := by decide +kernel
theorem dX11_isLucky_1 : decode cX11_isLucky 1 = .ok (.ifCond .ge 5, 3) := by decide +kernel
theorem dX11_isLucky_4 : decode cX11_isLucky 4 = .ok (.iconst 0, 1) := by decide +kernel
theorem dX11_isLucky_5 : decode cX11_isLucky 5 = .ok (.ireturn, 1) := by decide +kernel
theorem dX11_isLucky_6 : decode cX11_isLucky 6 = .ok (.aload_n 0, 1) := by decide +kernel
theorem dX11_isLucky_7 : decode cX11_isLucky 7 = .ok (.getfield 30, 3) := by decide +kernel
theorem dX11_isLucky_10 : decode cX11_isLucky 10 = .ok (.iload_n 1, 1) := by decide +kernel
theorem dX11_isLucky_11 : decode cX11_isLucky 11 = .ok (.bipush 8, 2) := by decide +kernel
theorem dX11_isLucky_13 : decode cX11_isLucky 13 = .ok (.idiv, 1) := by decide +kernel
theorem dX11_isLucky_14 : decode cX11_isLucky 14 = .ok (.invokevirtual 131, 3) := by decide +kernel
theorem dX11_isLucky_17 : decode cX11_isLucky 17 = .ok (.astore_n 2, 1) := by decide +kernel
theorem dX11_isLucky_18 : decode cX11_isLucky 18 = .ok (.aload_n 2, 1) := by decide +kernel
theorem dX11_isLucky_19 : decode cX11_isLucky 19 = .ok (.ifnull 30, 3) := by decide +kernel
theorem dX11_isLucky_22 : decode cX11_isLucky 22 = .ok (.aload_n 0, 1) := by decide +kernel
theorem dX11_isLucky_23 : decode cX11_isLucky 23 = .ok (.aload_n 2, 1) := by decide +kernel
theorem dX11_isLucky_24 : decode cX11_isLucky 24 = .ok (.iload_n 1, 1) := by decide +kernel
theorem dX11_isLucky_25 : decode cX11_isLucky 25 = .ok (.bipush 8, 2) := by decide +kernel
theorem dX11_isLucky_27 : decode cX11_isLucky 27 = .ok (.irem, 1) := by decide +kernel
theorem dX11_isLucky_28 : decode cX11_isLucky 28 = .ok (.iconst 1, 1) := by decide +kernel
theorem dX11_isLucky_29 : decode cX11_isLucky 29 = .ok (.invokevirtual 184, 3) := by decide +kernel
theorem dX11_isLucky_32 : decode cX11_isLucky 32 = .ok (.aload_n 0, 1) := by decide +kernel
theorem dX11_isLucky_33 : decode cX11_isLucky 33 = .ok (.aload_n 2, 1) := by decide +kernel
theorem dX11_isLucky_34 : decode cX11_isLucky 34 = .ok (.aload_n 2, 1) := by decide +kernel
theorem dX11_isLucky_35 : decode cX11_isLucky 35 = .ok (.getfield 156, 3) := by decide +kernel
theorem dX11_isLucky_38 : decode cX11_isLucky 38 = .ok (.iconst 1, 1) := by decide +kernel
theorem dX11_isLucky_39 : decode cX11_isLucky 39 = .ok (.invokevirtual 184, 3) := by decide +kernel
theorem dX11_isLucky_42 : decode cX11_isLucky 42 = .ok (.if_icmp .ge 7, 3) := by decide +kernel
theorem dX11_isLucky_45 : decode cX11_isLucky 45 = .ok (.iconst 1, 1) := by decide +kernel
theorem dX11_isLucky_46 : decode cX11_isLucky 46 = .ok (.goto 4, 3) := by decide +kernel
theorem dX11_isLucky_49 : decode cX11_isLucky 49 = .ok (.iconst 0, 1) := by decide +kernel
theorem dX11_isLucky_50 : decode cX11_isLucky 50 = .ok (.ireturn, 1) := by decide +kernel
set_option maxRecDepth 20000 in
theorem ggX11_state_X1_traitsTogether : GoodIn wsX11_state wsX1_traitsTogether := goodIn_r _ [8, 9, 10, 11, 12, 13, 7, 14, 15, 16, 17, 18, 19, 20, 21, 22, 113, 114, 115, 116, 117, 118, 119, 120, 121, 122, 123, 124, 125, 126] (by decide +kernel) (by decide +kernel)
set_option maxRecDepth 20000 in
theorem gX11_state_X1_traitsTogether : GoodIn wsX11_state (wsV RX11 174 RX1 yX1_traitsTogether wsX1_traitsTogether) := goodIn_app (goodIn_of _ (by decide +kernel)) ggX11_state_X1_traitsTogether
set_option maxRecDepth 20000 in
theorem ggX11_state_X1_farTogether : GoodIn wsX11_state wsX1_farTogether := goodIn_r _ [26, 9, 11, 12, 13, 7, 14, 15, 16, 17, 18, 19, 20, 21, 22, 27, 28, 29, 30, 31, 32, 33, 34, 35, 36, 113, 114, 115, 116, 117, 118, 119, 120, 121, 122, 123, 124, 125, 126] (by decide +kernel) (by decide +kernel)
set_option maxRecDepth 20000 in
theorem gX11_state_X1_farTogether : GoodIn wsX11_state (wsV RX11 191 RX1 yX1_farTogether wsX1_farTogether) := goodIn_app (goodIn_of _ (by decide +kernel)) ggX11_state_X1_farTogether
set_option maxRecDepth 20000 in
theorem ggX11_state_X1_ofAge : GoodIn wsX11_state wsX1_ofAge := goodIn_r _ [40, 9, 41, 42, 43, 7, 44, 45, 46, 47, 17, 48, 11, 12, 13, 14, 15, 16, 18, 19, 20, 21, 22, 49, 50, 51, 52, 53, 54, 55, 56, 57, 58, 59, 60, 61, 62, 63, 64, 65, 66, 67, 68, 69, 70, 71, 72, 73, 74, 75, 76, 77, 78, 79, 80, 81, 82, 83, 84, 85, 86, 87, 88, 89, 90, 91, 92, 93, 94, 95, 113, 114, 115, 116, 117, 118, 119, 120, 121, 122, 123, 124, 125, 126] (by decide +kernel) (by decide +kernel)
set_option maxRecDepth 20000 in
theorem gX11_state_X1_ofAge : GoodIn wsX11_state (wsV RX11 194 RX1 yX1_ofAge wsX1_ofAge) := goodIn_app (goodIn_of _ (by decide +kernel)) ggX11_state_X1_ofAge
set_option maxRecDepth 20000 in
theorem ggX11_state_X1_vicesTogether : GoodIn wsX11_state wsX1_vicesTogether := goodIn_r _ [99, 100, 113, 114, 115, 116, 117, 118, 119, 120] (by decide +kernel) (by decide +kernel)
set_option maxRecDepth 20000 in
theorem gX11_state_X1_vicesTogether : GoodIn wsX11_state (wsV RX11 197 RX1 yX1_vicesTogether wsX1_vicesTogether) := goodIn_app (goodIn_of _ (by decide +kernel)) ggX11_state_X1_vicesTogether
theorem dX11_state_0 : decode cX11_state 0 = .ok (.iload_n 1, 1) := by decide +kernel
theorem dX11_state_1 : decode cX11_state 1 = .ok (.tableswitch 87 0 5 #[39, 47, 55, 63, 71, 79], 39) := by decide +kernel
theorem dX11_state_40 : decode cX11_state 40 = .ok (.aload_n 0, 1) := by decide +kernel
theorem dX11_state_41 : decode cX11_state 41 = .ok (.getfield 30, 3) := by decide +kernel
theorem dX11_state_44 : decode cX11_state 44 = .ok (.getfield 188, 3) := by decide +kernel
theorem dX11_state_47 : decode cX11_state 47 = .ok (.ireturn, 1) := by decide +kernel
theorem dX11_state_48 : decode cX11_state 48 = .ok (.aload_n 0, 1) := by decide +kernel
theorem dX11_state_49 : decode cX11_state 49 = .ok (.getfield 30, 3) := by decide +kernel
theorem dX11_state_52 : decode cX11_state 52 = .ok (.invokevirtual 174, 3) := by decide +kernel
theorem dX11_state_55 : decode cX11_state 55 = .ok (.ireturn, 1) := by decide +kernel
theorem dX11_state_56 : decode cX11_state 56 = .ok (.aload_n 0, 1) := by decide +kernel
theorem dX11_state_57 : decode cX11_state 57 = .ok (.getfield 30, 3) := by decide +kernel
theorem dX11_state_60 : decode cX11_state 60 = .ok (.invokevirtual 191, 3) := by decide +kernel
theorem dX11_state_63 : decode cX11_state 63 = .ok (.ireturn, 1) := by decide +kernel
theorem dX11_state_64 : decode cX11_state 64 = .ok (.aload_n 0, 1) := by decide +kernel
theorem dX11_state_65 : decode cX11_state 65 = .ok (.getfield 30, 3) := by decide +kernel
theorem dX11_state_68 : decode cX11_state 68 = .ok (.invokevirtual 194, 3) := by decide +kernel
theorem dX11_state_71 : decode cX11_state 71 = .ok (.ireturn, 1) := by decide +kernel
theorem dX11_state_72 : decode cX11_state 72 = .ok (.aload_n 0, 1) := by decide +kernel
theorem dX11_state_73 : decode cX11_state 73 = .ok (.getfield 30, 3) := by decide +kernel
theorem dX11_state_76 : decode cX11_state 76 = .ok (.getfield 165, 3) := by decide +kernel
theorem dX11_state_79 : decode cX11_state 79 = .ok (.ireturn, 1) := by decide +kernel
theorem dX11_state_80 : decode cX11_state 80 = .ok (.aload_n 0, 1) := by decide +kernel
theorem dX11_state_81 : decode cX11_state 81 = .ok (.getfield 30, 3) := by decide +kernel
theorem dX11_state_84 : decode cX11_state 84 = .ok (.invokevirtual 197, 3) := by decide +kernel
theorem dX11_state_87 : decode cX11_state 87 = .ok (.ireturn, 1) := by decide +kernel
theorem dX11_state_88 : decode cX11_state 88 = .ok (.iconst (-1), 1) := by decide +kernel
theorem dX11_state_89 : decode cX11_state 89 = .ok (.ireturn, 1) := by decide +kernel
set_option maxRecDepth 20000 in
theorem ggX11_becomes_X1_life : GoodIn wsX11_becomes wsX1_life := goodIn_r _ [9, 10, 11, 12, 13, 14, 15, 16, 17, 18, 170, 171, 172, 173, 174, 175, 176, 177] (by decide +kernel) (by decide +kernel)
set_option maxRecDepth 20000 in
theorem gX11_becomes_X1_life : GoodIn wsX11_becomes (wsV RX11 131 RX1 yX1_life wsX1_life) := goodIn_app (goodIn_of _ (by decide +kernel)) ggX11_becomes_X1_life
set_option maxRecDepth 20000 in
theorem ggX11_becomes_X11_within : GoodIn wsX11_becomes wsX11_within := goodIn_r _ [18] (by decide +kernel) (by decide +kernel)
set_option maxRecDepth 20000 in
theorem gX11_becomes_X11_within : GoodIn wsX11_becomes (va_wsS RX11 106 yX11_within wsX11_within) := goodIn_app (goodIn_of _ (by decide +kernel)) ggX11_becomes_X11_within
set_option maxRecDepth 20000 in
theorem ggX11_becomes_X11_farSworn : GoodIn wsX11_becomes wsX11_farSworn := goodIn_r _ [23, 24, 25, 26, 17, 27, 3, 1, 28, 29, 30, 31, 32, 33, 34, 35, 36, 37, 38, 39, 40, 41, 42, 43, 44, 45, 46, 8, 47, 48, 49, 50, 51, 11, 12, 13, 14, 52, 53, 54, 55, 56, 57, 16, 18, 58, 59, 60, 61, 62, 63, 64, 65, 66, 67, 68, 69, 70, 71, 72, 73, 74, 75, 76, 77, 78, 79, 80, 81, 82, 83, 84, 85, 86, 87, 88, 89, 90, 91, 92, 93, 94, 95, 19, 96, 97, 98, 99, 100, 101, 102, 103, 104, 105, 106, 107, 108, 109, 110, 111, 112, 113, 114, 115, 116, 117, 118, 119, 120, 121, 122, 123, 124, 125, 126, 127, 128, 129, 130, 131, 132, 133, 134, 135, 136, 137, 138, 139, 140, 141, 142, 143, 144, 145, 146, 147, 148, 149, 150, 151, 152, 153, 154, 155, 156, 157, 158, 159, 160, 161, 162, 163, 170, 171, 172, 173, 174, 175, 176, 177, 164, 165, 166, 167, 168, 169] (by decide +kernel) (by decide +kernel)
set_option maxRecDepth 20000 in
theorem gX11_becomes_X11_farSworn : GoodIn wsX11_becomes (wsV RX11 184 RX11 yX11_farSworn wsX11_farSworn) := goodIn_app (goodIn_of _ (by decide +kernel)) ggX11_becomes_X11_farSworn
theorem dX11_becomes_0 : decode cX11_becomes 0 = .ok (.aload_n 0, 1) := by decide +kernel
theorem dX11_becomes_1 : decode cX11_becomes 1 = .ok (.getfield 30, 3) := by decide +kernel
theorem dX11_becomes_4 : decode cX11_becomes 4 = .ok (.iload_n 1, 1) := by decide +kernel
theorem dX11_becomes_5 : decode cX11_becomes 5 = .ok (.invokevirtual 131, 3) := by decide +kernel
theorem dX11_becomes_8 : decode cX11_becomes 8 = .ok (.astore_n 3, 1) := by decide +kernel
theorem dX11_becomes_9 : decode cX11_becomes 9 = .ok (.aload_n 3, 1) := by decide +kernel
theorem dX11_becomes_10 : decode cX11_becomes 10 = .ok (.ifnull 12, 3) := by decide +kernel
theorem dX11_becomes_13 : decode cX11_becomes 13 = .ok (.iload_n 2, 1) := by decide +kernel
theorem dX11_becomes_14 : decode cX11_becomes 14 = .ok (.bipush 60, 2) := by decide +kernel
theorem dX11_becomes_16 : decode cX11_becomes 16 = .ok (.invokestatic 106, 3) := by decide +kernel
theorem dX11_becomes_19 : decode cX11_becomes 19 = .ok (.ifCond .ne 5, 3) := by decide +kernel
theorem dX11_becomes_22 : decode cX11_becomes 22 = .ok (.iconst (-1), 1) := by decide +kernel
theorem dX11_becomes_23 : decode cX11_becomes 23 = .ok (.ireturn, 1) := by decide +kernel
theorem dX11_becomes_24 : decode cX11_becomes 24 = .ok (.aload_n 0, 1) := by decide +kernel
theorem dX11_becomes_25 : decode cX11_becomes 25 = .ok (.aload_n 3, 1) := by decide +kernel
theorem dX11_becomes_26 : decode cX11_becomes 26 = .ok (.aload_n 3, 1) := by decide +kernel
theorem dX11_becomes_27 : decode cX11_becomes 27 = .ok (.getfield 156, 3) := by decide +kernel
theorem dX11_becomes_30 : decode cX11_becomes 30 = .ok (.iload_n 2, 1) := by decide +kernel
theorem dX11_becomes_31 : decode cX11_becomes 31 = .ok (.invokevirtual 184, 3) := by decide +kernel
theorem dX11_becomes_34 : decode cX11_becomes 34 = .ok (.pop, 1) := by decide +kernel
theorem dX11_becomes_35 : decode cX11_becomes 35 = .ok (.aload_n 0, 1) := by decide +kernel
theorem dX11_becomes_36 : decode cX11_becomes 36 = .ok (.getfield 45, 3) := by decide +kernel
theorem dX11_becomes_39 : decode cX11_becomes 39 = .ok (.getfield 200, 3) := by decide +kernel
theorem dX11_becomes_42 : decode cX11_becomes 42 = .ok (.ireturn, 1) := by decide +kernel
set_option maxRecDepth 20000 in
theorem ggX11_suited_X1_life : GoodIn wsX11_suited wsX1_life := goodIn_r _ [9, 10, 11, 12, 13, 14, 15, 16, 17, 18, 151, 152, 153, 154, 155, 156, 157, 158] (by decide +kernel) (by decide +kernel)
set_option maxRecDepth 20000 in
theorem gX11_suited_X1_life : GoodIn wsX11_suited (wsV RX11 131 RX1 yX1_life wsX1_life) := goodIn_app (goodIn_of _ (by decide +kernel)) ggX11_suited_X1_life
set_option maxRecDepth 20000 in
theorem ggX11_suited_X6_become : GoodIn wsX11_suited wsX6_become := goodIn_r _ [23, 24, 25, 26, 27, 28, 29, 159, 160, 161, 162, 163, 164] (by decide +kernel) (by decide +kernel)
set_option maxRecDepth 20000 in
theorem gX11_suited_X6_become : GoodIn wsX11_suited (wsV RX11 203 RX6 yX6_become wsX6_become) := goodIn_app (goodIn_of _ (by decide +kernel)) ggX11_suited_X6_become
set_option maxRecDepth 20000 in
theorem ggX11_suited_X6_distance : GoodIn wsX11_suited wsX6_distance := goodIn_r _ [33, 25, 27, 34, 35, 13, 36, 159, 160, 161, 162, 163, 164] (by decide +kernel) (by decide +kernel)
set_option maxRecDepth 20000 in
theorem gX11_suited_X6_distance : GoodIn wsX11_suited (wsV RX11 206 RX6 yX6_distance wsX6_distance) := goodIn_app (goodIn_of _ (by decide +kernel)) ggX11_suited_X6_distance
set_option maxRecDepth 20000 in
theorem ggX11_suited_X1_passYearOf : GoodIn wsX11_suited wsX1_passYearOf := goodIn_r _ [40, 41, 42, 43, 44, 11, 12, 13, 14, 45, 46, 47, 8, 48, 49, 50, 16, 17, 18, 51, 52, 53, 54, 55, 56, 57, 58, 59, 60, 61, 62, 63, 64, 65, 66, 67, 68, 69, 70, 71, 72, 73, 74, 75, 76, 77, 78, 79, 80, 81, 82, 83, 84, 85, 86, 87, 88, 89, 90, 91, 92, 93, 94, 95, 96, 97, 98, 99, 100, 101, 102, 103, 104, 105, 106, 107, 108, 109, 110, 111, 112, 113, 114, 115, 116, 117, 118, 119, 120, 121, 122, 123, 124, 125, 126, 127, 128, 129, 22, 130, 25, 131, 132, 133, 134, 135, 136, 137, 138, 159, 160, 161, 162, 163, 164, 151, 152, 153, 154, 155, 156, 157, 158] (by decide +kernel) (by decide +kernel)
set_option maxRecDepth 20000 in
theorem gX11_suited_X1_passYearOf : GoodIn wsX11_suited (wsV RX11 209 RX1 yX1_passYearOf wsX1_passYearOf) := goodIn_app (goodIn_of _ (by decide +kernel)) ggX11_suited_X1_passYearOf
theorem dX11_suited_0 : decode cX11_suited 0 = .ok (.aload_n 0, 1) := by decide +kernel
theorem dX11_suited_1 : decode cX11_suited 1 = .ok (.getfield 30, 3) := by decide +kernel
theorem dX11_suited_4 : decode cX11_suited 4 = .ok (.iload_n 1, 1) := by decide +kernel
theorem dX11_suited_5 : decode cX11_suited 5 = .ok (.invokevirtual 131, 3) := by decide +kernel
theorem dX11_suited_8 : decode cX11_suited 8 = .ok (.astore_n 2, 1) := by decide +kernel
theorem dX11_suited_9 : decode cX11_suited 9 = .ok (.aload_n 2, 1) := by decide +kernel
theorem dX11_suited_10 : decode cX11_suited 10 = .ok (.ifnonnull 5, 3) := by decide +kernel
theorem dX11_suited_13 : decode cX11_suited 13 = .ok (.iconst (-1), 1) := by decide +kernel
theorem dX11_suited_14 : decode cX11_suited 14 = .ok (.ireturn, 1) := by decide +kernel
theorem dX11_suited_15 : decode cX11_suited 15 = .ok (.aload_n 0, 1) := by decide +kernel
theorem dX11_suited_16 : decode cX11_suited 16 = .ok (.getfield 45, 3) := by decide +kernel
theorem dX11_suited_19 : decode cX11_suited 19 = .ok (.aload_n 2, 1) := by decide +kernel
theorem dX11_suited_20 : decode cX11_suited 20 = .ok (.invokevirtual 203, 3) := by decide +kernel
theorem dX11_suited_23 : decode cX11_suited 23 = .ok (.iconst 0, 1) := by decide +kernel
theorem dX11_suited_24 : decode cX11_suited 24 = .ok (.istore_n 3, 1) := by decide +kernel
theorem dX11_suited_25 : decode cX11_suited 25 = .ok (.iload_n 3, 1) := by decide +kernel
theorem dX11_suited_26 : decode cX11_suited 26 = .ok (.bipush 60, 2) := by decide +kernel
theorem dX11_suited_28 : decode cX11_suited 28 = .ok (.if_icmp .gt 50, 3) := by decide +kernel
theorem dX11_suited_31 : decode cX11_suited 31 = .ok (.aload_n 0, 1) := by decide +kernel
theorem dX11_suited_32 : decode cX11_suited 32 = .ok (.getfield 45, 3) := by decide +kernel
theorem dX11_suited_35 : decode cX11_suited 35 = .ok (.invokevirtual 206, 3) := by decide +kernel
theorem dX11_suited_38 : decode cX11_suited 38 = .ok (.aload_n 0, 1) := by decide +kernel
theorem dX11_suited_39 : decode cX11_suited 39 = .ok (.getfield 30, 3) := by decide +kernel
theorem dX11_suited_42 : decode cX11_suited 42 = .ok (.getfield 113, 3) := by decide +kernel
theorem dX11_suited_45 : decode cX11_suited 45 = .ok (.iconst 2, 1) := by decide +kernel
theorem dX11_suited_46 : decode cX11_suited 46 = .ok (.iaload, 1) := by decide +kernel
theorem dX11_suited_47 : decode cX11_suited 47 = .ok (.if_icmp .gt 5, 3) := by decide +kernel
theorem dX11_suited_50 : decode cX11_suited 50 = .ok (.iload_n 3, 1) := by decide +kernel
theorem dX11_suited_51 : decode cX11_suited 51 = .ok (.ireturn, 1) := by decide +kernel
theorem dX11_suited_52 : decode cX11_suited 52 = .ok (.aload_n 0, 1) := by decide +kernel
theorem dX11_suited_53 : decode cX11_suited 53 = .ok (.getfield 30, 3) := by decide +kernel
theorem dX11_suited_56 : decode cX11_suited 56 = .ok (.aload_n 0, 1) := by decide +kernel
theorem dX11_suited_57 : decode cX11_suited 57 = .ok (.getfield 45, 3) := by decide +kernel
theorem dX11_suited_60 : decode cX11_suited 60 = .ok (.aload_n 0, 1) := by decide +kernel
theorem dX11_suited_61 : decode cX11_suited 61 = .ok (.getfield 30, 3) := by decide +kernel
theorem dX11_suited_64 : decode cX11_suited 64 = .ok (.getfield 188, 3) := by decide +kernel
theorem dX11_suited_67 : decode cX11_suited 67 = .ok (.iload_n 3, 1) := by decide +kernel
theorem dX11_suited_68 : decode cX11_suited 68 = .ok (.iadd, 1) := by decide +kernel
theorem dX11_suited_69 : decode cX11_suited 69 = .ok (.invokevirtual 209, 3) := by decide +kernel
theorem dX11_suited_72 : decode cX11_suited 72 = .ok (.iinc 3 1, 3) := by decide +kernel
theorem dX11_suited_75 : decode cX11_suited 75 = .ok (.goto (-50), 3) := by decide +kernel
theorem dX11_suited_78 : decode cX11_suited 78 = .ok (.bipush (-3), 2) := by decide +kernel
theorem dX11_suited_80 : decode cX11_suited 80 = .ok (.ireturn, 1) := by decide +kernel
set_option maxRecDepth 20000 in
theorem ggX11_grown_X1_yearsLeft : GoodIn wsX11_grown wsX1_yearsLeft := goodIn_r _ [11, 12, 13, 4, 5, 6, 14, 15, 16, 10, 17, 18, 19, 20, 21, 22, 23, 24, 25, 26, 27, 28, 29, 30, 31, 32, 33, 34, 35, 36, 37, 38, 39, 40, 41, 42, 43, 44, 45, 46, 47, 48, 49, 50, 51, 52, 53, 54, 55, 56, 57, 58, 59, 60, 61, 62, 63, 64, 65, 66, 67, 68, 69, 70, 71, 72, 93, 94, 95, 96, 97, 98, 85, 86, 87, 88, 89, 90, 91, 92] (by decide +kernel) (by decide +kernel)
set_option maxRecDepth 20000 in
theorem gX11_grown_X1_yearsLeft : GoodIn wsX11_grown (wsV RX11 213 RX1 yX1_yearsLeft wsX1_yearsLeft) := goodIn_app (goodIn_of _ (by decide +kernel)) ggX11_grown_X1_yearsLeft
theorem dX11_grown_0 : decode cX11_grown 0 = .ok (.iconst 0, 1) := by decide +kernel
theorem dX11_grown_1 : decode cX11_grown 1 = .ok (.istore_n 1, 1) := by decide +kernel
theorem dX11_grown_2 : decode cX11_grown 2 = .ok (.iconst 0, 1) := by decide +kernel
theorem dX11_grown_3 : decode cX11_grown 3 = .ok (.istore_n 2, 1) := by decide +kernel
theorem dX11_grown_4 : decode cX11_grown 4 = .ok (.iload_n 2, 1) := by decide +kernel
theorem dX11_grown_5 : decode cX11_grown 5 = .ok (.aload_n 0, 1) := by decide +kernel
theorem dX11_grown_6 : decode cX11_grown 6 = .ok (.getfield 30, 3) := by decide +kernel
theorem dX11_grown_9 : decode cX11_grown 9 = .ok (.getfield 105, 3) := by decide +kernel
theorem dX11_grown_12 : decode cX11_grown 12 = .ok (.if_icmp .ge 22, 3) := by decide +kernel
theorem dX11_grown_15 : decode cX11_grown 15 = .ok (.iload_n 1, 1) := by decide +kernel
theorem dX11_grown_16 : decode cX11_grown 16 = .ok (.aload_n 0, 1) := by decide +kernel
theorem dX11_grown_17 : decode cX11_grown 17 = .ok (.getfield 30, 3) := by decide +kernel
theorem dX11_grown_20 : decode cX11_grown 20 = .ok (.iload_n 2, 1) := by decide +kernel
theorem dX11_grown_21 : decode cX11_grown 21 = .ok (.invokevirtual 213, 3) := by decide +kernel
theorem dX11_grown_24 : decode cX11_grown 24 = .ok (.invokestatic 216, 3) := by decide +kernel
theorem dX11_grown_27 : decode cX11_grown 27 = .ok (.istore_n 1, 1) := by decide +kernel
theorem dX11_grown_28 : decode cX11_grown 28 = .ok (.iinc 2 1, 3) := by decide +kernel
theorem dX11_grown_31 : decode cX11_grown 31 = .ok (.goto (-27), 3) := by decide +kernel
theorem dX11_grown_34 : decode cX11_grown 34 = .ok (.iload_n 1, 1) := by decide +kernel
theorem dX11_grown_35 : decode cX11_grown 35 = .ok (.bipush 60, 2) := by decide +kernel
theorem dX11_grown_37 : decode cX11_grown 37 = .ok (.if_icmp .gt 7, 3) := by decide +kernel
theorem dX11_grown_40 : decode cX11_grown 40 = .ok (.iload_n 1, 1) := by decide +kernel
theorem dX11_grown_41 : decode cX11_grown 41 = .ok (.goto 5, 3) := by decide +kernel
theorem dX11_grown_44 : decode cX11_grown 44 = .ok (.bipush (-3), 2) := by decide +kernel
theorem dX11_grown_46 : decode cX11_grown 46 = .ok (.ireturn, 1) := by decide +kernel
set_option maxRecDepth 20000 in
theorem ggX11_far_X1_life : GoodIn wsX11_far wsX1_life := goodIn_r _ [7, 8, 9, 10, 11, 12, 13, 14, 15, 16, 169, 170, 171, 172, 173, 174, 175, 176] (by decide +kernel) (by decide +kernel)
set_option maxRecDepth 20000 in
theorem gX11_far_X1_life : GoodIn wsX11_far (wsV RX11 131 RX1 yX1_life wsX1_life) := goodIn_app (goodIn_of _ (by decide +kernel)) ggX11_far_X1_life
set_option maxRecDepth 20000 in
theorem ggX11_far_X11_within : GoodIn wsX11_far wsX11_within := goodIn_r _ [16] (by decide +kernel) (by decide +kernel)
set_option maxRecDepth 20000 in
theorem gX11_far_X11_within : GoodIn wsX11_far (va_wsS RX11 106 yX11_within wsX11_within) := goodIn_app (goodIn_of _ (by decide +kernel)) ggX11_far_X11_within
set_option maxRecDepth 20000 in
theorem ggX11_far_X11_farSworn : GoodIn wsX11_far wsX11_farSworn := goodIn_r _ [21, 22, 23, 24, 15, 25, 26, 1, 27, 28, 29, 30, 31, 32, 33, 34, 35, 36, 37, 38, 39, 40, 41, 42, 43, 44, 45, 6, 46, 47, 48, 49, 50, 9, 10, 11, 12, 51, 52, 53, 54, 55, 56, 14, 16, 57, 58, 59, 60, 61, 62, 63, 64, 65, 66, 67, 68, 69, 70, 71, 72, 73, 74, 75, 76, 77, 78, 79, 80, 81, 82, 83, 84, 85, 86, 87, 88, 89, 90, 91, 92, 93, 94, 17, 95, 96, 97, 98, 99, 100, 101, 102, 103, 104, 105, 106, 107, 108, 109, 110, 111, 112, 113, 114, 115, 116, 117, 118, 119, 120, 121, 122, 123, 124, 125, 126, 127, 128, 129, 130, 131, 132, 133, 134, 135, 136, 137, 138, 139, 140, 141, 142, 143, 144, 145, 146, 147, 148, 149, 150, 151, 152, 153, 154, 155, 156, 157, 158, 159, 160, 161, 162, 169, 170, 171, 172, 173, 174, 175, 176, 163, 164, 165, 166, 167, 168] (by decide +kernel) (by decide +kernel)
set_option maxRecDepth 20000 in
theorem gX11_far_X11_farSworn : GoodIn wsX11_far (wsV RX11 184 RX11 yX11_farSworn wsX11_farSworn) := goodIn_app (goodIn_of _ (by decide +kernel)) ggX11_far_X11_farSworn
theorem dX11_far_0 : decode cX11_far 0 = .ok (.aload_n 0, 1) := by decide +kernel
theorem dX11_far_1 : decode cX11_far 1 = .ok (.getfield 30, 3) := by decide +kernel
theorem dX11_far_4 : decode cX11_far 4 = .ok (.iload_n 1, 1) := by decide +kernel
theorem dX11_far_5 : decode cX11_far 5 = .ok (.invokevirtual 131, 3) := by decide +kernel
theorem dX11_far_8 : decode cX11_far 8 = .ok (.astore_n 3, 1) := by decide +kernel
theorem dX11_far_9 : decode cX11_far 9 = .ok (.aload_n 3, 1) := by decide +kernel
theorem dX11_far_10 : decode cX11_far 10 = .ok (.ifnull 12, 3) := by decide +kernel
theorem dX11_far_13 : decode cX11_far 13 = .ok (.iload_n 2, 1) := by decide +kernel
theorem dX11_far_14 : decode cX11_far 14 = .ok (.bipush 60, 2) := by decide +kernel
theorem dX11_far_16 : decode cX11_far 16 = .ok (.invokestatic 106, 3) := by decide +kernel
theorem dX11_far_19 : decode cX11_far 19 = .ok (.ifCond .ne 5, 3) := by decide +kernel
theorem dX11_far_22 : decode cX11_far 22 = .ok (.iconst (-1), 1) := by decide +kernel
theorem dX11_far_23 : decode cX11_far 23 = .ok (.ireturn, 1) := by decide +kernel
theorem dX11_far_24 : decode cX11_far 24 = .ok (.aload_n 0, 1) := by decide +kernel
theorem dX11_far_25 : decode cX11_far 25 = .ok (.aload_n 3, 1) := by decide +kernel
theorem dX11_far_26 : decode cX11_far 26 = .ok (.aload_n 3, 1) := by decide +kernel
theorem dX11_far_27 : decode cX11_far 27 = .ok (.getfield 156, 3) := by decide +kernel
theorem dX11_far_30 : decode cX11_far 30 = .ok (.iload_n 2, 1) := by decide +kernel
theorem dX11_far_31 : decode cX11_far 31 = .ok (.invokevirtual 184, 3) := by decide +kernel
theorem dX11_far_34 : decode cX11_far 34 = .ok (.ireturn, 1) := by decide +kernel
set_option maxRecDepth 20000 in
theorem ggX11_swearFor_X11_nearest : GoodIn wsX11_swearFor wsX11_nearest := goodIn_r _ [5, 6, 7, 8, 9, 10, 11, 12, 13, 14, 15, 16, 17, 18, 4, 19, 20, 21, 22, 23, 24, 25, 26, 27, 28, 29, 30, 31, 32, 33, 34, 35, 36, 37, 38, 39, 40, 41, 42, 43, 44, 45, 46, 47, 48, 49, 50, 51, 52, 53, 54, 55, 56, 57, 58, 59, 60, 61, 62, 63, 64, 65, 66, 67, 68, 69, 70, 71, 72, 73, 74, 75, 76, 77, 78, 79, 80, 81, 82, 83, 84, 85, 86, 87, 88, 89, 90, 91, 92, 93, 94, 95, 96, 97, 98, 99, 100, 101, 102, 103, 104, 105, 106, 107, 108, 109, 110, 111, 112, 113, 114, 115, 116, 117, 118, 119, 120, 121, 122, 123, 124, 125, 126, 127, 128, 129, 130, 131, 132, 133, 134, 135, 136, 137, 138, 139, 140, 141, 142, 143, 144, 145, 146, 147, 148, 149, 150, 151, 152, 153, 154, 155, 156, 157, 158, 159, 160, 161, 162, 163, 164, 165, 166, 167, 168, 169, 170, 171, 172, 173, 174, 175, 176, 177, 178] (by decide +kernel) (by decide +kernel)
set_option maxRecDepth 20000 in
theorem gX11_swearFor_X11_nearest : GoodIn wsX11_swearFor (wsV RX11 222 RX11 yX11_nearest wsX11_nearest) := goodIn_app (goodIn_of _ (by decide +kernel)) ggX11_swearFor_X11_nearest
theorem dX11_swearFor_0 : decode cX11_swearFor 0 = .ok (.aload_n 0, 1) := by decide +kernel
theorem dX11_swearFor_1 : decode cX11_swearFor 1 = .ok (.iload_n 1, 1) := by decide +kernel
theorem dX11_swearFor_2 : decode cX11_swearFor 2 = .ok (.iload_n 2, 1) := by decide +kernel
theorem dX11_swearFor_3 : decode cX11_swearFor 3 = .ok (.iconst 5, 1) := by decide +kernel
theorem dX11_swearFor_4 : decode cX11_swearFor 4 = .ok (.bipush 7, 2) := by decide +kernel
theorem dX11_swearFor_6 : decode cX11_swearFor 6 = .ok (.invokevirtual 222, 3) := by decide +kernel
theorem dX11_swearFor_9 : decode cX11_swearFor 9 = .ok (.ireturn, 1) := by decide +kernel
set_option maxRecDepth 20000 in
theorem ggX11_kindFor_X11_nearest : GoodIn wsX11_kindFor wsX11_nearest := goodIn_r _ [5, 6, 7, 8, 9, 10, 11, 12, 13, 14, 15, 16, 17, 18, 4, 19, 20, 21, 22, 23, 24, 25, 26, 27, 28, 29, 30, 31, 32, 33, 34, 35, 36, 37, 38, 39, 40, 41, 42, 43, 44, 45, 46, 47, 48, 49, 50, 51, 52, 53, 54, 55, 56, 57, 58, 59, 60, 61, 62, 63, 64, 65, 66, 67, 68, 69, 70, 71, 72, 73, 74, 75, 76, 77, 78, 79, 80, 81, 82, 83, 84, 85, 86, 87, 88, 89, 90, 91, 92, 93, 94, 95, 96, 97, 98, 99, 100, 101, 102, 103, 104, 105, 106, 107, 108, 109, 110, 111, 112, 113, 114, 115, 116, 117, 118, 119, 120, 121, 122, 123, 124, 125, 126, 127, 128, 129, 130, 131, 132, 133, 134, 135, 136, 137, 138, 139, 140, 141, 142, 143, 144, 145, 146, 147, 148, 149, 150, 151, 152, 153, 154, 155, 156, 157, 158, 159, 160, 161, 162, 163, 164, 165, 166, 167, 168, 169, 170, 171, 172, 173, 174, 175, 176, 177, 178] (by decide +kernel) (by decide +kernel)
set_option maxRecDepth 20000 in
theorem gX11_kindFor_X11_nearest : GoodIn wsX11_kindFor (wsV RX11 222 RX11 yX11_nearest wsX11_nearest) := goodIn_app (goodIn_of _ (by decide +kernel)) ggX11_kindFor_X11_nearest
theorem dX11_kindFor_0 : decode cX11_kindFor 0 = .ok (.aload_n 0, 1) := by decide +kernel
theorem dX11_kindFor_1 : decode cX11_kindFor 1 = .ok (.iload_n 1, 1) := by decide +kernel
theorem dX11_kindFor_2 : decode cX11_kindFor 2 = .ok (.iload_n 2, 1) := by decide +kernel
theorem dX11_kindFor_3 : decode cX11_kindFor 3 = .ok (.iconst 0, 1) := by decide +kernel
theorem dX11_kindFor_4 : decode cX11_kindFor 4 = .ok (.iconst 5, 1) := by decide +kernel
theorem dX11_kindFor_5 : decode cX11_kindFor 5 = .ok (.invokevirtual 222, 3) := by decide +kernel
theorem dX11_kindFor_8 : decode cX11_kindFor 8 = .ok (.ireturn, 1) := by decide +kernel
set_option maxRecDepth 20000 in
theorem ggX11_fireFor_X11_nearest : GoodIn wsX11_fireFor wsX11_nearest := goodIn_r _ [5, 6, 7, 8, 9, 10, 11, 12, 13, 14, 15, 16, 17, 18, 4, 19, 20, 21, 22, 23, 24, 25, 26, 27, 28, 29, 30, 31, 32, 33, 34, 35, 36, 37, 38, 39, 40, 41, 42, 43, 44, 45, 46, 47, 48, 49, 50, 51, 52, 53, 54, 55, 56, 57, 58, 59, 60, 61, 62, 63, 64, 65, 66, 67, 68, 69, 70, 71, 72, 73, 74, 75, 76, 77, 78, 79, 80, 81, 82, 83, 84, 85, 86, 87, 88, 89, 90, 91, 92, 93, 94, 95, 96, 97, 98, 99, 100, 101, 102, 103, 104, 105, 106, 107, 108, 109, 110, 111, 112, 113, 114, 115, 116, 117, 118, 119, 120, 121, 122, 123, 124, 125, 126, 127, 128, 129, 130, 131, 132, 133, 134, 135, 136, 137, 138, 139, 140, 141, 142, 143, 144, 145, 146, 147, 148, 149, 150, 151, 152, 153, 154, 155, 156, 157, 158, 159, 160, 161, 162, 163, 164, 165, 166, 167, 168, 169, 170, 171, 172, 173, 174, 175, 176, 177, 178] (by decide +kernel) (by decide +kernel)
set_option maxRecDepth 20000 in
theorem gX11_fireFor_X11_nearest : GoodIn wsX11_fireFor (wsV RX11 222 RX11 yX11_nearest wsX11_nearest) := goodIn_app (goodIn_of _ (by decide +kernel)) ggX11_fireFor_X11_nearest
theorem dX11_fireFor_0 : decode cX11_fireFor 0 = .ok (.aload_n 0, 1) := by decide +kernel
theorem dX11_fireFor_1 : decode cX11_fireFor 1 = .ok (.iload_n 1, 1) := by decide +kernel
theorem dX11_fireFor_2 : decode cX11_fireFor 2 = .ok (.iload_n 2, 1) := by decide +kernel
theorem dX11_fireFor_3 : decode cX11_fireFor 3 = .ok (.iconst 2, 1) := by decide +kernel
theorem dX11_fireFor_4 : decode cX11_fireFor 4 = .ok (.bipush 9, 2) := by decide +kernel
theorem dX11_fireFor_6 : decode cX11_fireFor 6 = .ok (.invokevirtual 222, 3) := by decide +kernel
theorem dX11_fireFor_9 : decode cX11_fireFor 9 = .ok (.ireturn, 1) := by decide +kernel
set_option maxRecDepth 20000 in
theorem ggX11_nearest_X1_life : GoodIn wsX11_nearest wsX1_life := goodIn_r _ [6, 7, 8, 9, 10, 11, 12, 13, 14, 15, 161, 162, 163, 164, 165, 166, 167, 168] (by decide +kernel) (by decide +kernel)
set_option maxRecDepth 20000 in
theorem gX11_nearest_X1_life : GoodIn wsX11_nearest (wsV RX11 131 RX1 yX1_life wsX1_life) := goodIn_app (goodIn_of _ (by decide +kernel)) ggX11_nearest_X1_life
set_option maxRecDepth 20000 in
theorem ggX11_nearest_X11_isPlan : GoodIn wsX11_nearest wsX11_isPlan := goodIn_r _ [18] (by decide +kernel) (by decide +kernel)
set_option maxRecDepth 20000 in
theorem gX11_nearest_X11_isPlan : GoodIn wsX11_nearest (va_wsS RX11 226 yX11_isPlan wsX11_isPlan) := goodIn_app (goodIn_of _ (by decide +kernel)) ggX11_nearest_X11_isPlan
set_option maxRecDepth 20000 in
theorem ggX11_nearest_X11_farWith : GoodIn wsX11_nearest wsX11_farWith := goodIn_r _ [22, 23, 1, 24, 25, 26, 27, 28, 29, 30, 31, 32, 33, 34, 35, 36, 37, 38, 39, 40, 41, 42, 5, 43, 44, 45, 46, 47, 8, 9, 10, 11, 48, 49, 50, 51, 52, 53, 13, 14, 15, 54, 55, 56, 57, 58, 59, 60, 61, 62, 63, 64, 65, 66, 67, 68, 69, 70, 71, 72, 73, 74, 75, 76, 77, 78, 79, 80, 81, 82, 83, 84, 85, 86, 87, 88, 89, 90, 91, 92, 93, 94, 95, 96, 97, 98, 99, 100, 101, 102, 103, 104, 105, 106, 107, 108, 109, 110, 111, 112, 113, 114, 115, 116, 117, 118, 119, 120, 121, 122, 123, 124, 125, 126, 127, 128, 129, 130, 131, 132, 133, 134, 135, 136, 137, 138, 139, 140, 141, 142, 143, 144, 145, 146, 147, 148, 149, 150, 151, 152, 153, 154, 155, 156, 157, 158, 159, 160, 161, 162, 163, 164, 165, 166, 167, 168, 169, 170, 171, 172, 173, 174] (by decide +kernel) (by decide +kernel)
set_option maxRecDepth 20000 in
theorem gX11_nearest_X11_farWith : GoodIn wsX11_nearest (wsV RX11 229 RX11 yX11_farWith wsX11_farWith) := goodIn_app (goodIn_of _ (by decide +kernel)) ggX11_nearest_X11_farWith
theorem dX11_nearest_0 : decode cX11_nearest 0 = .ok (.aload_n 0, 1) := by decide +kernel
theorem dX11_nearest_1 : decode cX11_nearest 1 = .ok (.getfield 30, 3) := by decide +kernel
theorem dX11_nearest_4 : decode cX11_nearest 4 = .ok (.iload_n 1, 1) := by decide +kernel
theorem dX11_nearest_5 : decode cX11_nearest 5 = .ok (.invokevirtual 131, 3) := by decide +kernel
theorem dX11_nearest_8 : decode cX11_nearest 8 = .ok (.astore 5, 2) := by decide +kernel
theorem dX11_nearest_10 : decode cX11_nearest 10 = .ok (.aload 5, 2) := by decide +kernel
theorem dX11_nearest_12 : decode cX11_nearest 12 = .ok (.ifnull 10, 3) := by decide +kernel
theorem dX11_nearest_15 : decode cX11_nearest 15 = .ok (.iload_n 2, 1) := by decide +kernel
theorem dX11_nearest_16 : decode cX11_nearest 16 = .ok (.invokestatic 226, 3) := by decide +kernel
theorem dX11_nearest_19 : decode cX11_nearest 19 = .ok (.ifCond .ne 5, 3) := by decide +kernel
theorem dX11_nearest_22 : decode cX11_nearest 22 = .ok (.iconst (-1), 1) := by decide +kernel
theorem dX11_nearest_23 : decode cX11_nearest 23 = .ok (.ireturn, 1) := by decide +kernel
theorem dX11_nearest_24 : decode cX11_nearest 24 = .ok (.iconst 0, 1) := by decide +kernel
theorem dX11_nearest_25 : decode cX11_nearest 25 = .ok (.istore 6, 2) := by decide +kernel
theorem dX11_nearest_27 : decode cX11_nearest 27 = .ok (.sipush 10000, 3) := by decide +kernel
theorem dX11_nearest_30 : decode cX11_nearest 30 = .ok (.istore 7, 2) := by decide +kernel
theorem dX11_nearest_32 : decode cX11_nearest 32 = .ok (.iconst 0, 1) := by decide +kernel
theorem dX11_nearest_33 : decode cX11_nearest 33 = .ok (.istore 8, 2) := by decide +kernel
theorem dX11_nearest_35 : decode cX11_nearest 35 = .ok (.iload 8, 2) := by decide +kernel
theorem dX11_nearest_37 : decode cX11_nearest 37 = .ok (.iload 4, 2) := by decide +kernel
theorem dX11_nearest_39 : decode cX11_nearest 39 = .ok (.if_icmp .gt 36, 3) := by decide +kernel
theorem dX11_nearest_42 : decode cX11_nearest 42 = .ok (.aload_n 0, 1) := by decide +kernel
theorem dX11_nearest_43 : decode cX11_nearest 43 = .ok (.aload 5, 2) := by decide +kernel
theorem dX11_nearest_45 : decode cX11_nearest 45 = .ok (.iload_n 3, 1) := by decide +kernel
theorem dX11_nearest_46 : decode cX11_nearest 46 = .ok (.iload 8, 2) := by decide +kernel
theorem dX11_nearest_48 : decode cX11_nearest 48 = .ok (.iload_n 2, 1) := by decide +kernel
theorem dX11_nearest_49 : decode cX11_nearest 49 = .ok (.invokevirtual 229, 3) := by decide +kernel
theorem dX11_nearest_52 : decode cX11_nearest 52 = .ok (.istore 9, 2) := by decide +kernel
theorem dX11_nearest_54 : decode cX11_nearest 54 = .ok (.iload 9, 2) := by decide +kernel
theorem dX11_nearest_56 : decode cX11_nearest 56 = .ok (.iload 7, 2) := by decide +kernel
theorem dX11_nearest_58 : decode cX11_nearest 58 = .ok (.if_icmp .ge 11, 3) := by decide +kernel
theorem dX11_nearest_61 : decode cX11_nearest 61 = .ok (.iload 8, 2) := by decide +kernel
theorem dX11_nearest_63 : decode cX11_nearest 63 = .ok (.istore 6, 2) := by decide +kernel
theorem dX11_nearest_65 : decode cX11_nearest 65 = .ok (.iload 9, 2) := by decide +kernel
theorem dX11_nearest_67 : decode cX11_nearest 67 = .ok (.istore 7, 2) := by decide +kernel
theorem dX11_nearest_69 : decode cX11_nearest 69 = .ok (.iinc 8 1, 3) := by decide +kernel
theorem dX11_nearest_72 : decode cX11_nearest 72 = .ok (.goto (-37), 3) := by decide +kernel
theorem dX11_nearest_75 : decode cX11_nearest 75 = .ok (.iload 6, 2) := by decide +kernel
theorem dX11_nearest_77 : decode cX11_nearest 77 = .ok (.ireturn, 1) := by decide +kernel
set_option maxRecDepth 20000 in
theorem ggX11_farWith_X6_become : GoodIn wsX11_farWith wsX6_become := goodIn_r _ [8, 9, 10, 11, 12, 13, 14, 156, 157, 158, 159, 160, 161] (by decide +kernel) (by decide +kernel)
set_option maxRecDepth 20000 in
theorem gX11_farWith_X6_become : GoodIn wsX11_farWith (wsV RX11 203 RX6 yX6_become wsX6_become) := goodIn_app (goodIn_of _ (by decide +kernel)) ggX11_farWith_X6_become
set_option maxRecDepth 20000 in
theorem ggX11_farWith_X6_remark : GoodIn wsX11_farWith wsX6_remark := goodIn_r _ [18, 9, 10, 11, 12, 13, 14, 156, 157, 158, 159, 160, 161] (by decide +kernel) (by decide +kernel)
set_option maxRecDepth 20000 in
theorem gX11_farWith_X6_remark : GoodIn wsX11_farWith (wsV RX11 152 RX6 yX6_remark wsX6_remark) := goodIn_app (goodIn_of _ (by decide +kernel)) ggX11_farWith_X6_remark
set_option maxRecDepth 20000 in
theorem ggX11_farWith_X1_passYearOf : GoodIn wsX11_farWith wsX1_passYearOf := goodIn_r _ [23, 24, 25, 26, 27, 28, 29, 30, 31, 32, 33, 34, 22, 35, 36, 37, 38, 39, 40, 41, 42, 43, 44, 45, 46, 47, 48, 49, 50, 51, 52, 53, 54, 55, 56, 57, 58, 59, 60, 61, 62, 63, 64, 65, 66, 67, 68, 69, 70, 71, 72, 73, 74, 75, 76, 77, 78, 79, 80, 81, 82, 83, 84, 85, 86, 87, 88, 89, 90, 91, 92, 93, 94, 95, 96, 97, 98, 99, 100, 101, 102, 103, 104, 105, 106, 107, 108, 109, 110, 111, 112, 113, 114, 115, 116, 117, 118, 119, 7, 120, 10, 121, 122, 123, 124, 125, 126, 127, 128, 156, 157, 158, 159, 160, 161, 148, 149, 150, 151, 152, 153, 154, 155] (by decide +kernel) (by decide +kernel)
set_option maxRecDepth 20000 in
theorem gX11_farWith_X1_passYearOf : GoodIn wsX11_farWith (wsV RX11 209 RX1 yX1_passYearOf wsX1_passYearOf) := goodIn_app (goodIn_of _ (by decide +kernel)) ggX11_farWith_X1_passYearOf
set_option maxRecDepth 20000 in
theorem ggX11_farWith_X6_distance : GoodIn wsX11_farWith wsX6_distance := goodIn_r _ [132, 10, 12, 133, 134, 30, 135, 156, 157, 158, 159, 160, 161] (by decide +kernel) (by decide +kernel)
set_option maxRecDepth 20000 in
theorem gX11_farWith_X6_distance : GoodIn wsX11_farWith (wsV RX11 206 RX6 yX6_distance wsX6_distance) := goodIn_app (goodIn_of _ (by decide +kernel)) ggX11_farWith_X6_distance
theorem dX11_farWith_0 : decode cX11_farWith 0 = .ok (.aload_n 0, 1) := by decide +kernel
theorem dX11_farWith_1 : decode cX11_farWith 1 = .ok (.getfield 45, 3) := by decide +kernel
theorem dX11_farWith_4 : decode cX11_farWith 4 = .ok (.aload_n 1, 1) := by decide +kernel
theorem dX11_farWith_5 : decode cX11_farWith 5 = .ok (.invokevirtual 203, 3) := by decide +kernel
theorem dX11_farWith_8 : decode cX11_farWith 8 = .ok (.aload_n 0, 1) := by decide +kernel
theorem dX11_farWith_9 : decode cX11_farWith 9 = .ok (.getfield 45, 3) := by decide +kernel
theorem dX11_farWith_12 : decode cX11_farWith 12 = .ok (.iload_n 2, 1) := by decide +kernel
theorem dX11_farWith_13 : decode cX11_farWith 13 = .ok (.iload_n 3, 1) := by decide +kernel
theorem dX11_farWith_14 : decode cX11_farWith 14 = .ok (.invokevirtual 152, 3) := by decide +kernel
theorem dX11_farWith_17 : decode cX11_farWith 17 = .ok (.iconst 0, 1) := by decide +kernel
theorem dX11_farWith_18 : decode cX11_farWith 18 = .ok (.istore 5, 2) := by decide +kernel
theorem dX11_farWith_20 : decode cX11_farWith 20 = .ok (.iload 5, 2) := by decide +kernel
theorem dX11_farWith_22 : decode cX11_farWith 22 = .ok (.iload 4, 2) := by decide +kernel
theorem dX11_farWith_24 : decode cX11_farWith 24 = .ok (.if_icmp .ge 30, 3) := by decide +kernel
theorem dX11_farWith_27 : decode cX11_farWith 27 = .ok (.aload_n 0, 1) := by decide +kernel
theorem dX11_farWith_28 : decode cX11_farWith 28 = .ok (.getfield 30, 3) := by decide +kernel
theorem dX11_farWith_31 : decode cX11_farWith 31 = .ok (.aload_n 0, 1) := by decide +kernel
theorem dX11_farWith_32 : decode cX11_farWith 32 = .ok (.getfield 45, 3) := by decide +kernel
theorem dX11_farWith_35 : decode cX11_farWith 35 = .ok (.aload_n 0, 1) := by decide +kernel
theorem dX11_farWith_36 : decode cX11_farWith 36 = .ok (.getfield 30, 3) := by decide +kernel
theorem dX11_farWith_39 : decode cX11_farWith 39 = .ok (.getfield 188, 3) := by decide +kernel
theorem dX11_farWith_42 : decode cX11_farWith 42 = .ok (.iload 5, 2) := by decide +kernel
theorem dX11_farWith_44 : decode cX11_farWith 44 = .ok (.iadd, 1) := by decide +kernel
theorem dX11_farWith_45 : decode cX11_farWith 45 = .ok (.invokevirtual 209, 3) := by decide +kernel
theorem dX11_farWith_48 : decode cX11_farWith 48 = .ok (.iinc 5 1, 3) := by decide +kernel
theorem dX11_farWith_51 : decode cX11_farWith 51 = .ok (.goto (-31), 3) := by decide +kernel
theorem dX11_farWith_54 : decode cX11_farWith 54 = .ok (.aload_n 0, 1) := by decide +kernel
theorem dX11_farWith_55 : decode cX11_farWith 55 = .ok (.getfield 45, 3) := by decide +kernel
theorem dX11_farWith_58 : decode cX11_farWith 58 = .ok (.invokevirtual 206, 3) := by decide +kernel
theorem dX11_farWith_61 : decode cX11_farWith 61 = .ok (.ireturn, 1) := by decide +kernel
set_option maxRecDepth 20000 in
theorem ggX11_farSworn_X11_farWith : GoodIn wsX11_farSworn wsX11_farWith := goodIn_r _ [5, 6, 7, 8, 9, 10, 11, 12, 13, 14, 15, 16, 17, 18, 19, 20, 21, 22, 23, 24, 25, 26, 27, 28, 29, 30, 31, 32, 33, 34, 35, 36, 37, 38, 39, 40, 41, 42, 43, 4, 44, 45, 46, 47, 48, 49, 50, 51, 52, 53, 54, 55, 56, 57, 58, 59, 60, 61, 62, 63, 64, 65, 66, 67, 68, 69, 70, 71, 72, 73, 74, 75, 76, 77, 78, 79, 80, 81, 82, 83, 84, 85, 86, 87, 88, 89, 90, 91, 92, 93, 94, 95, 96, 97, 98, 99, 100, 101, 102, 103, 104, 105, 106, 107, 108, 109, 110, 111, 112, 113, 114, 115, 116, 117, 118, 119, 120, 121, 122, 123, 124, 125, 126, 127, 128, 129, 130, 131, 132, 133, 134, 135, 136, 137, 138, 139, 140, 141, 142, 143, 144, 145, 146, 147, 148, 149, 150, 151, 152, 153, 154, 155, 156, 157, 158, 159, 160, 161, 162, 163, 164, 165] (by decide +kernel) (by decide +kernel)
set_option maxRecDepth 20000 in
theorem gX11_farSworn_X11_farWith : GoodIn wsX11_farSworn (wsV RX11 229 RX11 yX11_farWith wsX11_farWith) := goodIn_app (goodIn_of _ (by decide +kernel)) ggX11_farSworn_X11_farWith
theorem dX11_farSworn_0 : decode cX11_farSworn 0 = .ok (.aload_n 0, 1) := by decide +kernel
theorem dX11_farSworn_1 : decode cX11_farSworn 1 = .ok (.aload_n 1, 1) := by decide +kernel
theorem dX11_farSworn_2 : decode cX11_farSworn 2 = .ok (.iconst 5, 1) := by decide +kernel
theorem dX11_farSworn_3 : decode cX11_farSworn 3 = .ok (.iload_n 2, 1) := by decide +kernel
theorem dX11_farSworn_4 : decode cX11_farSworn 4 = .ok (.iload_n 3, 1) := by decide +kernel
theorem dX11_farSworn_5 : decode cX11_farSworn 5 = .ok (.invokevirtual 229, 3) := by decide +kernel
theorem dX11_farSworn_8 : decode cX11_farSworn 8 = .ok (.ireturn, 1) := by decide +kernel
set_option maxRecDepth 20000 in
theorem ggX11_best_X11_isPlan : GoodIn wsX11_best wsX11_isPlan := goodIn_r _ [11] (by decide +kernel) (by decide +kernel)
set_option maxRecDepth 20000 in
theorem gX11_best_X11_isPlan : GoodIn wsX11_best (va_wsS RX11 226 yX11_isPlan wsX11_isPlan) := goodIn_app (goodIn_of _ (by decide +kernel)) ggX11_best_X11_isPlan
set_option maxRecDepth 20000 in
theorem ggX11_best_X11_fillFars : GoodIn wsX11_best wsX11_fillFars := goodIn_r _ [15, 16, 2, 17, 18, 19, 20, 21, 22, 23, 5, 6, 7, 24, 25, 10, 26, 27, 28, 29, 30, 31, 32, 33, 34, 35, 36, 37, 38, 39, 40, 41, 42, 43, 44, 45, 46, 47, 48, 49, 50, 51, 52, 53, 54, 55, 56, 57, 58, 59, 60, 61, 62, 63, 64, 65, 66, 67, 68, 69, 70, 71, 72, 73, 74, 75, 76, 77, 78, 79, 80, 81, 82, 83, 84, 85, 86, 87, 88, 89, 90, 91, 92, 93, 94, 95, 96, 97, 98, 99, 100, 101, 102, 103, 104, 105, 106, 107, 108, 109, 110, 111, 112, 113, 114, 115, 116, 117, 118, 119, 120, 121, 122, 123, 124, 125, 126, 127, 128, 129, 130, 131, 132, 133, 134, 135, 136, 137, 138, 139, 140, 141, 142, 143, 144, 145, 146, 147, 148, 149, 150, 151, 4, 152, 153, 154, 155, 156, 157, 158, 159, 175, 176, 177, 178, 179, 180, 181, 182, 183, 184, 185, 186, 187, 188, 189, 190, 191, 192, 193, 194, 195, 196, 197, 198, 199, 200] (by decide +kernel) (by decide +kernel)
set_option maxRecDepth 20000 in
theorem gX11_best_X11_fillFars : GoodIn wsX11_best (wsV RX11 233 RX11 yX11_fillFars wsX11_fillFars) := goodIn_app (goodIn_of _ (by decide +kernel)) ggX11_best_X11_fillFars
set_option maxRecDepth 20000 in
theorem ggX11_best_J6_bitCount_0f7a4 : GoodIn wsX11_best wsJ6_bitCount_0f7a4 := goodIn_r _ [163, 164, 165, 166] (by decide +kernel) (by decide +kernel)
set_option maxRecDepth 20000 in
theorem gX11_best_J6_bitCount_0f7a4 : GoodIn wsX11_best (va_wsS RX11 237 yJ6_bitCount_0f7a4 wsJ6_bitCount_0f7a4) := goodIn_app (goodIn_of _ (by decide +kernel)) ggX11_best_J6_bitCount_0f7a4
set_option maxRecDepth 20000 in
theorem ggX11_best_X11_swearNext : GoodIn wsX11_best wsX11_swearNext := goodIn_r _ [170, 1, 4, 5, 6, 7, 104, 25, 10, 26, 171, 172, 173, 174, 16, 175, 176, 177, 178, 179, 180, 181, 182, 183, 184, 185, 186] (by decide +kernel) (by decide +kernel)
set_option maxRecDepth 20000 in
theorem gX11_best_X11_swearNext : GoodIn wsX11_best (wsV RX11 245 RX11 yX11_swearNext wsX11_swearNext) := goodIn_app (goodIn_of _ (by decide +kernel)) ggX11_best_X11_swearNext
theorem dX11_best_0 : decode cX11_best 0 = .ok (.iload_n 1, 1) := by decide +kernel
theorem dX11_best_1 : decode cX11_best 1 = .ok (.invokestatic 226, 3) := by decide +kernel
theorem dX11_best_4 : decode cX11_best 4 = .ok (.ifCond .ne 5, 3) := by decide +kernel
theorem dX11_best_7 : decode cX11_best 7 = .ok (.iconst (-1), 1) := by decide +kernel
theorem dX11_best_8 : decode cX11_best 8 = .ok (.ireturn, 1) := by decide +kernel
theorem dX11_best_9 : decode cX11_best 9 = .ok (.aload_n 0, 1) := by decide +kernel
theorem dX11_best_10 : decode cX11_best 10 = .ok (.iload_n 1, 1) := by decide +kernel
theorem dX11_best_11 : decode cX11_best 11 = .ok (.invokevirtual 233, 3) := by decide +kernel
theorem dX11_best_14 : decode cX11_best 14 = .ok (.iconst 0, 1) := by decide +kernel
theorem dX11_best_15 : decode cX11_best 15 = .ok (.istore_n 2, 1) := by decide +kernel
theorem dX11_best_16 : decode cX11_best 16 = .ok (.iload_n 2, 1) := by decide +kernel
theorem dX11_best_17 : decode cX11_best 17 = .ok (.aload_n 0, 1) := by decide +kernel
theorem dX11_best_18 : decode cX11_best 18 = .ok (.getfield 77, 3) := by decide +kernel
theorem dX11_best_21 : decode cX11_best 21 = .ok (.arraylength, 1) := by decide +kernel
theorem dX11_best_22 : decode cX11_best 22 = .ok (.if_icmp .ge 18, 3) := by decide +kernel
theorem dX11_best_25 : decode cX11_best 25 = .ok (.aload_n 0, 1) := by decide +kernel
theorem dX11_best_26 : decode cX11_best 26 = .ok (.getfield 77, 3) := by decide +kernel
theorem dX11_best_29 : decode cX11_best 29 = .ok (.iload_n 2, 1) := by decide +kernel
theorem dX11_best_30 : decode cX11_best 30 = .ok (.sipush 10000, 3) := by decide +kernel
theorem dX11_best_33 : decode cX11_best 33 = .ok (.iastore, 1) := by decide +kernel
theorem dX11_best_34 : decode cX11_best 34 = .ok (.iinc 2 1, 3) := by decide +kernel
theorem dX11_best_37 : decode cX11_best 37 = .ok (.goto (-21), 3) := by decide +kernel
theorem dX11_best_40 : decode cX11_best 40 = .ok (.aload_n 0, 1) := by decide +kernel
theorem dX11_best_41 : decode cX11_best 41 = .ok (.getfield 77, 3) := by decide +kernel
theorem dX11_best_44 : decode cX11_best 44 = .ok (.iconst 0, 1) := by decide +kernel
theorem dX11_best_45 : decode cX11_best 45 = .ok (.iconst 0, 1) := by decide +kernel
theorem dX11_best_46 : decode cX11_best 46 = .ok (.iastore, 1) := by decide +kernel
theorem dX11_best_47 : decode cX11_best 47 = .ok (.sipush 10000, 3) := by decide +kernel
theorem dX11_best_50 : decode cX11_best 50 = .ok (.istore_n 2, 1) := by decide +kernel
theorem dX11_best_51 : decode cX11_best 51 = .ok (.iconst 0, 1) := by decide +kernel
theorem dX11_best_52 : decode cX11_best 52 = .ok (.istore_n 3, 1) := by decide +kernel
theorem dX11_best_53 : decode cX11_best 53 = .ok (.iload_n 3, 1) := by decide +kernel
theorem dX11_best_54 : decode cX11_best 54 = .ok (.aload_n 0, 1) := by decide +kernel
theorem dX11_best_55 : decode cX11_best 55 = .ok (.getfield 77, 3) := by decide +kernel
theorem dX11_best_58 : decode cX11_best 58 = .ok (.arraylength, 1) := by decide +kernel
theorem dX11_best_59 : decode cX11_best 59 = .ok (.if_icmp .ge 60, 3) := by decide +kernel
theorem dX11_best_62 : decode cX11_best 62 = .ok (.iload_n 3, 1) := by decide +kernel
theorem dX11_best_63 : decode cX11_best 63 = .ok (.invokestatic 237, 3) := by decide +kernel
theorem dX11_best_66 : decode cX11_best 66 = .ok (.istore 4, 2) := by decide +kernel
theorem dX11_best_68 : decode cX11_best 68 = .ok (.iload 4, 2) := by decide +kernel
theorem dX11_best_70 : decode cX11_best 70 = .ok (.aload_n 0, 1) := by decide +kernel
theorem dX11_best_71 : decode cX11_best 71 = .ok (.getfield 30, 3) := by decide +kernel
theorem dX11_best_74 : decode cX11_best 74 = .ok (.getfield 105, 3) := by decide +kernel
theorem dX11_best_77 : decode cX11_best 77 = .ok (.if_icmp .ne 17, 3) := by decide +kernel
theorem dX11_best_80 : decode cX11_best 80 = .ok (.iload_n 2, 1) := by decide +kernel
theorem dX11_best_81 : decode cX11_best 81 = .ok (.aload_n 0, 1) := by decide +kernel
theorem dX11_best_82 : decode cX11_best 82 = .ok (.getfield 77, 3) := by decide +kernel
theorem dX11_best_85 : decode cX11_best 85 = .ok (.iload_n 3, 1) := by decide +kernel
theorem dX11_best_86 : decode cX11_best 86 = .ok (.iaload, 1) := by decide +kernel
theorem dX11_best_87 : decode cX11_best 87 = .ok (.invokestatic 242, 3) := by decide +kernel
theorem dX11_best_90 : decode cX11_best 90 = .ok (.istore_n 2, 1) := by decide +kernel
theorem dX11_best_91 : decode cX11_best 91 = .ok (.goto 22, 3) := by decide +kernel
theorem dX11_best_94 : decode cX11_best 94 = .ok (.iload 4, 2) := by decide +kernel
theorem dX11_best_96 : decode cX11_best 96 = .ok (.aload_n 0, 1) := by decide +kernel
theorem dX11_best_97 : decode cX11_best 97 = .ok (.getfield 30, 3) := by decide +kernel
theorem dX11_best_100 : decode cX11_best 100 = .ok (.getfield 105, 3) := by decide +kernel
theorem dX11_best_103 : decode cX11_best 103 = .ok (.if_icmp .ge 10, 3) := by decide +kernel
theorem dX11_best_106 : decode cX11_best 106 = .ok (.aload_n 0, 1) := by decide +kernel
theorem dX11_best_107 : decode cX11_best 107 = .ok (.iload_n 3, 1) := by decide +kernel
theorem dX11_best_108 : decode cX11_best 108 = .ok (.iload 4, 2) := by decide +kernel
theorem dX11_best_110 : decode cX11_best 110 = .ok (.invokevirtual 245, 3) := by decide +kernel
theorem dX11_best_113 : decode cX11_best 113 = .ok (.iinc 3 1, 3) := by decide +kernel
theorem dX11_best_116 : decode cX11_best 116 = .ok (.goto (-63), 3) := by decide +kernel
theorem dX11_best_119 : decode cX11_best 119 = .ok (.iload_n 2, 1) := by decide +kernel
theorem dX11_best_120 : decode cX11_best 120 = .ok (.ireturn, 1) := by decide +kernel
set_option maxRecDepth 20000 in
theorem ggX11_swearNext_X11_within : GoodIn wsX11_swearNext wsX11_within := goodIn_r _ [9] (by decide +kernel) (by decide +kernel)
set_option maxRecDepth 20000 in
theorem gX11_swearNext_X11_within : GoodIn wsX11_swearNext (va_wsS RX11 106 yX11_within wsX11_within) := goodIn_app (goodIn_of _ (by decide +kernel)) ggX11_swearNext_X11_within
set_option maxRecDepth 20000 in
theorem ggX11_swearNext_X11_farAt : GoodIn wsX11_swearNext wsX11_farAt := goodIn_r _ [13, 14, 6, 7, 8, 9, 15, 16, 17, 18, 19, 20, 21, 22, 23, 24, 25, 26] (by decide +kernel) (by decide +kernel)
set_option maxRecDepth 20000 in
theorem gX11_swearNext_X11_farAt : GoodIn wsX11_swearNext (wsV RX11 248 RX11 yX11_farAt wsX11_farAt) := goodIn_app (goodIn_of _ (by decide +kernel)) ggX11_swearNext_X11_farAt
theorem dX11_swearNext_0 : decode cX11_swearNext 0 = .ok (.iconst 0, 1) := by decide +kernel
theorem dX11_swearNext_1 : decode cX11_swearNext 1 = .ok (.istore_n 3, 1) := by decide +kernel
theorem dX11_swearNext_2 : decode cX11_swearNext 2 = .ok (.iload_n 3, 1) := by decide +kernel
theorem dX11_swearNext_3 : decode cX11_swearNext 3 = .ok (.bipush 8, 2) := by decide +kernel
theorem dX11_swearNext_5 : decode cX11_swearNext 5 = .ok (.if_icmp .ge 81, 3) := by decide +kernel
theorem dX11_swearNext_8 : decode cX11_swearNext 8 = .ok (.iload_n 1, 1) := by decide +kernel
theorem dX11_swearNext_9 : decode cX11_swearNext 9 = .ok (.iconst 1, 1) := by decide +kernel
theorem dX11_swearNext_10 : decode cX11_swearNext 10 = .ok (.iload_n 3, 1) := by decide +kernel
theorem dX11_swearNext_11 : decode cX11_swearNext 11 = .ok (.ishl, 1) := by decide +kernel
theorem dX11_swearNext_12 : decode cX11_swearNext 12 = .ok (.ior, 1) := by decide +kernel
theorem dX11_swearNext_13 : decode cX11_swearNext 13 = .ok (.istore 4, 2) := by decide +kernel
theorem dX11_swearNext_15 : decode cX11_swearNext 15 = .ok (.iload 4, 2) := by decide +kernel
theorem dX11_swearNext_17 : decode cX11_swearNext 17 = .ok (.iload_n 1, 1) := by decide +kernel
theorem dX11_swearNext_18 : decode cX11_swearNext 18 = .ok (.if_icmp .eq 62, 3) := by decide +kernel
theorem dX11_swearNext_21 : decode cX11_swearNext 21 = .ok (.iload_n 1, 1) := by decide +kernel
theorem dX11_swearNext_22 : decode cX11_swearNext 22 = .ok (.aload_n 0, 1) := by decide +kernel
theorem dX11_swearNext_23 : decode cX11_swearNext 23 = .ok (.getfield 77, 3) := by decide +kernel
theorem dX11_swearNext_26 : decode cX11_swearNext 26 = .ok (.arraylength, 1) := by decide +kernel
theorem dX11_swearNext_27 : decode cX11_swearNext 27 = .ok (.iconst 1, 1) := by decide +kernel
theorem dX11_swearNext_28 : decode cX11_swearNext 28 = .ok (.isub, 1) := by decide +kernel
theorem dX11_swearNext_29 : decode cX11_swearNext 29 = .ok (.invokestatic 106, 3) := by decide +kernel
theorem dX11_swearNext_32 : decode cX11_swearNext 32 = .ok (.ifCond .eq 48, 3) := by decide +kernel
theorem dX11_swearNext_35 : decode cX11_swearNext 35 = .ok (.iload 4, 2) := by decide +kernel
theorem dX11_swearNext_37 : decode cX11_swearNext 37 = .ok (.aload_n 0, 1) := by decide +kernel
theorem dX11_swearNext_38 : decode cX11_swearNext 38 = .ok (.getfield 77, 3) := by decide +kernel
theorem dX11_swearNext_41 : decode cX11_swearNext 41 = .ok (.arraylength, 1) := by decide +kernel
theorem dX11_swearNext_42 : decode cX11_swearNext 42 = .ok (.iconst 1, 1) := by decide +kernel
theorem dX11_swearNext_43 : decode cX11_swearNext 43 = .ok (.isub, 1) := by decide +kernel
theorem dX11_swearNext_44 : decode cX11_swearNext 44 = .ok (.invokestatic 106, 3) := by decide +kernel
theorem dX11_swearNext_47 : decode cX11_swearNext 47 = .ok (.ifCond .eq 33, 3) := by decide +kernel
theorem dX11_swearNext_50 : decode cX11_swearNext 50 = .ok (.aload_n 0, 1) := by decide +kernel
theorem dX11_swearNext_51 : decode cX11_swearNext 51 = .ok (.getfield 77, 3) := by decide +kernel
theorem dX11_swearNext_54 : decode cX11_swearNext 54 = .ok (.iload 4, 2) := by decide +kernel
theorem dX11_swearNext_56 : decode cX11_swearNext 56 = .ok (.aload_n 0, 1) := by decide +kernel
theorem dX11_swearNext_57 : decode cX11_swearNext 57 = .ok (.getfield 77, 3) := by decide +kernel
theorem dX11_swearNext_60 : decode cX11_swearNext 60 = .ok (.iload 4, 2) := by decide +kernel
theorem dX11_swearNext_62 : decode cX11_swearNext 62 = .ok (.iaload, 1) := by decide +kernel
theorem dX11_swearNext_63 : decode cX11_swearNext 63 = .ok (.aload_n 0, 1) := by decide +kernel
theorem dX11_swearNext_64 : decode cX11_swearNext 64 = .ok (.getfield 77, 3) := by decide +kernel
theorem dX11_swearNext_67 : decode cX11_swearNext 67 = .ok (.iload_n 1, 1) := by decide +kernel
theorem dX11_swearNext_68 : decode cX11_swearNext 68 = .ok (.iaload, 1) := by decide +kernel
theorem dX11_swearNext_69 : decode cX11_swearNext 69 = .ok (.aload_n 0, 1) := by decide +kernel
theorem dX11_swearNext_70 : decode cX11_swearNext 70 = .ok (.iload_n 2, 1) := by decide +kernel
theorem dX11_swearNext_71 : decode cX11_swearNext 71 = .ok (.iload_n 3, 1) := by decide +kernel
theorem dX11_swearNext_72 : decode cX11_swearNext 72 = .ok (.invokevirtual 248, 3) := by decide +kernel
theorem dX11_swearNext_75 : decode cX11_swearNext 75 = .ok (.iadd, 1) := by decide +kernel
theorem dX11_swearNext_76 : decode cX11_swearNext 76 = .ok (.invokestatic 242, 3) := by decide +kernel
theorem dX11_swearNext_79 : decode cX11_swearNext 79 = .ok (.iastore, 1) := by decide +kernel
theorem dX11_swearNext_80 : decode cX11_swearNext 80 = .ok (.iinc 3 1, 3) := by decide +kernel
theorem dX11_swearNext_83 : decode cX11_swearNext 83 = .ok (.goto (-81), 3) := by decide +kernel
theorem dX11_swearNext_86 : decode cX11_swearNext 86 = .ok (.return_, 1) := by decide +kernel
set_option maxRecDepth 20000 in
theorem ggX11_enough_X11_isPlan : GoodIn wsX11_enough wsX11_isPlan := goodIn_r _ [4] (by decide +kernel) (by decide +kernel)
set_option maxRecDepth 20000 in
theorem gX11_enough_X11_isPlan : GoodIn wsX11_enough (va_wsS RX11 226 yX11_isPlan wsX11_isPlan) := goodIn_app (goodIn_of _ (by decide +kernel)) ggX11_enough_X11_isPlan
set_option maxRecDepth 20000 in
theorem ggX11_enough_X11_fillFars : GoodIn wsX11_enough wsX11_fillFars := goodIn_r _ [8, 9, 10, 11, 12, 13, 14, 15, 16, 17, 18, 19, 20, 21, 22, 3, 23, 24, 25, 26, 27, 28, 29, 30, 31, 32, 33, 34, 35, 36, 37, 38, 39, 40, 41, 42, 43, 44, 45, 46, 47, 48, 49, 50, 51, 52, 53, 54, 55, 56, 57, 58, 59, 60, 61, 62, 63, 64, 65, 66, 67, 68, 69, 70, 71, 72, 73, 74, 75, 76, 77, 78, 79, 80, 81, 82, 83, 84, 85, 86, 87, 88, 89, 90, 91, 92, 93, 94, 95, 96, 97, 98, 99, 100, 101, 102, 103, 104, 105, 106, 107, 108, 109, 110, 111, 112, 113, 114, 115, 116, 117, 118, 119, 120, 121, 122, 123, 124, 125, 126, 127, 128, 129, 130, 131, 132, 133, 134, 135, 136, 137, 138, 139, 140, 141, 142, 143, 144, 145, 146, 147, 148, 149, 150, 151, 152, 153, 154, 155, 156, 157, 175, 176, 177, 178, 179, 180, 181, 182, 183, 184, 185, 186, 187, 188, 189, 190, 191, 192, 193, 194, 195, 196, 197, 198, 199, 200] (by decide +kernel) (by decide +kernel)
set_option maxRecDepth 20000 in
theorem gX11_enough_X11_fillFars : GoodIn wsX11_enough (wsV RX11 233 RX11 yX11_fillFars wsX11_fillFars) := goodIn_app (goodIn_of _ (by decide +kernel)) ggX11_enough_X11_fillFars
set_option maxRecDepth 20000 in
theorem ggX11_enough_J6_bitCount_0f7a4 : GoodIn wsX11_enough wsJ6_bitCount_0f7a4 := goodIn_r _ [161, 162, 163, 164] (by decide +kernel) (by decide +kernel)
set_option maxRecDepth 20000 in
theorem gX11_enough_J6_bitCount_0f7a4 : GoodIn wsX11_enough (va_wsS RX11 237 yJ6_bitCount_0f7a4 wsJ6_bitCount_0f7a4) := goodIn_app (goodIn_of _ (by decide +kernel)) ggX11_enough_J6_bitCount_0f7a4
set_option maxRecDepth 20000 in
theorem ggX11_enough_X11_isEnough : GoodIn wsX11_enough wsX11_isEnough := goodIn_r _ [168, 10, 169, 170, 171, 172, 173, 3, 174, 9, 101, 22, 23, 175, 176, 177, 178, 179, 180, 181, 182, 183, 184, 185, 186, 187, 188, 189, 190, 191, 192, 193, 194] (by decide +kernel) (by decide +kernel)
set_option maxRecDepth 20000 in
theorem gX11_enough_X11_isEnough : GoodIn wsX11_enough (wsV RX11 251 RX11 yX11_isEnough wsX11_isEnough) := goodIn_app (goodIn_of _ (by decide +kernel)) ggX11_enough_X11_isEnough
theorem dX11_enough_0 : decode cX11_enough 0 = .ok (.iload_n 1, 1) := by decide +kernel
theorem dX11_enough_1 : decode cX11_enough 1 = .ok (.invokestatic 226, 3) := by decide +kernel
theorem dX11_enough_4 : decode cX11_enough 4 = .ok (.ifCond .ne 5, 3) := by decide +kernel
theorem dX11_enough_7 : decode cX11_enough 7 = .ok (.iconst (-1), 1) := by decide +kernel
theorem dX11_enough_8 : decode cX11_enough 8 = .ok (.ireturn, 1) := by decide +kernel
theorem dX11_enough_9 : decode cX11_enough 9 = .ok (.aload_n 0, 1) := by decide +kernel
theorem dX11_enough_10 : decode cX11_enough 10 = .ok (.iload_n 1, 1) := by decide +kernel
theorem dX11_enough_11 : decode cX11_enough 11 = .ok (.invokevirtual 233, 3) := by decide +kernel
theorem dX11_enough_14 : decode cX11_enough 14 = .ok (.bipush (-3), 2) := by decide +kernel
theorem dX11_enough_16 : decode cX11_enough 16 = .ok (.istore_n 2, 1) := by decide +kernel
theorem dX11_enough_17 : decode cX11_enough 17 = .ok (.bipush 9, 2) := by decide +kernel
theorem dX11_enough_19 : decode cX11_enough 19 = .ok (.istore_n 3, 1) := by decide +kernel
theorem dX11_enough_20 : decode cX11_enough 20 = .ok (.iconst 0, 1) := by decide +kernel
theorem dX11_enough_21 : decode cX11_enough 21 = .ok (.istore 4, 2) := by decide +kernel
theorem dX11_enough_23 : decode cX11_enough 23 = .ok (.iload 4, 2) := by decide +kernel
theorem dX11_enough_25 : decode cX11_enough 25 = .ok (.sipush 256, 3) := by decide +kernel
theorem dX11_enough_28 : decode cX11_enough 28 = .ok (.if_icmp .ge 37, 3) := by decide +kernel
theorem dX11_enough_31 : decode cX11_enough 31 = .ok (.iload 4, 2) := by decide +kernel
theorem dX11_enough_33 : decode cX11_enough 33 = .ok (.invokestatic 237, 3) := by decide +kernel
theorem dX11_enough_36 : decode cX11_enough 36 = .ok (.istore 5, 2) := by decide +kernel
theorem dX11_enough_38 : decode cX11_enough 38 = .ok (.iload 5, 2) := by decide +kernel
theorem dX11_enough_40 : decode cX11_enough 40 = .ok (.iload_n 3, 1) := by decide +kernel
theorem dX11_enough_41 : decode cX11_enough 41 = .ok (.if_icmp .ge 18, 3) := by decide +kernel
theorem dX11_enough_44 : decode cX11_enough 44 = .ok (.aload_n 0, 1) := by decide +kernel
theorem dX11_enough_45 : decode cX11_enough 45 = .ok (.iload 4, 2) := by decide +kernel
theorem dX11_enough_47 : decode cX11_enough 47 = .ok (.invokevirtual 251, 3) := by decide +kernel
theorem dX11_enough_50 : decode cX11_enough 50 = .ok (.ifCond .eq 9, 3) := by decide +kernel
theorem dX11_enough_53 : decode cX11_enough 53 = .ok (.iload 4, 2) := by decide +kernel
theorem dX11_enough_55 : decode cX11_enough 55 = .ok (.istore_n 2, 1) := by decide +kernel
theorem dX11_enough_56 : decode cX11_enough 56 = .ok (.iload 5, 2) := by decide +kernel
theorem dX11_enough_58 : decode cX11_enough 58 = .ok (.istore_n 3, 1) := by decide +kernel
theorem dX11_enough_59 : decode cX11_enough 59 = .ok (.iinc 4 1, 3) := by decide +kernel
theorem dX11_enough_62 : decode cX11_enough 62 = .ok (.goto (-39), 3) := by decide +kernel
theorem dX11_enough_65 : decode cX11_enough 65 = .ok (.iload_n 2, 1) := by decide +kernel
theorem dX11_enough_66 : decode cX11_enough 66 = .ok (.ireturn, 1) := by decide +kernel
set_option maxRecDepth 20000 in
theorem ggX11_isEnough_X11_farAt : GoodIn wsX11_isEnough wsX11_farAt := goodIn_r _ [8, 9, 10, 11, 7, 12, 13, 14, 15, 16, 17, 18, 19, 20, 21, 22, 23, 24] (by decide +kernel) (by decide +kernel)
set_option maxRecDepth 20000 in
theorem gX11_isEnough_X11_farAt : GoodIn wsX11_isEnough (wsV RX11 248 RX11 yX11_farAt wsX11_farAt) := goodIn_app (goodIn_of _ (by decide +kernel)) ggX11_isEnough_X11_farAt
theorem dX11_isEnough_0 : decode cX11_isEnough 0 = .ok (.iconst 0, 1) := by decide +kernel
theorem dX11_isEnough_1 : decode cX11_isEnough 1 = .ok (.istore_n 2, 1) := by decide +kernel
theorem dX11_isEnough_2 : decode cX11_isEnough 2 = .ok (.iload_n 2, 1) := by decide +kernel
theorem dX11_isEnough_3 : decode cX11_isEnough 3 = .ok (.aload_n 0, 1) := by decide +kernel
theorem dX11_isEnough_4 : decode cX11_isEnough 4 = .ok (.getfield 30, 3) := by decide +kernel
theorem dX11_isEnough_7 : decode cX11_isEnough 7 = .ok (.getfield 105, 3) := by decide +kernel
theorem dX11_isEnough_10 : decode cX11_isEnough 10 = .ok (.if_icmp .ge 72, 3) := by decide +kernel
theorem dX11_isEnough_13 : decode cX11_isEnough 13 = .ok (.iconst 0, 1) := by decide +kernel
theorem dX11_isEnough_14 : decode cX11_isEnough 14 = .ok (.istore_n 3, 1) := by decide +kernel
theorem dX11_isEnough_15 : decode cX11_isEnough 15 = .ok (.iconst 0, 1) := by decide +kernel
theorem dX11_isEnough_16 : decode cX11_isEnough 16 = .ok (.istore 4, 2) := by decide +kernel
theorem dX11_isEnough_18 : decode cX11_isEnough 18 = .ok (.iload 4, 2) := by decide +kernel
theorem dX11_isEnough_20 : decode cX11_isEnough 20 = .ok (.bipush 8, 2) := by decide +kernel
theorem dX11_isEnough_22 : decode cX11_isEnough 22 = .ok (.if_icmp .ge 48, 3) := by decide +kernel
theorem dX11_isEnough_25 : decode cX11_isEnough 25 = .ok (.iload_n 3, 1) := by decide +kernel
theorem dX11_isEnough_26 : decode cX11_isEnough 26 = .ok (.ifCond .ne 44, 3) := by decide +kernel
theorem dX11_isEnough_29 : decode cX11_isEnough 29 = .ok (.iload_n 1, 1) := by decide +kernel
theorem dX11_isEnough_30 : decode cX11_isEnough 30 = .ok (.iload 4, 2) := by decide +kernel
theorem dX11_isEnough_32 : decode cX11_isEnough 32 = .ok (.ishr, 1) := by decide +kernel
theorem dX11_isEnough_33 : decode cX11_isEnough 33 = .ok (.iconst 1, 1) := by decide +kernel
theorem dX11_isEnough_34 : decode cX11_isEnough 34 = .ok (.iand, 1) := by decide +kernel
theorem dX11_isEnough_35 : decode cX11_isEnough 35 = .ok (.iconst 1, 1) := by decide +kernel
theorem dX11_isEnough_36 : decode cX11_isEnough 36 = .ok (.if_icmp .ne 26, 3) := by decide +kernel
theorem dX11_isEnough_39 : decode cX11_isEnough 39 = .ok (.aload_n 0, 1) := by decide +kernel
theorem dX11_isEnough_40 : decode cX11_isEnough 40 = .ok (.iload_n 2, 1) := by decide +kernel
theorem dX11_isEnough_41 : decode cX11_isEnough 41 = .ok (.iload 4, 2) := by decide +kernel
theorem dX11_isEnough_43 : decode cX11_isEnough 43 = .ok (.invokevirtual 248, 3) := by decide +kernel
theorem dX11_isEnough_46 : decode cX11_isEnough 46 = .ok (.aload_n 0, 1) := by decide +kernel
theorem dX11_isEnough_47 : decode cX11_isEnough 47 = .ok (.getfield 30, 3) := by decide +kernel
theorem dX11_isEnough_50 : decode cX11_isEnough 50 = .ok (.getfield 113, 3) := by decide +kernel
theorem dX11_isEnough_53 : decode cX11_isEnough 53 = .ok (.iconst 2, 1) := by decide +kernel
theorem dX11_isEnough_54 : decode cX11_isEnough 54 = .ok (.iaload, 1) := by decide +kernel
theorem dX11_isEnough_55 : decode cX11_isEnough 55 = .ok (.if_icmp .gt 7, 3) := by decide +kernel
theorem dX11_isEnough_58 : decode cX11_isEnough 58 = .ok (.iconst 1, 1) := by decide +kernel
theorem dX11_isEnough_59 : decode cX11_isEnough 59 = .ok (.goto 4, 3) := by decide +kernel
theorem dX11_isEnough_62 : decode cX11_isEnough 62 = .ok (.iconst 0, 1) := by decide +kernel
theorem dX11_isEnough_63 : decode cX11_isEnough 63 = .ok (.istore_n 3, 1) := by decide +kernel
theorem dX11_isEnough_64 : decode cX11_isEnough 64 = .ok (.iinc 4 1, 3) := by decide +kernel
theorem dX11_isEnough_67 : decode cX11_isEnough 67 = .ok (.goto (-49), 3) := by decide +kernel
theorem dX11_isEnough_70 : decode cX11_isEnough 70 = .ok (.iload_n 3, 1) := by decide +kernel
theorem dX11_isEnough_71 : decode cX11_isEnough 71 = .ok (.ifCond .ne 5, 3) := by decide +kernel
theorem dX11_isEnough_74 : decode cX11_isEnough 74 = .ok (.iconst 0, 1) := by decide +kernel
theorem dX11_isEnough_75 : decode cX11_isEnough 75 = .ok (.ireturn, 1) := by decide +kernel
theorem dX11_isEnough_76 : decode cX11_isEnough 76 = .ok (.iinc 2 1, 3) := by decide +kernel
theorem dX11_isEnough_79 : decode cX11_isEnough 79 = .ok (.goto (-77), 3) := by decide +kernel
theorem dX11_isEnough_82 : decode cX11_isEnough 82 = .ok (.iconst 1, 1) := by decide +kernel
theorem dX11_isEnough_83 : decode cX11_isEnough 83 = .ok (.ireturn, 1) := by decide +kernel
set_option maxRecDepth 20000 in
theorem ggX11_fillFars_X1_life : GoodIn wsX11_fillFars wsX1_life := goodIn_r _ [7, 8, 9, 10, 11, 12, 13, 14, 15, 16, 163, 164, 165, 166, 167, 168, 169, 170] (by decide +kernel) (by decide +kernel)
