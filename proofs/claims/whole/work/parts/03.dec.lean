theorem dX0_init_0 : decode cX0_init 0 = .ok (.aload_n 0, 1) := by decide +kernel
theorem dX0_init_1 : decode cX0_init 1 = .ok (.invokespecial 1, 3) := by decide +kernel
theorem dX0_init_4 : decode cX0_init 4 = .ok (.return_, 1) := by decide +kernel
theorem dX0_moves_0 : decode cX0_moves 0 = .ok (.iload_n 1, 1) := by decide +kernel
theorem dX0_moves_1 : decode cX0_moves 1 = .ok (.ireturn, 1) := by decide +kernel
theorem dX0_ends_0 : decode cX0_ends 0 = .ok (.bipush 21, 2) := by decide +kernel
theorem dX0_ends_2 : decode cX0_ends 2 = .ok (.ireturn, 1) := by decide +kernel
set_option maxRecDepth 20000 in
theorem ggX0_kicks_X4_runs : GoodIn wsX0_kicks wsX4_runs := goodIn_r _ [6, 7, 8, 9, 10, 11, 12, 13, 14] (by decide +kernel) (by decide +kernel)
set_option maxRecDepth 20000 in
theorem gX0_kicks_X4_runs : GoodIn wsX0_kicks (wsV RX0 7 RX4 yX4_runs wsX4_runs) := goodIn_app (goodIn_of _ (by decide +kernel)) ggX0_kicks_X4_runs
theorem dX0_kicks_0 : decode cX0_kicks 0 = .ok (.aload_n 2, 1) := by decide +kernel
theorem dX0_kicks_1 : decode cX0_kicks 1 = .ok (.bipush 10, 2) := by decide +kernel
theorem dX0_kicks_3 : decode cX0_kicks 3 = .ok (.invokevirtual 7, 3) := by decide +kernel
theorem dX0_kicks_6 : decode cX0_kicks 6 = .ok (.iload_n 1, 1) := by decide +kernel
theorem dX0_kicks_7 : decode cX0_kicks 7 = .ok (.bipush 9, 2) := by decide +kernel
theorem dX0_kicks_9 : decode cX0_kicks 9 = .ok (.imul, 1) := by decide +kernel
theorem dX0_kicks_10 : decode cX0_kicks 10 = .ok (.aload_n 2, 1) := by decide +kernel
theorem dX0_kicks_11 : decode cX0_kicks 11 = .ok (.getfield 13, 3) := by decide +kernel
theorem dX0_kicks_14 : decode cX0_kicks 14 = .ok (.isub, 1) := by decide +kernel
theorem dX0_kicks_15 : decode cX0_kicks 15 = .ok (.ireturn, 1) := by decide +kernel
set_option maxRecDepth 20000 in
theorem ggX0_prays_X4_runs : GoodIn wsX0_prays wsX4_runs := goodIn_r _ [6, 7, 8, 9, 42, 43, 44, 45, 46] (by decide +kernel) (by decide +kernel)
set_option maxRecDepth 20000 in
theorem gX0_prays_X4_runs : GoodIn wsX0_prays (wsV RX0 7 RX4 yX4_runs wsX4_runs) := goodIn_app (goodIn_of _ (by decide +kernel)) ggX0_prays_X4_runs
set_option maxRecDepth 20000 in
theorem ggX0_prays_X0_kicks : GoodIn wsX0_prays wsX0_kicks := goodIn_r _ [14, 15, 2, 3, 4, 5, 6, 7, 8, 9, 42, 43, 44, 45, 46] (by decide +kernel) (by decide +kernel)
set_option maxRecDepth 20000 in
theorem gX0_prays_X0_kicks : GoodIn wsX0_prays (wsV RX0 17 RX0 yX0_kicks wsX0_kicks) := goodIn_app (goodIn_of _ (by decide +kernel)) ggX0_prays_X0_kicks
set_option maxRecDepth 20000 in
theorem ggX0_prays_X3_kicks : GoodIn wsX0_prays wsX3_kicks := goodIn_r _ [22, 23, 24, 3, 4, 5, 6, 7, 8, 9, 42, 43, 44, 45, 46] (by decide +kernel) (by decide +kernel)
set_option maxRecDepth 20000 in
theorem gX0_prays_X3_kicks_u17X3 : GoodIn wsX0_prays (va_wsO RX0 17 RX3 "BoundGodmothers$Child" ⟨"BoundGodmothers$Child", "kicks", "(ILBoundGodmothers$Deed;)I"⟩ yX3_kicks wsX3_kicks) := goodIn_app (goodIn_of _ (by decide +kernel)) ggX0_prays_X3_kicks
set_option maxRecDepth 20000 in
theorem gX0_prays_X0_kicks_u17X5 : GoodIn wsX0_prays (va_wsU RX0 17 RX5 "BoundGodmothers$Child" ⟨"BoundGodmothers$Child", "kicks", "(ILBoundGodmothers$Deed;)I"⟩ yX0_kicks wsX0_kicks) := goodIn_app (goodIn_of _ (by decide +kernel)) ggX0_prays_X0_kicks
set_option maxRecDepth 20000 in
theorem ggX0_prays_X7_kicks : GoodIn wsX0_prays wsX7_kicks := goodIn_r _ [29, 30, 3, 4, 5, 6, 7, 8, 9, 31, 32, 33, 34, 35, 36, 37, 38, 17, 39, 11, 13, 14, 15, 2, 42, 43, 44, 45, 46] (by decide +kernel) (by decide +kernel)
set_option maxRecDepth 20000 in
theorem gX0_prays_X7_kicks_u17X7 : GoodIn wsX0_prays (va_wsO RX0 17 RX7 "BoundGodmothers$Child" ⟨"BoundGodmothers$Child", "kicks", "(ILBoundGodmothers$Deed;)I"⟩ yX7_kicks wsX7_kicks) := goodIn_app (goodIn_of _ (by decide +kernel)) ggX0_prays_X7_kicks
set_option maxRecDepth 20000 in
theorem gX0_prays_X0_kicks_u17X9 : GoodIn wsX0_prays (va_wsU RX0 17 RX9 "BoundGodmothers$Child" ⟨"BoundGodmothers$Child", "kicks", "(ILBoundGodmothers$Deed;)I"⟩ yX0_kicks wsX0_kicks) := goodIn_app (goodIn_of _ (by decide +kernel)) ggX0_prays_X0_kicks
set_option maxRecDepth 20000 in
theorem ggX0_prays_X10_kicks : GoodIn wsX0_prays wsX10_kicks := goodIn_r _ [36, 37, 3, 4, 5, 6, 7, 8, 9, 38, 17, 39, 11, 13, 14, 15, 2, 42, 43, 44, 45, 46] (by decide +kernel) (by decide +kernel)
set_option maxRecDepth 20000 in
theorem gX0_prays_X10_kicks_u17X10 : GoodIn wsX0_prays (va_wsO RX0 17 RX10 "BoundGodmothers$Child" ⟨"BoundGodmothers$Child", "kicks", "(ILBoundGodmothers$Deed;)I"⟩ yX10_kicks wsX10_kicks) := goodIn_app (goodIn_of _ (by decide +kernel)) ggX0_prays_X10_kicks
theorem dX0_prays_0 : decode cX0_prays 0 = .ok (.aload_n 2, 1) := by decide +kernel
theorem dX0_prays_1 : decode cX0_prays 1 = .ok (.bipush 11, 2) := by decide +kernel
theorem dX0_prays_3 : decode cX0_prays 3 = .ok (.invokevirtual 7, 3) := by decide +kernel
theorem dX0_prays_6 : decode cX0_prays 6 = .ok (.aload_n 0, 1) := by decide +kernel
theorem dX0_prays_7 : decode cX0_prays 7 = .ok (.iload_n 1, 1) := by decide +kernel
theorem dX0_prays_8 : decode cX0_prays 8 = .ok (.aload_n 2, 1) := by decide +kernel
theorem dX0_prays_9 : decode cX0_prays 9 = .ok (.invokevirtual 17, 3) := by decide +kernel
theorem dX0_prays_12 : decode cX0_prays 12 = .ok (.aload_n 2, 1) := by decide +kernel
theorem dX0_prays_13 : decode cX0_prays 13 = .ok (.getfield 23, 3) := by decide +kernel
theorem dX0_prays_16 : decode cX0_prays 16 = .ok (.iconst 2, 1) := by decide +kernel
theorem dX0_prays_17 : decode cX0_prays 17 = .ok (.imul, 1) := by decide +kernel
theorem dX0_prays_18 : decode cX0_prays 18 = .ok (.isub, 1) := by decide +kernel
theorem dX0_prays_19 : decode cX0_prays 19 = .ok (.ireturn, 1) := by decide +kernel
set_option maxRecDepth 20000 in
theorem ggX0_parts_X4_runs : GoodIn wsX0_parts wsX4_runs := goodIn_r _ [5, 6, 7, 8, 15, 16, 17, 18, 19] (by decide +kernel) (by decide +kernel)
set_option maxRecDepth 20000 in
theorem gX0_parts_X4_runs : GoodIn wsX0_parts (wsV RX0 7 RX4 yX4_runs wsX4_runs) := goodIn_app (goodIn_of _ (by decide +kernel)) ggX0_parts_X4_runs
set_option maxRecDepth 20000 in
theorem ggX0_parts_X4_parted : GoodIn wsX0_parts wsX4_parted := goodIn_r _ [12, 13, 14, 6, 15, 16, 17, 18, 19] (by decide +kernel) (by decide +kernel)
set_option maxRecDepth 20000 in
theorem gX0_parts_X4_parted : GoodIn wsX0_parts (wsV RX0 26 RX4 yX4_parted wsX4_parted) := goodIn_app (goodIn_of _ (by decide +kernel)) ggX0_parts_X4_parted
theorem dX0_parts_0 : decode cX0_parts 0 = .ok (.aload_n 2, 1) := by decide +kernel
theorem dX0_parts_1 : decode cX0_parts 1 = .ok (.bipush 12, 2) := by decide +kernel
theorem dX0_parts_3 : decode cX0_parts 3 = .ok (.invokevirtual 7, 3) := by decide +kernel
theorem dX0_parts_6 : decode cX0_parts 6 = .ok (.aload_n 2, 1) := by decide +kernel
theorem dX0_parts_7 : decode cX0_parts 7 = .ok (.iload_n 1, 1) := by decide +kernel
theorem dX0_parts_8 : decode cX0_parts 8 = .ok (.invokevirtual 26, 3) := by decide +kernel
theorem dX0_parts_11 : decode cX0_parts 11 = .ok (.ireturn, 1) := by decide +kernel
set_option maxRecDepth 20000 in
theorem ggX0_grows_X4_runs : GoodIn wsX0_grows wsX4_runs := goodIn_r _ [5, 6, 7, 8, 65, 66, 67, 68, 69] (by decide +kernel) (by decide +kernel)
set_option maxRecDepth 20000 in
theorem gX0_grows_X4_runs : GoodIn wsX0_grows (wsV RX0 7 RX4 yX4_runs wsX4_runs) := goodIn_app (goodIn_of _ (by decide +kernel)) ggX0_grows_X4_runs
set_option maxRecDepth 20000 in
theorem ggX0_grows_X0_prays : GoodIn wsX0_grows wsX0_prays := goodIn_r _ [13, 14, 1, 2, 3, 4, 5, 6, 7, 8, 15, 16, 17, 12, 18, 19, 20, 21, 22, 23, 24, 25, 26, 27, 28, 29, 30, 31, 32, 33, 34, 35, 36, 37, 38, 39, 40, 41, 42, 43, 44, 45, 65, 66, 67, 68, 69] (by decide +kernel) (by decide +kernel)
set_option maxRecDepth 20000 in
theorem gX0_grows_X0_prays : GoodIn wsX0_grows (wsV RX0 30 RX0 yX0_prays wsX0_prays) := goodIn_app (goodIn_of _ (by decide +kernel)) ggX0_grows_X0_prays
set_option maxRecDepth 20000 in
theorem ggX0_grows_X5_prays : GoodIn wsX0_grows wsX5_prays := goodIn_r _ [52, 53, 2, 3, 4, 5, 6, 7, 8, 54, 47, 55, 10, 12, 13, 14, 1, 15, 16, 17, 18, 19, 20, 21, 22, 23, 24, 25, 26, 27, 28, 29, 30, 31, 32, 33, 34, 35, 36, 37, 38, 39, 40, 41, 42, 43, 44, 45, 65, 66, 67, 68, 69] (by decide +kernel) (by decide +kernel)
set_option maxRecDepth 20000 in
theorem gX0_grows_X5_prays_u30X3 : GoodIn wsX0_grows (va_wsO RX0 30 RX3 "BoundGodmothers$Child" ⟨"BoundGodmothers$Child", "prays", "(ILBoundGodmothers$Deed;)I"⟩ yX5_prays wsX5_prays) := goodIn_app (goodIn_of _ (by decide +kernel)) ggX0_grows_X5_prays
set_option maxRecDepth 20000 in
theorem gX0_grows_X5_prays_u30X5 : GoodIn wsX0_grows (va_wsO RX0 30 RX5 "BoundGodmothers$Child" ⟨"BoundGodmothers$Child", "prays", "(ILBoundGodmothers$Deed;)I"⟩ yX5_prays wsX5_prays) := goodIn_app (goodIn_of _ (by decide +kernel)) ggX0_grows_X5_prays
set_option maxRecDepth 20000 in
theorem ggX0_grows_X7_prays : GoodIn wsX0_grows wsX7_prays := goodIn_r _ [59, 60, 34, 2, 3, 4, 5, 6, 7, 8, 61, 31, 62, 32, 33, 35, 36, 37, 38, 39, 40, 41, 42, 21, 43, 16, 12, 18, 19, 1, 65, 66, 67, 68, 69] (by decide +kernel) (by decide +kernel)
set_option maxRecDepth 20000 in
theorem gX0_grows_X7_prays_u30X7 : GoodIn wsX0_grows (va_wsO RX0 30 RX7 "BoundGodmothers$Child" ⟨"BoundGodmothers$Child", "prays", "(ILBoundGodmothers$Deed;)I"⟩ yX7_prays wsX7_prays) := goodIn_app (goodIn_of _ (by decide +kernel)) ggX0_grows_X7_prays
set_option maxRecDepth 20000 in
theorem gX0_grows_X0_prays_u30X9 : GoodIn wsX0_grows (va_wsU RX0 30 RX9 "BoundGodmothers$Child" ⟨"BoundGodmothers$Child", "prays", "(ILBoundGodmothers$Deed;)I"⟩ yX0_prays wsX0_prays) := goodIn_app (goodIn_of _ (by decide +kernel)) ggX0_grows_X0_prays
set_option maxRecDepth 20000 in
theorem gX0_grows_X0_prays_u30X10 : GoodIn wsX0_grows (va_wsU RX0 30 RX10 "BoundGodmothers$Child" ⟨"BoundGodmothers$Child", "prays", "(ILBoundGodmothers$Deed;)I"⟩ yX0_prays wsX0_prays) := goodIn_app (goodIn_of _ (by decide +kernel)) ggX0_grows_X0_prays
theorem dX0_grows_0 : decode cX0_grows 0 = .ok (.aload_n 2, 1) := by decide +kernel
theorem dX0_grows_1 : decode cX0_grows 1 = .ok (.bipush 13, 2) := by decide +kernel
theorem dX0_grows_3 : decode cX0_grows 3 = .ok (.invokevirtual 7, 3) := by decide +kernel
theorem dX0_grows_6 : decode cX0_grows 6 = .ok (.aload_n 0, 1) := by decide +kernel
theorem dX0_grows_7 : decode cX0_grows 7 = .ok (.iload_n 1, 1) := by decide +kernel
theorem dX0_grows_8 : decode cX0_grows 8 = .ok (.aload_n 2, 1) := by decide +kernel
theorem dX0_grows_9 : decode cX0_grows 9 = .ok (.invokevirtual 30, 3) := by decide +kernel
theorem dX0_grows_12 : decode cX0_grows 12 = .ok (.bipush 80, 2) := by decide +kernel
theorem dX0_grows_14 : decode cX0_grows 14 = .ok (.ixor, 1) := by decide +kernel
theorem dX0_grows_15 : decode cX0_grows 15 = .ok (.ireturn, 1) := by decide +kernel
set_option maxRecDepth 20000 in
theorem ggX1_init_X6_init : GoodIn wsX1_init wsX6_init := goodIn_r _ [15, 16, 2, 3] (by decide +kernel) (by decide +kernel)
set_option maxRecDepth 20000 in
theorem gX1_init_X6_init : GoodIn wsX1_init (wsX6_init) := ggX1_init_X6_init
set_option maxRecDepth 20000 in
theorem ggX1_init_X1_beAsAtFirst : GoodIn wsX1_init wsX1_beAsAtFirst := goodIn_r _ [21, 6, 7, 22, 23, 24, 25, 26, 27, 28, 29, 30, 31, 32] (by decide +kernel) (by decide +kernel)
set_option maxRecDepth 20000 in
theorem gX1_init_X1_beAsAtFirst : GoodIn wsX1_init (wsV RX1 29 RX1 yX1_beAsAtFirst wsX1_beAsAtFirst) := goodIn_app (goodIn_of _ (by decide +kernel)) ggX1_init_X1_beAsAtFirst
theorem dX1_init_0 : decode cX1_init 0 = .ok (.aload_n 0, 1) := by decide +kernel
theorem dX1_init_1 : decode cX1_init 1 = .ok (.invokespecial 3, 3) := by decide +kernel
theorem dX1_init_4 : decode cX1_init 4 = .ok (.aload_n 0, 1) := by decide +kernel
theorem dX1_init_5 : decode cX1_init 5 = .ok (.aload_n 1, 1) := by decide +kernel
theorem dX1_init_6 : decode cX1_init 6 = .ok (.putfield 9, 3) := by decide +kernel
theorem dX1_init_9 : decode cX1_init 9 = .ok (.aload_n 0, 1) := by decide +kernel
theorem dX1_init_10 : decode cX1_init 10 = .ok (.iconst 4, 1) := by decide +kernel
theorem dX1_init_11 : decode cX1_init 11 = .ok (.newarray .int, 2) := by decide +kernel
theorem dX1_init_13 : decode cX1_init 13 = .ok (.putfield 15, 3) := by decide +kernel
theorem dX1_init_16 : decode cX1_init 16 = .ok (.aload_n 0, 1) := by decide +kernel
theorem dX1_init_17 : decode cX1_init 17 = .ok (.bipush 8, 2) := by decide +kernel
theorem dX1_init_19 : decode cX1_init 19 = .ok (.newarray .int, 2) := by decide +kernel
theorem dX1_init_21 : decode cX1_init 21 = .ok (.putfield 19, 3) := by decide +kernel
theorem dX1_init_24 : decode cX1_init 24 = .ok (.aload_n 0, 1) := by decide +kernel
theorem dX1_init_25 : decode cX1_init 25 = .ok (.bipush 8, 2) := by decide +kernel
theorem dX1_init_27 : decode cX1_init 27 = .ok (.anewarray 22, 3) := by decide +kernel
theorem dX1_init_30 : decode cX1_init 30 = .ok (.putfield 24, 3) := by decide +kernel
theorem dX1_init_33 : decode cX1_init 33 = .ok (.iconst 0, 1) := by decide +kernel
theorem dX1_init_34 : decode cX1_init 34 = .ok (.istore_n 2, 1) := by decide +kernel
theorem dX1_init_35 : decode cX1_init 35 = .ok (.iload_n 2, 1) := by decide +kernel
theorem dX1_init_36 : decode cX1_init 36 = .ok (.bipush 8, 2) := by decide +kernel
theorem dX1_init_38 : decode cX1_init 38 = .ok (.if_icmp .ge 22, 3) := by decide +kernel
theorem dX1_init_41 : decode cX1_init 41 = .ok (.aload_n 0, 1) := by decide +kernel
theorem dX1_init_42 : decode cX1_init 42 = .ok (.getfield 24, 3) := by decide +kernel
theorem dX1_init_45 : decode cX1_init 45 = .ok (.iload_n 2, 1) := by decide +kernel
theorem dX1_init_46 : decode cX1_init 46 = .ok (.new 22, 3) := by decide +kernel
theorem dX1_init_49 : decode cX1_init 49 = .ok (.dup, 1) := by decide +kernel
theorem dX1_init_50 : decode cX1_init 50 = .ok (.invokespecial 28, 3) := by decide +kernel
theorem dX1_init_53 : decode cX1_init 53 = .ok (.aastore, 1) := by decide +kernel
theorem dX1_init_54 : decode cX1_init 54 = .ok (.iinc 2 1, 3) := by decide +kernel
theorem dX1_init_57 : decode cX1_init 57 = .ok (.goto (-22), 3) := by decide +kernel
theorem dX1_init_60 : decode cX1_init 60 = .ok (.aload_n 0, 1) := by decide +kernel
theorem dX1_init_61 : decode cX1_init 61 = .ok (.invokevirtual 29, 3) := by decide +kernel
theorem dX1_init_64 : decode cX1_init 64 = .ok (.aload_n 0, 1) := by decide +kernel
theorem dX1_init_65 : decode cX1_init 65 = .ok (.iconst 1, 1) := by decide +kernel
theorem dX1_init_66 : decode cX1_init 66 = .ok (.putfield 32, 3) := by decide +kernel
theorem dX1_init_69 : decode cX1_init 69 = .ok (.return_, 1) := by decide +kernel
theorem dX1_beAsAtFirst_0 : decode cX1_beAsAtFirst 0 = .ok (.iconst 0, 1) := by decide +kernel
theorem dX1_beAsAtFirst_1 : decode cX1_beAsAtFirst 1 = .ok (.istore_n 1, 1) := by decide +kernel
theorem dX1_beAsAtFirst_2 : decode cX1_beAsAtFirst 2 = .ok (.iload_n 1, 1) := by decide +kernel
theorem dX1_beAsAtFirst_3 : decode cX1_beAsAtFirst 3 = .ok (.iconst 4, 1) := by decide +kernel
theorem dX1_beAsAtFirst_4 : decode cX1_beAsAtFirst 4 = .ok (.if_icmp .ge 20, 3) := by decide +kernel
theorem dX1_beAsAtFirst_7 : decode cX1_beAsAtFirst 7 = .ok (.aload_n 0, 1) := by decide +kernel
theorem dX1_beAsAtFirst_8 : decode cX1_beAsAtFirst 8 = .ok (.getfield 15, 3) := by decide +kernel
theorem dX1_beAsAtFirst_11 : decode cX1_beAsAtFirst 11 = .ok (.iload_n 1, 1) := by decide +kernel
theorem dX1_beAsAtFirst_12 : decode cX1_beAsAtFirst 12 = .ok (.getstatic 36, 3) := by decide +kernel
theorem dX1_beAsAtFirst_15 : decode cX1_beAsAtFirst 15 = .ok (.iload_n 1, 1) := by decide +kernel
theorem dX1_beAsAtFirst_16 : decode cX1_beAsAtFirst 16 = .ok (.iaload, 1) := by decide +kernel
theorem dX1_beAsAtFirst_17 : decode cX1_beAsAtFirst 17 = .ok (.iastore, 1) := by decide +kernel
theorem dX1_beAsAtFirst_18 : decode cX1_beAsAtFirst 18 = .ok (.iinc 1 1, 3) := by decide +kernel
theorem dX1_beAsAtFirst_21 : decode cX1_beAsAtFirst 21 = .ok (.goto (-19), 3) := by decide +kernel
theorem dX1_beAsAtFirst_24 : decode cX1_beAsAtFirst 24 = .ok (.iconst 0, 1) := by decide +kernel
theorem dX1_beAsAtFirst_25 : decode cX1_beAsAtFirst 25 = .ok (.istore_n 1, 1) := by decide +kernel
theorem dX1_beAsAtFirst_26 : decode cX1_beAsAtFirst 26 = .ok (.iload_n 1, 1) := by decide +kernel
theorem dX1_beAsAtFirst_27 : decode cX1_beAsAtFirst 27 = .ok (.bipush 8, 2) := by decide +kernel
theorem dX1_beAsAtFirst_29 : decode cX1_beAsAtFirst 29 = .ok (.if_icmp .ge 17, 3) := by decide +kernel
theorem dX1_beAsAtFirst_32 : decode cX1_beAsAtFirst 32 = .ok (.aload_n 0, 1) := by decide +kernel
theorem dX1_beAsAtFirst_33 : decode cX1_beAsAtFirst 33 = .ok (.getfield 19, 3) := by decide +kernel
theorem dX1_beAsAtFirst_36 : decode cX1_beAsAtFirst 36 = .ok (.iload_n 1, 1) := by decide +kernel
theorem dX1_beAsAtFirst_37 : decode cX1_beAsAtFirst 37 = .ok (.bipush 50, 2) := by decide +kernel
theorem dX1_beAsAtFirst_39 : decode cX1_beAsAtFirst 39 = .ok (.iastore, 1) := by decide +kernel
theorem dX1_beAsAtFirst_40 : decode cX1_beAsAtFirst 40 = .ok (.iinc 1 1, 3) := by decide +kernel
theorem dX1_beAsAtFirst_43 : decode cX1_beAsAtFirst 43 = .ok (.goto (-17), 3) := by decide +kernel
theorem dX1_beAsAtFirst_46 : decode cX1_beAsAtFirst 46 = .ok (.aload_n 0, 1) := by decide +kernel
theorem dX1_beAsAtFirst_47 : decode cX1_beAsAtFirst 47 = .ok (.iconst 0, 1) := by decide +kernel
theorem dX1_beAsAtFirst_48 : decode cX1_beAsAtFirst 48 = .ok (.putfield 39, 3) := by decide +kernel
theorem dX1_beAsAtFirst_51 : decode cX1_beAsAtFirst 51 = .ok (.aload_n 0, 1) := by decide +kernel
theorem dX1_beAsAtFirst_52 : decode cX1_beAsAtFirst 52 = .ok (.iconst 0, 1) := by decide +kernel
theorem dX1_beAsAtFirst_53 : decode cX1_beAsAtFirst 53 = .ok (.putfield 42, 3) := by decide +kernel
theorem dX1_beAsAtFirst_56 : decode cX1_beAsAtFirst 56 = .ok (.aload_n 0, 1) := by decide +kernel
theorem dX1_beAsAtFirst_57 : decode cX1_beAsAtFirst 57 = .ok (.iconst 0, 1) := by decide +kernel
theorem dX1_beAsAtFirst_58 : decode cX1_beAsAtFirst 58 = .ok (.putfield 45, 3) := by decide +kernel
theorem dX1_beAsAtFirst_61 : decode cX1_beAsAtFirst 61 = .ok (.return_, 1) := by decide +kernel
set_option maxRecDepth 20000 in
theorem ggX1_become_X6_become : GoodIn wsX1_become wsX6_become := goodIn_r _ [12, 13, 14, 15, 16, 17, 18, 27, 28, 29, 30, 31, 32] (by decide +kernel) (by decide +kernel)
set_option maxRecDepth 20000 in
theorem gX1_become_X6_become : GoodIn wsX1_become (wsV RX1 48 RX6 yX6_become wsX6_become) := goodIn_app (goodIn_of _ (by decide +kernel)) ggX1_become_X6_become
theorem dX1_become_0 : decode cX1_become 0 = .ok (.iconst 0, 1) := by decide +kernel
theorem dX1_become_1 : decode cX1_become 1 = .ok (.istore_n 2, 1) := by decide +kernel
theorem dX1_become_2 : decode cX1_become 2 = .ok (.iload_n 2, 1) := by decide +kernel
theorem dX1_become_3 : decode cX1_become 3 = .ok (.iconst 4, 1) := by decide +kernel
theorem dX1_become_4 : decode cX1_become 4 = .ok (.if_icmp .ge 21, 3) := by decide +kernel
theorem dX1_become_7 : decode cX1_become 7 = .ok (.aload_n 0, 1) := by decide +kernel
theorem dX1_become_8 : decode cX1_become 8 = .ok (.getfield 15, 3) := by decide +kernel
theorem dX1_become_11 : decode cX1_become 11 = .ok (.iload_n 2, 1) := by decide +kernel
theorem dX1_become_12 : decode cX1_become 12 = .ok (.aload_n 1, 1) := by decide +kernel
theorem dX1_become_13 : decode cX1_become 13 = .ok (.getfield 15, 3) := by decide +kernel
theorem dX1_become_16 : decode cX1_become 16 = .ok (.iload_n 2, 1) := by decide +kernel
theorem dX1_become_17 : decode cX1_become 17 = .ok (.iaload, 1) := by decide +kernel
theorem dX1_become_18 : decode cX1_become 18 = .ok (.iastore, 1) := by decide +kernel
theorem dX1_become_19 : decode cX1_become 19 = .ok (.iinc 2 1, 3) := by decide +kernel
theorem dX1_become_22 : decode cX1_become 22 = .ok (.goto (-20), 3) := by decide +kernel
theorem dX1_become_25 : decode cX1_become 25 = .ok (.iconst 0, 1) := by decide +kernel
theorem dX1_become_26 : decode cX1_become 26 = .ok (.istore_n 2, 1) := by decide +kernel
theorem dX1_become_27 : decode cX1_become 27 = .ok (.iload_n 2, 1) := by decide +kernel
theorem dX1_become_28 : decode cX1_become 28 = .ok (.bipush 8, 2) := by decide +kernel
theorem dX1_become_30 : decode cX1_become 30 = .ok (.if_icmp .ge 21, 3) := by decide +kernel
theorem dX1_become_33 : decode cX1_become 33 = .ok (.aload_n 0, 1) := by decide +kernel
theorem dX1_become_34 : decode cX1_become 34 = .ok (.getfield 19, 3) := by decide +kernel
theorem dX1_become_37 : decode cX1_become 37 = .ok (.iload_n 2, 1) := by decide +kernel
theorem dX1_become_38 : decode cX1_become 38 = .ok (.aload_n 1, 1) := by decide +kernel
theorem dX1_become_39 : decode cX1_become 39 = .ok (.getfield 19, 3) := by decide +kernel
theorem dX1_become_42 : decode cX1_become 42 = .ok (.iload_n 2, 1) := by decide +kernel
theorem dX1_become_43 : decode cX1_become 43 = .ok (.iaload, 1) := by decide +kernel
theorem dX1_become_44 : decode cX1_become 44 = .ok (.iastore, 1) := by decide +kernel
theorem dX1_become_45 : decode cX1_become 45 = .ok (.iinc 2 1, 3) := by decide +kernel
theorem dX1_become_48 : decode cX1_become 48 = .ok (.goto (-21), 3) := by decide +kernel
theorem dX1_become_51 : decode cX1_become 51 = .ok (.iconst 0, 1) := by decide +kernel
theorem dX1_become_52 : decode cX1_become 52 = .ok (.istore_n 2, 1) := by decide +kernel
theorem dX1_become_53 : decode cX1_become 53 = .ok (.iload_n 2, 1) := by decide +kernel
theorem dX1_become_54 : decode cX1_become 54 = .ok (.bipush 8, 2) := by decide +kernel
theorem dX1_become_56 : decode cX1_become 56 = .ok (.if_icmp .ge 24, 3) := by decide +kernel
theorem dX1_become_59 : decode cX1_become 59 = .ok (.aload_n 0, 1) := by decide +kernel
theorem dX1_become_60 : decode cX1_become 60 = .ok (.getfield 24, 3) := by decide +kernel
theorem dX1_become_63 : decode cX1_become 63 = .ok (.iload_n 2, 1) := by decide +kernel
theorem dX1_become_64 : decode cX1_become 64 = .ok (.aaload, 1) := by decide +kernel
theorem dX1_become_65 : decode cX1_become 65 = .ok (.aload_n 1, 1) := by decide +kernel
theorem dX1_become_66 : decode cX1_become 66 = .ok (.getfield 24, 3) := by decide +kernel
theorem dX1_become_69 : decode cX1_become 69 = .ok (.iload_n 2, 1) := by decide +kernel
theorem dX1_become_70 : decode cX1_become 70 = .ok (.aaload, 1) := by decide +kernel
theorem dX1_become_71 : decode cX1_become 71 = .ok (.invokevirtual 48, 3) := by decide +kernel
theorem dX1_become_74 : decode cX1_become 74 = .ok (.iinc 2 1, 3) := by decide +kernel
theorem dX1_become_77 : decode cX1_become 77 = .ok (.goto (-24), 3) := by decide +kernel
theorem dX1_become_80 : decode cX1_become 80 = .ok (.aload_n 0, 1) := by decide +kernel
theorem dX1_become_81 : decode cX1_become 81 = .ok (.aload_n 1, 1) := by decide +kernel
theorem dX1_become_82 : decode cX1_become 82 = .ok (.getfield 39, 3) := by decide +kernel
theorem dX1_become_85 : decode cX1_become 85 = .ok (.putfield 39, 3) := by decide +kernel
theorem dX1_become_88 : decode cX1_become 88 = .ok (.aload_n 0, 1) := by decide +kernel
theorem dX1_become_89 : decode cX1_become 89 = .ok (.aload_n 1, 1) := by decide +kernel
theorem dX1_become_90 : decode cX1_become 90 = .ok (.getfield 42, 3) := by decide +kernel
theorem dX1_become_93 : decode cX1_become 93 = .ok (.putfield 42, 3) := by decide +kernel
theorem dX1_become_96 : decode cX1_become 96 = .ok (.aload_n 0, 1) := by decide +kernel
theorem dX1_become_97 : decode cX1_become 97 = .ok (.aload_n 1, 1) := by decide +kernel
theorem dX1_become_98 : decode cX1_become 98 = .ok (.getfield 45, 3) := by decide +kernel
theorem dX1_become_101 : decode cX1_become 101 = .ok (.putfield 45, 3) := by decide +kernel
theorem dX1_become_104 : decode cX1_become 104 = .ok (.aload_n 0, 1) := by decide +kernel
theorem dX1_become_105 : decode cX1_become 105 = .ok (.aload_n 1, 1) := by decide +kernel
theorem dX1_become_106 : decode cX1_become 106 = .ok (.getfield 32, 3) := by decide +kernel
theorem dX1_become_109 : decode cX1_become 109 = .ok (.putfield 32, 3) := by decide +kernel
theorem dX1_become_112 : decode cX1_become 112 = .ok (.return_, 1) := by decide +kernel
set_option maxRecDepth 20000 in
theorem ggX1_life_X11_within : GoodIn wsX1_life wsX11_within := goodIn_r _ [9] (by decide +kernel) (by decide +kernel)
set_option maxRecDepth 20000 in
theorem gX1_life_X11_within_n58 : GoodIn wsX1_life (wsX11_within) := ggX1_life_X11_within
theorem dX1_life_0 : decode cX1_life 0 = .ok (.iload_n 1, 1) := by decide +kernel
theorem dX1_life_1 : decode cX1_life 1 = .ok (.aload_n 0, 1) := by decide +kernel
theorem dX1_life_2 : decode cX1_life 2 = .ok (.getfield 42, 3) := by decide +kernel
theorem dX1_life_5 : decode cX1_life 5 = .ok (.bipush 8, 2) := by decide +kernel
theorem dX1_life_7 : decode cX1_life 7 = .ok (.invokestatic 52, 3) := by decide +kernel
theorem dX1_life_10 : decode cX1_life 10 = .ok (.iconst 1, 1) := by decide +kernel
theorem dX1_life_11 : decode cX1_life 11 = .ok (.isub, 1) := by decide +kernel
theorem dX1_life_12 : decode cX1_life 12 = .ok (.invokestatic 58, 3) := by decide +kernel
theorem dX1_life_15 : decode cX1_life 15 = .ok (.ifCond .eq 12, 3) := by decide +kernel
theorem dX1_life_18 : decode cX1_life 18 = .ok (.aload_n 0, 1) := by decide +kernel
theorem dX1_life_19 : decode cX1_life 19 = .ok (.getfield 24, 3) := by decide +kernel
theorem dX1_life_22 : decode cX1_life 22 = .ok (.iload_n 1, 1) := by decide +kernel
theorem dX1_life_23 : decode cX1_life 23 = .ok (.aaload, 1) := by decide +kernel
theorem dX1_life_24 : decode cX1_life 24 = .ok (.goto 4, 3) := by decide +kernel
theorem dX1_life_27 : decode cX1_life 27 = .ok (.aconst_null, 1) := by decide +kernel
theorem dX1_life_28 : decode cX1_life 28 = .ok (.areturn, 1) := by decide +kernel
set_option maxRecDepth 20000 in
theorem ggX1_added_X1_life : GoodIn wsX1_added wsX1_life := goodIn_r _ [6, 1, 7, 8, 9, 10, 11, 12, 13, 14, 15, 16, 17, 18, 19, 20, 21, 22] (by decide +kernel) (by decide +kernel)
set_option maxRecDepth 20000 in
theorem gX1_added_X1_life : GoodIn wsX1_added (wsV RX1 62 RX1 yX1_life wsX1_life) := goodIn_app (goodIn_of _ (by decide +kernel)) ggX1_added_X1_life
theorem dX1_added_0 : decode cX1_added 0 = .ok (.aload_n 0, 1) := by decide +kernel
theorem dX1_added_1 : decode cX1_added 1 = .ok (.getfield 42, 3) := by decide +kernel
theorem dX1_added_4 : decode cX1_added 4 = .ok (.bipush 8, 2) := by decide +kernel
theorem dX1_added_6 : decode cX1_added 6 = .ok (.if_icmp .lt 5, 3) := by decide +kernel
theorem dX1_added_9 : decode cX1_added 9 = .ok (.aconst_null, 1) := by decide +kernel
theorem dX1_added_10 : decode cX1_added 10 = .ok (.areturn, 1) := by decide +kernel
theorem dX1_added_11 : decode cX1_added 11 = .ok (.aload_n 0, 1) := by decide +kernel
theorem dX1_added_12 : decode cX1_added 12 = .ok (.dup, 1) := by decide +kernel
theorem dX1_added_13 : decode cX1_added 13 = .ok (.getfield 42, 3) := by decide +kernel
theorem dX1_added_16 : decode cX1_added 16 = .ok (.iconst 1, 1) := by decide +kernel
theorem dX1_added_17 : decode cX1_added 17 = .ok (.iadd, 1) := by decide +kernel
theorem dX1_added_18 : decode cX1_added 18 = .ok (.putfield 42, 3) := by decide +kernel
theorem dX1_added_21 : decode cX1_added 21 = .ok (.aload_n 0, 1) := by decide +kernel
theorem dX1_added_22 : decode cX1_added 22 = .ok (.aload_n 0, 1) := by decide +kernel
theorem dX1_added_23 : decode cX1_added 23 = .ok (.getfield 42, 3) := by decide +kernel
theorem dX1_added_26 : decode cX1_added 26 = .ok (.iconst 1, 1) := by decide +kernel
theorem dX1_added_27 : decode cX1_added 27 = .ok (.isub, 1) := by decide +kernel
theorem dX1_added_28 : decode cX1_added 28 = .ok (.invokevirtual 62, 3) := by decide +kernel
theorem dX1_added_31 : decode cX1_added 31 = .ok (.areturn, 1) := by decide +kernel
theorem dX1_isEasy_0 : decode cX1_isEasy 0 = .ok (.aload_n 0, 1) := by decide +kernel
theorem dX1_isEasy_1 : decode cX1_isEasy 1 = .ok (.getfield 39, 3) := by decide +kernel
theorem dX1_isEasy_4 : decode cX1_isEasy 4 = .ok (.iload_n 1, 1) := by decide +kernel
theorem dX1_isEasy_5 : decode cX1_isEasy 5 = .ok (.ishr, 1) := by decide +kernel
theorem dX1_isEasy_6 : decode cX1_isEasy 6 = .ok (.iconst 1, 1) := by decide +kernel
theorem dX1_isEasy_7 : decode cX1_isEasy 7 = .ok (.iand, 1) := by decide +kernel
theorem dX1_isEasy_8 : decode cX1_isEasy 8 = .ok (.iconst 1, 1) := by decide +kernel
theorem dX1_isEasy_9 : decode cX1_isEasy 9 = .ok (.if_icmp .ne 7, 3) := by decide +kernel
theorem dX1_isEasy_12 : decode cX1_isEasy 12 = .ok (.iconst 1, 1) := by decide +kernel
theorem dX1_isEasy_13 : decode cX1_isEasy 13 = .ok (.goto 4, 3) := by decide +kernel
theorem dX1_isEasy_16 : decode cX1_isEasy 16 = .ok (.iconst 0, 1) := by decide +kernel
theorem dX1_isEasy_17 : decode cX1_isEasy 17 = .ok (.ireturn, 1) := by decide +kernel
set_option maxRecDepth 20000 in
theorem ggX1_kindOf_X11_within : GoodIn wsX1_kindOf wsX11_within := goodIn_r _ [5] (by decide +kernel) (by decide +kernel)
set_option maxRecDepth 20000 in
theorem gX1_kindOf_X11_within_n58 : GoodIn wsX1_kindOf (wsX11_within) := ggX1_kindOf_X11_within
theorem dX1_kindOf_0 : decode cX1_kindOf 0 = .ok (.aload_n 0, 1) := by decide +kernel
theorem dX1_kindOf_1 : decode cX1_kindOf 1 = .ok (.getfield 9, 3) := by decide +kernel
theorem dX1_kindOf_4 : decode cX1_kindOf 4 = .ok (.aload_n 1, 1) := by decide +kernel
theorem dX1_kindOf_5 : decode cX1_kindOf 5 = .ok (.getfield 66, 3) := by decide +kernel
theorem dX1_kindOf_8 : decode cX1_kindOf 8 = .ok (.iconst 5, 1) := by decide +kernel
theorem dX1_kindOf_9 : decode cX1_kindOf 9 = .ok (.invokestatic 58, 3) := by decide +kernel
theorem dX1_kindOf_12 : decode cX1_kindOf 12 = .ok (.ifCond .eq 10, 3) := by decide +kernel
theorem dX1_kindOf_15 : decode cX1_kindOf 15 = .ok (.aload_n 1, 1) := by decide +kernel
theorem dX1_kindOf_16 : decode cX1_kindOf 16 = .ok (.getfield 66, 3) := by decide +kernel
theorem dX1_kindOf_19 : decode cX1_kindOf 19 = .ok (.goto 4, 3) := by decide +kernel
theorem dX1_kindOf_22 : decode cX1_kindOf 22 = .ok (.iconst 0, 1) := by decide +kernel
theorem dX1_kindOf_23 : decode cX1_kindOf 23 = .ok (.aaload, 1) := by decide +kernel
theorem dX1_kindOf_24 : decode cX1_kindOf 24 = .ok (.areturn, 1) := by decide +kernel
set_option maxRecDepth 20000 in
theorem ggX1_movesOf_X1_kindOf : GoodIn wsX1_movesOf wsX1_kindOf := goodIn_r _ [7, 8, 9, 10, 11, 12, 61, 62, 63, 64, 65, 66, 67, 68, 55, 56, 57, 58, 59, 60] (by decide +kernel) (by decide +kernel)
set_option maxRecDepth 20000 in
theorem gX1_movesOf_X1_kindOf : GoodIn wsX1_movesOf (wsV RX1 69 RX1 yX1_kindOf wsX1_kindOf) := goodIn_app (goodIn_of _ (by decide +kernel)) ggX1_movesOf_X1_kindOf
set_option maxRecDepth 20000 in
theorem ggX1_movesOf_X0_moves : GoodIn wsX1_movesOf wsX0_moves := goodIn_r _ [17] (by decide +kernel) (by decide +kernel)
set_option maxRecDepth 20000 in
theorem gX1_movesOf_X0_moves : GoodIn wsX1_movesOf (wsV RX1 76 RX0 yX0_moves wsX0_moves) := goodIn_app (goodIn_of _ (by decide +kernel)) ggX1_movesOf_X0_moves
set_option maxRecDepth 20000 in
theorem ggX1_movesOf_X3_moves : GoodIn wsX1_movesOf wsX3_moves := goodIn_r _ [24, 25, 26, 27, 28, 29, 30, 31, 32, 19, 33, 14, 16, 17, 61, 62, 63, 64, 65, 66, 67, 68] (by decide +kernel) (by decide +kernel)
set_option maxRecDepth 20000 in
theorem gX1_movesOf_X3_moves_u76X3 : GoodIn wsX1_movesOf (va_wsO RX1 76 RX3 "BoundGodmothers$Child" ⟨"BoundGodmothers$Child", "moves", "(ILBoundGodmothers$Church;I)I"⟩ yX3_moves wsX3_moves) := goodIn_app (goodIn_of _ (by decide +kernel)) ggX1_movesOf_X3_moves
set_option maxRecDepth 20000 in
theorem ggX1_movesOf_X5_moves : GoodIn wsX1_movesOf wsX5_moves := goodIn_r _ [31, 32, 19, 33, 14, 16, 17] (by decide +kernel) (by decide +kernel)
set_option maxRecDepth 20000 in
theorem gX1_movesOf_X5_moves_u76X5 : GoodIn wsX1_movesOf (va_wsO RX1 76 RX5 "BoundGodmothers$Child" ⟨"BoundGodmothers$Child", "moves", "(ILBoundGodmothers$Church;I)I"⟩ yX5_moves wsX5_moves) := goodIn_app (goodIn_of _ (by decide +kernel)) ggX1_movesOf_X5_moves
set_option maxRecDepth 20000 in
theorem ggX1_movesOf_X7_moves : GoodIn wsX1_movesOf wsX7_moves := goodIn_r _ [38, 39, 40, 41, 42, 43, 44, 45, 46, 19, 47, 14, 16, 17, 61, 62, 63, 64, 65, 66, 67, 68] (by decide +kernel) (by decide +kernel)
set_option maxRecDepth 20000 in
theorem gX1_movesOf_X7_moves_u76X7 : GoodIn wsX1_movesOf (va_wsO RX1 76 RX7 "BoundGodmothers$Child" ⟨"BoundGodmothers$Child", "moves", "(ILBoundGodmothers$Church;I)I"⟩ yX7_moves wsX7_moves) := goodIn_app (goodIn_of _ (by decide +kernel)) ggX1_movesOf_X7_moves
set_option maxRecDepth 20000 in
theorem ggX1_movesOf_X9_moves : GoodIn wsX1_movesOf wsX9_moves := goodIn_r _ [51, 52, 19, 53, 14, 16, 17] (by decide +kernel) (by decide +kernel)
set_option maxRecDepth 20000 in
theorem gX1_movesOf_X9_moves_u76X9 : GoodIn wsX1_movesOf (va_wsO RX1 76 RX9 "BoundGodmothers$Child" ⟨"BoundGodmothers$Child", "moves", "(ILBoundGodmothers$Church;I)I"⟩ yX9_moves wsX9_moves) := goodIn_app (goodIn_of _ (by decide +kernel)) ggX1_movesOf_X9_moves
set_option maxRecDepth 20000 in
theorem ggX1_movesOf_X10_moves : GoodIn wsX1_movesOf wsX10_moves := goodIn_r _ [44, 45, 46, 19, 47, 14, 16, 17, 61, 62, 63, 64, 65, 66, 67, 68] (by decide +kernel) (by decide +kernel)
set_option maxRecDepth 20000 in
theorem gX1_movesOf_X10_moves_u76X10 : GoodIn wsX1_movesOf (va_wsO RX1 76 RX10 "BoundGodmothers$Child" ⟨"BoundGodmothers$Child", "moves", "(ILBoundGodmothers$Church;I)I"⟩ yX10_moves wsX10_moves) := goodIn_app (goodIn_of _ (by decide +kernel)) ggX1_movesOf_X10_moves
theorem dX1_movesOf_0 : decode cX1_movesOf 0 = .ok (.aload_n 0, 1) := by decide +kernel
theorem dX1_movesOf_1 : decode cX1_movesOf 1 = .ok (.aload_n 1, 1) := by decide +kernel
theorem dX1_movesOf_2 : decode cX1_movesOf 2 = .ok (.invokevirtual 69, 3) := by decide +kernel
theorem dX1_movesOf_5 : decode cX1_movesOf 5 = .ok (.aload_n 1, 1) := by decide +kernel
theorem dX1_movesOf_6 : decode cX1_movesOf 6 = .ok (.getfield 73, 3) := by decide +kernel
theorem dX1_movesOf_9 : decode cX1_movesOf 9 = .ok (.aload_n 0, 1) := by decide +kernel
theorem dX1_movesOf_10 : decode cX1_movesOf 10 = .ok (.aload_n 0, 1) := by decide +kernel
theorem dX1_movesOf_11 : decode cX1_movesOf 11 = .ok (.getfield 45, 3) := by decide +kernel
theorem dX1_movesOf_14 : decode cX1_movesOf 14 = .ok (.invokevirtual 76, 3) := by decide +kernel
theorem dX1_movesOf_17 : decode cX1_movesOf 17 = .ok (.ireturn, 1) := by decide +kernel
set_option maxRecDepth 20000 in
theorem ggX1_endsOf_X1_kindOf : GoodIn wsX1_endsOf wsX1_kindOf := goodIn_r _ [6, 7, 8, 9, 10, 11, 54, 55, 56, 57, 58, 59, 60, 61, 48, 49, 50, 51, 52, 53] (by decide +kernel) (by decide +kernel)
set_option maxRecDepth 20000 in
theorem gX1_endsOf_X1_kindOf : GoodIn wsX1_endsOf (wsV RX1 69 RX1 yX1_kindOf wsX1_kindOf) := goodIn_app (goodIn_of _ (by decide +kernel)) ggX1_endsOf_X1_kindOf
set_option maxRecDepth 20000 in
theorem ggX1_endsOf_X0_ends : GoodIn wsX1_endsOf wsX0_ends := goodIn_r _ [16] (by decide +kernel) (by decide +kernel)
set_option maxRecDepth 20000 in
theorem gX1_endsOf_X0_ends : GoodIn wsX1_endsOf (wsV RX1 82 RX0 yX0_ends wsX0_ends) := goodIn_app (goodIn_of _ (by decide +kernel)) ggX1_endsOf_X0_ends
set_option maxRecDepth 20000 in
theorem ggX1_endsOf_X3_ends : GoodIn wsX1_endsOf wsX3_ends := goodIn_r _ [23, 24, 25, 26, 27, 28, 29, 30, 31, 18, 32, 13, 15, 16, 54, 55, 56, 57, 58, 59, 60, 61] (by decide +kernel) (by decide +kernel)
set_option maxRecDepth 20000 in
theorem gX1_endsOf_X3_ends_u82X3 : GoodIn wsX1_endsOf (va_wsO RX1 82 RX3 "BoundGodmothers$Child" ⟨"BoundGodmothers$Child", "ends", "(ILBoundGodmothers$Church;)I"⟩ yX3_ends wsX3_ends) := goodIn_app (goodIn_of _ (by decide +kernel)) ggX1_endsOf_X3_ends
set_option maxRecDepth 20000 in
theorem ggX1_endsOf_X5_ends : GoodIn wsX1_endsOf wsX5_ends := goodIn_r _ [30, 31, 18, 32, 13, 15, 16] (by decide +kernel) (by decide +kernel)
set_option maxRecDepth 20000 in
theorem gX1_endsOf_X5_ends_u82X5 : GoodIn wsX1_endsOf (va_wsO RX1 82 RX5 "BoundGodmothers$Child" ⟨"BoundGodmothers$Child", "ends", "(ILBoundGodmothers$Church;)I"⟩ yX5_ends wsX5_ends) := goodIn_app (goodIn_of _ (by decide +kernel)) ggX1_endsOf_X5_ends
set_option maxRecDepth 20000 in
theorem ggX1_endsOf_X7_ends : GoodIn wsX1_endsOf wsX7_ends := goodIn_r _ [37, 38, 39, 40, 41, 42, 43, 44, 18, 45, 13, 15, 16] (by decide +kernel) (by decide +kernel)
set_option maxRecDepth 20000 in
theorem gX1_endsOf_X7_ends_u82X7 : GoodIn wsX1_endsOf (va_wsO RX1 82 RX7 "BoundGodmothers$Child" ⟨"BoundGodmothers$Child", "ends", "(ILBoundGodmothers$Church;)I"⟩ yX7_ends wsX7_ends) := goodIn_app (goodIn_of _ (by decide +kernel)) ggX1_endsOf_X7_ends
set_option maxRecDepth 20000 in
theorem gX1_endsOf_X0_ends_u82X9 : GoodIn wsX1_endsOf (va_wsU RX1 82 RX9 "BoundGodmothers$Child" ⟨"BoundGodmothers$Child", "ends", "(ILBoundGodmothers$Church;)I"⟩ yX0_ends wsX0_ends) := goodIn_app (goodIn_of _ (by decide +kernel)) ggX1_endsOf_X0_ends
set_option maxRecDepth 20000 in
theorem ggX1_endsOf_X10_ends : GoodIn wsX1_endsOf wsX10_ends := goodIn_r _ [43, 44, 18, 45, 13, 15, 16] (by decide +kernel) (by decide +kernel)
set_option maxRecDepth 20000 in
theorem gX1_endsOf_X10_ends_u82X10 : GoodIn wsX1_endsOf (va_wsO RX1 82 RX10 "BoundGodmothers$Child" ⟨"BoundGodmothers$Child", "ends", "(ILBoundGodmothers$Church;)I"⟩ yX10_ends wsX10_ends) := goodIn_app (goodIn_of _ (by decide +kernel)) ggX1_endsOf_X10_ends
theorem dX1_endsOf_0 : decode cX1_endsOf 0 = .ok (.aload_n 0, 1) := by decide +kernel
theorem dX1_endsOf_1 : decode cX1_endsOf 1 = .ok (.aload_n 1, 1) := by decide +kernel
theorem dX1_endsOf_2 : decode cX1_endsOf 2 = .ok (.invokevirtual 69, 3) := by decide +kernel
theorem dX1_endsOf_5 : decode cX1_endsOf 5 = .ok (.aload_n 1, 1) := by decide +kernel
theorem dX1_endsOf_6 : decode cX1_endsOf 6 = .ok (.getfield 73, 3) := by decide +kernel
theorem dX1_endsOf_9 : decode cX1_endsOf 9 = .ok (.aload_n 0, 1) := by decide +kernel
theorem dX1_endsOf_10 : decode cX1_endsOf 10 = .ok (.invokevirtual 82, 3) := by decide +kernel
theorem dX1_endsOf_13 : decode cX1_endsOf 13 = .ok (.ireturn, 1) := by decide +kernel
set_option maxRecDepth 20000 in
theorem ggX1_yearsLeft_X1_life : GoodIn wsX1_yearsLeft wsX1_life := goodIn_r _ [10, 11, 12, 13, 4, 14, 15, 16, 17, 18, 72, 73, 74, 75, 76, 77, 78, 79] (by decide +kernel) (by decide +kernel)
set_option maxRecDepth 20000 in
theorem gX1_yearsLeft_X1_life : GoodIn wsX1_yearsLeft (wsV RX1 62 RX1 yX1_life wsX1_life) := goodIn_app (goodIn_of _ (by decide +kernel)) ggX1_yearsLeft_X1_life
set_option maxRecDepth 20000 in
theorem ggX1_yearsLeft_X1_endsOf : GoodIn wsX1_yearsLeft wsX1_endsOf := goodIn_r _ [22, 23, 24, 25, 26, 9, 27, 28, 29, 16, 17, 18, 30, 31, 32, 33, 34, 35, 36, 37, 38, 39, 40, 41, 42, 43, 44, 45, 46, 47, 48, 49, 50, 51, 52, 53, 54, 55, 56, 57, 58, 59, 60, 61, 62, 63, 64, 65, 66, 67, 68, 69, 70, 71, 72, 73, 74, 75, 76, 77, 78, 79] (by decide +kernel) (by decide +kernel)
set_option maxRecDepth 20000 in
theorem gX1_yearsLeft_X1_endsOf : GoodIn wsX1_yearsLeft (wsV RX1 86 RX1 yX1_endsOf wsX1_endsOf) := goodIn_app (goodIn_of _ (by decide +kernel)) ggX1_yearsLeft_X1_endsOf
theorem dX1_yearsLeft_0 : decode cX1_yearsLeft 0 = .ok (.aload_n 0, 1) := by decide +kernel
theorem dX1_yearsLeft_1 : decode cX1_yearsLeft 1 = .ok (.iload_n 1, 1) := by decide +kernel
theorem dX1_yearsLeft_2 : decode cX1_yearsLeft 2 = .ok (.invokevirtual 62, 3) := by decide +kernel
theorem dX1_yearsLeft_5 : decode cX1_yearsLeft 5 = .ok (.astore_n 2, 1) := by decide +kernel
theorem dX1_yearsLeft_6 : decode cX1_yearsLeft 6 = .ok (.aload_n 2, 1) := by decide +kernel
theorem dX1_yearsLeft_7 : decode cX1_yearsLeft 7 = .ok (.ifnonnull 7, 3) := by decide +kernel
theorem dX1_yearsLeft_10 : decode cX1_yearsLeft 10 = .ok (.iconst 0, 1) := by decide +kernel
theorem dX1_yearsLeft_11 : decode cX1_yearsLeft 11 = .ok (.goto 17, 3) := by decide +kernel
theorem dX1_yearsLeft_14 : decode cX1_yearsLeft 14 = .ok (.iconst 0, 1) := by decide +kernel
theorem dX1_yearsLeft_15 : decode cX1_yearsLeft 15 = .ok (.aload_n 0, 1) := by decide +kernel
theorem dX1_yearsLeft_16 : decode cX1_yearsLeft 16 = .ok (.aload_n 2, 1) := by decide +kernel
theorem dX1_yearsLeft_17 : decode cX1_yearsLeft 17 = .ok (.invokevirtual 86, 3) := by decide +kernel
theorem dX1_yearsLeft_20 : decode cX1_yearsLeft 20 = .ok (.aload_n 2, 1) := by decide +kernel
theorem dX1_yearsLeft_21 : decode cX1_yearsLeft 21 = .ok (.getfield 90, 3) := by decide +kernel
theorem dX1_yearsLeft_24 : decode cX1_yearsLeft 24 = .ok (.isub, 1) := by decide +kernel
theorem dX1_yearsLeft_25 : decode cX1_yearsLeft 25 = .ok (.invokestatic 93, 3) := by decide +kernel
theorem dX1_yearsLeft_28 : decode cX1_yearsLeft 28 = .ok (.ireturn, 1) := by decide +kernel
set_option maxRecDepth 20000 in
theorem ggX1_passYearOf_X1_kindOf : GoodIn wsX1_passYearOf wsX1_kindOf := goodIn_r _ [13, 14, 15, 16, 17, 18, 115, 116, 117, 118, 119, 120, 121, 122, 109, 110, 111, 112, 113, 114] (by decide +kernel) (by decide +kernel)
set_option maxRecDepth 20000 in
theorem gX1_passYearOf_X1_kindOf : GoodIn wsX1_passYearOf (wsV RX1 69 RX1 yX1_kindOf wsX1_kindOf) := goodIn_app (goodIn_of _ (by decide +kernel)) ggX1_passYearOf_X1_kindOf
set_option maxRecDepth 20000 in
theorem ggX1_passYearOf_X0_ends : GoodIn wsX1_passYearOf wsX0_ends := goodIn_r _ [23] (by decide +kernel) (by decide +kernel)
set_option maxRecDepth 20000 in
theorem gX1_passYearOf_X0_ends : GoodIn wsX1_passYearOf (wsV RX1 82 RX0 yX0_ends wsX0_ends) := goodIn_app (goodIn_of _ (by decide +kernel)) ggX1_passYearOf_X0_ends
set_option maxRecDepth 20000 in
theorem ggX1_passYearOf_X3_ends : GoodIn wsX1_passYearOf wsX3_ends := goodIn_r _ [30, 31, 32, 33, 34, 35, 36, 37, 38, 25, 39, 20, 22, 23, 115, 116, 117, 118, 119, 120, 121, 122] (by decide +kernel) (by decide +kernel)
set_option maxRecDepth 20000 in
theorem gX1_passYearOf_X3_ends_u82X3 : GoodIn wsX1_passYearOf (va_wsO RX1 82 RX3 "BoundGodmothers$Child" ⟨"BoundGodmothers$Child", "ends", "(ILBoundGodmothers$Church;)I"⟩ yX3_ends wsX3_ends) := goodIn_app (goodIn_of _ (by decide +kernel)) ggX1_passYearOf_X3_ends
set_option maxRecDepth 20000 in
theorem ggX1_passYearOf_X5_ends : GoodIn wsX1_passYearOf wsX5_ends := goodIn_r _ [37, 38, 25, 39, 20, 22, 23] (by decide +kernel) (by decide +kernel)
set_option maxRecDepth 20000 in
theorem gX1_passYearOf_X5_ends_u82X5 : GoodIn wsX1_passYearOf (va_wsO RX1 82 RX5 "BoundGodmothers$Child" ⟨"BoundGodmothers$Child", "ends", "(ILBoundGodmothers$Church;)I"⟩ yX5_ends wsX5_ends) := goodIn_app (goodIn_of _ (by decide +kernel)) ggX1_passYearOf_X5_ends
set_option maxRecDepth 20000 in
theorem ggX1_passYearOf_X7_ends : GoodIn wsX1_passYearOf wsX7_ends := goodIn_r _ [44, 45, 46, 47, 48, 49, 50, 51, 25, 52, 20, 22, 23] (by decide +kernel) (by decide +kernel)
set_option maxRecDepth 20000 in
theorem gX1_passYearOf_X7_ends_u82X7 : GoodIn wsX1_passYearOf (va_wsO RX1 82 RX7 "BoundGodmothers$Child" ⟨"BoundGodmothers$Child", "ends", "(ILBoundGodmothers$Church;)I"⟩ yX7_ends wsX7_ends) := goodIn_app (goodIn_of _ (by decide +kernel)) ggX1_passYearOf_X7_ends
set_option maxRecDepth 20000 in
theorem gX1_passYearOf_X0_ends_u82X9 : GoodIn wsX1_passYearOf (va_wsU RX1 82 RX9 "BoundGodmothers$Child" ⟨"BoundGodmothers$Child", "ends", "(ILBoundGodmothers$Church;)I"⟩ yX0_ends wsX0_ends) := goodIn_app (goodIn_of _ (by decide +kernel)) ggX1_passYearOf_X0_ends
set_option maxRecDepth 20000 in
theorem ggX1_passYearOf_X10_ends : GoodIn wsX1_passYearOf wsX10_ends := goodIn_r _ [50, 51, 25, 52, 20, 22, 23] (by decide +kernel) (by decide +kernel)
set_option maxRecDepth 20000 in
theorem gX1_passYearOf_X10_ends_u82X10 : GoodIn wsX1_passYearOf (va_wsO RX1 82 RX10 "BoundGodmothers$Child" ⟨"BoundGodmothers$Child", "ends", "(ILBoundGodmothers$Church;)I"⟩ yX10_ends wsX10_ends) := goodIn_app (goodIn_of _ (by decide +kernel)) ggX1_passYearOf_X10_ends
set_option maxRecDepth 20000 in
theorem ggX1_passYearOf_X11_isGodmother : GoodIn wsX1_passYearOf wsX11_isGodmother := goodIn_r _ [56, 57, 16, 17, 18] (by decide +kernel) (by decide +kernel)
set_option maxRecDepth 20000 in
theorem gX1_passYearOf_X11_isGodmother_n99 : GoodIn wsX1_passYearOf (wsX11_isGodmother) := ggX1_passYearOf_X11_isGodmother
set_option maxRecDepth 20000 in
theorem ggX1_passYearOf_X0_moves : GoodIn wsX1_passYearOf wsX0_moves := goodIn_r _ [61] (by decide +kernel) (by decide +kernel)
set_option maxRecDepth 20000 in
theorem gX1_passYearOf_X0_moves : GoodIn wsX1_passYearOf (wsV RX1 76 RX0 yX0_moves wsX0_moves) := goodIn_app (goodIn_of _ (by decide +kernel)) ggX1_passYearOf_X0_moves
set_option maxRecDepth 20000 in
theorem ggX1_passYearOf_X3_moves : GoodIn wsX1_passYearOf wsX3_moves := goodIn_r _ [67, 31, 68, 69, 34, 70, 36, 71, 72, 63, 39, 59, 22, 61, 115, 116, 117, 118, 119, 120, 121, 122] (by decide +kernel) (by decide +kernel)
set_option maxRecDepth 20000 in
theorem gX1_passYearOf_X3_moves_u76X3 : GoodIn wsX1_passYearOf (va_wsO RX1 76 RX3 "BoundGodmothers$Child" ⟨"BoundGodmothers$Child", "moves", "(ILBoundGodmothers$Church;I)I"⟩ yX3_moves wsX3_moves) := goodIn_app (goodIn_of _ (by decide +kernel)) ggX1_passYearOf_X3_moves
set_option maxRecDepth 20000 in
theorem ggX1_passYearOf_X5_moves : GoodIn wsX1_passYearOf wsX5_moves := goodIn_r _ [71, 72, 63, 39, 59, 22, 61] (by decide +kernel) (by decide +kernel)
set_option maxRecDepth 20000 in
theorem gX1_passYearOf_X5_moves_u76X5 : GoodIn wsX1_passYearOf (va_wsO RX1 76 RX5 "BoundGodmothers$Child" ⟨"BoundGodmothers$Child", "moves", "(ILBoundGodmothers$Church;I)I"⟩ yX5_moves wsX5_moves) := goodIn_app (goodIn_of _ (by decide +kernel)) ggX1_passYearOf_X5_moves
set_option maxRecDepth 20000 in
theorem ggX1_passYearOf_X7_moves : GoodIn wsX1_passYearOf wsX7_moves := goodIn_r _ [76, 77, 78, 47, 79, 49, 80, 81, 82, 63, 52, 59, 22, 61, 115, 116, 117, 118, 119, 120, 121, 122] (by decide +kernel) (by decide +kernel)
set_option maxRecDepth 20000 in
theorem gX1_passYearOf_X7_moves_u76X7 : GoodIn wsX1_passYearOf (va_wsO RX1 76 RX7 "BoundGodmothers$Child" ⟨"BoundGodmothers$Child", "moves", "(ILBoundGodmothers$Church;I)I"⟩ yX7_moves wsX7_moves) := goodIn_app (goodIn_of _ (by decide +kernel)) ggX1_passYearOf_X7_moves
set_option maxRecDepth 20000 in
theorem ggX1_passYearOf_X9_moves : GoodIn wsX1_passYearOf wsX9_moves := goodIn_r _ [86, 87, 63, 88, 59, 22, 61] (by decide +kernel) (by decide +kernel)
set_option maxRecDepth 20000 in
theorem gX1_passYearOf_X9_moves_u76X9 : GoodIn wsX1_passYearOf (va_wsO RX1 76 RX9 "BoundGodmothers$Child" ⟨"BoundGodmothers$Child", "moves", "(ILBoundGodmothers$Church;I)I"⟩ yX9_moves wsX9_moves) := goodIn_app (goodIn_of _ (by decide +kernel)) ggX1_passYearOf_X9_moves
set_option maxRecDepth 20000 in
theorem ggX1_passYearOf_X10_moves : GoodIn wsX1_passYearOf wsX10_moves := goodIn_r _ [80, 81, 82, 63, 52, 59, 22, 61, 115, 116, 117, 118, 119, 120, 121, 122] (by decide +kernel) (by decide +kernel)
set_option maxRecDepth 20000 in
theorem gX1_passYearOf_X10_moves_u76X10 : GoodIn wsX1_passYearOf (va_wsO RX1 76 RX10 "BoundGodmothers$Child" ⟨"BoundGodmothers$Child", "moves", "(ILBoundGodmothers$Church;I)I"⟩ yX10_moves wsX10_moves) := goodIn_app (goodIn_of _ (by decide +kernel)) ggX1_passYearOf_X10_moves
set_option maxRecDepth 20000 in
theorem ggX1_passYearOf_X1_isEasy : GoodIn wsX1_passYearOf wsX1_isEasy := goodIn_r _ [93, 94, 115, 116, 117, 118, 119, 120, 121, 122] (by decide +kernel) (by decide +kernel)
set_option maxRecDepth 20000 in
theorem gX1_passYearOf_X1_isEasy : GoodIn wsX1_passYearOf (wsV RX1 103 RX1 yX1_isEasy wsX1_isEasy) := goodIn_app (goodIn_of _ (by decide +kernel)) ggX1_passYearOf_X1_isEasy
set_option maxRecDepth 20000 in
theorem ggX1_passYearOf_X6_move : GoodIn wsX1_passYearOf wsX6_move := goodIn_r _ [99, 100, 101, 6, 7, 8, 102, 103, 104, 105, 17, 106, 107, 108, 109, 110, 111, 112, 113, 114] (by decide +kernel) (by decide +kernel)
set_option maxRecDepth 20000 in
theorem gX1_passYearOf_X6_move : GoodIn wsX1_passYearOf (wsV RX1 106 RX6 yX6_move wsX6_move) := goodIn_app (goodIn_of _ (by decide +kernel)) ggX1_passYearOf_X6_move
theorem dX1_passYearOf_0 : decode cX1_passYearOf 0 = .ok (.aload_n 0, 1) := by decide +kernel
theorem dX1_passYearOf_1 : decode cX1_passYearOf 1 = .ok (.aload_n 1, 1) := by decide +kernel
theorem dX1_passYearOf_2 : decode cX1_passYearOf 2 = .ok (.invokevirtual 69, 3) := by decide +kernel
theorem dX1_passYearOf_5 : decode cX1_passYearOf 5 = .ok (.astore_n 3, 1) := by decide +kernel
theorem dX1_passYearOf_6 : decode cX1_passYearOf 6 = .ok (.aload_n 1, 1) := by decide +kernel
theorem dX1_passYearOf_7 : decode cX1_passYearOf 7 = .ok (.getfield 90, 3) := by decide +kernel
theorem dX1_passYearOf_10 : decode cX1_passYearOf 10 = .ok (.aload_n 3, 1) := by decide +kernel
theorem dX1_passYearOf_11 : decode cX1_passYearOf 11 = .ok (.aload_n 1, 1) := by decide +kernel
theorem dX1_passYearOf_12 : decode cX1_passYearOf 12 = .ok (.getfield 73, 3) := by decide +kernel
theorem dX1_passYearOf_15 : decode cX1_passYearOf 15 = .ok (.aload_n 0, 1) := by decide +kernel
theorem dX1_passYearOf_16 : decode cX1_passYearOf 16 = .ok (.invokevirtual 82, 3) := by decide +kernel
theorem dX1_passYearOf_19 : decode cX1_passYearOf 19 = .ok (.if_icmp .ge 44, 3) := by decide +kernel
theorem dX1_passYearOf_22 : decode cX1_passYearOf 22 = .ok (.aload_n 1, 1) := by decide +kernel
theorem dX1_passYearOf_23 : decode cX1_passYearOf 23 = .ok (.getfield 96, 3) := by decide +kernel
theorem dX1_passYearOf_26 : decode cX1_passYearOf 26 = .ok (.invokestatic 99, 3) := by decide +kernel
theorem dX1_passYearOf_29 : decode cX1_passYearOf 29 = .ok (.ifCond .eq 34, 3) := by decide +kernel
theorem dX1_passYearOf_32 : decode cX1_passYearOf 32 = .ok (.aload_n 1, 1) := by decide +kernel
theorem dX1_passYearOf_33 : decode cX1_passYearOf 33 = .ok (.aload_n 3, 1) := by decide +kernel
theorem dX1_passYearOf_34 : decode cX1_passYearOf 34 = .ok (.aload_n 1, 1) := by decide +kernel
theorem dX1_passYearOf_35 : decode cX1_passYearOf 35 = .ok (.getfield 73, 3) := by decide +kernel
theorem dX1_passYearOf_38 : decode cX1_passYearOf 38 = .ok (.aload_n 0, 1) := by decide +kernel
theorem dX1_passYearOf_39 : decode cX1_passYearOf 39 = .ok (.iload_n 2, 1) := by decide +kernel
theorem dX1_passYearOf_40 : decode cX1_passYearOf 40 = .ok (.invokevirtual 76, 3) := by decide +kernel
theorem dX1_passYearOf_43 : decode cX1_passYearOf 43 = .ok (.aload_n 0, 1) := by decide +kernel
theorem dX1_passYearOf_44 : decode cX1_passYearOf 44 = .ok (.getfield 19, 3) := by decide +kernel
theorem dX1_passYearOf_47 : decode cX1_passYearOf 47 = .ok (.aload_n 1, 1) := by decide +kernel
theorem dX1_passYearOf_48 : decode cX1_passYearOf 48 = .ok (.getfield 96, 3) := by decide +kernel
theorem dX1_passYearOf_51 : decode cX1_passYearOf 51 = .ok (.iaload, 1) := by decide +kernel
theorem dX1_passYearOf_52 : decode cX1_passYearOf 52 = .ok (.aload_n 0, 1) := by decide +kernel
theorem dX1_passYearOf_53 : decode cX1_passYearOf 53 = .ok (.aload_n 1, 1) := by decide +kernel
theorem dX1_passYearOf_54 : decode cX1_passYearOf 54 = .ok (.getfield 96, 3) := by decide +kernel
theorem dX1_passYearOf_57 : decode cX1_passYearOf 57 = .ok (.invokevirtual 103, 3) := by decide +kernel
theorem dX1_passYearOf_60 : decode cX1_passYearOf 60 = .ok (.invokevirtual 106, 3) := by decide +kernel
theorem dX1_passYearOf_63 : decode cX1_passYearOf 63 = .ok (.aload_n 1, 1) := by decide +kernel
theorem dX1_passYearOf_64 : decode cX1_passYearOf 64 = .ok (.bipush 99, 2) := by decide +kernel
theorem dX1_passYearOf_66 : decode cX1_passYearOf 66 = .ok (.aload_n 1, 1) := by decide +kernel
theorem dX1_passYearOf_67 : decode cX1_passYearOf 67 = .ok (.getfield 90, 3) := by decide +kernel
theorem dX1_passYearOf_70 : decode cX1_passYearOf 70 = .ok (.iconst 1, 1) := by decide +kernel
theorem dX1_passYearOf_71 : decode cX1_passYearOf 71 = .ok (.iadd, 1) := by decide +kernel
theorem dX1_passYearOf_72 : decode cX1_passYearOf 72 = .ok (.invokestatic 52, 3) := by decide +kernel
theorem dX1_passYearOf_75 : decode cX1_passYearOf 75 = .ok (.putfield 90, 3) := by decide +kernel
theorem dX1_passYearOf_78 : decode cX1_passYearOf 78 = .ok (.return_, 1) := by decide +kernel
set_option maxRecDepth 20000 in
theorem ggX1_passYear_X1_life : GoodIn wsX1_passYear wsX1_life := goodIn_r _ [7, 1, 8, 9, 10, 11, 12, 13, 14, 15, 120, 121, 122, 123, 124, 125, 126, 127] (by decide +kernel) (by decide +kernel)
set_option maxRecDepth 20000 in
theorem gX1_passYear_X1_life : GoodIn wsX1_passYear (wsV RX1 62 RX1 yX1_life wsX1_life) := goodIn_app (goodIn_of _ (by decide +kernel)) ggX1_passYear_X1_life
set_option maxRecDepth 20000 in
theorem ggX1_passYear_X1_passYearOf : GoodIn wsX1_passYear wsX1_passYearOf := goodIn_r _ [19, 20, 21, 22, 23, 8, 9, 10, 11, 24, 25, 26, 6, 27, 28, 29, 13, 14, 15, 30, 31, 32, 33, 34, 35, 36, 37, 38, 39, 40, 41, 42, 43, 44, 45, 46, 47, 48, 49, 50, 51, 52, 53, 54, 55, 56, 57, 58, 59, 60, 61, 62, 63, 64, 65, 66, 67, 68, 69, 70, 71, 72, 73, 74, 75, 76, 77, 78, 79, 80, 81, 82, 83, 84, 85, 86, 87, 88, 89, 90, 91, 92, 93, 94, 95, 96, 97, 98, 99, 100, 101, 102, 103, 104, 105, 106, 107, 108, 109, 110, 111, 112, 113, 114, 115, 116, 117, 118, 119, 128, 129, 130, 131, 132, 133, 120, 121, 122, 123, 124, 125, 126, 127] (by decide +kernel) (by decide +kernel)
set_option maxRecDepth 20000 in
theorem gX1_passYear_X1_passYearOf : GoodIn wsX1_passYear (wsV RX1 110 RX1 yX1_passYearOf wsX1_passYearOf) := goodIn_app (goodIn_of _ (by decide +kernel)) ggX1_passYear_X1_passYearOf
theorem dX1_passYear_0 : decode cX1_passYear 0 = .ok (.iconst 0, 1) := by decide +kernel
theorem dX1_passYear_1 : decode cX1_passYear 1 = .ok (.istore_n 1, 1) := by decide +kernel
theorem dX1_passYear_2 : decode cX1_passYear 2 = .ok (.iload_n 1, 1) := by decide +kernel
theorem dX1_passYear_3 : decode cX1_passYear 3 = .ok (.aload_n 0, 1) := by decide +kernel
theorem dX1_passYear_4 : decode cX1_passYear 4 = .ok (.getfield 42, 3) := by decide +kernel
theorem dX1_passYear_7 : decode cX1_passYear 7 = .ok (.if_icmp .ge 28, 3) := by decide +kernel
theorem dX1_passYear_10 : decode cX1_passYear 10 = .ok (.aload_n 0, 1) := by decide +kernel
theorem dX1_passYear_11 : decode cX1_passYear 11 = .ok (.iload_n 1, 1) := by decide +kernel
theorem dX1_passYear_12 : decode cX1_passYear 12 = .ok (.invokevirtual 62, 3) := by decide +kernel
theorem dX1_passYear_15 : decode cX1_passYear 15 = .ok (.astore_n 2, 1) := by decide +kernel
theorem dX1_passYear_16 : decode cX1_passYear 16 = .ok (.aload_n 2, 1) := by decide +kernel
theorem dX1_passYear_17 : decode cX1_passYear 17 = .ok (.ifnull 12, 3) := by decide +kernel
theorem dX1_passYear_20 : decode cX1_passYear 20 = .ok (.aload_n 0, 1) := by decide +kernel
theorem dX1_passYear_21 : decode cX1_passYear 21 = .ok (.aload_n 2, 1) := by decide +kernel
theorem dX1_passYear_22 : decode cX1_passYear 22 = .ok (.aload_n 0, 1) := by decide +kernel
theorem dX1_passYear_23 : decode cX1_passYear 23 = .ok (.getfield 45, 3) := by decide +kernel
theorem dX1_passYear_26 : decode cX1_passYear 26 = .ok (.invokevirtual 110, 3) := by decide +kernel
theorem dX1_passYear_29 : decode cX1_passYear 29 = .ok (.iinc 1 1, 3) := by decide +kernel
theorem dX1_passYear_32 : decode cX1_passYear 32 = .ok (.goto (-30), 3) := by decide +kernel
theorem dX1_passYear_35 : decode cX1_passYear 35 = .ok (.aload_n 0, 1) := by decide +kernel
theorem dX1_passYear_36 : decode cX1_passYear 36 = .ok (.dup, 1) := by decide +kernel
theorem dX1_passYear_37 : decode cX1_passYear 37 = .ok (.getfield 45, 3) := by decide +kernel
theorem dX1_passYear_40 : decode cX1_passYear 40 = .ok (.iconst 1, 1) := by decide +kernel
theorem dX1_passYear_41 : decode cX1_passYear 41 = .ok (.iadd, 1) := by decide +kernel
theorem dX1_passYear_42 : decode cX1_passYear 42 = .ok (.putfield 45, 3) := by decide +kernel
theorem dX1_passYear_45 : decode cX1_passYear 45 = .ok (.return_, 1) := by decide +kernel
theorem dX1_draw_0 : decode cX1_draw 0 = .ok (.aload_n 0, 1) := by decide +kernel
theorem dX1_draw_1 : decode cX1_draw 1 = .ok (.aload_n 0, 1) := by decide +kernel
theorem dX1_draw_2 : decode cX1_draw 2 = .ok (.getfield 32, 3) := by decide +kernel
theorem dX1_draw_5 : decode cX1_draw 5 = .ok (.ldc 114, 2) := by decide +kernel
theorem dX1_draw_7 : decode cX1_draw 7 = .ok (.imul, 1) := by decide +kernel
theorem dX1_draw_8 : decode cX1_draw 8 = .ok (.sipush 12345, 3) := by decide +kernel
theorem dX1_draw_11 : decode cX1_draw 11 = .ok (.iadd, 1) := by decide +kernel
theorem dX1_draw_12 : decode cX1_draw 12 = .ok (.putfield 32, 3) := by decide +kernel
theorem dX1_draw_15 : decode cX1_draw 15 = .ok (.aload_n 0, 1) := by decide +kernel
theorem dX1_draw_16 : decode cX1_draw 16 = .ok (.getfield 32, 3) := by decide +kernel
theorem dX1_draw_19 : decode cX1_draw 19 = .ok (.bipush 16, 2) := by decide +kernel
theorem dX1_draw_21 : decode cX1_draw 21 = .ok (.iushr, 1) := by decide +kernel
theorem dX1_draw_22 : decode cX1_draw 22 = .ok (.ireturn, 1) := by decide +kernel
set_option maxRecDepth 20000 in
theorem ggX1_drawSlip_X1_draw : GoodIn wsX1_drawSlip wsX1_draw := goodIn_r _ [7, 8, 9, 10, 11, 12, 13, 14, 15, 16, 17] (by decide +kernel) (by decide +kernel)
set_option maxRecDepth 20000 in
theorem gX1_drawSlip_X1_draw : GoodIn wsX1_drawSlip (wsV RX1 115 RX1 yX1_draw wsX1_draw) := goodIn_app (goodIn_of _ (by decide +kernel)) ggX1_drawSlip_X1_draw
theorem dX1_drawSlip_0 : decode cX1_drawSlip 0 = .ok (.aload_n 0, 1) := by decide +kernel
theorem dX1_drawSlip_1 : decode cX1_drawSlip 1 = .ok (.getfield 42, 3) := by decide +kernel
theorem dX1_drawSlip_4 : decode cX1_drawSlip 4 = .ok (.ifCond .gt 6, 3) := by decide +kernel
theorem dX1_drawSlip_7 : decode cX1_drawSlip 7 = .ok (.bipush (-3), 2) := by decide +kernel
theorem dX1_drawSlip_9 : decode cX1_drawSlip 9 = .ok (.ireturn, 1) := by decide +kernel
theorem dX1_drawSlip_10 : decode cX1_drawSlip 10 = .ok (.aload_n 0, 1) := by decide +kernel
theorem dX1_drawSlip_11 : decode cX1_drawSlip 11 = .ok (.invokevirtual 115, 3) := by decide +kernel
theorem dX1_drawSlip_14 : decode cX1_drawSlip 14 = .ok (.aload_n 0, 1) := by decide +kernel
theorem dX1_drawSlip_15 : decode cX1_drawSlip 15 = .ok (.getfield 42, 3) := by decide +kernel
theorem dX1_drawSlip_18 : decode cX1_drawSlip 18 = .ok (.irem, 1) := by decide +kernel
theorem dX1_drawSlip_19 : decode cX1_drawSlip 19 = .ok (.istore_n 1, 1) := by decide +kernel
theorem dX1_drawSlip_20 : decode cX1_drawSlip 20 = .ok (.aload_n 0, 1) := by decide +kernel
theorem dX1_drawSlip_21 : decode cX1_drawSlip 21 = .ok (.invokevirtual 115, 3) := by decide +kernel
theorem dX1_drawSlip_24 : decode cX1_drawSlip 24 = .ok (.bipush 100, 2) := by decide +kernel
theorem dX1_drawSlip_26 : decode cX1_drawSlip 26 = .ok (.irem, 1) := by decide +kernel
theorem dX1_drawSlip_27 : decode cX1_drawSlip 27 = .ok (.aload_n 0, 1) := by decide +kernel
theorem dX1_drawSlip_28 : decode cX1_drawSlip 28 = .ok (.getfield 15, 3) := by decide +kernel
theorem dX1_drawSlip_31 : decode cX1_drawSlip 31 = .ok (.iconst 3, 1) := by decide +kernel
theorem dX1_drawSlip_32 : decode cX1_drawSlip 32 = .ok (.iaload, 1) := by decide +kernel
theorem dX1_drawSlip_33 : decode cX1_drawSlip 33 = .ok (.if_icmp .lt 6, 3) := by decide +kernel
theorem dX1_drawSlip_36 : decode cX1_drawSlip 36 = .ok (.bipush (-3), 2) := by decide +kernel
theorem dX1_drawSlip_38 : decode cX1_drawSlip 38 = .ok (.ireturn, 1) := by decide +kernel
theorem dX1_drawSlip_39 : decode cX1_drawSlip 39 = .ok (.iload_n 1, 1) := by decide +kernel
theorem dX1_drawSlip_40 : decode cX1_drawSlip 40 = .ok (.bipush 8, 2) := by decide +kernel
theorem dX1_drawSlip_42 : decode cX1_drawSlip 42 = .ok (.imul, 1) := by decide +kernel
theorem dX1_drawSlip_43 : decode cX1_drawSlip 43 = .ok (.aload_n 0, 1) := by decide +kernel
theorem dX1_drawSlip_44 : decode cX1_drawSlip 44 = .ok (.invokevirtual 115, 3) := by decide +kernel
theorem dX1_drawSlip_47 : decode cX1_drawSlip 47 = .ok (.bipush 8, 2) := by decide +kernel
theorem dX1_drawSlip_49 : decode cX1_drawSlip 49 = .ok (.irem, 1) := by decide +kernel
theorem dX1_drawSlip_50 : decode cX1_drawSlip 50 = .ok (.iadd, 1) := by decide +kernel
theorem dX1_drawSlip_51 : decode cX1_drawSlip 51 = .ok (.ireturn, 1) := by decide +kernel
set_option maxRecDepth 20000 in
theorem ggX1_traitsTogether_X1_life : GoodIn wsX1_traitsTogether wsX1_life := goodIn_r _ [7, 1, 8, 9, 10, 11, 12, 13, 14, 15, 16, 17, 18, 19, 20, 21, 22, 23] (by decide +kernel) (by decide +kernel)
set_option maxRecDepth 20000 in
theorem gX1_traitsTogether_X1_life : GoodIn wsX1_traitsTogether (wsV RX1 62 RX1 yX1_life wsX1_life) := goodIn_app (goodIn_of _ (by decide +kernel)) ggX1_traitsTogether_X1_life
theorem dX1_traitsTogether_0 : decode cX1_traitsTogether 0 = .ok (.iconst 0, 1) := by decide +kernel
theorem dX1_traitsTogether_1 : decode cX1_traitsTogether 1 = .ok (.istore_n 1, 1) := by decide +kernel
theorem dX1_traitsTogether_2 : decode cX1_traitsTogether 2 = .ok (.iconst 0, 1) := by decide +kernel
theorem dX1_traitsTogether_3 : decode cX1_traitsTogether 3 = .ok (.istore_n 2, 1) := by decide +kernel
theorem dX1_traitsTogether_4 : decode cX1_traitsTogether 4 = .ok (.iload_n 2, 1) := by decide +kernel
theorem dX1_traitsTogether_5 : decode cX1_traitsTogether 5 = .ok (.aload_n 0, 1) := by decide +kernel
theorem dX1_traitsTogether_6 : decode cX1_traitsTogether 6 = .ok (.getfield 42, 3) := by decide +kernel
theorem dX1_traitsTogether_9 : decode cX1_traitsTogether 9 = .ok (.if_icmp .ge 26, 3) := by decide +kernel
theorem dX1_traitsTogether_12 : decode cX1_traitsTogether 12 = .ok (.aload_n 0, 1) := by decide +kernel
theorem dX1_traitsTogether_13 : decode cX1_traitsTogether 13 = .ok (.iload_n 2, 1) := by decide +kernel
theorem dX1_traitsTogether_14 : decode cX1_traitsTogether 14 = .ok (.invokevirtual 62, 3) := by decide +kernel
theorem dX1_traitsTogether_17 : decode cX1_traitsTogether 17 = .ok (.astore_n 3, 1) := by decide +kernel
theorem dX1_traitsTogether_18 : decode cX1_traitsTogether 18 = .ok (.aload_n 3, 1) := by decide +kernel
theorem dX1_traitsTogether_19 : decode cX1_traitsTogether 19 = .ok (.ifnull 10, 3) := by decide +kernel
theorem dX1_traitsTogether_22 : decode cX1_traitsTogether 22 = .ok (.iload_n 1, 1) := by decide +kernel
theorem dX1_traitsTogether_23 : decode cX1_traitsTogether 23 = .ok (.aload_n 3, 1) := by decide +kernel
theorem dX1_traitsTogether_24 : decode cX1_traitsTogether 24 = .ok (.getfield 119, 3) := by decide +kernel
theorem dX1_traitsTogether_27 : decode cX1_traitsTogether 27 = .ok (.iadd, 1) := by decide +kernel
theorem dX1_traitsTogether_28 : decode cX1_traitsTogether 28 = .ok (.istore_n 1, 1) := by decide +kernel
theorem dX1_traitsTogether_29 : decode cX1_traitsTogether 29 = .ok (.iinc 2 1, 3) := by decide +kernel
theorem dX1_traitsTogether_32 : decode cX1_traitsTogether 32 = .ok (.goto (-28), 3) := by decide +kernel
theorem dX1_traitsTogether_35 : decode cX1_traitsTogether 35 = .ok (.iload_n 1, 1) := by decide +kernel
theorem dX1_traitsTogether_36 : decode cX1_traitsTogether 36 = .ok (.ireturn, 1) := by decide +kernel
set_option maxRecDepth 20000 in
theorem ggX1_farTogether_X1_life : GoodIn wsX1_farTogether wsX1_life := goodIn_r _ [6, 1, 7, 8, 9, 10, 11, 12, 13, 14, 25, 26, 27, 28, 29, 30, 31, 32] (by decide +kernel) (by decide +kernel)
set_option maxRecDepth 20000 in
theorem gX1_farTogether_X1_life : GoodIn wsX1_farTogether (wsV RX1 62 RX1 yX1_life wsX1_life) := goodIn_app (goodIn_of _ (by decide +kernel)) ggX1_farTogether_X1_life
set_option maxRecDepth 20000 in
theorem ggX1_farTogether_X6_distance : GoodIn wsX1_farTogether wsX6_distance := goodIn_r _ [19, 20, 21, 22, 23, 9, 24, 33, 34, 35, 36, 37, 38] (by decide +kernel) (by decide +kernel)
set_option maxRecDepth 20000 in
theorem gX1_farTogether_X6_distance : GoodIn wsX1_farTogether (wsV RX1 122 RX6 yX6_distance wsX6_distance) := goodIn_app (goodIn_of _ (by decide +kernel)) ggX1_farTogether_X6_distance
theorem dX1_farTogether_0 : decode cX1_farTogether 0 = .ok (.iconst 0, 1) := by decide +kernel
theorem dX1_farTogether_1 : decode cX1_farTogether 1 = .ok (.istore_n 1, 1) := by decide +kernel
theorem dX1_farTogether_2 : decode cX1_farTogether 2 = .ok (.iconst 0, 1) := by decide +kernel
theorem dX1_farTogether_3 : decode cX1_farTogether 3 = .ok (.istore_n 2, 1) := by decide +kernel
theorem dX1_farTogether_4 : decode cX1_farTogether 4 = .ok (.iload_n 2, 1) := by decide +kernel
theorem dX1_farTogether_5 : decode cX1_farTogether 5 = .ok (.aload_n 0, 1) := by decide +kernel
theorem dX1_farTogether_6 : decode cX1_farTogether 6 = .ok (.getfield 42, 3) := by decide +kernel
theorem dX1_farTogether_9 : decode cX1_farTogether 9 = .ok (.if_icmp .ge 26, 3) := by decide +kernel
theorem dX1_farTogether_12 : decode cX1_farTogether 12 = .ok (.aload_n 0, 1) := by decide +kernel
theorem dX1_farTogether_13 : decode cX1_farTogether 13 = .ok (.iload_n 2, 1) := by decide +kernel
theorem dX1_farTogether_14 : decode cX1_farTogether 14 = .ok (.invokevirtual 62, 3) := by decide +kernel
theorem dX1_farTogether_17 : decode cX1_farTogether 17 = .ok (.astore_n 3, 1) := by decide +kernel
theorem dX1_farTogether_18 : decode cX1_farTogether 18 = .ok (.aload_n 3, 1) := by decide +kernel
theorem dX1_farTogether_19 : decode cX1_farTogether 19 = .ok (.ifnull 10, 3) := by decide +kernel
theorem dX1_farTogether_22 : decode cX1_farTogether 22 = .ok (.iload_n 1, 1) := by decide +kernel
theorem dX1_farTogether_23 : decode cX1_farTogether 23 = .ok (.aload_n 3, 1) := by decide +kernel
theorem dX1_farTogether_24 : decode cX1_farTogether 24 = .ok (.invokevirtual 122, 3) := by decide +kernel
theorem dX1_farTogether_27 : decode cX1_farTogether 27 = .ok (.iadd, 1) := by decide +kernel
theorem dX1_farTogether_28 : decode cX1_farTogether 28 = .ok (.istore_n 1, 1) := by decide +kernel
theorem dX1_farTogether_29 : decode cX1_farTogether 29 = .ok (.iinc 2 1, 3) := by decide +kernel
theorem dX1_farTogether_32 : decode cX1_farTogether 32 = .ok (.goto (-28), 3) := by decide +kernel
theorem dX1_farTogether_35 : decode cX1_farTogether 35 = .ok (.iload_n 1, 1) := by decide +kernel
theorem dX1_farTogether_36 : decode cX1_farTogether 36 = .ok (.ireturn, 1) := by decide +kernel
theorem dX1_vicesTogether_0 : decode cX1_vicesTogether 0 = .ok (.iconst 0, 1) := by decide +kernel
theorem dX1_vicesTogether_1 : decode cX1_vicesTogether 1 = .ok (.istore_n 1, 1) := by decide +kernel
theorem dX1_vicesTogether_2 : decode cX1_vicesTogether 2 = .ok (.iconst 0, 1) := by decide +kernel
theorem dX1_vicesTogether_3 : decode cX1_vicesTogether 3 = .ok (.istore_n 2, 1) := by decide +kernel
theorem dX1_vicesTogether_4 : decode cX1_vicesTogether 4 = .ok (.iload_n 2, 1) := by decide +kernel
theorem dX1_vicesTogether_5 : decode cX1_vicesTogether 5 = .ok (.bipush 8, 2) := by decide +kernel
theorem dX1_vicesTogether_7 : decode cX1_vicesTogether 7 = .ok (.if_icmp .ge 18, 3) := by decide +kernel
theorem dX1_vicesTogether_10 : decode cX1_vicesTogether 10 = .ok (.iload_n 1, 1) := by decide +kernel
theorem dX1_vicesTogether_11 : decode cX1_vicesTogether 11 = .ok (.aload_n 0, 1) := by decide +kernel
theorem dX1_vicesTogether_12 : decode cX1_vicesTogether 12 = .ok (.getfield 19, 3) := by decide +kernel
theorem dX1_vicesTogether_15 : decode cX1_vicesTogether 15 = .ok (.iload_n 2, 1) := by decide +kernel
theorem dX1_vicesTogether_16 : decode cX1_vicesTogether 16 = .ok (.iaload, 1) := by decide +kernel
theorem dX1_vicesTogether_17 : decode cX1_vicesTogether 17 = .ok (.iadd, 1) := by decide +kernel
theorem dX1_vicesTogether_18 : decode cX1_vicesTogether 18 = .ok (.istore_n 1, 1) := by decide +kernel
theorem dX1_vicesTogether_19 : decode cX1_vicesTogether 19 = .ok (.iinc 2 1, 3) := by decide +kernel
theorem dX1_vicesTogether_22 : decode cX1_vicesTogether 22 = .ok (.goto (-18), 3) := by decide +kernel
theorem dX1_vicesTogether_25 : decode cX1_vicesTogether 25 = .ok (.iload_n 1, 1) := by decide +kernel
theorem dX1_vicesTogether_26 : decode cX1_vicesTogether 26 = .ok (.ireturn, 1) := by decide +kernel
set_option maxRecDepth 20000 in
theorem ggX1_ofAge_X1_yearsLeft : GoodIn wsX1_ofAge wsX1_yearsLeft := goodIn_r _ [6, 7, 8, 9, 10, 11, 12, 13, 14, 5, 15, 1, 16, 17, 18, 19, 20, 21, 22, 23, 24, 25, 26, 27, 28, 29, 30, 31, 32, 33, 34, 35, 36, 37, 38, 39, 40, 41, 42, 43, 44, 45, 46, 47, 48, 49, 50, 51, 52, 53, 54, 55, 56, 57, 58, 59, 60, 61, 62, 63, 64, 65, 66, 67, 68, 69, 78, 79, 80, 81, 82, 83, 70, 71, 72, 73, 74, 75, 76, 77] (by decide +kernel) (by decide +kernel)
set_option maxRecDepth 20000 in
theorem gX1_ofAge_X1_yearsLeft : GoodIn wsX1_ofAge (wsV RX1 125 RX1 yX1_yearsLeft wsX1_yearsLeft) := goodIn_app (goodIn_of _ (by decide +kernel)) ggX1_ofAge_X1_yearsLeft
theorem dX1_ofAge_0 : decode cX1_ofAge 0 = .ok (.iconst 0, 1) := by decide +kernel
theorem dX1_ofAge_1 : decode cX1_ofAge 1 = .ok (.istore_n 1, 1) := by decide +kernel
theorem dX1_ofAge_2 : decode cX1_ofAge 2 = .ok (.iconst 0, 1) := by decide +kernel
theorem dX1_ofAge_3 : decode cX1_ofAge 3 = .ok (.istore_n 2, 1) := by decide +kernel
theorem dX1_ofAge_4 : decode cX1_ofAge 4 = .ok (.iload_n 2, 1) := by decide +kernel
theorem dX1_ofAge_5 : decode cX1_ofAge 5 = .ok (.aload_n 0, 1) := by decide +kernel
theorem dX1_ofAge_6 : decode cX1_ofAge 6 = .ok (.getfield 42, 3) := by decide +kernel
theorem dX1_ofAge_9 : decode cX1_ofAge 9 = .ok (.if_icmp .ge 23, 3) := by decide +kernel
theorem dX1_ofAge_12 : decode cX1_ofAge 12 = .ok (.aload_n 0, 1) := by decide +kernel
theorem dX1_ofAge_13 : decode cX1_ofAge 13 = .ok (.iload_n 2, 1) := by decide +kernel
theorem dX1_ofAge_14 : decode cX1_ofAge 14 = .ok (.invokevirtual 125, 3) := by decide +kernel
theorem dX1_ofAge_17 : decode cX1_ofAge 17 = .ok (.ifCond .ne 9, 3) := by decide +kernel
theorem dX1_ofAge_20 : decode cX1_ofAge 20 = .ok (.iload_n 1, 1) := by decide +kernel
theorem dX1_ofAge_21 : decode cX1_ofAge 21 = .ok (.iconst 1, 1) := by decide +kernel
theorem dX1_ofAge_22 : decode cX1_ofAge 22 = .ok (.iload_n 2, 1) := by decide +kernel
theorem dX1_ofAge_23 : decode cX1_ofAge 23 = .ok (.ishl, 1) := by decide +kernel
theorem dX1_ofAge_24 : decode cX1_ofAge 24 = .ok (.ior, 1) := by decide +kernel
theorem dX1_ofAge_25 : decode cX1_ofAge 25 = .ok (.istore_n 1, 1) := by decide +kernel
theorem dX1_ofAge_26 : decode cX1_ofAge 26 = .ok (.iinc 2 1, 3) := by decide +kernel
theorem dX1_ofAge_29 : decode cX1_ofAge 29 = .ok (.goto (-25), 3) := by decide +kernel
theorem dX1_ofAge_32 : decode cX1_ofAge 32 = .ok (.iload_n 1, 1) := by decide +kernel
theorem dX1_ofAge_33 : decode cX1_ofAge 33 = .ok (.ireturn, 1) := by decide +kernel
set_option maxRecDepth 20000 in
theorem ggX1_swornTo_X1_life : GoodIn wsX1_swornTo wsX1_life := goodIn_r _ [7, 1, 8, 9, 10, 11, 12, 13, 14, 15, 16, 17, 18, 19, 20, 21, 22, 23] (by decide +kernel) (by decide +kernel)
set_option maxRecDepth 20000 in
theorem gX1_swornTo_X1_life : GoodIn wsX1_swornTo (wsV RX1 62 RX1 yX1_life wsX1_life) := goodIn_app (goodIn_of _ (by decide +kernel)) ggX1_swornTo_X1_life
theorem dX1_swornTo_0 : decode cX1_swornTo 0 = .ok (.iconst 0, 1) := by decide +kernel
theorem dX1_swornTo_1 : decode cX1_swornTo 1 = .ok (.istore_n 2, 1) := by decide +kernel
theorem dX1_swornTo_2 : decode cX1_swornTo 2 = .ok (.iconst 0, 1) := by decide +kernel
theorem dX1_swornTo_3 : decode cX1_swornTo 3 = .ok (.istore_n 3, 1) := by decide +kernel
theorem dX1_swornTo_4 : decode cX1_swornTo 4 = .ok (.iload_n 3, 1) := by decide +kernel
theorem dX1_swornTo_5 : decode cX1_swornTo 5 = .ok (.aload_n 0, 1) := by decide +kernel
theorem dX1_swornTo_6 : decode cX1_swornTo 6 = .ok (.getfield 42, 3) := by decide +kernel
theorem dX1_swornTo_9 : decode cX1_swornTo 9 = .ok (.if_icmp .ge 36, 3) := by decide +kernel
theorem dX1_swornTo_12 : decode cX1_swornTo 12 = .ok (.aload_n 0, 1) := by decide +kernel
theorem dX1_swornTo_13 : decode cX1_swornTo 13 = .ok (.iload_n 3, 1) := by decide +kernel
theorem dX1_swornTo_14 : decode cX1_swornTo 14 = .ok (.invokevirtual 62, 3) := by decide +kernel
theorem dX1_swornTo_17 : decode cX1_swornTo 17 = .ok (.astore 4, 2) := by decide +kernel
theorem dX1_swornTo_19 : decode cX1_swornTo 19 = .ok (.aload 4, 2) := by decide +kernel
theorem dX1_swornTo_21 : decode cX1_swornTo 21 = .ok (.ifnull 18, 3) := by decide +kernel
theorem dX1_swornTo_24 : decode cX1_swornTo 24 = .ok (.aload 4, 2) := by decide +kernel
theorem dX1_swornTo_26 : decode cX1_swornTo 26 = .ok (.getfield 96, 3) := by decide +kernel
theorem dX1_swornTo_29 : decode cX1_swornTo 29 = .ok (.iload_n 1, 1) := by decide +kernel
theorem dX1_swornTo_30 : decode cX1_swornTo 30 = .ok (.if_icmp .ne 9, 3) := by decide +kernel
theorem dX1_swornTo_33 : decode cX1_swornTo 33 = .ok (.iload_n 2, 1) := by decide +kernel
theorem dX1_swornTo_34 : decode cX1_swornTo 34 = .ok (.iconst 1, 1) := by decide +kernel
theorem dX1_swornTo_35 : decode cX1_swornTo 35 = .ok (.iload_n 3, 1) := by decide +kernel
theorem dX1_swornTo_36 : decode cX1_swornTo 36 = .ok (.ishl, 1) := by decide +kernel
theorem dX1_swornTo_37 : decode cX1_swornTo 37 = .ok (.ior, 1) := by decide +kernel
theorem dX1_swornTo_38 : decode cX1_swornTo 38 = .ok (.istore_n 2, 1) := by decide +kernel
theorem dX1_swornTo_39 : decode cX1_swornTo 39 = .ok (.iinc 3 1, 3) := by decide +kernel
theorem dX1_swornTo_42 : decode cX1_swornTo 42 = .ok (.goto (-38), 3) := by decide +kernel
theorem dX1_swornTo_45 : decode cX1_swornTo 45 = .ok (.iload_n 2, 1) := by decide +kernel
theorem dX1_swornTo_46 : decode cX1_swornTo 46 = .ok (.ireturn, 1) := by decide +kernel
set_option maxRecDepth 20000 in
theorem ggX1_godmothersInUse_X1_swornTo : GoodIn wsX1_godmothersInUse wsX1_swornTo := goodIn_r _ [5, 6, 7, 8, 9, 10, 4, 11, 12, 13, 14, 15, 16, 17, 18, 19, 20, 21, 22, 23, 24, 25, 26, 27, 28, 29, 30, 31, 32, 33] (by decide +kernel) (by decide +kernel)
set_option maxRecDepth 20000 in
theorem gX1_godmothersInUse_X1_swornTo : GoodIn wsX1_godmothersInUse (wsV RX1 129 RX1 yX1_swornTo wsX1_swornTo) := goodIn_app (goodIn_of _ (by decide +kernel)) ggX1_godmothersInUse_X1_swornTo
theorem dX1_godmothersInUse_0 : decode cX1_godmothersInUse 0 = .ok (.iconst 0, 1) := by decide +kernel
theorem dX1_godmothersInUse_1 : decode cX1_godmothersInUse 1 = .ok (.istore_n 1, 1) := by decide +kernel
theorem dX1_godmothersInUse_2 : decode cX1_godmothersInUse 2 = .ok (.iconst 0, 1) := by decide +kernel
theorem dX1_godmothersInUse_3 : decode cX1_godmothersInUse 3 = .ok (.istore_n 2, 1) := by decide +kernel
theorem dX1_godmothersInUse_4 : decode cX1_godmothersInUse 4 = .ok (.iload_n 2, 1) := by decide +kernel
theorem dX1_godmothersInUse_5 : decode cX1_godmothersInUse 5 = .ok (.bipush 8, 2) := by decide +kernel
theorem dX1_godmothersInUse_7 : decode cX1_godmothersInUse 7 = .ok (.if_icmp .ge 20, 3) := by decide +kernel
theorem dX1_godmothersInUse_10 : decode cX1_godmothersInUse 10 = .ok (.aload_n 0, 1) := by decide +kernel
theorem dX1_godmothersInUse_11 : decode cX1_godmothersInUse 11 = .ok (.iload_n 2, 1) := by decide +kernel
theorem dX1_godmothersInUse_12 : decode cX1_godmothersInUse 12 = .ok (.invokevirtual 129, 3) := by decide +kernel
theorem dX1_godmothersInUse_15 : decode cX1_godmothersInUse 15 = .ok (.ifCond .eq 6, 3) := by decide +kernel
theorem dX1_godmothersInUse_18 : decode cX1_godmothersInUse 18 = .ok (.iinc 1 1, 3) := by decide +kernel
theorem dX1_godmothersInUse_21 : decode cX1_godmothersInUse 21 = .ok (.iinc 2 1, 3) := by decide +kernel
theorem dX1_godmothersInUse_24 : decode cX1_godmothersInUse 24 = .ok (.goto (-20), 3) := by decide +kernel
theorem dX1_godmothersInUse_27 : decode cX1_godmothersInUse 27 = .ok (.iload_n 1, 1) := by decide +kernel
theorem dX1_godmothersInUse_28 : decode cX1_godmothersInUse 28 = .ok (.ireturn, 1) := by decide +kernel
theorem dX2_init_0 : decode cX2_init 0 = .ok (.aload_n 0, 1) := by decide +kernel
theorem dX2_init_1 : decode cX2_init 1 = .ok (.invokespecial 1, 3) := by decide +kernel
theorem dX2_init_4 : decode cX2_init 4 = .ok (.aload_n 0, 1) := by decide +kernel
theorem dX2_init_5 : decode cX2_init 5 = .ok (.iconst 4, 1) := by decide +kernel
theorem dX2_init_6 : decode cX2_init 6 = .ok (.newarray .int, 2) := by decide +kernel
theorem dX2_init_8 : decode cX2_init 8 = .ok (.putfield 9, 3) := by decide +kernel
theorem dX2_init_11 : decode cX2_init 11 = .ok (.aload_n 0, 1) := by decide +kernel
theorem dX2_init_12 : decode cX2_init 12 = .ok (.iconst 4, 1) := by decide +kernel
theorem dX2_init_13 : decode cX2_init 13 = .ok (.newarray .int, 2) := by decide +kernel
theorem dX2_init_15 : decode cX2_init 15 = .ok (.putfield 13, 3) := by decide +kernel
theorem dX2_init_18 : decode cX2_init 18 = .ok (.aload_n 0, 1) := by decide +kernel
theorem dX2_init_19 : decode cX2_init 19 = .ok (.iconst 4, 1) := by decide +kernel
theorem dX2_init_20 : decode cX2_init 20 = .ok (.newarray .int, 2) := by decide +kernel
theorem dX2_init_22 : decode cX2_init 22 = .ok (.putfield 16, 3) := by decide +kernel
theorem dX2_init_25 : decode cX2_init 25 = .ok (.aload_n 0, 1) := by decide +kernel
theorem dX2_init_26 : decode cX2_init 26 = .ok (.iconst 4, 1) := by decide +kernel
theorem dX2_init_27 : decode cX2_init 27 = .ok (.newarray .int, 2) := by decide +kernel
theorem dX2_init_29 : decode cX2_init 29 = .ok (.putfield 19, 3) := by decide +kernel
theorem dX2_init_32 : decode cX2_init 32 = .ok (.aload_n 0, 1) := by decide +kernel
theorem dX2_init_33 : decode cX2_init 33 = .ok (.iconst 4, 1) := by decide +kernel
theorem dX2_init_34 : decode cX2_init 34 = .ok (.newarray .int, 2) := by decide +kernel
theorem dX2_init_36 : decode cX2_init 36 = .ok (.putfield 22, 3) := by decide +kernel
theorem dX2_init_39 : decode cX2_init 39 = .ok (.aload_n 0, 1) := by decide +kernel
theorem dX2_init_40 : decode cX2_init 40 = .ok (.sipush 160, 3) := by decide +kernel
theorem dX2_init_43 : decode cX2_init 43 = .ok (.newarray .long, 2) := by decide +kernel
theorem dX2_init_45 : decode cX2_init 45 = .ok (.putfield 25, 3) := by decide +kernel
theorem dX2_init_48 : decode cX2_init 48 = .ok (.iconst 0, 1) := by decide +kernel
theorem dX2_init_49 : decode cX2_init 49 = .ok (.istore_n 1, 1) := by decide +kernel
theorem dX2_init_50 : decode cX2_init 50 = .ok (.iload_n 1, 1) := by decide +kernel
theorem dX2_init_51 : decode cX2_init 51 = .ok (.iconst 4, 1) := by decide +kernel
theorem dX2_init_52 : decode cX2_init 52 = .ok (.if_icmp .ge 30, 3) := by decide +kernel
theorem dX2_init_55 : decode cX2_init 55 = .ok (.aload_n 0, 1) := by decide +kernel
theorem dX2_init_56 : decode cX2_init 56 = .ok (.getfield 9, 3) := by decide +kernel
theorem dX2_init_59 : decode cX2_init 59 = .ok (.iload_n 1, 1) := by decide +kernel
theorem dX2_init_60 : decode cX2_init 60 = .ok (.iconst (-1), 1) := by decide +kernel
theorem dX2_init_61 : decode cX2_init 61 = .ok (.iastore, 1) := by decide +kernel
theorem dX2_init_62 : decode cX2_init 62 = .ok (.aload_n 0, 1) := by decide +kernel
theorem dX2_init_63 : decode cX2_init 63 = .ok (.getfield 16, 3) := by decide +kernel
theorem dX2_init_66 : decode cX2_init 66 = .ok (.iload_n 1, 1) := by decide +kernel
theorem dX2_init_67 : decode cX2_init 67 = .ok (.iconst (-1), 1) := by decide +kernel
theorem dX2_init_68 : decode cX2_init 68 = .ok (.iastore, 1) := by decide +kernel
theorem dX2_init_69 : decode cX2_init 69 = .ok (.aload_n 0, 1) := by decide +kernel
theorem dX2_init_70 : decode cX2_init 70 = .ok (.getfield 22, 3) := by decide +kernel
theorem dX2_init_73 : decode cX2_init 73 = .ok (.iload_n 1, 1) := by decide +kernel
theorem dX2_init_74 : decode cX2_init 74 = .ok (.iconst (-1), 1) := by decide +kernel
theorem dX2_init_75 : decode cX2_init 75 = .ok (.iastore, 1) := by decide +kernel
theorem dX2_init_76 : decode cX2_init 76 = .ok (.iinc 1 1, 3) := by decide +kernel
theorem dX2_init_79 : decode cX2_init 79 = .ok (.goto (-29), 3) := by decide +kernel
theorem dX2_init_82 : decode cX2_init 82 = .ok (.return_, 1) := by decide +kernel
set_option maxRecDepth 20000 in
theorem ggX2_isSheet_X11_within : GoodIn wsX2_isSheet wsX11_within := goodIn_r _ [3] (by decide +kernel) (by decide +kernel)
set_option maxRecDepth 20000 in
theorem gX2_isSheet_X11_within_n29 : GoodIn wsX2_isSheet (wsX11_within) := ggX2_isSheet_X11_within
theorem dX2_isSheet_0 : decode cX2_isSheet 0 = .ok (.iload_n 1, 1) := by decide +kernel
theorem dX2_isSheet_1 : decode cX2_isSheet 1 = .ok (.iconst 3, 1) := by decide +kernel
theorem dX2_isSheet_2 : decode cX2_isSheet 2 = .ok (.invokestatic 29, 3) := by decide +kernel
theorem dX2_isSheet_5 : decode cX2_isSheet 5 = .ok (.ireturn, 1) := by decide +kernel
set_option maxRecDepth 20000 in
theorem ggX2_isShelf_X11_within : GoodIn wsX2_isShelf wsX11_within := goodIn_r _ [3] (by decide +kernel) (by decide +kernel)
set_option maxRecDepth 20000 in
theorem gX2_isShelf_X11_within_n29 : GoodIn wsX2_isShelf (wsX11_within) := ggX2_isShelf_X11_within
theorem dX2_isShelf_0 : decode cX2_isShelf 0 = .ok (.iload_n 1, 1) := by decide +kernel
theorem dX2_isShelf_1 : decode cX2_isShelf 1 = .ok (.iconst 3, 1) := by decide +kernel
theorem dX2_isShelf_2 : decode cX2_isShelf 2 = .ok (.invokestatic 29, 3) := by decide +kernel
theorem dX2_isShelf_5 : decode cX2_isShelf 5 = .ok (.ireturn, 1) := by decide +kernel
set_option maxRecDepth 20000 in
theorem ggX2_sortOf_X2_isSheet : GoodIn wsX2_sortOf wsX2_isSheet := goodIn_r _ [6, 7, 8, 9] (by decide +kernel) (by decide +kernel)
set_option maxRecDepth 20000 in
theorem gX2_sortOf_X2_isSheet : GoodIn wsX2_sortOf (wsV RX2 35 RX2 yX2_isSheet wsX2_isSheet) := goodIn_app (goodIn_of _ (by decide +kernel)) ggX2_sortOf_X2_isSheet
theorem dX2_sortOf_0 : decode cX2_sortOf 0 = .ok (.aload_n 0, 1) := by decide +kernel
theorem dX2_sortOf_1 : decode cX2_sortOf 1 = .ok (.iload_n 1, 1) := by decide +kernel
theorem dX2_sortOf_2 : decode cX2_sortOf 2 = .ok (.invokevirtual 35, 3) := by decide +kernel
theorem dX2_sortOf_5 : decode cX2_sortOf 5 = .ok (.ifCond .eq 12, 3) := by decide +kernel
theorem dX2_sortOf_8 : decode cX2_sortOf 8 = .ok (.aload_n 0, 1) := by decide +kernel
theorem dX2_sortOf_9 : decode cX2_sortOf 9 = .ok (.getfield 9, 3) := by decide +kernel
theorem dX2_sortOf_12 : decode cX2_sortOf 12 = .ok (.iload_n 1, 1) := by decide +kernel
theorem dX2_sortOf_13 : decode cX2_sortOf 13 = .ok (.iaload, 1) := by decide +kernel
theorem dX2_sortOf_14 : decode cX2_sortOf 14 = .ok (.goto 4, 3) := by decide +kernel
theorem dX2_sortOf_17 : decode cX2_sortOf 17 = .ok (.iconst (-1), 1) := by decide +kernel
theorem dX2_sortOf_18 : decode cX2_sortOf 18 = .ok (.ireturn, 1) := by decide +kernel
set_option maxRecDepth 20000 in
theorem ggX2_sizeOf_X2_isSheet : GoodIn wsX2_sizeOf wsX2_isSheet := goodIn_r _ [6, 7, 8, 9] (by decide +kernel) (by decide +kernel)
set_option maxRecDepth 20000 in
theorem gX2_sizeOf_X2_isSheet : GoodIn wsX2_sizeOf (wsV RX2 35 RX2 yX2_isSheet wsX2_isSheet) := goodIn_app (goodIn_of _ (by decide +kernel)) ggX2_sizeOf_X2_isSheet
theorem dX2_sizeOf_0 : decode cX2_sizeOf 0 = .ok (.aload_n 0, 1) := by decide +kernel
theorem dX2_sizeOf_1 : decode cX2_sizeOf 1 = .ok (.iload_n 1, 1) := by decide +kernel
theorem dX2_sizeOf_2 : decode cX2_sizeOf 2 = .ok (.invokevirtual 35, 3) := by decide +kernel
theorem dX2_sizeOf_5 : decode cX2_sizeOf 5 = .ok (.ifCond .eq 12, 3) := by decide +kernel
theorem dX2_sizeOf_8 : decode cX2_sizeOf 8 = .ok (.aload_n 0, 1) := by decide +kernel
theorem dX2_sizeOf_9 : decode cX2_sizeOf 9 = .ok (.getfield 13, 3) := by decide +kernel
theorem dX2_sizeOf_12 : decode cX2_sizeOf 12 = .ok (.iload_n 1, 1) := by decide +kernel
theorem dX2_sizeOf_13 : decode cX2_sizeOf 13 = .ok (.iaload, 1) := by decide +kernel
theorem dX2_sizeOf_14 : decode cX2_sizeOf 14 = .ok (.goto 4, 3) := by decide +kernel
theorem dX2_sizeOf_17 : decode cX2_sizeOf 17 = .ok (.iconst 0, 1) := by decide +kernel
theorem dX2_sizeOf_18 : decode cX2_sizeOf 18 = .ok (.ireturn, 1) := by decide +kernel
set_option maxRecDepth 20000 in
theorem ggX2_isMissing_X2_sortOf : GoodIn wsX2_isMissing wsX2_sortOf := goodIn_r _ [5, 6, 7, 8, 9, 4, 10, 11, 12, 13, 14, 15, 16, 17, 18, 19] (by decide +kernel) (by decide +kernel)
set_option maxRecDepth 20000 in
theorem gX2_isMissing_X2_sortOf : GoodIn wsX2_isMissing (wsV RX2 39 RX2 yX2_sortOf wsX2_sortOf) := goodIn_app (goodIn_of _ (by decide +kernel)) ggX2_isMissing_X2_sortOf
theorem dX2_isMissing_0 : decode cX2_isMissing 0 = .ok (.aload_n 0, 1) := by decide +kernel
theorem dX2_isMissing_1 : decode cX2_isMissing 1 = .ok (.iload_n 1, 1) := by decide +kernel
theorem dX2_isMissing_2 : decode cX2_isMissing 2 = .ok (.invokevirtual 39, 3) := by decide +kernel
theorem dX2_isMissing_5 : decode cX2_isMissing 5 = .ok (.iconst (-1), 1) := by decide +kernel
theorem dX2_isMissing_6 : decode cX2_isMissing 6 = .ok (.if_icmp .ne 7, 3) := by decide +kernel
theorem dX2_isMissing_9 : decode cX2_isMissing 9 = .ok (.iconst 1, 1) := by decide +kernel
theorem dX2_isMissing_10 : decode cX2_isMissing 10 = .ok (.goto 4, 3) := by decide +kernel
theorem dX2_isMissing_13 : decode cX2_isMissing 13 = .ok (.iconst 0, 1) := by decide +kernel
theorem dX2_isMissing_14 : decode cX2_isMissing 14 = .ok (.ireturn, 1) := by decide +kernel
set_option maxRecDepth 20000 in
theorem ggX2_lay_X2_isSheet : GoodIn wsX2_lay wsX2_isSheet := goodIn_r _ [8, 9, 10, 11] (by decide +kernel) (by decide +kernel)
set_option maxRecDepth 20000 in
theorem gX2_lay_X2_isSheet : GoodIn wsX2_lay (wsV RX2 35 RX2 yX2_isSheet wsX2_isSheet) := goodIn_app (goodIn_of _ (by decide +kernel)) ggX2_lay_X2_isSheet
set_option maxRecDepth 20000 in
theorem ggX2_lay_X11_within : GoodIn wsX2_lay wsX11_within := goodIn_r _ [11] (by decide +kernel) (by decide +kernel)
set_option maxRecDepth 20000 in
theorem gX2_lay_X11_within_n29 : GoodIn wsX2_lay (wsX11_within) := ggX2_lay_X11_within
theorem dX2_lay_0 : decode cX2_lay 0 = .ok (.aload_n 0, 1) := by decide +kernel
theorem dX2_lay_1 : decode cX2_lay 1 = .ok (.iload_n 1, 1) := by decide +kernel
theorem dX2_lay_2 : decode cX2_lay 2 = .ok (.invokevirtual 35, 3) := by decide +kernel
theorem dX2_lay_5 : decode cX2_lay 5 = .ok (.ifCond .eq 12, 3) := by decide +kernel
theorem dX2_lay_8 : decode cX2_lay 8 = .ok (.iload_n 3, 1) := by decide +kernel
theorem dX2_lay_9 : decode cX2_lay 9 = .ok (.bipush 40, 2) := by decide +kernel
theorem dX2_lay_11 : decode cX2_lay 11 = .ok (.invokestatic 29, 3) := by decide +kernel
theorem dX2_lay_14 : decode cX2_lay 14 = .ok (.ifCond .ne 4, 3) := by decide +kernel
theorem dX2_lay_17 : decode cX2_lay 17 = .ok (.return_, 1) := by decide +kernel
theorem dX2_lay_18 : decode cX2_lay 18 = .ok (.aload_n 0, 1) := by decide +kernel
theorem dX2_lay_19 : decode cX2_lay 19 = .ok (.getfield 9, 3) := by decide +kernel
theorem dX2_lay_22 : decode cX2_lay 22 = .ok (.iload_n 1, 1) := by decide +kernel
theorem dX2_lay_23 : decode cX2_lay 23 = .ok (.iload_n 2, 1) := by decide +kernel
theorem dX2_lay_24 : decode cX2_lay 24 = .ok (.iastore, 1) := by decide +kernel
theorem dX2_lay_25 : decode cX2_lay 25 = .ok (.aload_n 0, 1) := by decide +kernel
theorem dX2_lay_26 : decode cX2_lay 26 = .ok (.getfield 13, 3) := by decide +kernel
theorem dX2_lay_29 : decode cX2_lay 29 = .ok (.iload_n 1, 1) := by decide +kernel
theorem dX2_lay_30 : decode cX2_lay 30 = .ok (.iload_n 3, 1) := by decide +kernel
theorem dX2_lay_31 : decode cX2_lay 31 = .ok (.iastore, 1) := by decide +kernel
theorem dX2_lay_32 : decode cX2_lay 32 = .ok (.iconst 0, 1) := by decide +kernel
theorem dX2_lay_33 : decode cX2_lay 33 = .ok (.istore 4, 2) := by decide +kernel
theorem dX2_lay_35 : decode cX2_lay 35 = .ok (.iload 4, 2) := by decide +kernel
theorem dX2_lay_37 : decode cX2_lay 37 = .ok (.iload_n 3, 1) := by decide +kernel
theorem dX2_lay_38 : decode cX2_lay 38 = .ok (.if_icmp .ge 22, 3) := by decide +kernel
theorem dX2_lay_41 : decode cX2_lay 41 = .ok (.aload_n 0, 1) := by decide +kernel
theorem dX2_lay_42 : decode cX2_lay 42 = .ok (.getfield 25, 3) := by decide +kernel
theorem dX2_lay_45 : decode cX2_lay 45 = .ok (.iload_n 1, 1) := by decide +kernel
theorem dX2_lay_46 : decode cX2_lay 46 = .ok (.bipush 40, 2) := by decide +kernel
theorem dX2_lay_48 : decode cX2_lay 48 = .ok (.imul, 1) := by decide +kernel
theorem dX2_lay_49 : decode cX2_lay 49 = .ok (.iload 4, 2) := by decide +kernel
theorem dX2_lay_51 : decode cX2_lay 51 = .ok (.iadd, 1) := by decide +kernel
theorem dX2_lay_52 : decode cX2_lay 52 = .ok (.lconst 0, 1) := by decide +kernel
theorem dX2_lay_53 : decode cX2_lay 53 = .ok (.lastore, 1) := by decide +kernel
theorem dX2_lay_54 : decode cX2_lay 54 = .ok (.iinc 4 1, 3) := by decide +kernel
theorem dX2_lay_57 : decode cX2_lay 57 = .ok (.goto (-22), 3) := by decide +kernel
theorem dX2_lay_60 : decode cX2_lay 60 = .ok (.return_, 1) := by decide +kernel
set_option maxRecDepth 20000 in
theorem ggX2_isItem_X2_isSheet : GoodIn wsX2_isItem wsX2_isSheet := goodIn_r _ [6, 7, 8, 9] (by decide +kernel) (by decide +kernel)
set_option maxRecDepth 20000 in
theorem gX2_isItem_X2_isSheet : GoodIn wsX2_isItem (wsV RX2 35 RX2 yX2_isSheet wsX2_isSheet) := goodIn_app (goodIn_of _ (by decide +kernel)) ggX2_isItem_X2_isSheet
set_option maxRecDepth 20000 in
theorem ggX2_isItem_X11_within : GoodIn wsX2_isItem wsX11_within := goodIn_r _ [9] (by decide +kernel) (by decide +kernel)
set_option maxRecDepth 20000 in
theorem gX2_isItem_X11_within_n29 : GoodIn wsX2_isItem (wsX11_within) := ggX2_isItem_X11_within
theorem dX2_isItem_0 : decode cX2_isItem 0 = .ok (.aload_n 0, 1) := by decide +kernel
theorem dX2_isItem_1 : decode cX2_isItem 1 = .ok (.iload_n 1, 1) := by decide +kernel
theorem dX2_isItem_2 : decode cX2_isItem 2 = .ok (.invokevirtual 35, 3) := by decide +kernel
theorem dX2_isItem_5 : decode cX2_isItem 5 = .ok (.ifCond .eq 22, 3) := by decide +kernel
theorem dX2_isItem_8 : decode cX2_isItem 8 = .ok (.iload_n 2, 1) := by decide +kernel
theorem dX2_isItem_9 : decode cX2_isItem 9 = .ok (.aload_n 0, 1) := by decide +kernel
theorem dX2_isItem_10 : decode cX2_isItem 10 = .ok (.getfield 13, 3) := by decide +kernel
theorem dX2_isItem_13 : decode cX2_isItem 13 = .ok (.iload_n 1, 1) := by decide +kernel
theorem dX2_isItem_14 : decode cX2_isItem 14 = .ok (.iaload, 1) := by decide +kernel
theorem dX2_isItem_15 : decode cX2_isItem 15 = .ok (.iconst 1, 1) := by decide +kernel
theorem dX2_isItem_16 : decode cX2_isItem 16 = .ok (.isub, 1) := by decide +kernel
theorem dX2_isItem_17 : decode cX2_isItem 17 = .ok (.invokestatic 29, 3) := by decide +kernel
theorem dX2_isItem_20 : decode cX2_isItem 20 = .ok (.ifCond .eq 7, 3) := by decide +kernel
theorem dX2_isItem_23 : decode cX2_isItem 23 = .ok (.iconst 1, 1) := by decide +kernel
theorem dX2_isItem_24 : decode cX2_isItem 24 = .ok (.goto 4, 3) := by decide +kernel
theorem dX2_isItem_27 : decode cX2_isItem 27 = .ok (.iconst 0, 1) := by decide +kernel
theorem dX2_isItem_28 : decode cX2_isItem 28 = .ok (.ireturn, 1) := by decide +kernel
set_option maxRecDepth 20000 in
theorem ggX2_itemAt_X2_isItem : GoodIn wsX2_itemAt wsX2_isItem := goodIn_r _ [6, 7, 8, 9, 10, 5, 11, 12, 13, 14, 15, 16, 17, 18, 19, 20] (by decide +kernel) (by decide +kernel)
set_option maxRecDepth 20000 in
theorem gX2_itemAt_X2_isItem : GoodIn wsX2_itemAt (wsV RX2 43 RX2 yX2_isItem wsX2_isItem) := goodIn_app (goodIn_of _ (by decide +kernel)) ggX2_itemAt_X2_isItem
theorem dX2_itemAt_0 : decode cX2_itemAt 0 = .ok (.aload_n 0, 1) := by decide +kernel
theorem dX2_itemAt_1 : decode cX2_itemAt 1 = .ok (.iload_n 1, 1) := by decide +kernel
theorem dX2_itemAt_2 : decode cX2_itemAt 2 = .ok (.iload_n 2, 1) := by decide +kernel
theorem dX2_itemAt_3 : decode cX2_itemAt 3 = .ok (.invokevirtual 43, 3) := by decide +kernel
theorem dX2_itemAt_6 : decode cX2_itemAt 6 = .ok (.ifCond .eq 17, 3) := by decide +kernel
theorem dX2_itemAt_9 : decode cX2_itemAt 9 = .ok (.aload_n 0, 1) := by decide +kernel
theorem dX2_itemAt_10 : decode cX2_itemAt 10 = .ok (.getfield 25, 3) := by decide +kernel
theorem dX2_itemAt_13 : decode cX2_itemAt 13 = .ok (.iload_n 1, 1) := by decide +kernel
theorem dX2_itemAt_14 : decode cX2_itemAt 14 = .ok (.bipush 40, 2) := by decide +kernel
theorem dX2_itemAt_16 : decode cX2_itemAt 16 = .ok (.imul, 1) := by decide +kernel
theorem dX2_itemAt_17 : decode cX2_itemAt 17 = .ok (.iload_n 2, 1) := by decide +kernel
theorem dX2_itemAt_18 : decode cX2_itemAt 18 = .ok (.iadd, 1) := by decide +kernel
theorem dX2_itemAt_19 : decode cX2_itemAt 19 = .ok (.laload, 1) := by decide +kernel
theorem dX2_itemAt_20 : decode cX2_itemAt 20 = .ok (.goto 4, 3) := by decide +kernel
theorem dX2_itemAt_23 : decode cX2_itemAt 23 = .ok (.lconst 0, 1) := by decide +kernel
theorem dX2_itemAt_24 : decode cX2_itemAt 24 = .ok (.lreturn, 1) := by decide +kernel
set_option maxRecDepth 20000 in
theorem ggX2_write_X2_isItem : GoodIn wsX2_write wsX2_isItem := goodIn_r _ [7, 8, 9, 10, 11, 6, 12, 13, 14, 15, 19, 20, 21, 22, 23, 24] (by decide +kernel) (by decide +kernel)
set_option maxRecDepth 20000 in
theorem gX2_write_X2_isItem : GoodIn wsX2_write (wsV RX2 43 RX2 yX2_isItem wsX2_isItem) := goodIn_app (goodIn_of _ (by decide +kernel)) ggX2_write_X2_isItem
set_option maxRecDepth 20000 in
theorem ggX2_write_X2_narrowed : GoodIn wsX2_write wsX2_narrowed := goodIn_r _ [18] (by decide +kernel) (by decide +kernel)
set_option maxRecDepth 20000 in
theorem gX2_write_X2_narrowed : GoodIn wsX2_write (va_wsS RX2 46 yX2_narrowed wsX2_narrowed) := goodIn_app (goodIn_of _ (by decide +kernel)) ggX2_write_X2_narrowed
theorem dX2_write_0 : decode cX2_write 0 = .ok (.aload_n 0, 1) := by decide +kernel
theorem dX2_write_1 : decode cX2_write 1 = .ok (.iload_n 1, 1) := by decide +kernel
theorem dX2_write_2 : decode cX2_write 2 = .ok (.iload_n 2, 1) := by decide +kernel
theorem dX2_write_3 : decode cX2_write 3 = .ok (.invokevirtual 43, 3) := by decide +kernel
theorem dX2_write_6 : decode cX2_write 6 = .ok (.ifCond .ne 5, 3) := by decide +kernel
theorem dX2_write_9 : decode cX2_write 9 = .ok (.iconst 0, 1) := by decide +kernel
theorem dX2_write_10 : decode cX2_write 10 = .ok (.ireturn, 1) := by decide +kernel
theorem dX2_write_11 : decode cX2_write 11 = .ok (.aload_n 0, 1) := by decide +kernel
theorem dX2_write_12 : decode cX2_write 12 = .ok (.getfield 25, 3) := by decide +kernel
theorem dX2_write_15 : decode cX2_write 15 = .ok (.iload_n 1, 1) := by decide +kernel
theorem dX2_write_16 : decode cX2_write 16 = .ok (.bipush 40, 2) := by decide +kernel
theorem dX2_write_18 : decode cX2_write 18 = .ok (.imul, 1) := by decide +kernel
theorem dX2_write_19 : decode cX2_write 19 = .ok (.iload_n 2, 1) := by decide +kernel
theorem dX2_write_20 : decode cX2_write 20 = .ok (.iadd, 1) := by decide +kernel
theorem dX2_write_21 : decode cX2_write 21 = .ok (.iload_n 3, 1) := by decide +kernel
theorem dX2_write_22 : decode cX2_write 22 = .ok (.aload_n 0, 1) := by decide +kernel
theorem dX2_write_23 : decode cX2_write 23 = .ok (.getfield 9, 3) := by decide +kernel
theorem dX2_write_26 : decode cX2_write 26 = .ok (.iload_n 1, 1) := by decide +kernel
theorem dX2_write_27 : decode cX2_write 27 = .ok (.iaload, 1) := by decide +kernel
theorem dX2_write_28 : decode cX2_write 28 = .ok (.invokestatic 46, 3) := by decide +kernel
theorem dX2_write_31 : decode cX2_write 31 = .ok (.i2l, 1) := by decide +kernel
theorem dX2_write_32 : decode cX2_write 32 = .ok (.lastore, 1) := by decide +kernel
theorem dX2_write_33 : decode cX2_write 33 = .ok (.iconst 1, 1) := by decide +kernel
theorem dX2_write_34 : decode cX2_write 34 = .ok (.ireturn, 1) := by decide +kernel
theorem dX2_narrowed_0 : decode cX2_narrowed 0 = .ok (.iload_n 1, 1) := by decide +kernel
theorem dX2_narrowed_1 : decode cX2_narrowed 1 = .ok (.lookupswitch 33 #[(0, 27), (1, 30)], 27) := by decide +kernel
theorem dX2_narrowed_28 : decode cX2_narrowed 28 = .ok (.iload_n 0, 1) := by decide +kernel
theorem dX2_narrowed_29 : decode cX2_narrowed 29 = .ok (.i2b, 1) := by decide +kernel
theorem dX2_narrowed_30 : decode cX2_narrowed 30 = .ok (.ireturn, 1) := by decide +kernel
theorem dX2_narrowed_31 : decode cX2_narrowed 31 = .ok (.iload_n 0, 1) := by decide +kernel
theorem dX2_narrowed_32 : decode cX2_narrowed 32 = .ok (.i2s, 1) := by decide +kernel
theorem dX2_narrowed_33 : decode cX2_narrowed 33 = .ok (.ireturn, 1) := by decide +kernel
theorem dX2_narrowed_34 : decode cX2_narrowed 34 = .ok (.iload_n 0, 1) := by decide +kernel
theorem dX2_narrowed_35 : decode cX2_narrowed 35 = .ok (.ireturn, 1) := by decide +kernel
set_option maxRecDepth 20000 in
theorem ggX2_shelveChild_X2_shelve : GoodIn wsX2_shelveChild wsX2_shelve := goodIn_r _ [5, 6, 7, 8, 9, 10, 11, 4, 12, 13, 14, 15, 16, 17, 18, 19, 20, 21] (by decide +kernel) (by decide +kernel)
set_option maxRecDepth 20000 in
theorem gX2_shelveChild_X2_shelve : GoodIn wsX2_shelveChild (wsV RX2 50 RX2 yX2_shelve wsX2_shelve) := goodIn_app (goodIn_of _ (by decide +kernel)) ggX2_shelveChild_X2_shelve
theorem dX2_shelveChild_0 : decode cX2_shelveChild 0 = .ok (.aload_n 0, 1) := by decide +kernel
theorem dX2_shelveChild_1 : decode cX2_shelveChild 1 = .ok (.iload_n 1, 1) := by decide +kernel
theorem dX2_shelveChild_2 : decode cX2_shelveChild 2 = .ok (.iload_n 2, 1) := by decide +kernel
theorem dX2_shelveChild_3 : decode cX2_shelveChild 3 = .ok (.iconst (-1), 1) := by decide +kernel
theorem dX2_shelveChild_4 : decode cX2_shelveChild 4 = .ok (.iconst 0, 1) := by decide +kernel
theorem dX2_shelveChild_5 : decode cX2_shelveChild 5 = .ok (.invokevirtual 50, 3) := by decide +kernel
theorem dX2_shelveChild_8 : decode cX2_shelveChild 8 = .ok (.return_, 1) := by decide +kernel
set_option maxRecDepth 20000 in
theorem ggX2_shelveRow_X2_sortOf : GoodIn wsX2_shelveRow wsX2_sortOf := goodIn_r _ [5, 6, 7, 8, 9, 4, 10, 11, 12, 13, 30, 31, 32, 33, 34, 35] (by decide +kernel) (by decide +kernel)
set_option maxRecDepth 20000 in
theorem gX2_shelveRow_X2_sortOf : GoodIn wsX2_shelveRow (wsV RX2 39 RX2 yX2_sortOf wsX2_sortOf) := goodIn_app (goodIn_of _ (by decide +kernel)) ggX2_shelveRow_X2_sortOf
set_option maxRecDepth 20000 in
theorem ggX2_shelveRow_X2_sizeOf : GoodIn wsX2_shelveRow wsX2_sizeOf := goodIn_r _ [17, 18, 7, 8, 9, 4, 10, 11, 12, 13, 30, 31, 32, 33, 34, 35] (by decide +kernel) (by decide +kernel)
set_option maxRecDepth 20000 in
theorem gX2_shelveRow_X2_sizeOf : GoodIn wsX2_shelveRow (wsV RX2 54 RX2 yX2_sizeOf wsX2_sizeOf) := goodIn_app (goodIn_of _ (by decide +kernel)) ggX2_shelveRow_X2_sizeOf
set_option maxRecDepth 20000 in
theorem ggX2_shelveRow_X2_shelve : GoodIn wsX2_shelveRow wsX2_shelve := goodIn_r _ [22, 23, 24, 25, 26, 27, 28, 4, 29, 11, 12, 13, 30, 31, 32, 33, 34, 35] (by decide +kernel) (by decide +kernel)
set_option maxRecDepth 20000 in
theorem gX2_shelveRow_X2_shelve : GoodIn wsX2_shelveRow (wsV RX2 50 RX2 yX2_shelve wsX2_shelve) := goodIn_app (goodIn_of _ (by decide +kernel)) ggX2_shelveRow_X2_shelve
theorem dX2_shelveRow_0 : decode cX2_shelveRow 0 = .ok (.aload_n 0, 1) := by decide +kernel
theorem dX2_shelveRow_1 : decode cX2_shelveRow 1 = .ok (.iload_n 1, 1) := by decide +kernel
theorem dX2_shelveRow_2 : decode cX2_shelveRow 2 = .ok (.iconst (-1), 1) := by decide +kernel
theorem dX2_shelveRow_3 : decode cX2_shelveRow 3 = .ok (.aload_n 0, 1) := by decide +kernel
theorem dX2_shelveRow_4 : decode cX2_shelveRow 4 = .ok (.iload_n 2, 1) := by decide +kernel
theorem dX2_shelveRow_5 : decode cX2_shelveRow 5 = .ok (.invokevirtual 39, 3) := by decide +kernel
theorem dX2_shelveRow_8 : decode cX2_shelveRow 8 = .ok (.aload_n 0, 1) := by decide +kernel
theorem dX2_shelveRow_9 : decode cX2_shelveRow 9 = .ok (.iload_n 2, 1) := by decide +kernel
theorem dX2_shelveRow_10 : decode cX2_shelveRow 10 = .ok (.invokevirtual 54, 3) := by decide +kernel
theorem dX2_shelveRow_13 : decode cX2_shelveRow 13 = .ok (.invokevirtual 50, 3) := by decide +kernel
theorem dX2_shelveRow_16 : decode cX2_shelveRow 16 = .ok (.return_, 1) := by decide +kernel
set_option maxRecDepth 20000 in
theorem ggX2_shelveNothing_X2_shelve : GoodIn wsX2_shelveNothing wsX2_shelve := goodIn_r _ [5, 6, 7, 8, 9, 10, 11, 4, 12, 13, 14, 15, 16, 17, 18, 19, 20, 21] (by decide +kernel) (by decide +kernel)
set_option maxRecDepth 20000 in
theorem gX2_shelveNothing_X2_shelve : GoodIn wsX2_shelveNothing (wsV RX2 50 RX2 yX2_shelve wsX2_shelve) := goodIn_app (goodIn_of _ (by decide +kernel)) ggX2_shelveNothing_X2_shelve
theorem dX2_shelveNothing_0 : decode cX2_shelveNothing 0 = .ok (.aload_n 0, 1) := by decide +kernel
theorem dX2_shelveNothing_1 : decode cX2_shelveNothing 1 = .ok (.iload_n 1, 1) := by decide +kernel
theorem dX2_shelveNothing_2 : decode cX2_shelveNothing 2 = .ok (.iconst (-1), 1) := by decide +kernel
theorem dX2_shelveNothing_3 : decode cX2_shelveNothing 3 = .ok (.iconst (-1), 1) := by decide +kernel
theorem dX2_shelveNothing_4 : decode cX2_shelveNothing 4 = .ok (.iconst 0, 1) := by decide +kernel
theorem dX2_shelveNothing_5 : decode cX2_shelveNothing 5 = .ok (.invokevirtual 50, 3) := by decide +kernel
theorem dX2_shelveNothing_8 : decode cX2_shelveNothing 8 = .ok (.return_, 1) := by decide +kernel
set_option maxRecDepth 20000 in
theorem ggX2_shelve_X2_isShelf : GoodIn wsX2_shelve wsX2_isShelf := goodIn_r _ [8, 9, 10, 11] (by decide +kernel) (by decide +kernel)
set_option maxRecDepth 20000 in
theorem gX2_shelve_X2_isShelf : GoodIn wsX2_shelve (wsV RX2 57 RX2 yX2_isShelf wsX2_isShelf) := goodIn_app (goodIn_of _ (by decide +kernel)) ggX2_shelve_X2_isShelf
theorem dX2_shelve_0 : decode cX2_shelve 0 = .ok (.aload_n 0, 1) := by decide +kernel
theorem dX2_shelve_1 : decode cX2_shelve 1 = .ok (.iload_n 1, 1) := by decide +kernel
theorem dX2_shelve_2 : decode cX2_shelve 2 = .ok (.invokevirtual 57, 3) := by decide +kernel
theorem dX2_shelve_5 : decode cX2_shelve 5 = .ok (.ifCond .ne 4, 3) := by decide +kernel
theorem dX2_shelve_8 : decode cX2_shelve 8 = .ok (.return_, 1) := by decide +kernel
theorem dX2_shelve_9 : decode cX2_shelve 9 = .ok (.aload_n 0, 1) := by decide +kernel
theorem dX2_shelve_10 : decode cX2_shelve 10 = .ok (.getfield 22, 3) := by decide +kernel
theorem dX2_shelve_13 : decode cX2_shelve 13 = .ok (.iload_n 1, 1) := by decide +kernel
theorem dX2_shelve_14 : decode cX2_shelve 14 = .ok (.iload_n 2, 1) := by decide +kernel
theorem dX2_shelve_15 : decode cX2_shelve 15 = .ok (.iastore, 1) := by decide +kernel
theorem dX2_shelve_16 : decode cX2_shelve 16 = .ok (.aload_n 0, 1) := by decide +kernel
theorem dX2_shelve_17 : decode cX2_shelve 17 = .ok (.getfield 16, 3) := by decide +kernel
theorem dX2_shelve_20 : decode cX2_shelve 20 = .ok (.iload_n 1, 1) := by decide +kernel
theorem dX2_shelve_21 : decode cX2_shelve 21 = .ok (.iload_n 3, 1) := by decide +kernel
theorem dX2_shelve_22 : decode cX2_shelve 22 = .ok (.iastore, 1) := by decide +kernel
theorem dX2_shelve_23 : decode cX2_shelve 23 = .ok (.aload_n 0, 1) := by decide +kernel
theorem dX2_shelve_24 : decode cX2_shelve 24 = .ok (.getfield 19, 3) := by decide +kernel
theorem dX2_shelve_27 : decode cX2_shelve 27 = .ok (.iload_n 1, 1) := by decide +kernel
theorem dX2_shelve_28 : decode cX2_shelve 28 = .ok (.iload 4, 2) := by decide +kernel
theorem dX2_shelve_30 : decode cX2_shelve 30 = .ok (.iastore, 1) := by decide +kernel
theorem dX2_shelve_31 : decode cX2_shelve 31 = .ok (.return_, 1) := by decide +kernel
set_option maxRecDepth 20000 in
theorem ggX2_shelvedChild_X2_isShelf : GoodIn wsX2_shelvedChild wsX2_isShelf := goodIn_r _ [6, 7, 8, 9] (by decide +kernel) (by decide +kernel)
set_option maxRecDepth 20000 in
theorem gX2_shelvedChild_X2_isShelf : GoodIn wsX2_shelvedChild (wsV RX2 57 RX2 yX2_isShelf wsX2_isShelf) := goodIn_app (goodIn_of _ (by decide +kernel)) ggX2_shelvedChild_X2_isShelf
theorem dX2_shelvedChild_0 : decode cX2_shelvedChild 0 = .ok (.aload_n 0, 1) := by decide +kernel
theorem dX2_shelvedChild_1 : decode cX2_shelvedChild 1 = .ok (.iload_n 1, 1) := by decide +kernel
theorem dX2_shelvedChild_2 : decode cX2_shelvedChild 2 = .ok (.invokevirtual 57, 3) := by decide +kernel
theorem dX2_shelvedChild_5 : decode cX2_shelvedChild 5 = .ok (.ifCond .eq 12, 3) := by decide +kernel
theorem dX2_shelvedChild_8 : decode cX2_shelvedChild 8 = .ok (.aload_n 0, 1) := by decide +kernel
theorem dX2_shelvedChild_9 : decode cX2_shelvedChild 9 = .ok (.getfield 22, 3) := by decide +kernel
theorem dX2_shelvedChild_12 : decode cX2_shelvedChild 12 = .ok (.iload_n 1, 1) := by decide +kernel
theorem dX2_shelvedChild_13 : decode cX2_shelvedChild 13 = .ok (.iaload, 1) := by decide +kernel
theorem dX2_shelvedChild_14 : decode cX2_shelvedChild 14 = .ok (.goto 4, 3) := by decide +kernel
theorem dX2_shelvedChild_17 : decode cX2_shelvedChild 17 = .ok (.iconst (-1), 1) := by decide +kernel
theorem dX2_shelvedChild_18 : decode cX2_shelvedChild 18 = .ok (.ireturn, 1) := by decide +kernel
set_option maxRecDepth 20000 in
theorem ggX2_shelvedSort_X2_isShelf : GoodIn wsX2_shelvedSort wsX2_isShelf := goodIn_r _ [6, 7, 8, 9] (by decide +kernel) (by decide +kernel)
set_option maxRecDepth 20000 in
theorem gX2_shelvedSort_X2_isShelf : GoodIn wsX2_shelvedSort (wsV RX2 57 RX2 yX2_isShelf wsX2_isShelf) := goodIn_app (goodIn_of _ (by decide +kernel)) ggX2_shelvedSort_X2_isShelf
theorem dX2_shelvedSort_0 : decode cX2_shelvedSort 0 = .ok (.aload_n 0, 1) := by decide +kernel
theorem dX2_shelvedSort_1 : decode cX2_shelvedSort 1 = .ok (.iload_n 1, 1) := by decide +kernel
theorem dX2_shelvedSort_2 : decode cX2_shelvedSort 2 = .ok (.invokevirtual 57, 3) := by decide +kernel
theorem dX2_shelvedSort_5 : decode cX2_shelvedSort 5 = .ok (.ifCond .eq 12, 3) := by decide +kernel
theorem dX2_shelvedSort_8 : decode cX2_shelvedSort 8 = .ok (.aload_n 0, 1) := by decide +kernel
theorem dX2_shelvedSort_9 : decode cX2_shelvedSort 9 = .ok (.getfield 16, 3) := by decide +kernel
theorem dX2_shelvedSort_12 : decode cX2_shelvedSort 12 = .ok (.iload_n 1, 1) := by decide +kernel
theorem dX2_shelvedSort_13 : decode cX2_shelvedSort 13 = .ok (.iaload, 1) := by decide +kernel
theorem dX2_shelvedSort_14 : decode cX2_shelvedSort 14 = .ok (.goto 4, 3) := by decide +kernel
theorem dX2_shelvedSort_17 : decode cX2_shelvedSort 17 = .ok (.iconst (-1), 1) := by decide +kernel
theorem dX2_shelvedSort_18 : decode cX2_shelvedSort 18 = .ok (.ireturn, 1) := by decide +kernel
set_option maxRecDepth 20000 in
theorem ggX2_shelvedSize_X2_isShelf : GoodIn wsX2_shelvedSize wsX2_isShelf := goodIn_r _ [6, 7, 8, 9] (by decide +kernel) (by decide +kernel)
set_option maxRecDepth 20000 in
theorem gX2_shelvedSize_X2_isShelf : GoodIn wsX2_shelvedSize (wsV RX2 57 RX2 yX2_isShelf wsX2_isShelf) := goodIn_app (goodIn_of _ (by decide +kernel)) ggX2_shelvedSize_X2_isShelf
theorem dX2_shelvedSize_0 : decode cX2_shelvedSize 0 = .ok (.aload_n 0, 1) := by decide +kernel
theorem dX2_shelvedSize_1 : decode cX2_shelvedSize 1 = .ok (.iload_n 1, 1) := by decide +kernel
theorem dX2_shelvedSize_2 : decode cX2_shelvedSize 2 = .ok (.invokevirtual 57, 3) := by decide +kernel
theorem dX2_shelvedSize_5 : decode cX2_shelvedSize 5 = .ok (.ifCond .eq 12, 3) := by decide +kernel
theorem dX2_shelvedSize_8 : decode cX2_shelvedSize 8 = .ok (.aload_n 0, 1) := by decide +kernel
theorem dX2_shelvedSize_9 : decode cX2_shelvedSize 9 = .ok (.getfield 19, 3) := by decide +kernel
theorem dX2_shelvedSize_12 : decode cX2_shelvedSize 12 = .ok (.iload_n 1, 1) := by decide +kernel
theorem dX2_shelvedSize_13 : decode cX2_shelvedSize 13 = .ok (.iaload, 1) := by decide +kernel
theorem dX2_shelvedSize_14 : decode cX2_shelvedSize 14 = .ok (.goto 4, 3) := by decide +kernel
theorem dX2_shelvedSize_17 : decode cX2_shelvedSize 17 = .ok (.iconst 0, 1) := by decide +kernel
theorem dX2_shelvedSize_18 : decode cX2_shelvedSize 18 = .ok (.ireturn, 1) := by decide +kernel
set_option maxRecDepth 20000 in
theorem ggX3_init_X5_init : GoodIn wsX3_init wsX5_init := goodIn_r _ [4, 5, 6, 7, 8, 9, 10, 11] (by decide +kernel) (by decide +kernel)
set_option maxRecDepth 20000 in
theorem gX3_init_X5_init : GoodIn wsX3_init (wsX5_init) := ggX3_init_X5_init
theorem dX3_init_0 : decode cX3_init 0 = .ok (.aload_n 0, 1) := by decide +kernel
theorem dX3_init_1 : decode cX3_init 1 = .ok (.invokespecial 3, 3) := by decide +kernel
theorem dX3_init_4 : decode cX3_init 4 = .ok (.return_, 1) := by decide +kernel
set_option maxRecDepth 20000 in
theorem ggX3_moves_X5_moves : GoodIn wsX3_moves wsX5_moves := goodIn_r _ [7, 8, 9, 10, 11, 12, 13] (by decide +kernel) (by decide +kernel)
set_option maxRecDepth 20000 in
theorem gX3_moves_X5_moves_s9 : GoodIn wsX3_moves (va_wsSU RX3 9 yX5_moves wsX5_moves) := goodIn_app (goodIn_of _ (by decide +kernel)) ggX3_moves_X5_moves
theorem dX3_moves_0 : decode cX3_moves 0 = .ok (.aload_n 0, 1) := by decide +kernel
theorem dX3_moves_1 : decode cX3_moves 1 = .ok (.iload_n 1, 1) := by decide +kernel
theorem dX3_moves_2 : decode cX3_moves 2 = .ok (.aload_n 2, 1) := by decide +kernel
theorem dX3_moves_3 : decode cX3_moves 3 = .ok (.iload_n 3, 1) := by decide +kernel
theorem dX3_moves_4 : decode cX3_moves 4 = .ok (.invokespecial 9, 3) := by decide +kernel
theorem dX3_moves_7 : decode cX3_moves 7 = .ok (.aload_n 2, 1) := by decide +kernel
theorem dX3_moves_8 : decode cX3_moves 8 = .ok (.getfield 13, 3) := by decide +kernel
theorem dX3_moves_11 : decode cX3_moves 11 = .ok (.iconst 0, 1) := by decide +kernel
theorem dX3_moves_12 : decode cX3_moves 12 = .ok (.iaload, 1) := by decide +kernel
theorem dX3_moves_13 : decode cX3_moves 13 = .ok (.iadd, 1) := by decide +kernel
theorem dX3_moves_14 : decode cX3_moves 14 = .ok (.ireturn, 1) := by decide +kernel
set_option maxRecDepth 20000 in
theorem ggX3_ends_X5_ends : GoodIn wsX3_ends wsX5_ends := goodIn_r _ [7, 8, 9, 10, 11, 12, 13] (by decide +kernel) (by decide +kernel)
set_option maxRecDepth 20000 in
theorem gX3_ends_X5_ends_s19 : GoodIn wsX3_ends (va_wsSU RX3 19 yX5_ends wsX5_ends) := goodIn_app (goodIn_of _ (by decide +kernel)) ggX3_ends_X5_ends
theorem dX3_ends_0 : decode cX3_ends 0 = .ok (.aload_n 0, 1) := by decide +kernel
theorem dX3_ends_1 : decode cX3_ends 1 = .ok (.iload_n 1, 1) := by decide +kernel
theorem dX3_ends_2 : decode cX3_ends 2 = .ok (.aload_n 2, 1) := by decide +kernel
theorem dX3_ends_3 : decode cX3_ends 3 = .ok (.invokespecial 19, 3) := by decide +kernel
theorem dX3_ends_6 : decode cX3_ends 6 = .ok (.aload_n 2, 1) := by decide +kernel
theorem dX3_ends_7 : decode cX3_ends 7 = .ok (.getfield 13, 3) := by decide +kernel
theorem dX3_ends_10 : decode cX3_ends 10 = .ok (.iconst 0, 1) := by decide +kernel
theorem dX3_ends_11 : decode cX3_ends 11 = .ok (.iaload, 1) := by decide +kernel
theorem dX3_ends_12 : decode cX3_ends 12 = .ok (.isub, 1) := by decide +kernel
theorem dX3_ends_13 : decode cX3_ends 13 = .ok (.ireturn, 1) := by decide +kernel
set_option maxRecDepth 20000 in
theorem ggX3_parts_X4_runs : GoodIn wsX3_parts wsX4_runs := goodIn_r _ [5, 6, 7, 8, 9, 10, 11, 12, 13] (by decide +kernel) (by decide +kernel)
set_option maxRecDepth 20000 in
theorem gX3_parts_X4_runs : GoodIn wsX3_parts (wsV RX3 23 RX4 yX4_runs wsX4_runs) := goodIn_app (goodIn_of _ (by decide +kernel)) ggX3_parts_X4_runs
theorem dX3_parts_0 : decode cX3_parts 0 = .ok (.aload_n 2, 1) := by decide +kernel
theorem dX3_parts_1 : decode cX3_parts 1 = .ok (.bipush 50, 2) := by decide +kernel
theorem dX3_parts_3 : decode cX3_parts 3 = .ok (.invokevirtual 23, 3) := by decide +kernel
theorem dX3_parts_6 : decode cX3_parts 6 = .ok (.aload_n 0, 1) := by decide +kernel
theorem dX3_parts_7 : decode cX3_parts 7 = .ok (.iload_n 1, 1) := by decide +kernel
theorem dX3_parts_8 : decode cX3_parts 8 = .ok (.iconst 2, 1) := by decide +kernel
theorem dX3_parts_9 : decode cX3_parts 9 = .ok (.imul, 1) := by decide +kernel
theorem dX3_parts_10 : decode cX3_parts 10 = .ok (.aload_n 2, 1) := by decide +kernel
theorem dX3_parts_11 : decode cX3_parts 11 = .ok (.invokespecial 29, 3) := by decide +kernel
theorem dX3_parts_14 : decode cX3_parts 14 = .ok (.iconst 4, 1) := by decide +kernel
theorem dX3_parts_15 : decode cX3_parts 15 = .ok (.isub, 1) := by decide +kernel
theorem dX3_parts_16 : decode cX3_parts 16 = .ok (.ireturn, 1) := by decide +kernel
set_option maxRecDepth 20000 in
theorem ggX3_kicks_X4_runs : GoodIn wsX3_kicks wsX4_runs := goodIn_r _ [6, 7, 8, 9, 10, 11, 12, 13, 14] (by decide +kernel) (by decide +kernel)
set_option maxRecDepth 20000 in
theorem gX3_kicks_X4_runs : GoodIn wsX3_kicks (wsV RX3 23 RX4 yX4_runs wsX4_runs) := goodIn_app (goodIn_of _ (by decide +kernel)) ggX3_kicks_X4_runs
theorem dX3_kicks_0 : decode cX3_kicks 0 = .ok (.aload_n 2, 1) := by decide +kernel
theorem dX3_kicks_1 : decode cX3_kicks 1 = .ok (.bipush 51, 2) := by decide +kernel
theorem dX3_kicks_3 : decode cX3_kicks 3 = .ok (.invokevirtual 23, 3) := by decide +kernel
theorem dX3_kicks_6 : decode cX3_kicks 6 = .ok (.aload_n 0, 1) := by decide +kernel
theorem dX3_kicks_7 : decode cX3_kicks 7 = .ok (.iload_n 1, 1) := by decide +kernel
theorem dX3_kicks_8 : decode cX3_kicks 8 = .ok (.aload_n 2, 1) := by decide +kernel
theorem dX3_kicks_9 : decode cX3_kicks 9 = .ok (.invokespecial 33, 3) := by decide +kernel
theorem dX3_kicks_12 : decode cX3_kicks 12 = .ok (.aload_n 2, 1) := by decide +kernel
theorem dX3_kicks_13 : decode cX3_kicks 13 = .ok (.getfield 36, 3) := by decide +kernel
theorem dX3_kicks_16 : decode cX3_kicks 16 = .ok (.iadd, 1) := by decide +kernel
theorem dX3_kicks_17 : decode cX3_kicks 17 = .ok (.ireturn, 1) := by decide +kernel
theorem dX4_init_0 : decode cX4_init 0 = .ok (.aload_n 0, 1) := by decide +kernel
theorem dX4_init_1 : decode cX4_init 1 = .ok (.invokespecial 1, 3) := by decide +kernel
theorem dX4_init_4 : decode cX4_init 4 = .ok (.aload_n 0, 1) := by decide +kernel
theorem dX4_init_5 : decode cX4_init 5 = .ok (.bipush 30, 2) := by decide +kernel
theorem dX4_init_7 : decode cX4_init 7 = .ok (.newarray .int, 2) := by decide +kernel
theorem dX4_init_9 : decode cX4_init 9 = .ok (.putfield 9, 3) := by decide +kernel
theorem dX4_init_12 : decode cX4_init 12 = .ok (.return_, 1) := by decide +kernel
theorem dX4_begin_0 : decode cX4_begin 0 = .ok (.aload_n 0, 1) := by decide +kernel
theorem dX4_begin_1 : decode cX4_begin 1 = .ok (.iload_n 1, 1) := by decide +kernel
theorem dX4_begin_2 : decode cX4_begin 2 = .ok (.putfield 13, 3) := by decide +kernel
theorem dX4_begin_5 : decode cX4_begin 5 = .ok (.aload_n 0, 1) := by decide +kernel
theorem dX4_begin_6 : decode cX4_begin 6 = .ok (.iload_n 2, 1) := by decide +kernel
theorem dX4_begin_7 : decode cX4_begin 7 = .ok (.putfield 17, 3) := by decide +kernel
theorem dX4_begin_10 : decode cX4_begin 10 = .ok (.aload_n 0, 1) := by decide +kernel
theorem dX4_begin_11 : decode cX4_begin 11 = .ok (.iconst 0, 1) := by decide +kernel
theorem dX4_begin_12 : decode cX4_begin 12 = .ok (.putfield 20, 3) := by decide +kernel
theorem dX4_begin_15 : decode cX4_begin 15 = .ok (.aload_n 0, 1) := by decide +kernel
theorem dX4_begin_16 : decode cX4_begin 16 = .ok (.iconst 0, 1) := by decide +kernel
theorem dX4_begin_17 : decode cX4_begin 17 = .ok (.putfield 23, 3) := by decide +kernel
theorem dX4_begin_20 : decode cX4_begin 20 = .ok (.return_, 1) := by decide +kernel
theorem dX4_runs_0 : decode cX4_runs 0 = .ok (.aload_n 0, 1) := by decide +kernel
theorem dX4_runs_1 : decode cX4_runs 1 = .ok (.getfield 23, 3) := by decide +kernel
theorem dX4_runs_4 : decode cX4_runs 4 = .ok (.ifCond .ne 19, 3) := by decide +kernel
theorem dX4_runs_7 : decode cX4_runs 7 = .ok (.aload_n 0, 1) := by decide +kernel
theorem dX4_runs_8 : decode cX4_runs 8 = .ok (.getfield 20, 3) := by decide +kernel
theorem dX4_runs_11 : decode cX4_runs 11 = .ok (.ifCond .lt 12, 3) := by decide +kernel
theorem dX4_runs_14 : decode cX4_runs 14 = .ok (.aload_n 0, 1) := by decide +kernel
theorem dX4_runs_15 : decode cX4_runs 15 = .ok (.getfield 20, 3) := by decide +kernel
theorem dX4_runs_18 : decode cX4_runs 18 = .ok (.bipush 30, 2) := by decide +kernel
theorem dX4_runs_20 : decode cX4_runs 20 = .ok (.if_icmp .lt 4, 3) := by decide +kernel
theorem dX4_runs_23 : decode cX4_runs 23 = .ok (.return_, 1) := by decide +kernel
theorem dX4_runs_24 : decode cX4_runs 24 = .ok (.aload_n 0, 1) := by decide +kernel
theorem dX4_runs_25 : decode cX4_runs 25 = .ok (.getfield 9, 3) := by decide +kernel
theorem dX4_runs_28 : decode cX4_runs 28 = .ok (.aload_n 0, 1) := by decide +kernel
theorem dX4_runs_29 : decode cX4_runs 29 = .ok (.getfield 20, 3) := by decide +kernel
theorem dX4_runs_32 : decode cX4_runs 32 = .ok (.iload_n 1, 1) := by decide +kernel
theorem dX4_runs_33 : decode cX4_runs 33 = .ok (.iastore, 1) := by decide +kernel
theorem dX4_runs_34 : decode cX4_runs 34 = .ok (.aload_n 0, 1) := by decide +kernel
theorem dX4_runs_35 : decode cX4_runs 35 = .ok (.dup, 1) := by decide +kernel
theorem dX4_runs_36 : decode cX4_runs 36 = .ok (.getfield 20, 3) := by decide +kernel
theorem dX4_runs_39 : decode cX4_runs 39 = .ok (.iconst 1, 1) := by decide +kernel
theorem dX4_runs_40 : decode cX4_runs 40 = .ok (.iadd, 1) := by decide +kernel
theorem dX4_runs_41 : decode cX4_runs 41 = .ok (.putfield 20, 3) := by decide +kernel
theorem dX4_runs_44 : decode cX4_runs 44 = .ok (.return_, 1) := by decide +kernel
theorem dX4_parted_0 : decode cX4_parted 0 = .ok (.aload_n 0, 1) := by decide +kernel
theorem dX4_parted_1 : decode cX4_parted 1 = .ok (.getfield 17, 3) := by decide +kernel
theorem dX4_parted_4 : decode cX4_parted 4 = .ok (.aload_n 0, 1) := by decide +kernel
theorem dX4_parted_5 : decode cX4_parted 5 = .ok (.getfield 13, 3) := by decide +kernel
theorem dX4_parted_8 : decode cX4_parted 8 = .ok (.isub, 1) := by decide +kernel
theorem dX4_parted_9 : decode cX4_parted 9 = .ok (.istore_n 2, 1) := by decide +kernel
theorem dX4_parted_10 : decode cX4_parted 10 = .ok (.iload_n 2, 1) := by decide +kernel
theorem dX4_parted_11 : decode cX4_parted 11 = .ok (.ifCond .ne 10, 3) := by decide +kernel
theorem dX4_parted_14 : decode cX4_parted 14 = .ok (.aload_n 0, 1) := by decide +kernel
theorem dX4_parted_15 : decode cX4_parted 15 = .ok (.iconst 1, 1) := by decide +kernel
theorem dX4_parted_16 : decode cX4_parted 16 = .ok (.putfield 23, 3) := by decide +kernel
theorem dX4_parted_19 : decode cX4_parted 19 = .ok (.iconst 0, 1) := by decide +kernel
theorem dX4_parted_20 : decode cX4_parted 20 = .ok (.ireturn, 1) := by decide +kernel
theorem dX4_parted_21 : decode cX4_parted 21 = .ok (.iload_n 1, 1) := by decide +kernel
theorem dX4_parted_22 : decode cX4_parted 22 = .ok (.iload_n 2, 1) := by decide +kernel
theorem dX4_parted_23 : decode cX4_parted 23 = .ok (.idiv, 1) := by decide +kernel
theorem dX4_parted_24 : decode cX4_parted 24 = .ok (.ireturn, 1) := by decide +kernel
set_option maxRecDepth 20000 in
theorem ggX5_init_X0_init : GoodIn wsX5_init wsX0_init := goodIn_r _ [4, 5, 6, 7] (by decide +kernel) (by decide +kernel)
set_option maxRecDepth 20000 in
theorem gX5_init_X0_init : GoodIn wsX5_init (wsX0_init) := ggX5_init_X0_init
theorem dX5_init_0 : decode cX5_init 0 = .ok (.aload_n 0, 1) := by decide +kernel
theorem dX5_init_1 : decode cX5_init 1 = .ok (.invokespecial 1, 3) := by decide +kernel
theorem dX5_init_4 : decode cX5_init 4 = .ok (.return_, 1) := by decide +kernel
set_option maxRecDepth 20000 in
theorem ggX5_moves_X0_moves : GoodIn wsX5_moves wsX0_moves := goodIn_r _ [6] (by decide +kernel) (by decide +kernel)
set_option maxRecDepth 20000 in
theorem gX5_moves_X0_moves_s7 : GoodIn wsX5_moves (va_wsSU RX5 7 yX0_moves wsX0_moves) := goodIn_app (goodIn_of _ (by decide +kernel)) ggX5_moves_X0_moves
theorem dX5_moves_0 : decode cX5_moves 0 = .ok (.aload_n 0, 1) := by decide +kernel
theorem dX5_moves_1 : decode cX5_moves 1 = .ok (.iload_n 1, 1) := by decide +kernel
theorem dX5_moves_2 : decode cX5_moves 2 = .ok (.aload_n 2, 1) := by decide +kernel
theorem dX5_moves_3 : decode cX5_moves 3 = .ok (.iload_n 3, 1) := by decide +kernel
theorem dX5_moves_4 : decode cX5_moves 4 = .ok (.invokespecial 7, 3) := by decide +kernel
theorem dX5_moves_7 : decode cX5_moves 7 = .ok (.iconst 2, 1) := by decide +kernel
theorem dX5_moves_8 : decode cX5_moves 8 = .ok (.idiv, 1) := by decide +kernel
theorem dX5_moves_9 : decode cX5_moves 9 = .ok (.ireturn, 1) := by decide +kernel
set_option maxRecDepth 20000 in
theorem ggX5_ends_X0_ends : GoodIn wsX5_ends wsX0_ends := goodIn_r _ [6] (by decide +kernel) (by decide +kernel)
set_option maxRecDepth 20000 in
theorem gX5_ends_X0_ends_s11 : GoodIn wsX5_ends (va_wsSU RX5 11 yX0_ends wsX0_ends) := goodIn_app (goodIn_of _ (by decide +kernel)) ggX5_ends_X0_ends
theorem dX5_ends_0 : decode cX5_ends 0 = .ok (.aload_n 0, 1) := by decide +kernel
theorem dX5_ends_1 : decode cX5_ends 1 = .ok (.iload_n 1, 1) := by decide +kernel
theorem dX5_ends_2 : decode cX5_ends 2 = .ok (.aload_n 2, 1) := by decide +kernel
theorem dX5_ends_3 : decode cX5_ends 3 = .ok (.invokespecial 11, 3) := by decide +kernel
theorem dX5_ends_6 : decode cX5_ends 6 = .ok (.iconst 4, 1) := by decide +kernel
theorem dX5_ends_7 : decode cX5_ends 7 = .ok (.iadd, 1) := by decide +kernel
theorem dX5_ends_8 : decode cX5_ends 8 = .ok (.ireturn, 1) := by decide +kernel
set_option maxRecDepth 20000 in
theorem ggX5_prays_X4_runs : GoodIn wsX5_prays wsX4_runs := goodIn_r _ [5, 6, 7, 8, 48, 49, 50, 51, 52] (by decide +kernel) (by decide +kernel)
set_option maxRecDepth 20000 in
theorem gX5_prays_X4_runs : GoodIn wsX5_prays (wsV RX5 15 RX4 yX4_runs wsX4_runs) := goodIn_app (goodIn_of _ (by decide +kernel)) ggX5_prays_X4_runs
set_option maxRecDepth 20000 in
theorem ggX5_prays_X0_prays : GoodIn wsX5_prays wsX0_prays := goodIn_r _ [14, 15, 16, 2, 3, 4, 5, 6, 7, 8, 17, 18, 19, 13, 20, 21, 22, 23, 24, 25, 26, 27, 28, 29, 30, 31, 32, 33, 34, 35, 36, 37, 38, 39, 40, 41, 42, 43, 44, 45, 46, 47, 48, 49, 50, 51, 52] (by decide +kernel) (by decide +kernel)
set_option maxRecDepth 20000 in
theorem gX5_prays_X0_prays_s21 : GoodIn wsX5_prays (va_wsSU RX5 21 yX0_prays wsX0_prays) := goodIn_app (goodIn_of _ (by decide +kernel)) ggX5_prays_X0_prays
theorem dX5_prays_0 : decode cX5_prays 0 = .ok (.aload_n 2, 1) := by decide +kernel
theorem dX5_prays_1 : decode cX5_prays 1 = .ok (.bipush 20, 2) := by decide +kernel
theorem dX5_prays_3 : decode cX5_prays 3 = .ok (.invokevirtual 15, 3) := by decide +kernel
theorem dX5_prays_6 : decode cX5_prays 6 = .ok (.aload_n 0, 1) := by decide +kernel
theorem dX5_prays_7 : decode cX5_prays 7 = .ok (.iload_n 1, 1) := by decide +kernel
theorem dX5_prays_8 : decode cX5_prays 8 = .ok (.aload_n 2, 1) := by decide +kernel
theorem dX5_prays_9 : decode cX5_prays 9 = .ok (.invokespecial 21, 3) := by decide +kernel
theorem dX5_prays_12 : decode cX5_prays 12 = .ok (.iconst 3, 1) := by decide +kernel
theorem dX5_prays_13 : decode cX5_prays 13 = .ok (.iadd, 1) := by decide +kernel
theorem dX5_prays_14 : decode cX5_prays 14 = .ok (.ireturn, 1) := by decide +kernel
theorem dX6_init_0 : decode cX6_init 0 = .ok (.aload_n 0, 1) := by decide +kernel
theorem dX6_init_1 : decode cX6_init 1 = .ok (.invokespecial 3, 3) := by decide +kernel
theorem dX6_init_4 : decode cX6_init 4 = .ok (.return_, 1) := by decide +kernel
theorem dX6_mark_0 : decode cX6_mark 0 = .ok (.iload_n 1, 1) := by decide +kernel
theorem dX6_mark_1 : decode cX6_mark 1 = .ok (.tableswitch 60 0 4 #[35, 40, 45, 50, 55], 35) := by decide +kernel
theorem dX6_mark_36 : decode cX6_mark 36 = .ok (.aload_n 0, 1) := by decide +kernel
theorem dX6_mark_37 : decode cX6_mark 37 = .ok (.getfield 9, 3) := by decide +kernel
theorem dX6_mark_40 : decode cX6_mark 40 = .ok (.ireturn, 1) := by decide +kernel
theorem dX6_mark_41 : decode cX6_mark 41 = .ok (.aload_n 0, 1) := by decide +kernel
theorem dX6_mark_42 : decode cX6_mark 42 = .ok (.getfield 15, 3) := by decide +kernel
theorem dX6_mark_45 : decode cX6_mark 45 = .ok (.ireturn, 1) := by decide +kernel
theorem dX6_mark_46 : decode cX6_mark 46 = .ok (.aload_n 0, 1) := by decide +kernel
theorem dX6_mark_47 : decode cX6_mark 47 = .ok (.getfield 18, 3) := by decide +kernel
theorem dX6_mark_50 : decode cX6_mark 50 = .ok (.ireturn, 1) := by decide +kernel
theorem dX6_mark_51 : decode cX6_mark 51 = .ok (.aload_n 0, 1) := by decide +kernel
theorem dX6_mark_52 : decode cX6_mark 52 = .ok (.getfield 21, 3) := by decide +kernel
theorem dX6_mark_55 : decode cX6_mark 55 = .ok (.ireturn, 1) := by decide +kernel
theorem dX6_mark_56 : decode cX6_mark 56 = .ok (.aload_n 0, 1) := by decide +kernel
theorem dX6_mark_57 : decode cX6_mark 57 = .ok (.getfield 24, 3) := by decide +kernel
theorem dX6_mark_60 : decode cX6_mark 60 = .ok (.ireturn, 1) := by decide +kernel
theorem dX6_mark_61 : decode cX6_mark 61 = .ok (.aload_n 0, 1) := by decide +kernel
theorem dX6_mark_62 : decode cX6_mark 62 = .ok (.getfield 27, 3) := by decide +kernel
theorem dX6_mark_65 : decode cX6_mark 65 = .ok (.ireturn, 1) := by decide +kernel
theorem dX6_remark_0 : decode cX6_remark 0 = .ok (.iload_n 1, 1) := by decide +kernel
theorem dX6_remark_1 : decode cX6_remark 1 = .ok (.tableswitch 75 0 4 #[35, 43, 51, 59, 67], 35) := by decide +kernel
theorem dX6_remark_36 : decode cX6_remark 36 = .ok (.aload_n 0, 1) := by decide +kernel
theorem dX6_remark_37 : decode cX6_remark 37 = .ok (.iload_n 2, 1) := by decide +kernel
theorem dX6_remark_38 : decode cX6_remark 38 = .ok (.putfield 9, 3) := by decide +kernel
theorem dX6_remark_41 : decode cX6_remark 41 = .ok (.goto 40, 3) := by decide +kernel
theorem dX6_remark_44 : decode cX6_remark 44 = .ok (.aload_n 0, 1) := by decide +kernel
theorem dX6_remark_45 : decode cX6_remark 45 = .ok (.iload_n 2, 1) := by decide +kernel
theorem dX6_remark_46 : decode cX6_remark 46 = .ok (.putfield 15, 3) := by decide +kernel
theorem dX6_remark_49 : decode cX6_remark 49 = .ok (.goto 32, 3) := by decide +kernel
theorem dX6_remark_52 : decode cX6_remark 52 = .ok (.aload_n 0, 1) := by decide +kernel
theorem dX6_remark_53 : decode cX6_remark 53 = .ok (.iload_n 2, 1) := by decide +kernel
theorem dX6_remark_54 : decode cX6_remark 54 = .ok (.putfield 18, 3) := by decide +kernel
theorem dX6_remark_57 : decode cX6_remark 57 = .ok (.goto 24, 3) := by decide +kernel
theorem dX6_remark_60 : decode cX6_remark 60 = .ok (.aload_n 0, 1) := by decide +kernel
theorem dX6_remark_61 : decode cX6_remark 61 = .ok (.iload_n 2, 1) := by decide +kernel
theorem dX6_remark_62 : decode cX6_remark 62 = .ok (.putfield 21, 3) := by decide +kernel
theorem dX6_remark_65 : decode cX6_remark 65 = .ok (.goto 16, 3) := by decide +kernel
theorem dX6_remark_68 : decode cX6_remark 68 = .ok (.aload_n 0, 1) := by decide +kernel
theorem dX6_remark_69 : decode cX6_remark 69 = .ok (.iload_n 2, 1) := by decide +kernel
theorem dX6_remark_70 : decode cX6_remark 70 = .ok (.putfield 24, 3) := by decide +kernel
theorem dX6_remark_73 : decode cX6_remark 73 = .ok (.goto 8, 3) := by decide +kernel
theorem dX6_remark_76 : decode cX6_remark 76 = .ok (.aload_n 0, 1) := by decide +kernel
theorem dX6_remark_77 : decode cX6_remark 77 = .ok (.iload_n 2, 1) := by decide +kernel
theorem dX6_remark_78 : decode cX6_remark 78 = .ok (.putfield 27, 3) := by decide +kernel
theorem dX6_remark_81 : decode cX6_remark 81 = .ok (.return_, 1) := by decide +kernel
theorem dX6_begin_0 : decode cX6_begin 0 = .ok (.aload_n 0, 1) := by decide +kernel
theorem dX6_begin_1 : decode cX6_begin 1 = .ok (.iload_n 1, 1) := by decide +kernel
theorem dX6_begin_2 : decode cX6_begin 2 = .ok (.putfield 9, 3) := by decide +kernel
theorem dX6_begin_5 : decode cX6_begin 5 = .ok (.aload_n 0, 1) := by decide +kernel
theorem dX6_begin_6 : decode cX6_begin 6 = .ok (.iload_n 2, 1) := by decide +kernel
theorem dX6_begin_7 : decode cX6_begin 7 = .ok (.putfield 15, 3) := by decide +kernel
theorem dX6_begin_10 : decode cX6_begin 10 = .ok (.aload_n 0, 1) := by decide +kernel
theorem dX6_begin_11 : decode cX6_begin 11 = .ok (.iload_n 3, 1) := by decide +kernel
theorem dX6_begin_12 : decode cX6_begin 12 = .ok (.putfield 18, 3) := by decide +kernel
theorem dX6_begin_15 : decode cX6_begin 15 = .ok (.aload_n 0, 1) := by decide +kernel
theorem dX6_begin_16 : decode cX6_begin 16 = .ok (.iload 4, 2) := by decide +kernel
theorem dX6_begin_18 : decode cX6_begin 18 = .ok (.putfield 27, 3) := by decide +kernel
theorem dX6_begin_21 : decode cX6_begin 21 = .ok (.aload_n 0, 1) := by decide +kernel
theorem dX6_begin_22 : decode cX6_begin 22 = .ok (.bipush 50, 2) := by decide +kernel
theorem dX6_begin_24 : decode cX6_begin 24 = .ok (.putfield 21, 3) := by decide +kernel
theorem dX6_begin_27 : decode cX6_begin 27 = .ok (.aload_n 0, 1) := by decide +kernel
theorem dX6_begin_28 : decode cX6_begin 28 = .ok (.iconst 0, 1) := by decide +kernel
theorem dX6_begin_29 : decode cX6_begin 29 = .ok (.putfield 24, 3) := by decide +kernel
theorem dX6_begin_32 : decode cX6_begin 32 = .ok (.return_, 1) := by decide +kernel
theorem dX6_become_0 : decode cX6_become 0 = .ok (.aload_n 0, 1) := by decide +kernel
theorem dX6_become_1 : decode cX6_become 1 = .ok (.aload_n 1, 1) := by decide +kernel
theorem dX6_become_2 : decode cX6_become 2 = .ok (.getfield 9, 3) := by decide +kernel
theorem dX6_become_5 : decode cX6_become 5 = .ok (.putfield 9, 3) := by decide +kernel
theorem dX6_become_8 : decode cX6_become 8 = .ok (.aload_n 0, 1) := by decide +kernel
theorem dX6_become_9 : decode cX6_become 9 = .ok (.aload_n 1, 1) := by decide +kernel
theorem dX6_become_10 : decode cX6_become 10 = .ok (.getfield 15, 3) := by decide +kernel
theorem dX6_become_13 : decode cX6_become 13 = .ok (.putfield 15, 3) := by decide +kernel
theorem dX6_become_16 : decode cX6_become 16 = .ok (.aload_n 0, 1) := by decide +kernel
theorem dX6_become_17 : decode cX6_become 17 = .ok (.aload_n 1, 1) := by decide +kernel
theorem dX6_become_18 : decode cX6_become 18 = .ok (.getfield 18, 3) := by decide +kernel
theorem dX6_become_21 : decode cX6_become 21 = .ok (.putfield 18, 3) := by decide +kernel
theorem dX6_become_24 : decode cX6_become 24 = .ok (.aload_n 0, 1) := by decide +kernel
theorem dX6_become_25 : decode cX6_become 25 = .ok (.aload_n 1, 1) := by decide +kernel
theorem dX6_become_26 : decode cX6_become 26 = .ok (.getfield 21, 3) := by decide +kernel
theorem dX6_become_29 : decode cX6_become 29 = .ok (.putfield 21, 3) := by decide +kernel
theorem dX6_become_32 : decode cX6_become 32 = .ok (.aload_n 0, 1) := by decide +kernel
theorem dX6_become_33 : decode cX6_become 33 = .ok (.aload_n 1, 1) := by decide +kernel
theorem dX6_become_34 : decode cX6_become 34 = .ok (.getfield 24, 3) := by decide +kernel
theorem dX6_become_37 : decode cX6_become 37 = .ok (.putfield 24, 3) := by decide +kernel
theorem dX6_become_40 : decode cX6_become 40 = .ok (.aload_n 0, 1) := by decide +kernel
theorem dX6_become_41 : decode cX6_become 41 = .ok (.aload_n 1, 1) := by decide +kernel
theorem dX6_become_42 : decode cX6_become 42 = .ok (.getfield 27, 3) := by decide +kernel
theorem dX6_become_45 : decode cX6_become 45 = .ok (.putfield 27, 3) := by decide +kernel
theorem dX6_become_48 : decode cX6_become 48 = .ok (.return_, 1) := by decide +kernel
theorem dX6_distance_0 : decode cX6_distance 0 = .ok (.aload_n 0, 1) := by decide +kernel
theorem dX6_distance_1 : decode cX6_distance 1 = .ok (.getfield 15, 3) := by decide +kernel
theorem dX6_distance_4 : decode cX6_distance 4 = .ok (.aload_n 0, 1) := by decide +kernel
theorem dX6_distance_5 : decode cX6_distance 5 = .ok (.getfield 21, 3) := by decide +kernel
theorem dX6_distance_8 : decode cX6_distance 8 = .ok (.isub, 1) := by decide +kernel
theorem dX6_distance_9 : decode cX6_distance 9 = .ok (.invokestatic 30, 3) := by decide +kernel
theorem dX6_distance_12 : decode cX6_distance 12 = .ok (.ireturn, 1) := by decide +kernel
set_option maxRecDepth 20000 in
theorem ggX6_move_X11_held : GoodIn wsX6_move wsX11_held := goodIn_r _ [11, 12, 3, 4, 5, 13, 7, 8] (by decide +kernel) (by decide +kernel)
set_option maxRecDepth 20000 in
theorem gX6_move_X11_held_n36 : GoodIn wsX6_move (wsX11_held) := ggX6_move_X11_held
theorem dX6_move_0 : decode cX6_move 0 = .ok (.iload_n 3, 1) := by decide +kernel
theorem dX6_move_1 : decode cX6_move 1 = .ok (.ifCond .ne 36, 3) := by decide +kernel
theorem dX6_move_4 : decode cX6_move 4 = .ok (.aload_n 0, 1) := by decide +kernel
theorem dX6_move_5 : decode cX6_move 5 = .ok (.aload_n 0, 1) := by decide +kernel
theorem dX6_move_6 : decode cX6_move 6 = .ok (.getfield 15, 3) := by decide +kernel
theorem dX6_move_9 : decode cX6_move 9 = .ok (.iload_n 2, 1) := by decide +kernel
theorem dX6_move_10 : decode cX6_move 10 = .ok (.if_icmp .lt 12, 3) := by decide +kernel
theorem dX6_move_13 : decode cX6_move 13 = .ok (.aload_n 0, 1) := by decide +kernel
theorem dX6_move_14 : decode cX6_move 14 = .ok (.getfield 15, 3) := by decide +kernel
theorem dX6_move_17 : decode cX6_move 17 = .ok (.iload_n 1, 1) := by decide +kernel
theorem dX6_move_18 : decode cX6_move 18 = .ok (.iadd, 1) := by decide +kernel
theorem dX6_move_19 : decode cX6_move 19 = .ok (.goto 9, 3) := by decide +kernel
theorem dX6_move_22 : decode cX6_move 22 = .ok (.aload_n 0, 1) := by decide +kernel
theorem dX6_move_23 : decode cX6_move 23 = .ok (.getfield 15, 3) := by decide +kernel
theorem dX6_move_26 : decode cX6_move 26 = .ok (.iload_n 1, 1) := by decide +kernel
theorem dX6_move_27 : decode cX6_move 27 = .ok (.isub, 1) := by decide +kernel
theorem dX6_move_28 : decode cX6_move 28 = .ok (.invokestatic 36, 3) := by decide +kernel
theorem dX6_move_31 : decode cX6_move 31 = .ok (.putfield 15, 3) := by decide +kernel
theorem dX6_move_34 : decode cX6_move 34 = .ok (.goto 42, 3) := by decide +kernel
theorem dX6_move_37 : decode cX6_move 37 = .ok (.aload_n 0, 1) := by decide +kernel
theorem dX6_move_38 : decode cX6_move 38 = .ok (.getfield 15, 3) := by decide +kernel
theorem dX6_move_41 : decode cX6_move 41 = .ok (.iload_n 2, 1) := by decide +kernel
theorem dX6_move_42 : decode cX6_move 42 = .ok (.if_icmp .ge 20, 3) := by decide +kernel
theorem dX6_move_45 : decode cX6_move 45 = .ok (.aload_n 0, 1) := by decide +kernel
theorem dX6_move_46 : decode cX6_move 46 = .ok (.iload_n 2, 1) := by decide +kernel
theorem dX6_move_47 : decode cX6_move 47 = .ok (.aload_n 0, 1) := by decide +kernel
theorem dX6_move_48 : decode cX6_move 48 = .ok (.getfield 15, 3) := by decide +kernel
theorem dX6_move_51 : decode cX6_move 51 = .ok (.iload_n 1, 1) := by decide +kernel
theorem dX6_move_52 : decode cX6_move 52 = .ok (.iadd, 1) := by decide +kernel
theorem dX6_move_53 : decode cX6_move 53 = .ok (.invokestatic 39, 3) := by decide +kernel
theorem dX6_move_56 : decode cX6_move 56 = .ok (.putfield 15, 3) := by decide +kernel
theorem dX6_move_59 : decode cX6_move 59 = .ok (.goto 17, 3) := by decide +kernel
theorem dX6_move_62 : decode cX6_move 62 = .ok (.aload_n 0, 1) := by decide +kernel
theorem dX6_move_63 : decode cX6_move 63 = .ok (.iload_n 2, 1) := by decide +kernel
theorem dX6_move_64 : decode cX6_move 64 = .ok (.aload_n 0, 1) := by decide +kernel
theorem dX6_move_65 : decode cX6_move 65 = .ok (.getfield 15, 3) := by decide +kernel
theorem dX6_move_68 : decode cX6_move 68 = .ok (.iload_n 1, 1) := by decide +kernel
theorem dX6_move_69 : decode cX6_move 69 = .ok (.isub, 1) := by decide +kernel
theorem dX6_move_70 : decode cX6_move 70 = .ok (.invokestatic 43, 3) := by decide +kernel
theorem dX6_move_73 : decode cX6_move 73 = .ok (.putfield 15, 3) := by decide +kernel
theorem dX6_move_76 : decode cX6_move 76 = .ok (.return_, 1) := by decide +kernel
set_option maxRecDepth 20000 in
theorem ggX7_init_X10_init : GoodIn wsX7_init wsX10_init := goodIn_r _ [4, 5, 6, 7, 8, 9, 10, 11] (by decide +kernel) (by decide +kernel)
set_option maxRecDepth 20000 in
theorem gX7_init_X10_init : GoodIn wsX7_init (wsX10_init) := ggX7_init_X10_init
theorem dX7_init_0 : decode cX7_init 0 = .ok (.aload_n 0, 1) := by decide +kernel
theorem dX7_init_1 : decode cX7_init 1 = .ok (.invokespecial 1, 3) := by decide +kernel
theorem dX7_init_4 : decode cX7_init 4 = .ok (.return_, 1) := by decide +kernel
set_option maxRecDepth 20000 in
theorem ggX7_moves_X10_moves : GoodIn wsX7_moves wsX10_moves := goodIn_r _ [6, 7, 8, 9, 10, 11, 12, 13, 14, 15, 16, 17, 18, 19, 20, 21] (by decide +kernel) (by decide +kernel)
set_option maxRecDepth 20000 in
theorem gX7_moves_X10_moves_s7 : GoodIn wsX7_moves (va_wsSU RX7 7 yX10_moves wsX10_moves) := goodIn_app (goodIn_of _ (by decide +kernel)) ggX7_moves_X10_moves
theorem dX7_moves_0 : decode cX7_moves 0 = .ok (.aload_n 0, 1) := by decide +kernel
theorem dX7_moves_1 : decode cX7_moves 1 = .ok (.iload_n 1, 1) := by decide +kernel
theorem dX7_moves_2 : decode cX7_moves 2 = .ok (.aload_n 2, 1) := by decide +kernel
theorem dX7_moves_3 : decode cX7_moves 3 = .ok (.iload_n 3, 1) := by decide +kernel
theorem dX7_moves_4 : decode cX7_moves 4 = .ok (.invokespecial 7, 3) := by decide +kernel
theorem dX7_moves_7 : decode cX7_moves 7 = .ok (.iconst 2, 1) := by decide +kernel
theorem dX7_moves_8 : decode cX7_moves 8 = .ok (.imul, 1) := by decide +kernel
theorem dX7_moves_9 : decode cX7_moves 9 = .ok (.ireturn, 1) := by decide +kernel
set_option maxRecDepth 20000 in
theorem ggX7_ends_X10_ends : GoodIn wsX7_ends wsX10_ends := goodIn_r _ [6, 7, 8, 9, 10, 11, 12] (by decide +kernel) (by decide +kernel)
set_option maxRecDepth 20000 in
theorem gX7_ends_X10_ends_s11 : GoodIn wsX7_ends (va_wsSU RX7 11 yX10_ends wsX10_ends) := goodIn_app (goodIn_of _ (by decide +kernel)) ggX7_ends_X10_ends
theorem dX7_ends_0 : decode cX7_ends 0 = .ok (.aload_n 0, 1) := by decide +kernel
theorem dX7_ends_1 : decode cX7_ends 1 = .ok (.iload_n 1, 1) := by decide +kernel
theorem dX7_ends_2 : decode cX7_ends 2 = .ok (.aload_n 2, 1) := by decide +kernel
theorem dX7_ends_3 : decode cX7_ends 3 = .ok (.invokespecial 11, 3) := by decide +kernel
theorem dX7_ends_6 : decode cX7_ends 6 = .ok (.iload_n 1, 1) := by decide +kernel
theorem dX7_ends_7 : decode cX7_ends 7 = .ok (.iadd, 1) := by decide +kernel
theorem dX7_ends_8 : decode cX7_ends 8 = .ok (.ireturn, 1) := by decide +kernel
set_option maxRecDepth 20000 in
theorem ggX7_kicks_X4_runs : GoodIn wsX7_kicks wsX4_runs := goodIn_r _ [5, 6, 7, 8, 24, 25, 26, 27, 28] (by decide +kernel) (by decide +kernel)
set_option maxRecDepth 20000 in
theorem gX7_kicks_X4_runs : GoodIn wsX7_kicks (wsV RX7 15 RX4 yX4_runs wsX4_runs) := goodIn_app (goodIn_of _ (by decide +kernel)) ggX7_kicks_X4_runs
set_option maxRecDepth 20000 in
theorem ggX7_kicks_X10_kicks : GoodIn wsX7_kicks wsX10_kicks := goodIn_r _ [14, 15, 2, 3, 4, 5, 6, 7, 8, 16, 17, 18, 19, 20, 21, 22, 23, 24, 25, 26, 27, 28] (by decide +kernel) (by decide +kernel)
set_option maxRecDepth 20000 in
theorem gX7_kicks_X10_kicks_s21 : GoodIn wsX7_kicks (va_wsSU RX7 21 yX10_kicks wsX10_kicks) := goodIn_app (goodIn_of _ (by decide +kernel)) ggX7_kicks_X10_kicks
theorem dX7_kicks_0 : decode cX7_kicks 0 = .ok (.aload_n 2, 1) := by decide +kernel
theorem dX7_kicks_1 : decode cX7_kicks 1 = .ok (.bipush 40, 2) := by decide +kernel
theorem dX7_kicks_3 : decode cX7_kicks 3 = .ok (.invokevirtual 15, 3) := by decide +kernel
theorem dX7_kicks_6 : decode cX7_kicks 6 = .ok (.aload_n 0, 1) := by decide +kernel
theorem dX7_kicks_7 : decode cX7_kicks 7 = .ok (.iload_n 1, 1) := by decide +kernel
theorem dX7_kicks_8 : decode cX7_kicks 8 = .ok (.aload_n 2, 1) := by decide +kernel
theorem dX7_kicks_9 : decode cX7_kicks 9 = .ok (.invokespecial 21, 3) := by decide +kernel
theorem dX7_kicks_12 : decode cX7_kicks 12 = .ok (.bipush 6, 2) := by decide +kernel
theorem dX7_kicks_14 : decode cX7_kicks 14 = .ok (.ixor, 1) := by decide +kernel
theorem dX7_kicks_15 : decode cX7_kicks 15 = .ok (.ireturn, 1) := by decide +kernel
set_option maxRecDepth 20000 in
theorem ggX7_prays_X4_runs : GoodIn wsX7_prays wsX4_runs := goodIn_r _ [6, 7, 8, 9, 30, 31, 32, 33, 34] (by decide +kernel) (by decide +kernel)
set_option maxRecDepth 20000 in
theorem gX7_prays_X4_runs : GoodIn wsX7_prays (wsV RX7 15 RX4 yX4_runs wsX4_runs) := goodIn_app (goodIn_of _ (by decide +kernel)) ggX7_prays_X4_runs
set_option maxRecDepth 20000 in
theorem ggX7_prays_X7_kicks : GoodIn wsX7_prays wsX7_kicks := goodIn_r _ [14, 2, 3, 4, 5, 6, 7, 8, 9, 15, 16, 17, 18, 19, 20, 21, 22, 23, 24, 25, 26, 27, 28, 29, 30, 31, 32, 33, 34] (by decide +kernel) (by decide +kernel)
set_option maxRecDepth 20000 in
theorem gX7_prays_X7_kicks : GoodIn wsX7_prays (wsV RX7 32 RX7 yX7_kicks wsX7_kicks) := goodIn_app (goodIn_of _ (by decide +kernel)) ggX7_prays_X7_kicks
theorem dX7_prays_0 : decode cX7_prays 0 = .ok (.aload_n 2, 1) := by decide +kernel
theorem dX7_prays_1 : decode cX7_prays 1 = .ok (.bipush 41, 2) := by decide +kernel
theorem dX7_prays_3 : decode cX7_prays 3 = .ok (.invokevirtual 15, 3) := by decide +kernel
theorem dX7_prays_6 : decode cX7_prays 6 = .ok (.aload_n 0, 1) := by decide +kernel
theorem dX7_prays_7 : decode cX7_prays 7 = .ok (.iload_n 1, 1) := by decide +kernel
theorem dX7_prays_8 : decode cX7_prays 8 = .ok (.aload_n 2, 1) := by decide +kernel
theorem dX7_prays_9 : decode cX7_prays 9 = .ok (.invokespecial 25, 3) := by decide +kernel
theorem dX7_prays_12 : decode cX7_prays 12 = .ok (.aload_n 0, 1) := by decide +kernel
theorem dX7_prays_13 : decode cX7_prays 13 = .ok (.aload_n 2, 1) := by decide +kernel
theorem dX7_prays_14 : decode cX7_prays 14 = .ok (.getfield 28, 3) := by decide +kernel
theorem dX7_prays_17 : decode cX7_prays 17 = .ok (.aload_n 2, 1) := by decide +kernel
theorem dX7_prays_18 : decode cX7_prays 18 = .ok (.invokevirtual 32, 3) := by decide +kernel
theorem dX7_prays_21 : decode cX7_prays 21 = .ok (.isub, 1) := by decide +kernel
theorem dX7_prays_22 : decode cX7_prays 22 = .ok (.ireturn, 1) := by decide +kernel
theorem dX8_init_0 : decode cX8_init 0 = .ok (.aload_n 0, 1) := by decide +kernel
theorem dX8_init_1 : decode cX8_init 1 = .ok (.invokespecial 3, 3) := by decide +kernel
theorem dX8_init_4 : decode cX8_init 4 = .ok (.aload_n 0, 1) := by decide +kernel
theorem dX8_init_5 : decode cX8_init 5 = .ok (.sipush 200, 3) := by decide +kernel
theorem dX8_init_8 : decode cX8_init 8 = .ok (.newarray .byte, 2) := by decide +kernel
theorem dX8_init_10 : decode cX8_init 10 = .ok (.putfield 11, 3) := by decide +kernel
theorem dX8_init_13 : decode cX8_init 13 = .ok (.return_, 1) := by decide +kernel
set_option maxRecDepth 20000 in
theorem ggX8_takes_X11_within : GoodIn wsX8_takes wsX11_within := goodIn_r _ [5] (by decide +kernel) (by decide +kernel)
set_option maxRecDepth 20000 in
theorem gX8_takes_X11_within_n19 : GoodIn wsX8_takes (wsX11_within) := ggX8_takes_X11_within
theorem dX8_takes_0 : decode cX8_takes 0 = .ok (.iload_n 3, 1) := by decide +kernel
theorem dX8_takes_1 : decode cX8_takes 1 = .ok (.ifCond .lt 15, 3) := by decide +kernel
theorem dX8_takes_4 : decode cX8_takes 4 = .ok (.iload_n 3, 1) := by decide +kernel
theorem dX8_takes_5 : decode cX8_takes 5 = .ok (.sipush 200, 3) := by decide +kernel
theorem dX8_takes_8 : decode cX8_takes 8 = .ok (.aload_n 0, 1) := by decide +kernel
theorem dX8_takes_9 : decode cX8_takes 9 = .ok (.getfield 15, 3) := by decide +kernel
theorem dX8_takes_12 : decode cX8_takes 12 = .ok (.isub, 1) := by decide +kernel
theorem dX8_takes_13 : decode cX8_takes 13 = .ok (.if_icmp .le 5, 3) := by decide +kernel
theorem dX8_takes_16 : decode cX8_takes 16 = .ok (.iconst 0, 1) := by decide +kernel
theorem dX8_takes_17 : decode cX8_takes 17 = .ok (.ireturn, 1) := by decide +kernel
theorem dX8_takes_18 : decode cX8_takes 18 = .ok (.iconst 0, 1) := by decide +kernel
theorem dX8_takes_19 : decode cX8_takes 19 = .ok (.istore 4, 2) := by decide +kernel
theorem dX8_takes_21 : decode cX8_takes 21 = .ok (.iload 4, 2) := by decide +kernel
theorem dX8_takes_23 : decode cX8_takes 23 = .ok (.iload_n 3, 1) := by decide +kernel
theorem dX8_takes_24 : decode cX8_takes 24 = .ok (.if_icmp .ge 50, 3) := by decide +kernel
theorem dX8_takes_27 : decode cX8_takes 27 = .ok (.aload_n 0, 1) := by decide +kernel
theorem dX8_takes_28 : decode cX8_takes 28 = .ok (.getfield 15, 3) := by decide +kernel
theorem dX8_takes_31 : decode cX8_takes 31 = .ok (.sipush 199, 3) := by decide +kernel
theorem dX8_takes_34 : decode cX8_takes 34 = .ok (.invokestatic 19, 3) := by decide +kernel
theorem dX8_takes_37 : decode cX8_takes 37 = .ok (.ifCond .eq 21, 3) := by decide +kernel
theorem dX8_takes_40 : decode cX8_takes 40 = .ok (.aload_n 0, 1) := by decide +kernel
theorem dX8_takes_41 : decode cX8_takes 41 = .ok (.getfield 11, 3) := by decide +kernel
theorem dX8_takes_44 : decode cX8_takes 44 = .ok (.aload_n 0, 1) := by decide +kernel
theorem dX8_takes_45 : decode cX8_takes 45 = .ok (.getfield 15, 3) := by decide +kernel
theorem dX8_takes_48 : decode cX8_takes 48 = .ok (.lload_n 1, 1) := by decide +kernel
theorem dX8_takes_49 : decode cX8_takes 49 = .ok (.bipush 8, 2) := by decide +kernel
theorem dX8_takes_51 : decode cX8_takes 51 = .ok (.iload 4, 2) := by decide +kernel
theorem dX8_takes_53 : decode cX8_takes 53 = .ok (.imul, 1) := by decide +kernel
theorem dX8_takes_54 : decode cX8_takes 54 = .ok (.lshr, 1) := by decide +kernel
theorem dX8_takes_55 : decode cX8_takes 55 = .ok (.l2i, 1) := by decide +kernel
theorem dX8_takes_56 : decode cX8_takes 56 = .ok (.i2b, 1) := by decide +kernel
theorem dX8_takes_57 : decode cX8_takes 57 = .ok (.bastore, 1) := by decide +kernel
theorem dX8_takes_58 : decode cX8_takes 58 = .ok (.aload_n 0, 1) := by decide +kernel
theorem dX8_takes_59 : decode cX8_takes 59 = .ok (.dup, 1) := by decide +kernel
theorem dX8_takes_60 : decode cX8_takes 60 = .ok (.getfield 15, 3) := by decide +kernel
theorem dX8_takes_63 : decode cX8_takes 63 = .ok (.iconst 1, 1) := by decide +kernel
theorem dX8_takes_64 : decode cX8_takes 64 = .ok (.iadd, 1) := by decide +kernel
theorem dX8_takes_65 : decode cX8_takes 65 = .ok (.putfield 15, 3) := by decide +kernel
theorem dX8_takes_68 : decode cX8_takes 68 = .ok (.iinc 4 1, 3) := by decide +kernel
theorem dX8_takes_71 : decode cX8_takes 71 = .ok (.goto (-50), 3) := by decide +kernel
theorem dX8_takes_74 : decode cX8_takes 74 = .ok (.iconst 1, 1) := by decide +kernel
theorem dX8_takes_75 : decode cX8_takes 75 = .ok (.ireturn, 1) := by decide +kernel
set_option maxRecDepth 20000 in
theorem ggX8_tells_X8_step : GoodIn wsX8_tells wsX8_step := goodIn_r _ [8, 1, 9, 3, 10, 11, 12, 7, 13, 14, 15, 16, 17, 18, 19, 147, 148, 149, 150, 151, 152] (by decide +kernel) (by decide +kernel)
set_option maxRecDepth 20000 in
theorem gX8_tells_X8_step : GoodIn wsX8_tells (wsV RX8 29 RX8 yX8_step wsX8_step) := goodIn_app (goodIn_of _ (by decide +kernel)) ggX8_tells_X8_step
set_option maxRecDepth 20000 in
theorem ggX8_tells_X8_tellStatement : GoodIn wsX8_tells wsX8_tellStatement := goodIn_r _ [23, 24, 25, 26, 27, 28, 29, 7, 30, 31, 32, 33, 34, 3, 1, 9, 35, 36, 37, 38, 39, 40, 41, 42, 43, 44, 45, 46, 10, 11, 12, 13, 14, 15, 47, 48, 49, 50, 51, 52, 53, 54, 55, 56, 57, 58, 59, 60, 61, 62, 63, 64, 65, 66, 67, 68, 69, 70, 71, 72, 73, 74, 75, 76, 77, 78, 79, 80, 81, 82, 83, 84, 85, 86, 87, 88, 89, 90, 91, 92, 93, 94, 95, 96, 97, 98, 99, 100, 101, 102, 103, 104, 105, 106, 107, 108, 109, 110, 111, 112, 113, 114, 115, 2, 4, 5, 6, 8, 16, 17, 18, 19, 116, 117, 118, 119, 120, 121, 122, 123, 124, 125, 126, 127, 128, 129, 130, 131, 132, 133, 134, 135, 136, 137, 138, 139, 140, 141, 142, 143, 144, 145, 146, 153, 154, 155, 156, 157, 158, 159, 160, 147, 148, 149, 150, 151, 152, 161, 162, 163, 164, 165, 166] (by decide +kernel) (by decide +kernel)
set_option maxRecDepth 20000 in
theorem gX8_tells_X8_tellStatement : GoodIn wsX8_tells (wsV RX8 35 RX8 yX8_tellStatement wsX8_tellStatement) := goodIn_app (goodIn_of _ (by decide +kernel)) ggX8_tells_X8_tellStatement
theorem dX8_tells_0 : decode cX8_tells 0 = .ok (.aload_n 0, 1) := by decide +kernel
theorem dX8_tells_1 : decode cX8_tells 1 = .ok (.iconst 0, 1) := by decide +kernel
theorem dX8_tells_2 : decode cX8_tells 2 = .ok (.putfield 23, 3) := by decide +kernel
theorem dX8_tells_5 : decode cX8_tells 5 = .ok (.aload_n 0, 1) := by decide +kernel
theorem dX8_tells_6 : decode cX8_tells 6 = .ok (.iconst (-1), 1) := by decide +kernel
theorem dX8_tells_7 : decode cX8_tells 7 = .ok (.putfield 26, 3) := by decide +kernel
theorem dX8_tells_10 : decode cX8_tells 10 = .ok (.aload_n 0, 1) := by decide +kernel
theorem dX8_tells_11 : decode cX8_tells 11 = .ok (.invokevirtual 29, 3) := by decide +kernel
theorem dX8_tells_14 : decode cX8_tells 14 = .ok (.iconst 0, 1) := by decide +kernel
theorem dX8_tells_15 : decode cX8_tells 15 = .ok (.istore_n 2, 1) := by decide +kernel
theorem dX8_tells_16 : decode cX8_tells 16 = .ok (.iload_n 2, 1) := by decide +kernel
theorem dX8_tells_17 : decode cX8_tells 17 = .ok (.sipush 200, 3) := by decide +kernel
theorem dX8_tells_20 : decode cX8_tells 20 = .ok (.if_icmp .gt 28, 3) := by decide +kernel
theorem dX8_tells_23 : decode cX8_tells 23 = .ok (.aload_n 0, 1) := by decide +kernel
theorem dX8_tells_24 : decode cX8_tells 24 = .ok (.getfield 26, 3) := by decide +kernel
theorem dX8_tells_27 : decode cX8_tells 27 = .ok (.ifCond .ge 21, 3) := by decide +kernel
theorem dX8_tells_30 : decode cX8_tells 30 = .ok (.aload_n 0, 1) := by decide +kernel
theorem dX8_tells_31 : decode cX8_tells 31 = .ok (.getfield 32, 3) := by decide +kernel
theorem dX8_tells_34 : decode cX8_tells 34 = .ok (.ifCond .eq 14, 3) := by decide +kernel
theorem dX8_tells_37 : decode cX8_tells 37 = .ok (.aload_n 0, 1) := by decide +kernel
theorem dX8_tells_38 : decode cX8_tells 38 = .ok (.aload_n 1, 1) := by decide +kernel
theorem dX8_tells_39 : decode cX8_tells 39 = .ok (.invokevirtual 35, 3) := by decide +kernel
theorem dX8_tells_42 : decode cX8_tells 42 = .ok (.iinc 2 1, 3) := by decide +kernel
theorem dX8_tells_45 : decode cX8_tells 45 = .ok (.goto (-29), 3) := by decide +kernel
theorem dX8_tells_48 : decode cX8_tells 48 = .ok (.aload_n 0, 1) := by decide +kernel
theorem dX8_tells_49 : decode cX8_tells 49 = .ok (.getfield 26, 3) := by decide +kernel
theorem dX8_tells_52 : decode cX8_tells 52 = .ok (.ireturn, 1) := by decide +kernel
set_option maxRecDepth 20000 in
theorem ggX8_tellStatement_X8_kindTold : GoodIn wsX8_tellStatement wsX8_kindTold := goodIn_r _ [8, 9, 10, 11, 7, 12, 13, 14, 15, 16, 17, 18, 19, 20, 21, 22, 23, 24, 25, 26, 27, 28, 29, 30, 31, 32, 33, 34, 35, 36, 37, 38, 39, 40, 41, 42, 43, 44, 45, 46, 47, 48, 49, 50, 51, 52, 53, 54, 55, 56, 57, 58, 59, 60, 61, 62, 63, 64, 65, 66, 67, 68, 69, 70, 151, 152, 153, 154, 155, 156] (by decide +kernel) (by decide +kernel)
set_option maxRecDepth 20000 in
theorem gX8_tellStatement_X8_kindTold : GoodIn wsX8_tellStatement (wsV RX8 39 RX8 yX8_kindTold wsX8_kindTold) := goodIn_app (goodIn_of _ (by decide +kernel)) ggX8_tellStatement_X8_kindTold
set_option maxRecDepth 20000 in
theorem ggX8_tellStatement_X8_lawTold : GoodIn wsX8_tellStatement wsX8_lawTold := goodIn_r _ [74, 9, 10, 11, 7, 12, 13, 14, 15, 16, 17, 18, 19, 20, 21, 22, 23, 24, 25, 26, 27, 28, 29, 30, 31, 32, 33, 34, 35, 36, 37, 38, 39, 40, 41, 42, 43, 44, 45, 46, 47, 48, 49, 50, 51, 52, 53, 54, 55, 56, 57, 58, 59, 60, 61, 62, 63, 64, 65, 66, 67, 68, 69, 70, 151, 152, 153, 154, 155, 156] (by decide +kernel) (by decide +kernel)
set_option maxRecDepth 20000 in
theorem gX8_tellStatement_X8_lawTold : GoodIn wsX8_tellStatement (wsV RX8 43 RX8 yX8_lawTold wsX8_lawTold) := goodIn_app (goodIn_of _ (by decide +kernel)) ggX8_tellStatement_X8_lawTold
set_option maxRecDepth 20000 in
theorem ggX8_tellStatement_X8_tellChild : GoodIn wsX8_tellStatement wsX8_tellChild := goodIn_r _ [78, 79, 80, 81, 82, 83, 84, 85, 86, 87, 88, 89, 90, 91, 92, 93, 94, 95, 96, 97, 98, 99, 100, 101, 7, 102, 103, 15, 104, 105, 106, 107, 14, 13, 28, 29, 30, 31, 32, 33, 108, 109, 110, 111, 112, 113, 114, 115, 9, 10, 11, 12, 16, 17, 18, 19, 20, 21, 22, 23, 24, 25, 26, 27, 34, 35, 36, 37, 38, 39, 40, 41, 42, 43, 44, 45, 46, 47, 48, 49, 50, 51, 52, 53, 54, 55, 56, 57, 58, 59, 60, 61, 62, 63, 64, 65, 66, 67, 68, 69, 70, 116, 117, 118, 119, 120, 121, 122, 123, 124, 125, 126, 127, 128, 129, 130, 131, 132, 133, 134, 135, 136, 137, 138, 157, 158, 159, 160, 161, 162, 143, 144, 145, 146, 147, 148, 149, 150, 151, 152, 153, 154, 155, 156] (by decide +kernel) (by decide +kernel)
set_option maxRecDepth 20000 in
theorem gX8_tellStatement_X8_tellChild : GoodIn wsX8_tellStatement (wsV RX8 46 RX8 yX8_tellChild wsX8_tellChild) := goodIn_app (goodIn_of _ (by decide +kernel)) ggX8_tellStatement_X8_tellChild
set_option maxRecDepth 20000 in
theorem ggX8_tellStatement_X8_step : GoodIn wsX8_tellStatement wsX8_step := goodIn_r _ [107, 14, 15, 13, 28, 29, 30, 7, 31, 32, 33, 108, 109, 110, 111, 151, 152, 153, 154, 155, 156] (by decide +kernel) (by decide +kernel)
set_option maxRecDepth 20000 in
theorem gX8_tellStatement_X8_step : GoodIn wsX8_tellStatement (wsV RX8 29 RX8 yX8_step wsX8_step) := goodIn_app (goodIn_of _ (by decide +kernel)) ggX8_tellStatement_X8_step
set_option maxRecDepth 20000 in
theorem ggX8_tellStatement_X8_number : GoodIn wsX8_tellStatement wsX8_number := goodIn_r _ [119, 103, 120, 121, 122, 7, 123, 13, 14, 15, 28, 29, 30, 31, 32, 33, 96, 97, 98, 99, 100, 101, 102, 104, 105, 106, 107, 108, 109, 110, 111, 151, 152, 153, 154, 155, 156] (by decide +kernel) (by decide +kernel)
set_option maxRecDepth 20000 in
theorem gX8_tellStatement_X8_number : GoodIn wsX8_tellStatement (wsV RX8 59 RX8 yX8_number wsX8_number) := goodIn_app (goodIn_of _ (by decide +kernel)) ggX8_tellStatement_X8_number
set_option maxRecDepth 20000 in
theorem ggX8_tellStatement_X8_isName : GoodIn wsX8_tellStatement wsX8_isName := goodIn_r _ [12, 13, 14, 15, 16, 17, 18, 19, 20, 21, 22, 23, 24, 25, 26, 27, 28, 29, 30, 7, 31, 32, 33, 34, 35, 36, 37, 38, 39, 40, 41, 42, 43, 44, 45, 46, 47, 48, 49, 50, 51, 52, 53, 54, 55, 56, 57, 58, 59, 60, 61, 62, 63, 64, 65, 66, 67, 68, 69, 70, 151, 152, 153, 154, 155, 156] (by decide +kernel) (by decide +kernel)
set_option maxRecDepth 20000 in
theorem gX8_tellStatement_X8_isName : GoodIn wsX8_tellStatement (wsV RX8 65 RX8 yX8_isName wsX8_isName) := goodIn_app (goodIn_of _ (by decide +kernel)) ggX8_tellStatement_X8_isName
set_option maxRecDepth 20000 in
theorem ggX8_tellStatement_X8_name : GoodIn wsX8_tellStatement wsX8_name := goodIn_r _ [115, 9, 10, 11, 7, 12, 13, 14, 15, 16, 17, 18, 19, 20, 21, 22, 23, 24, 25, 26, 27, 28, 29, 30, 31, 32, 33, 34, 35, 36, 37, 38, 39, 40, 41, 42, 43, 44, 45, 46, 47, 48, 49, 50, 51, 52, 53, 54, 55, 56, 57, 58, 59, 60, 61, 62, 63, 64, 65, 66, 67, 68, 69, 70, 104, 105, 106, 107, 108, 109, 110, 111, 99, 100, 101, 102, 103, 151, 152, 153, 154, 155, 156] (by decide +kernel) (by decide +kernel)
set_option maxRecDepth 20000 in
theorem gX8_tellStatement_X8_name : GoodIn wsX8_tellStatement (wsV RX8 71 RX8 yX8_name wsX8_name) := goodIn_app (goodIn_of _ (by decide +kernel)) ggX8_tellStatement_X8_name
set_option maxRecDepth 20000 in
theorem ggX8_tellStatement_X8_failHere : GoodIn wsX8_tellStatement wsX8_failHere := goodIn_r _ [102, 103, 15, 151, 152, 153, 154, 155, 156] (by decide +kernel) (by decide +kernel)
set_option maxRecDepth 20000 in
theorem gX8_tellStatement_X8_failHere : GoodIn wsX8_tellStatement (wsV RX8 83 RX8 yX8_failHere wsX8_failHere) := goodIn_app (goodIn_of _ (by decide +kernel)) ggX8_tellStatement_X8_failHere
set_option maxRecDepth 20000 in
theorem ggX8_tellStatement_X8_semicolon : GoodIn wsX8_tellStatement wsX8_semicolon := goodIn_r _ [142, 13, 15, 28, 29, 30, 7, 31, 32, 33, 104, 105, 106, 107, 14, 108, 109, 110, 111, 99, 100, 101, 102, 103, 151, 152, 153, 154, 155, 156] (by decide +kernel) (by decide +kernel)
set_option maxRecDepth 20000 in
theorem gX8_tellStatement_X8_semicolon : GoodIn wsX8_tellStatement (wsV RX8 86 RX8 yX8_semicolon wsX8_semicolon) := goodIn_app (goodIn_of _ (by decide +kernel)) ggX8_tellStatement_X8_semicolon
theorem dX8_tellStatement_0 : decode cX8_tellStatement 0 = .ok (.aload_n 0, 1) := by decide +kernel
theorem dX8_tellStatement_1 : decode cX8_tellStatement 1 = .ok (.invokevirtual 39, 3) := by decide +kernel
theorem dX8_tellStatement_4 : decode cX8_tellStatement 4 = .ok (.istore_n 2, 1) := by decide +kernel
theorem dX8_tellStatement_5 : decode cX8_tellStatement 5 = .ok (.aload_n 0, 1) := by decide +kernel
theorem dX8_tellStatement_6 : decode cX8_tellStatement 6 = .ok (.invokevirtual 43, 3) := by decide +kernel
theorem dX8_tellStatement_9 : decode cX8_tellStatement 9 = .ok (.istore_n 3, 1) := by decide +kernel
theorem dX8_tellStatement_10 : decode cX8_tellStatement 10 = .ok (.iload_n 2, 1) := by decide +kernel
theorem dX8_tellStatement_11 : decode cX8_tellStatement 11 = .ok (.ifCond .lt 12, 3) := by decide +kernel
theorem dX8_tellStatement_14 : decode cX8_tellStatement 14 = .ok (.aload_n 0, 1) := by decide +kernel
theorem dX8_tellStatement_15 : decode cX8_tellStatement 15 = .ok (.aload_n 1, 1) := by decide +kernel
theorem dX8_tellStatement_16 : decode cX8_tellStatement 16 = .ok (.iload_n 2, 1) := by decide +kernel
theorem dX8_tellStatement_17 : decode cX8_tellStatement 17 = .ok (.invokevirtual 46, 3) := by decide +kernel
theorem dX8_tellStatement_20 : decode cX8_tellStatement 20 = .ok (.goto 109, 3) := by decide +kernel
theorem dX8_tellStatement_23 : decode cX8_tellStatement 23 = .ok (.iload_n 3, 1) := by decide +kernel
theorem dX8_tellStatement_24 : decode cX8_tellStatement 24 = .ok (.ifCond .lt 25, 3) := by decide +kernel
theorem dX8_tellStatement_27 : decode cX8_tellStatement 27 = .ok (.aload_n 0, 1) := by decide +kernel
theorem dX8_tellStatement_28 : decode cX8_tellStatement 28 = .ok (.invokevirtual 29, 3) := by decide +kernel
theorem dX8_tellStatement_31 : decode cX8_tellStatement 31 = .ok (.aload_n 1, 1) := by decide +kernel
theorem dX8_tellStatement_32 : decode cX8_tellStatement 32 = .ok (.getfield 50, 3) := by decide +kernel
theorem dX8_tellStatement_35 : decode cX8_tellStatement 35 = .ok (.iload_n 3, 1) := by decide +kernel
theorem dX8_tellStatement_36 : decode cX8_tellStatement 36 = .ok (.aload_n 0, 1) := by decide +kernel
theorem dX8_tellStatement_37 : decode cX8_tellStatement 37 = .ok (.getstatic 56, 3) := by decide +kernel
theorem dX8_tellStatement_40 : decode cX8_tellStatement 40 = .ok (.iload_n 3, 1) := by decide +kernel
theorem dX8_tellStatement_41 : decode cX8_tellStatement 41 = .ok (.iaload, 1) := by decide +kernel
theorem dX8_tellStatement_42 : decode cX8_tellStatement 42 = .ok (.invokevirtual 59, 3) := by decide +kernel
theorem dX8_tellStatement_45 : decode cX8_tellStatement 45 = .ok (.iastore, 1) := by decide +kernel
theorem dX8_tellStatement_46 : decode cX8_tellStatement 46 = .ok (.goto 83, 3) := by decide +kernel
theorem dX8_tellStatement_49 : decode cX8_tellStatement 49 = .ok (.aload_n 0, 1) := by decide +kernel
theorem dX8_tellStatement_50 : decode cX8_tellStatement 50 = .ok (.ldc 63, 2) := by decide +kernel
theorem dX8_tellStatement_52 : decode cX8_tellStatement 52 = .ok (.invokevirtual 65, 3) := by decide +kernel
theorem dX8_tellStatement_55 : decode cX8_tellStatement 55 = .ok (.ifCond .eq 37, 3) := by decide +kernel
theorem dX8_tellStatement_58 : decode cX8_tellStatement 58 = .ok (.aload_n 0, 1) := by decide +kernel
theorem dX8_tellStatement_59 : decode cX8_tellStatement 59 = .ok (.invokevirtual 29, 3) := by decide +kernel
theorem dX8_tellStatement_62 : decode cX8_tellStatement 62 = .ok (.aload_n 0, 1) := by decide +kernel
theorem dX8_tellStatement_63 : decode cX8_tellStatement 63 = .ok (.bipush 7, 2) := by decide +kernel
theorem dX8_tellStatement_65 : decode cX8_tellStatement 65 = .ok (.invokevirtual 59, 3) := by decide +kernel
theorem dX8_tellStatement_68 : decode cX8_tellStatement 68 = .ok (.istore 4, 2) := by decide +kernel
theorem dX8_tellStatement_70 : decode cX8_tellStatement 70 = .ok (.aload_n 0, 1) := by decide +kernel
theorem dX8_tellStatement_71 : decode cX8_tellStatement 71 = .ok (.ldc 69, 2) := by decide +kernel
theorem dX8_tellStatement_73 : decode cX8_tellStatement 73 = .ok (.invokevirtual 71, 3) := by decide +kernel
theorem dX8_tellStatement_76 : decode cX8_tellStatement 76 = .ok (.aload_n 1, 1) := by decide +kernel
theorem dX8_tellStatement_77 : decode cX8_tellStatement 77 = .ok (.getfield 75, 3) := by decide +kernel
theorem dX8_tellStatement_80 : decode cX8_tellStatement 80 = .ok (.iload 4, 2) := by decide +kernel
theorem dX8_tellStatement_82 : decode cX8_tellStatement 82 = .ok (.aload_n 0, 1) := by decide +kernel
theorem dX8_tellStatement_83 : decode cX8_tellStatement 83 = .ok (.bipush 99, 2) := by decide +kernel
theorem dX8_tellStatement_85 : decode cX8_tellStatement 85 = .ok (.invokevirtual 59, 3) := by decide +kernel
theorem dX8_tellStatement_88 : decode cX8_tellStatement 88 = .ok (.iastore, 1) := by decide +kernel
theorem dX8_tellStatement_89 : decode cX8_tellStatement 89 = .ok (.goto 40, 3) := by decide +kernel
theorem dX8_tellStatement_92 : decode cX8_tellStatement 92 = .ok (.aload_n 0, 1) := by decide +kernel
theorem dX8_tellStatement_93 : decode cX8_tellStatement 93 = .ok (.ldc 78, 2) := by decide +kernel
theorem dX8_tellStatement_95 : decode cX8_tellStatement 95 = .ok (.invokevirtual 65, 3) := by decide +kernel
theorem dX8_tellStatement_98 : decode cX8_tellStatement 98 = .ok (.ifCond .eq 27, 3) := by decide +kernel
theorem dX8_tellStatement_101 : decode cX8_tellStatement 101 = .ok (.aload_n 0, 1) := by decide +kernel
theorem dX8_tellStatement_102 : decode cX8_tellStatement 102 = .ok (.invokevirtual 29, 3) := by decide +kernel
theorem dX8_tellStatement_105 : decode cX8_tellStatement 105 = .ok (.aload_n 1, 1) := by decide +kernel
theorem dX8_tellStatement_106 : decode cX8_tellStatement 106 = .ok (.dup, 1) := by decide +kernel
theorem dX8_tellStatement_107 : decode cX8_tellStatement 107 = .ok (.getfield 80, 3) := by decide +kernel
theorem dX8_tellStatement_110 : decode cX8_tellStatement 110 = .ok (.iconst 1, 1) := by decide +kernel
theorem dX8_tellStatement_111 : decode cX8_tellStatement 111 = .ok (.aload_n 0, 1) := by decide +kernel
theorem dX8_tellStatement_112 : decode cX8_tellStatement 112 = .ok (.bipush 7, 2) := by decide +kernel
theorem dX8_tellStatement_114 : decode cX8_tellStatement 114 = .ok (.invokevirtual 59, 3) := by decide +kernel
theorem dX8_tellStatement_117 : decode cX8_tellStatement 117 = .ok (.ishl, 1) := by decide +kernel
theorem dX8_tellStatement_118 : decode cX8_tellStatement 118 = .ok (.ior, 1) := by decide +kernel
theorem dX8_tellStatement_119 : decode cX8_tellStatement 119 = .ok (.putfield 80, 3) := by decide +kernel
theorem dX8_tellStatement_122 : decode cX8_tellStatement 122 = .ok (.goto 7, 3) := by decide +kernel
theorem dX8_tellStatement_125 : decode cX8_tellStatement 125 = .ok (.aload_n 0, 1) := by decide +kernel
theorem dX8_tellStatement_126 : decode cX8_tellStatement 126 = .ok (.invokevirtual 83, 3) := by decide +kernel
theorem dX8_tellStatement_129 : decode cX8_tellStatement 129 = .ok (.aload_n 0, 1) := by decide +kernel
theorem dX8_tellStatement_130 : decode cX8_tellStatement 130 = .ok (.invokevirtual 86, 3) := by decide +kernel
theorem dX8_tellStatement_133 : decode cX8_tellStatement 133 = .ok (.return_, 1) := by decide +kernel
set_option maxRecDepth 20000 in
theorem ggX8_tellChild_X1_added : GoodIn wsX8_tellChild wsX1_added := goodIn_r _ [7, 8, 9, 10, 11, 6, 12, 13, 14, 15, 16, 17, 18, 19, 20, 130, 131, 132, 133, 134, 135, 136, 137] (by decide +kernel) (by decide +kernel)
set_option maxRecDepth 20000 in
theorem gX8_tellChild_X1_added : GoodIn wsX8_tellChild (wsV RX8 89 RX1 yX1_added wsX1_added) := goodIn_app (goodIn_of _ (by decide +kernel)) ggX8_tellChild_X1_added
set_option maxRecDepth 20000 in
theorem ggX8_tellChild_X8_failHere : GoodIn wsX8_tellChild wsX8_failHere := goodIn_r _ [25, 26, 27, 138, 139, 140, 141, 142, 143] (by decide +kernel) (by decide +kernel)
set_option maxRecDepth 20000 in
theorem gX8_tellChild_X8_failHere : GoodIn wsX8_tellChild (wsV RX8 83 RX8 yX8_failHere wsX8_failHere) := goodIn_app (goodIn_of _ (by decide +kernel)) ggX8_tellChild_X8_failHere
set_option maxRecDepth 20000 in
theorem ggX8_tellChild_X8_step : GoodIn wsX8_tellChild wsX8_step := goodIn_r _ [31, 32, 27, 33, 34, 35, 36, 24, 37, 38, 39, 40, 41, 42, 43, 138, 139, 140, 141, 142, 143] (by decide +kernel) (by decide +kernel)
set_option maxRecDepth 20000 in
theorem gX8_tellChild_X8_step : GoodIn wsX8_tellChild (wsV RX8 29 RX8 yX8_step wsX8_step) := goodIn_app (goodIn_of _ (by decide +kernel)) ggX8_tellChild_X8_step
set_option maxRecDepth 20000 in
theorem ggX8_tellChild_X8_name : GoodIn wsX8_tellChild wsX8_name := goodIn_r _ [47, 48, 49, 50, 24, 51, 33, 32, 27, 52, 53, 54, 55, 56, 57, 58, 59, 60, 61, 62, 63, 34, 35, 36, 37, 38, 39, 64, 65, 66, 67, 68, 69, 70, 71, 72, 73, 74, 75, 76, 77, 78, 79, 80, 81, 82, 83, 84, 85, 86, 87, 88, 89, 90, 91, 92, 93, 94, 95, 96, 97, 98, 99, 100, 28, 29, 30, 31, 40, 41, 42, 43, 21, 22, 23, 25, 26, 138, 139, 140, 141, 142, 143] (by decide +kernel) (by decide +kernel)
set_option maxRecDepth 20000 in
theorem gX8_tellChild_X8_name : GoodIn wsX8_tellChild (wsV RX8 71 RX8 yX8_name wsX8_name) := goodIn_app (goodIn_of _ (by decide +kernel)) ggX8_tellChild_X8_name
set_option maxRecDepth 20000 in
theorem ggX8_tellChild_X8_number : GoodIn wsX8_tellChild wsX8_number := goodIn_r _ [104, 26, 105, 106, 107, 24, 108, 33, 32, 27, 34, 35, 36, 37, 38, 39, 18, 19, 20, 21, 22, 23, 25, 28, 29, 30, 31, 40, 41, 42, 43, 138, 139, 140, 141, 142, 143] (by decide +kernel) (by decide +kernel)
set_option maxRecDepth 20000 in
theorem gX8_tellChild_X8_number : GoodIn wsX8_tellChild (wsV RX8 59 RX8 yX8_number wsX8_number) := goodIn_app (goodIn_of _ (by decide +kernel)) ggX8_tellChild_X8_number
set_option maxRecDepth 20000 in
theorem ggX8_tellChild_X8_option : GoodIn wsX8_tellChild wsX8_option := goodIn_r _ [112, 26, 48, 49, 50, 24, 51, 33, 32, 27, 52, 53, 54, 55, 56, 57, 58, 59, 60, 61, 62, 63, 34, 35, 36, 37, 38, 39, 64, 65, 66, 67, 68, 69, 70, 71, 72, 73, 74, 75, 76, 77, 78, 79, 80, 81, 82, 83, 84, 85, 86, 87, 88, 89, 90, 91, 92, 93, 94, 95, 96, 97, 98, 99, 100, 28, 29, 30, 31, 40, 41, 42, 43, 101, 102, 103, 104, 105, 106, 107, 108, 18, 19, 20, 21, 22, 23, 25, 138, 139, 140, 141, 142, 143] (by decide +kernel) (by decide +kernel)
set_option maxRecDepth 20000 in
theorem gX8_tellChild_X8_option : GoodIn wsX8_tellChild (wsV RX8 97 RX8 yX8_option wsX8_option) := goodIn_app (goodIn_of _ (by decide +kernel)) ggX8_tellChild_X8_option
set_option maxRecDepth 20000 in
theorem ggX8_tellChild_X6_begin : GoodIn wsX8_tellChild wsX6_begin := goodIn_r _ [117, 118, 119, 120, 121, 122, 123, 124, 125, 126, 127, 128, 129] (by decide +kernel) (by decide +kernel)
set_option maxRecDepth 20000 in
theorem gX8_tellChild_X6_begin : GoodIn wsX8_tellChild (wsV RX8 103 RX6 yX6_begin wsX6_begin) := goodIn_app (goodIn_of _ (by decide +kernel)) ggX8_tellChild_X6_begin
theorem dX8_tellChild_0 : decode cX8_tellChild 0 = .ok (.aload_n 1, 1) := by decide +kernel
theorem dX8_tellChild_1 : decode cX8_tellChild 1 = .ok (.invokevirtual 89, 3) := by decide +kernel
theorem dX8_tellChild_4 : decode cX8_tellChild 4 = .ok (.astore_n 3, 1) := by decide +kernel
theorem dX8_tellChild_5 : decode cX8_tellChild 5 = .ok (.aload_n 3, 1) := by decide +kernel
theorem dX8_tellChild_6 : decode cX8_tellChild 6 = .ok (.ifnonnull 8, 3) := by decide +kernel
theorem dX8_tellChild_9 : decode cX8_tellChild 9 = .ok (.aload_n 0, 1) := by decide +kernel
theorem dX8_tellChild_10 : decode cX8_tellChild 10 = .ok (.invokevirtual 83, 3) := by decide +kernel
theorem dX8_tellChild_13 : decode cX8_tellChild 13 = .ok (.return_, 1) := by decide +kernel
theorem dX8_tellChild_14 : decode cX8_tellChild 14 = .ok (.aload_n 0, 1) := by decide +kernel
theorem dX8_tellChild_15 : decode cX8_tellChild 15 = .ok (.invokevirtual 29, 3) := by decide +kernel
theorem dX8_tellChild_18 : decode cX8_tellChild 18 = .ok (.aload_n 0, 1) := by decide +kernel
theorem dX8_tellChild_19 : decode cX8_tellChild 19 = .ok (.ldc 93, 2) := by decide +kernel
theorem dX8_tellChild_21 : decode cX8_tellChild 21 = .ok (.invokevirtual 71, 3) := by decide +kernel
theorem dX8_tellChild_24 : decode cX8_tellChild 24 = .ok (.aload_n 0, 1) := by decide +kernel
theorem dX8_tellChild_25 : decode cX8_tellChild 25 = .ok (.bipush 7, 2) := by decide +kernel
theorem dX8_tellChild_27 : decode cX8_tellChild 27 = .ok (.invokevirtual 59, 3) := by decide +kernel
theorem dX8_tellChild_30 : decode cX8_tellChild 30 = .ok (.istore 4, 2) := by decide +kernel
theorem dX8_tellChild_32 : decode cX8_tellChild 32 = .ok (.aload_n 0, 1) := by decide +kernel
theorem dX8_tellChild_33 : decode cX8_tellChild 33 = .ok (.ldc 95, 2) := by decide +kernel
theorem dX8_tellChild_35 : decode cX8_tellChild 35 = .ok (.bipush 99, 2) := by decide +kernel
theorem dX8_tellChild_37 : decode cX8_tellChild 37 = .ok (.bipush 50, 2) := by decide +kernel
theorem dX8_tellChild_39 : decode cX8_tellChild 39 = .ok (.invokevirtual 97, 3) := by decide +kernel
theorem dX8_tellChild_42 : decode cX8_tellChild 42 = .ok (.istore 5, 2) := by decide +kernel
theorem dX8_tellChild_44 : decode cX8_tellChild 44 = .ok (.aload_n 0, 1) := by decide +kernel
theorem dX8_tellChild_45 : decode cX8_tellChild 45 = .ok (.ldc 101, 2) := by decide +kernel
theorem dX8_tellChild_47 : decode cX8_tellChild 47 = .ok (.bipush 9, 2) := by decide +kernel
theorem dX8_tellChild_49 : decode cX8_tellChild 49 = .ok (.iconst 5, 1) := by decide +kernel
theorem dX8_tellChild_50 : decode cX8_tellChild 50 = .ok (.invokevirtual 97, 3) := by decide +kernel
theorem dX8_tellChild_53 : decode cX8_tellChild 53 = .ok (.istore 6, 2) := by decide +kernel
theorem dX8_tellChild_55 : decode cX8_tellChild 55 = .ok (.aload_n 3, 1) := by decide +kernel
theorem dX8_tellChild_56 : decode cX8_tellChild 56 = .ok (.iload_n 2, 1) := by decide +kernel
theorem dX8_tellChild_57 : decode cX8_tellChild 57 = .ok (.iload 5, 2) := by decide +kernel
theorem dX8_tellChild_59 : decode cX8_tellChild 59 = .ok (.iload 6, 2) := by decide +kernel
theorem dX8_tellChild_61 : decode cX8_tellChild 61 = .ok (.iload 4, 2) := by decide +kernel
theorem dX8_tellChild_63 : decode cX8_tellChild 63 = .ok (.invokevirtual 103, 3) := by decide +kernel
theorem dX8_tellChild_66 : decode cX8_tellChild 66 = .ok (.aload_n 3, 1) := by decide +kernel
theorem dX8_tellChild_67 : decode cX8_tellChild 67 = .ok (.aload_n 0, 1) := by decide +kernel
theorem dX8_tellChild_68 : decode cX8_tellChild 68 = .ok (.ldc 109, 2) := by decide +kernel
theorem dX8_tellChild_70 : decode cX8_tellChild 70 = .ok (.bipush 99, 2) := by decide +kernel
theorem dX8_tellChild_72 : decode cX8_tellChild 72 = .ok (.bipush 50, 2) := by decide +kernel
theorem dX8_tellChild_74 : decode cX8_tellChild 74 = .ok (.invokevirtual 97, 3) := by decide +kernel
theorem dX8_tellChild_77 : decode cX8_tellChild 77 = .ok (.putfield 111, 3) := by decide +kernel
theorem dX8_tellChild_80 : decode cX8_tellChild 80 = .ok (.aload_n 3, 1) := by decide +kernel
theorem dX8_tellChild_81 : decode cX8_tellChild 81 = .ok (.aload_n 0, 1) := by decide +kernel
theorem dX8_tellChild_82 : decode cX8_tellChild 82 = .ok (.ldc 113, 2) := by decide +kernel
theorem dX8_tellChild_84 : decode cX8_tellChild 84 = .ok (.bipush 99, 2) := by decide +kernel
theorem dX8_tellChild_86 : decode cX8_tellChild 86 = .ok (.iconst 0, 1) := by decide +kernel
theorem dX8_tellChild_87 : decode cX8_tellChild 87 = .ok (.invokevirtual 97, 3) := by decide +kernel
theorem dX8_tellChild_90 : decode cX8_tellChild 90 = .ok (.putfield 115, 3) := by decide +kernel
theorem dX8_tellChild_93 : decode cX8_tellChild 93 = .ok (.return_, 1) := by decide +kernel
set_option maxRecDepth 20000 in
theorem ggX8_kindTold_X8_isName : GoodIn wsX8_kindTold wsX8_isName := goodIn_r _ [5, 6, 7, 8, 9, 10, 11, 12, 13, 14, 15, 16, 17, 18, 19, 20, 21, 22, 23, 4, 24, 25, 26, 27, 28, 29, 30, 31, 32, 33, 34, 35, 36, 37, 38, 39, 40, 41, 42, 43, 44, 45, 46, 47, 48, 49, 50, 51, 52, 53, 54, 55, 56, 57, 58, 59, 60, 61, 62, 63, 64, 65, 66, 67, 68, 69] (by decide +kernel) (by decide +kernel)
set_option maxRecDepth 20000 in
theorem gX8_kindTold_X8_isName : GoodIn wsX8_kindTold (wsV RX8 65 RX8 yX8_isName wsX8_isName) := goodIn_app (goodIn_of _ (by decide +kernel)) ggX8_kindTold_X8_isName
theorem dX8_kindTold_0 : decode cX8_kindTold 0 = .ok (.aload_n 0, 1) := by decide +kernel
theorem dX8_kindTold_1 : decode cX8_kindTold 1 = .ok (.ldc 117, 2) := by decide +kernel
theorem dX8_kindTold_3 : decode cX8_kindTold 3 = .ok (.invokevirtual 65, 3) := by decide +kernel
theorem dX8_kindTold_6 : decode cX8_kindTold 6 = .ok (.ifCond .eq 5, 3) := by decide +kernel
theorem dX8_kindTold_9 : decode cX8_kindTold 9 = .ok (.iconst 0, 1) := by decide +kernel
theorem dX8_kindTold_10 : decode cX8_kindTold 10 = .ok (.ireturn, 1) := by decide +kernel
theorem dX8_kindTold_11 : decode cX8_kindTold 11 = .ok (.aload_n 0, 1) := by decide +kernel
theorem dX8_kindTold_12 : decode cX8_kindTold 12 = .ok (.ldc 119, 2) := by decide +kernel
theorem dX8_kindTold_14 : decode cX8_kindTold 14 = .ok (.invokevirtual 65, 3) := by decide +kernel
theorem dX8_kindTold_17 : decode cX8_kindTold 17 = .ok (.ifCond .eq 5, 3) := by decide +kernel
theorem dX8_kindTold_20 : decode cX8_kindTold 20 = .ok (.iconst 1, 1) := by decide +kernel
theorem dX8_kindTold_21 : decode cX8_kindTold 21 = .ok (.ireturn, 1) := by decide +kernel
theorem dX8_kindTold_22 : decode cX8_kindTold 22 = .ok (.aload_n 0, 1) := by decide +kernel
theorem dX8_kindTold_23 : decode cX8_kindTold 23 = .ok (.ldc 121, 2) := by decide +kernel
theorem dX8_kindTold_25 : decode cX8_kindTold 25 = .ok (.invokevirtual 65, 3) := by decide +kernel
theorem dX8_kindTold_28 : decode cX8_kindTold 28 = .ok (.ifCond .eq 5, 3) := by decide +kernel
theorem dX8_kindTold_31 : decode cX8_kindTold 31 = .ok (.iconst 2, 1) := by decide +kernel
theorem dX8_kindTold_32 : decode cX8_kindTold 32 = .ok (.ireturn, 1) := by decide +kernel
theorem dX8_kindTold_33 : decode cX8_kindTold 33 = .ok (.aload_n 0, 1) := by decide +kernel
theorem dX8_kindTold_34 : decode cX8_kindTold 34 = .ok (.ldc 123, 2) := by decide +kernel
theorem dX8_kindTold_36 : decode cX8_kindTold 36 = .ok (.invokevirtual 65, 3) := by decide +kernel
theorem dX8_kindTold_39 : decode cX8_kindTold 39 = .ok (.ifCond .eq 5, 3) := by decide +kernel
theorem dX8_kindTold_42 : decode cX8_kindTold 42 = .ok (.iconst 3, 1) := by decide +kernel
theorem dX8_kindTold_43 : decode cX8_kindTold 43 = .ok (.ireturn, 1) := by decide +kernel
theorem dX8_kindTold_44 : decode cX8_kindTold 44 = .ok (.aload_n 0, 1) := by decide +kernel
theorem dX8_kindTold_45 : decode cX8_kindTold 45 = .ok (.ldc 125, 2) := by decide +kernel
theorem dX8_kindTold_47 : decode cX8_kindTold 47 = .ok (.invokevirtual 65, 3) := by decide +kernel
theorem dX8_kindTold_50 : decode cX8_kindTold 50 = .ok (.ifCond .eq 5, 3) := by decide +kernel
theorem dX8_kindTold_53 : decode cX8_kindTold 53 = .ok (.iconst 4, 1) := by decide +kernel
theorem dX8_kindTold_54 : decode cX8_kindTold 54 = .ok (.ireturn, 1) := by decide +kernel
theorem dX8_kindTold_55 : decode cX8_kindTold 55 = .ok (.aload_n 0, 1) := by decide +kernel
theorem dX8_kindTold_56 : decode cX8_kindTold 56 = .ok (.ldc 127, 2) := by decide +kernel
theorem dX8_kindTold_58 : decode cX8_kindTold 58 = .ok (.invokevirtual 65, 3) := by decide +kernel
theorem dX8_kindTold_61 : decode cX8_kindTold 61 = .ok (.ifCond .eq 5, 3) := by decide +kernel
theorem dX8_kindTold_64 : decode cX8_kindTold 64 = .ok (.iconst 5, 1) := by decide +kernel
theorem dX8_kindTold_65 : decode cX8_kindTold 65 = .ok (.ireturn, 1) := by decide +kernel
theorem dX8_kindTold_66 : decode cX8_kindTold 66 = .ok (.bipush (-3), 2) := by decide +kernel
theorem dX8_kindTold_68 : decode cX8_kindTold 68 = .ok (.ireturn, 1) := by decide +kernel
set_option maxRecDepth 20000 in
theorem ggX8_lawTold_X8_isName : GoodIn wsX8_lawTold wsX8_isName := goodIn_r _ [5, 6, 7, 8, 9, 10, 11, 12, 13, 14, 15, 16, 17, 18, 19, 20, 21, 22, 23, 4, 24, 25, 26, 27, 28, 29, 30, 31, 32, 33, 34, 35, 36, 37, 38, 39, 40, 41, 42, 43, 44, 45, 46, 47, 48, 49, 50, 51, 52, 53, 54, 55, 56, 57, 58, 59, 60, 61, 62, 63, 64, 65, 66, 67, 68, 69] (by decide +kernel) (by decide +kernel)
set_option maxRecDepth 20000 in
theorem gX8_lawTold_X8_isName : GoodIn wsX8_lawTold (wsV RX8 65 RX8 yX8_isName wsX8_isName) := goodIn_app (goodIn_of _ (by decide +kernel)) ggX8_lawTold_X8_isName
theorem dX8_lawTold_0 : decode cX8_lawTold 0 = .ok (.aload_n 0, 1) := by decide +kernel
theorem dX8_lawTold_1 : decode cX8_lawTold 1 = .ok (.ldc 129, 2) := by decide +kernel
theorem dX8_lawTold_3 : decode cX8_lawTold 3 = .ok (.invokevirtual 65, 3) := by decide +kernel
theorem dX8_lawTold_6 : decode cX8_lawTold 6 = .ok (.ifCond .eq 5, 3) := by decide +kernel
theorem dX8_lawTold_9 : decode cX8_lawTold 9 = .ok (.iconst 0, 1) := by decide +kernel
theorem dX8_lawTold_10 : decode cX8_lawTold 10 = .ok (.ireturn, 1) := by decide +kernel
theorem dX8_lawTold_11 : decode cX8_lawTold 11 = .ok (.aload_n 0, 1) := by decide +kernel
theorem dX8_lawTold_12 : decode cX8_lawTold 12 = .ok (.ldc 131, 2) := by decide +kernel
theorem dX8_lawTold_14 : decode cX8_lawTold 14 = .ok (.invokevirtual 65, 3) := by decide +kernel
theorem dX8_lawTold_17 : decode cX8_lawTold 17 = .ok (.ifCond .eq 5, 3) := by decide +kernel
theorem dX8_lawTold_20 : decode cX8_lawTold 20 = .ok (.iconst 1, 1) := by decide +kernel
theorem dX8_lawTold_21 : decode cX8_lawTold 21 = .ok (.ireturn, 1) := by decide +kernel
theorem dX8_lawTold_22 : decode cX8_lawTold 22 = .ok (.aload_n 0, 1) := by decide +kernel
theorem dX8_lawTold_23 : decode cX8_lawTold 23 = .ok (.ldc 133, 2) := by decide +kernel
theorem dX8_lawTold_25 : decode cX8_lawTold 25 = .ok (.invokevirtual 65, 3) := by decide +kernel
theorem dX8_lawTold_28 : decode cX8_lawTold 28 = .ok (.ifCond .eq 5, 3) := by decide +kernel
