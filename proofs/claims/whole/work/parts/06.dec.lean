theorem dX12_nextToken_72 : decode cX12_nextToken 72 = .ok (.invokestatic 84, 3) := by decide +kernel
theorem dX12_nextToken_75 : decode cX12_nextToken 75 = .ok (.ifCond .eq 7, 3) := by decide +kernel
theorem dX12_nextToken_78 : decode cX12_nextToken 78 = .ok (.iconst 2, 1) := by decide +kernel
theorem dX12_nextToken_79 : decode cX12_nextToken 79 = .ok (.goto 4, 3) := by decide +kernel
theorem dX12_nextToken_82 : decode cX12_nextToken 82 = .ok (.iconst 3, 1) := by decide +kernel
theorem dX12_nextToken_83 : decode cX12_nextToken 83 = .ok (.putfield 87, 3) := by decide +kernel
theorem dX12_nextToken_86 : decode cX12_nextToken 86 = .ok (.aload_n 0, 1) := by decide +kernel
theorem dX12_nextToken_87 : decode cX12_nextToken 87 = .ok (.iconst 0, 1) := by decide +kernel
theorem dX12_nextToken_88 : decode cX12_nextToken 88 = .ok (.putfield 90, 3) := by decide +kernel
theorem dX12_nextToken_91 : decode cX12_nextToken 91 = .ok (.aload_n 0, 1) := by decide +kernel
theorem dX12_nextToken_92 : decode cX12_nextToken 92 = .ok (.getfield 87, 3) := by decide +kernel
theorem dX12_nextToken_95 : decode cX12_nextToken 95 = .ok (.iconst 1, 1) := by decide +kernel
theorem dX12_nextToken_96 : decode cX12_nextToken 96 = .ok (.if_icmp .ne 30, 3) := by decide +kernel
theorem dX12_nextToken_99 : decode cX12_nextToken 99 = .ok (.aload_n 0, 1) := by decide +kernel
theorem dX12_nextToken_100 : decode cX12_nextToken 100 = .ok (.aload_n 0, 1) := by decide +kernel
theorem dX12_nextToken_101 : decode cX12_nextToken 101 = .ok (.getfield 70, 3) := by decide +kernel
theorem dX12_nextToken_104 : decode cX12_nextToken 104 = .ok (.invokevirtual 76, 3) := by decide +kernel
theorem dX12_nextToken_107 : decode cX12_nextToken 107 = .ok (.invokestatic 80, 3) := by decide +kernel
theorem dX12_nextToken_110 : decode cX12_nextToken 110 = .ok (.ifCond .eq 16, 3) := by decide +kernel
theorem dX12_nextToken_113 : decode cX12_nextToken 113 = .ok (.aload_n 0, 1) := by decide +kernel
theorem dX12_nextToken_114 : decode cX12_nextToken 114 = .ok (.dup, 1) := by decide +kernel
theorem dX12_nextToken_115 : decode cX12_nextToken 115 = .ok (.getfield 70, 3) := by decide +kernel
theorem dX12_nextToken_118 : decode cX12_nextToken 118 = .ok (.iconst 1, 1) := by decide +kernel
theorem dX12_nextToken_119 : decode cX12_nextToken 119 = .ok (.iadd, 1) := by decide +kernel
theorem dX12_nextToken_120 : decode cX12_nextToken 120 = .ok (.putfield 70, 3) := by decide +kernel
theorem dX12_nextToken_123 : decode cX12_nextToken 123 = .ok (.goto (-32), 3) := by decide +kernel
theorem dX12_nextToken_126 : decode cX12_nextToken 126 = .ok (.aload_n 0, 1) := by decide +kernel
theorem dX12_nextToken_127 : decode cX12_nextToken 127 = .ok (.getfield 87, 3) := by decide +kernel
theorem dX12_nextToken_130 : decode cX12_nextToken 130 = .ok (.iconst 2, 1) := by decide +kernel
theorem dX12_nextToken_131 : decode cX12_nextToken 131 = .ok (.if_icmp .ne 70, 3) := by decide +kernel
theorem dX12_nextToken_134 : decode cX12_nextToken 134 = .ok (.aload_n 0, 1) := by decide +kernel
theorem dX12_nextToken_135 : decode cX12_nextToken 135 = .ok (.aload_n 0, 1) := by decide +kernel
theorem dX12_nextToken_136 : decode cX12_nextToken 136 = .ok (.getfield 70, 3) := by decide +kernel
theorem dX12_nextToken_139 : decode cX12_nextToken 139 = .ok (.invokevirtual 76, 3) := by decide +kernel
theorem dX12_nextToken_142 : decode cX12_nextToken 142 = .ok (.invokestatic 84, 3) := by decide +kernel
theorem dX12_nextToken_145 : decode cX12_nextToken 145 = .ok (.ifCond .eq 56, 3) := by decide +kernel
theorem dX12_nextToken_148 : decode cX12_nextToken 148 = .ok (.aload_n 0, 1) := by decide +kernel
theorem dX12_nextToken_149 : decode cX12_nextToken 149 = .ok (.aload_n 0, 1) := by decide +kernel
theorem dX12_nextToken_150 : decode cX12_nextToken 150 = .ok (.getfield 90, 3) := by decide +kernel
theorem dX12_nextToken_153 : decode cX12_nextToken 153 = .ok (.sipush 999, 3) := by decide +kernel
theorem dX12_nextToken_156 : decode cX12_nextToken 156 = .ok (.if_icmp .le 10, 3) := by decide +kernel
theorem dX12_nextToken_159 : decode cX12_nextToken 159 = .ok (.aload_n 0, 1) := by decide +kernel
theorem dX12_nextToken_160 : decode cX12_nextToken 160 = .ok (.getfield 90, 3) := by decide +kernel
theorem dX12_nextToken_163 : decode cX12_nextToken 163 = .ok (.goto 22, 3) := by decide +kernel
theorem dX12_nextToken_166 : decode cX12_nextToken 166 = .ok (.bipush 10, 2) := by decide +kernel
theorem dX12_nextToken_168 : decode cX12_nextToken 168 = .ok (.aload_n 0, 1) := by decide +kernel
theorem dX12_nextToken_169 : decode cX12_nextToken 169 = .ok (.getfield 90, 3) := by decide +kernel
theorem dX12_nextToken_172 : decode cX12_nextToken 172 = .ok (.imul, 1) := by decide +kernel
theorem dX12_nextToken_173 : decode cX12_nextToken 173 = .ok (.aload_n 0, 1) := by decide +kernel
theorem dX12_nextToken_174 : decode cX12_nextToken 174 = .ok (.aload_n 0, 1) := by decide +kernel
theorem dX12_nextToken_175 : decode cX12_nextToken 175 = .ok (.getfield 70, 3) := by decide +kernel
theorem dX12_nextToken_178 : decode cX12_nextToken 178 = .ok (.invokevirtual 76, 3) := by decide +kernel
theorem dX12_nextToken_181 : decode cX12_nextToken 181 = .ok (.iadd, 1) := by decide +kernel
theorem dX12_nextToken_182 : decode cX12_nextToken 182 = .ok (.bipush 48, 2) := by decide +kernel
theorem dX12_nextToken_184 : decode cX12_nextToken 184 = .ok (.isub, 1) := by decide +kernel
theorem dX12_nextToken_185 : decode cX12_nextToken 185 = .ok (.putfield 90, 3) := by decide +kernel
theorem dX12_nextToken_188 : decode cX12_nextToken 188 = .ok (.aload_n 0, 1) := by decide +kernel
theorem dX12_nextToken_189 : decode cX12_nextToken 189 = .ok (.dup, 1) := by decide +kernel
theorem dX12_nextToken_190 : decode cX12_nextToken 190 = .ok (.getfield 70, 3) := by decide +kernel
theorem dX12_nextToken_193 : decode cX12_nextToken 193 = .ok (.iconst 1, 1) := by decide +kernel
theorem dX12_nextToken_194 : decode cX12_nextToken 194 = .ok (.iadd, 1) := by decide +kernel
theorem dX12_nextToken_195 : decode cX12_nextToken 195 = .ok (.putfield 70, 3) := by decide +kernel
theorem dX12_nextToken_198 : decode cX12_nextToken 198 = .ok (.goto (-72), 3) := by decide +kernel
theorem dX12_nextToken_201 : decode cX12_nextToken 201 = .ok (.aload_n 0, 1) := by decide +kernel
theorem dX12_nextToken_202 : decode cX12_nextToken 202 = .ok (.dup, 1) := by decide +kernel
theorem dX12_nextToken_203 : decode cX12_nextToken 203 = .ok (.getfield 70, 3) := by decide +kernel
theorem dX12_nextToken_206 : decode cX12_nextToken 206 = .ok (.aload_n 0, 1) := by decide +kernel
theorem dX12_nextToken_207 : decode cX12_nextToken 207 = .ok (.getfield 87, 3) := by decide +kernel
theorem dX12_nextToken_210 : decode cX12_nextToken 210 = .ok (.iconst 2, 1) := by decide +kernel
theorem dX12_nextToken_211 : decode cX12_nextToken 211 = .ok (.if_icmp .le 7, 3) := by decide +kernel
theorem dX12_nextToken_214 : decode cX12_nextToken 214 = .ok (.iconst 1, 1) := by decide +kernel
theorem dX12_nextToken_215 : decode cX12_nextToken 215 = .ok (.goto 4, 3) := by decide +kernel
theorem dX12_nextToken_218 : decode cX12_nextToken 218 = .ok (.iconst 0, 1) := by decide +kernel
theorem dX12_nextToken_219 : decode cX12_nextToken 219 = .ok (.iadd, 1) := by decide +kernel
theorem dX12_nextToken_220 : decode cX12_nextToken 220 = .ok (.putfield 70, 3) := by decide +kernel
theorem dX12_nextToken_223 : decode cX12_nextToken 223 = .ok (.return_, 1) := by decide +kernel
set_option maxRecDepth 20000 in
theorem ggX12_needs_X12_nextToken : GoodIn wsX12_needs wsX12_nextToken := goodIn_r _ [6, 7, 8, 9, 10, 11, 12, 13, 5, 14, 15, 16, 17, 18, 19, 20, 21, 22, 23, 24, 25, 26, 27, 28, 29, 30, 31, 32, 33, 34, 35, 36, 37, 38, 39, 40, 41, 42, 43, 44, 45, 46, 47, 48, 49, 50] (by decide +kernel) (by decide +kernel)
set_option maxRecDepth 20000 in
theorem gX12_needs_X12_nextToken : GoodIn wsX12_needs (wsV RX12 97 RX12 yX12_nextToken wsX12_nextToken) := goodIn_app (goodIn_of _ (by decide +kernel)) ggX12_needs_X12_nextToken
theorem dX12_needs_0 : decode cX12_needs 0 = .ok (.aload_n 0, 1) := by decide +kernel
theorem dX12_needs_1 : decode cX12_needs 1 = .ok (.aload_n 0, 1) := by decide +kernel
theorem dX12_needs_2 : decode cX12_needs 2 = .ok (.getfield 93, 3) := by decide +kernel
theorem dX12_needs_5 : decode cX12_needs 5 = .ok (.ifCond .ne 7, 3) := by decide +kernel
theorem dX12_needs_8 : decode cX12_needs 8 = .ok (.iload_n 1, 1) := by decide +kernel
theorem dX12_needs_9 : decode cX12_needs 9 = .ok (.ifCond .ne 7, 3) := by decide +kernel
theorem dX12_needs_12 : decode cX12_needs 12 = .ok (.iconst 1, 1) := by decide +kernel
theorem dX12_needs_13 : decode cX12_needs 13 = .ok (.goto 4, 3) := by decide +kernel
theorem dX12_needs_16 : decode cX12_needs 16 = .ok (.iconst 0, 1) := by decide +kernel
theorem dX12_needs_17 : decode cX12_needs 17 = .ok (.putfield 93, 3) := by decide +kernel
theorem dX12_needs_20 : decode cX12_needs 20 = .ok (.aload_n 0, 1) := by decide +kernel
theorem dX12_needs_21 : decode cX12_needs 21 = .ok (.getfield 93, 3) := by decide +kernel
theorem dX12_needs_24 : decode cX12_needs 24 = .ok (.ifCond .ne 7, 3) := by decide +kernel
theorem dX12_needs_27 : decode cX12_needs 27 = .ok (.aload_n 0, 1) := by decide +kernel
theorem dX12_needs_28 : decode cX12_needs 28 = .ok (.invokevirtual 97, 3) := by decide +kernel
theorem dX12_needs_31 : decode cX12_needs 31 = .ok (.return_, 1) := by decide +kernel
set_option maxRecDepth 20000 in
theorem ggX12_isName_X12_byteAt : GoodIn wsX12_isName wsX12_byteAt := goodIn_r _ [8, 9, 10, 11, 12, 13, 14, 15, 16, 17, 18, 19, 20, 21, 22, 23, 24, 25, 26, 27, 28, 29, 30, 31, 32, 33, 34, 35, 36, 37, 38] (by decide +kernel) (by decide +kernel)
set_option maxRecDepth 20000 in
theorem gX12_isName_X12_byteAt : GoodIn wsX12_isName (wsV RX12 76 RX12 yX12_byteAt wsX12_byteAt) := goodIn_app (goodIn_of _ (by decide +kernel)) ggX12_isName_X12_byteAt
theorem dX12_isName_0 : decode cX12_isName 0 = .ok (.aload_n 0, 1) := by decide +kernel
theorem dX12_isName_1 : decode cX12_isName 1 = .ok (.getfield 87, 3) := by decide +kernel
theorem dX12_isName_4 : decode cX12_isName 4 = .ok (.iconst 1, 1) := by decide +kernel
theorem dX12_isName_5 : decode cX12_isName 5 = .ok (.if_icmp .ne 76, 3) := by decide +kernel
theorem dX12_isName_8 : decode cX12_isName 8 = .ok (.aload_n 0, 1) := by decide +kernel
theorem dX12_isName_9 : decode cX12_isName 9 = .ok (.getfield 70, 3) := by decide +kernel
theorem dX12_isName_12 : decode cX12_isName 12 = .ok (.aload_n 0, 1) := by decide +kernel
theorem dX12_isName_13 : decode cX12_isName 13 = .ok (.getfield 73, 3) := by decide +kernel
theorem dX12_isName_16 : decode cX12_isName 16 = .ok (.isub, 1) := by decide +kernel
theorem dX12_isName_17 : decode cX12_isName 17 = .ok (.iload_n 1, 1) := by decide +kernel
theorem dX12_isName_18 : decode cX12_isName 18 = .ok (.if_icmp .ne 63, 3) := by decide +kernel
theorem dX12_isName_21 : decode cX12_isName 21 = .ok (.aload_n 0, 1) := by decide +kernel
theorem dX12_isName_22 : decode cX12_isName 22 = .ok (.aload_n 0, 1) := by decide +kernel
theorem dX12_isName_23 : decode cX12_isName 23 = .ok (.getfield 73, 3) := by decide +kernel
theorem dX12_isName_26 : decode cX12_isName 26 = .ok (.invokevirtual 76, 3) := by decide +kernel
theorem dX12_isName_29 : decode cX12_isName 29 = .ok (.iload_n 2, 1) := by decide +kernel
theorem dX12_isName_30 : decode cX12_isName 30 = .ok (.if_icmp .ne 51, 3) := by decide +kernel
theorem dX12_isName_33 : decode cX12_isName 33 = .ok (.aload_n 0, 1) := by decide +kernel
theorem dX12_isName_34 : decode cX12_isName 34 = .ok (.aload_n 0, 1) := by decide +kernel
theorem dX12_isName_35 : decode cX12_isName 35 = .ok (.getfield 73, 3) := by decide +kernel
theorem dX12_isName_38 : decode cX12_isName 38 = .ok (.iconst 1, 1) := by decide +kernel
theorem dX12_isName_39 : decode cX12_isName 39 = .ok (.iadd, 1) := by decide +kernel
theorem dX12_isName_40 : decode cX12_isName 40 = .ok (.invokevirtual 76, 3) := by decide +kernel
theorem dX12_isName_43 : decode cX12_isName 43 = .ok (.iload_n 3, 1) := by decide +kernel
theorem dX12_isName_44 : decode cX12_isName 44 = .ok (.if_icmp .ne 37, 3) := by decide +kernel
theorem dX12_isName_47 : decode cX12_isName 47 = .ok (.aload_n 0, 1) := by decide +kernel
theorem dX12_isName_48 : decode cX12_isName 48 = .ok (.aload_n 0, 1) := by decide +kernel
theorem dX12_isName_49 : decode cX12_isName 49 = .ok (.getfield 73, 3) := by decide +kernel
theorem dX12_isName_52 : decode cX12_isName 52 = .ok (.iconst 2, 1) := by decide +kernel
theorem dX12_isName_53 : decode cX12_isName 53 = .ok (.iadd, 1) := by decide +kernel
theorem dX12_isName_54 : decode cX12_isName 54 = .ok (.invokevirtual 76, 3) := by decide +kernel
theorem dX12_isName_57 : decode cX12_isName 57 = .ok (.iload 4, 2) := by decide +kernel
theorem dX12_isName_59 : decode cX12_isName 59 = .ok (.if_icmp .ne 22, 3) := by decide +kernel
theorem dX12_isName_62 : decode cX12_isName 62 = .ok (.aload_n 0, 1) := by decide +kernel
theorem dX12_isName_63 : decode cX12_isName 63 = .ok (.aload_n 0, 1) := by decide +kernel
theorem dX12_isName_64 : decode cX12_isName 64 = .ok (.getfield 70, 3) := by decide +kernel
theorem dX12_isName_67 : decode cX12_isName 67 = .ok (.iconst 1, 1) := by decide +kernel
theorem dX12_isName_68 : decode cX12_isName 68 = .ok (.isub, 1) := by decide +kernel
theorem dX12_isName_69 : decode cX12_isName 69 = .ok (.invokevirtual 76, 3) := by decide +kernel
theorem dX12_isName_72 : decode cX12_isName 72 = .ok (.iload 5, 2) := by decide +kernel
theorem dX12_isName_74 : decode cX12_isName 74 = .ok (.if_icmp .ne 7, 3) := by decide +kernel
theorem dX12_isName_77 : decode cX12_isName 77 = .ok (.iconst 1, 1) := by decide +kernel
theorem dX12_isName_78 : decode cX12_isName 78 = .ok (.goto 4, 3) := by decide +kernel
theorem dX12_isName_81 : decode cX12_isName 81 = .ok (.iconst 0, 1) := by decide +kernel
theorem dX12_isName_82 : decode cX12_isName 82 = .ok (.ireturn, 1) := by decide +kernel
set_option maxRecDepth 20000 in
theorem ggX12_isSame_X12_byteAt : GoodIn wsX12_isSame wsX12_byteAt := goodIn_r _ [6, 7, 8, 9, 10, 11, 12, 13, 14, 15, 16, 17, 18, 19, 20, 21, 22, 23, 24, 25, 26, 27, 28, 29, 30, 31, 32, 33, 34, 35, 36] (by decide +kernel) (by decide +kernel)
set_option maxRecDepth 20000 in
theorem gX12_isSame_X12_byteAt : GoodIn wsX12_isSame (wsV RX12 76 RX12 yX12_byteAt wsX12_byteAt) := goodIn_app (goodIn_of _ (by decide +kernel)) ggX12_isSame_X12_byteAt
theorem dX12_isSame_0 : decode cX12_isSame 0 = .ok (.aload_n 0, 1) := by decide +kernel
theorem dX12_isSame_1 : decode cX12_isSame 1 = .ok (.aload_n 0, 1) := by decide +kernel
theorem dX12_isSame_2 : decode cX12_isSame 2 = .ok (.getfield 73, 3) := by decide +kernel
theorem dX12_isSame_5 : decode cX12_isSame 5 = .ok (.iload_n 1, 1) := by decide +kernel
theorem dX12_isSame_6 : decode cX12_isSame 6 = .ok (.iadd, 1) := by decide +kernel
theorem dX12_isSame_7 : decode cX12_isSame 7 = .ok (.invokevirtual 76, 3) := by decide +kernel
theorem dX12_isSame_10 : decode cX12_isSame 10 = .ok (.iload_n 2, 1) := by decide +kernel
theorem dX12_isSame_11 : decode cX12_isSame 11 = .ok (.if_icmp .ne 40, 3) := by decide +kernel
theorem dX12_isSame_14 : decode cX12_isSame 14 = .ok (.aload_n 0, 1) := by decide +kernel
theorem dX12_isSame_15 : decode cX12_isSame 15 = .ok (.aload_n 0, 1) := by decide +kernel
theorem dX12_isSame_16 : decode cX12_isSame 16 = .ok (.getfield 73, 3) := by decide +kernel
theorem dX12_isSame_19 : decode cX12_isSame 19 = .ok (.iload_n 1, 1) := by decide +kernel
theorem dX12_isSame_20 : decode cX12_isSame 20 = .ok (.iadd, 1) := by decide +kernel
theorem dX12_isSame_21 : decode cX12_isSame 21 = .ok (.iconst 1, 1) := by decide +kernel
theorem dX12_isSame_22 : decode cX12_isSame 22 = .ok (.iadd, 1) := by decide +kernel
theorem dX12_isSame_23 : decode cX12_isSame 23 = .ok (.invokevirtual 76, 3) := by decide +kernel
theorem dX12_isSame_26 : decode cX12_isSame 26 = .ok (.iload_n 3, 1) := by decide +kernel
theorem dX12_isSame_27 : decode cX12_isSame 27 = .ok (.if_icmp .ne 24, 3) := by decide +kernel
theorem dX12_isSame_30 : decode cX12_isSame 30 = .ok (.aload_n 0, 1) := by decide +kernel
theorem dX12_isSame_31 : decode cX12_isSame 31 = .ok (.aload_n 0, 1) := by decide +kernel
theorem dX12_isSame_32 : decode cX12_isSame 32 = .ok (.getfield 73, 3) := by decide +kernel
theorem dX12_isSame_35 : decode cX12_isSame 35 = .ok (.iload_n 1, 1) := by decide +kernel
theorem dX12_isSame_36 : decode cX12_isSame 36 = .ok (.iadd, 1) := by decide +kernel
theorem dX12_isSame_37 : decode cX12_isSame 37 = .ok (.iconst 2, 1) := by decide +kernel
theorem dX12_isSame_38 : decode cX12_isSame 38 = .ok (.iadd, 1) := by decide +kernel
theorem dX12_isSame_39 : decode cX12_isSame 39 = .ok (.invokevirtual 76, 3) := by decide +kernel
theorem dX12_isSame_42 : decode cX12_isSame 42 = .ok (.iload 4, 2) := by decide +kernel
theorem dX12_isSame_44 : decode cX12_isSame 44 = .ok (.if_icmp .ne 7, 3) := by decide +kernel
theorem dX12_isSame_47 : decode cX12_isSame 47 = .ok (.iconst 1, 1) := by decide +kernel
theorem dX12_isSame_48 : decode cX12_isSame 48 = .ok (.goto 4, 3) := by decide +kernel
theorem dX12_isSame_51 : decode cX12_isSame 51 = .ok (.iconst 0, 1) := by decide +kernel
theorem dX12_isSame_52 : decode cX12_isSame 52 = .ok (.ireturn, 1) := by decide +kernel
set_option maxRecDepth 20000 in
theorem ggX12_isFour_X12_isName : GoodIn wsX12_isFour wsX12_isName := goodIn_r _ [5, 6, 7, 8, 9, 10, 11, 4, 12, 13, 14, 15, 16, 17, 18, 19, 20, 21, 22, 23, 24, 25, 26, 27, 28, 29, 30, 31, 32, 33, 34, 35, 36, 37, 38, 39, 40, 41, 42] (by decide +kernel) (by decide +kernel)
set_option maxRecDepth 20000 in
theorem gX12_isFour_X12_isName : GoodIn wsX12_isFour (wsV RX12 100 RX12 yX12_isName wsX12_isName) := goodIn_app (goodIn_of _ (by decide +kernel)) ggX12_isFour_X12_isName
theorem dX12_isFour_0 : decode cX12_isFour 0 = .ok (.aload_n 0, 1) := by decide +kernel
theorem dX12_isFour_1 : decode cX12_isFour 1 = .ok (.iconst 4, 1) := by decide +kernel
theorem dX12_isFour_2 : decode cX12_isFour 2 = .ok (.iload_n 1, 1) := by decide +kernel
theorem dX12_isFour_3 : decode cX12_isFour 3 = .ok (.iload_n 2, 1) := by decide +kernel
theorem dX12_isFour_4 : decode cX12_isFour 4 = .ok (.iload_n 3, 1) := by decide +kernel
theorem dX12_isFour_5 : decode cX12_isFour 5 = .ok (.iload 4, 2) := by decide +kernel
theorem dX12_isFour_7 : decode cX12_isFour 7 = .ok (.invokevirtual 100, 3) := by decide +kernel
theorem dX12_isFour_10 : decode cX12_isFour 10 = .ok (.ireturn, 1) := by decide +kernel
set_option maxRecDepth 20000 in
theorem ggX12_isFive_X12_isName : GoodIn wsX12_isFive wsX12_isName := goodIn_r _ [6, 7, 8, 1, 9, 10, 11, 5, 12, 13, 14, 15, 16, 17, 18, 19, 20, 21, 22, 23, 24, 25, 26, 27, 28, 29, 30, 31, 32, 33, 34, 35, 36, 37, 38, 39, 40, 41, 42] (by decide +kernel) (by decide +kernel)
set_option maxRecDepth 20000 in
theorem gX12_isFive_X12_isName : GoodIn wsX12_isFive (wsV RX12 100 RX12 yX12_isName wsX12_isName) := goodIn_app (goodIn_of _ (by decide +kernel)) ggX12_isFive_X12_isName
set_option maxRecDepth 20000 in
theorem ggX12_isFive_X12_byteAt : GoodIn wsX12_isFive wsX12_byteAt := goodIn_r _ [12, 13, 14, 15, 16, 17, 18, 19, 20, 21, 22, 23, 24, 25, 26, 27, 28, 29, 30, 31, 32, 33, 34, 35, 36, 37, 38, 39, 40, 41, 42] (by decide +kernel) (by decide +kernel)
set_option maxRecDepth 20000 in
theorem gX12_isFive_X12_byteAt : GoodIn wsX12_isFive (wsV RX12 76 RX12 yX12_byteAt wsX12_byteAt) := goodIn_app (goodIn_of _ (by decide +kernel)) ggX12_isFive_X12_byteAt
theorem dX12_isFive_0 : decode cX12_isFive 0 = .ok (.aload_n 0, 1) := by decide +kernel
theorem dX12_isFive_1 : decode cX12_isFive 1 = .ok (.iconst 5, 1) := by decide +kernel
theorem dX12_isFive_2 : decode cX12_isFive 2 = .ok (.iload_n 1, 1) := by decide +kernel
theorem dX12_isFive_3 : decode cX12_isFive 3 = .ok (.iload_n 2, 1) := by decide +kernel
theorem dX12_isFive_4 : decode cX12_isFive 4 = .ok (.iload_n 3, 1) := by decide +kernel
theorem dX12_isFive_5 : decode cX12_isFive 5 = .ok (.iload 5, 2) := by decide +kernel
theorem dX12_isFive_7 : decode cX12_isFive 7 = .ok (.invokevirtual 100, 3) := by decide +kernel
theorem dX12_isFive_10 : decode cX12_isFive 10 = .ok (.ifCond .eq 22, 3) := by decide +kernel
theorem dX12_isFive_13 : decode cX12_isFive 13 = .ok (.aload_n 0, 1) := by decide +kernel
theorem dX12_isFive_14 : decode cX12_isFive 14 = .ok (.aload_n 0, 1) := by decide +kernel
theorem dX12_isFive_15 : decode cX12_isFive 15 = .ok (.getfield 73, 3) := by decide +kernel
theorem dX12_isFive_18 : decode cX12_isFive 18 = .ok (.iconst 3, 1) := by decide +kernel
theorem dX12_isFive_19 : decode cX12_isFive 19 = .ok (.iadd, 1) := by decide +kernel
theorem dX12_isFive_20 : decode cX12_isFive 20 = .ok (.invokevirtual 76, 3) := by decide +kernel
theorem dX12_isFive_23 : decode cX12_isFive 23 = .ok (.iload 4, 2) := by decide +kernel
theorem dX12_isFive_25 : decode cX12_isFive 25 = .ok (.if_icmp .ne 7, 3) := by decide +kernel
theorem dX12_isFive_28 : decode cX12_isFive 28 = .ok (.iconst 1, 1) := by decide +kernel
theorem dX12_isFive_29 : decode cX12_isFive 29 = .ok (.goto 4, 3) := by decide +kernel
theorem dX12_isFive_32 : decode cX12_isFive 32 = .ok (.iconst 0, 1) := by decide +kernel
theorem dX12_isFive_33 : decode cX12_isFive 33 = .ok (.ireturn, 1) := by decide +kernel
set_option maxRecDepth 20000 in
theorem ggX12_kindHere_X12_isFive : GoodIn wsX12_kindHere wsX12_isFive := goodIn_r _ [6, 1, 7, 8, 9, 5, 10, 11, 12, 13, 14, 15, 16, 17, 18, 27, 28, 29, 30, 31, 32, 33, 34, 35, 36, 37, 38, 39, 40, 41, 42, 43, 44, 45, 46, 47, 48, 49, 50, 51, 52, 53, 54] (by decide +kernel) (by decide +kernel)
set_option maxRecDepth 20000 in
theorem gX12_kindHere_X12_isFive : GoodIn wsX12_kindHere (wsV RX12 104 RX12 yX12_isFive wsX12_isFive) := goodIn_app (goodIn_of _ (by decide +kernel)) ggX12_kindHere_X12_isFive
set_option maxRecDepth 20000 in
theorem ggX12_kindHere_X12_isFour : GoodIn wsX12_kindHere wsX12_isFour := goodIn_r _ [22, 7, 8, 9, 5, 10, 11, 12, 1, 13, 14, 15, 16, 17, 18, 27, 28, 29, 30, 31, 32, 33, 34, 35, 36, 37, 38, 39, 40, 41, 42, 43, 44, 45, 46, 47, 48, 49, 50, 51, 52, 53, 54] (by decide +kernel) (by decide +kernel)
set_option maxRecDepth 20000 in
theorem gX12_kindHere_X12_isFour : GoodIn wsX12_kindHere (wsV RX12 107 RX12 yX12_isFour wsX12_isFour) := goodIn_app (goodIn_of _ (by decide +kernel)) ggX12_kindHere_X12_isFour
set_option maxRecDepth 20000 in
theorem ggX12_kindHere_X12_isName : GoodIn wsX12_kindHere wsX12_isName := goodIn_r _ [10, 11, 12, 1, 13, 14, 15, 5, 16, 17, 18, 27, 28, 29, 30, 31, 32, 33, 34, 35, 36, 37, 38, 39, 40, 41, 42, 43, 44, 45, 46, 47, 48, 49, 50, 51, 52, 53, 54] (by decide +kernel) (by decide +kernel)
set_option maxRecDepth 20000 in
theorem gX12_kindHere_X12_isName : GoodIn wsX12_kindHere (wsV RX12 100 RX12 yX12_isName wsX12_isName) := goodIn_app (goodIn_of _ (by decide +kernel)) ggX12_kindHere_X12_isName
set_option maxRecDepth 20000 in
theorem ggX12_kindHere_X12_isSame : GoodIn wsX12_kindHere wsX12_isSame := goodIn_r _ [26, 1, 13, 14, 15, 5, 16, 17, 18, 27, 28, 29, 30, 31, 32, 33, 34, 35, 36, 37, 38, 39, 40, 41, 42, 43, 44, 45, 46, 47, 48, 49, 50, 51, 52, 53, 54] (by decide +kernel) (by decide +kernel)
set_option maxRecDepth 20000 in
theorem gX12_kindHere_X12_isSame : GoodIn wsX12_kindHere (wsV RX12 111 RX12 yX12_isSame wsX12_isSame) := goodIn_app (goodIn_of _ (by decide +kernel)) ggX12_kindHere_X12_isSame
set_option maxRecDepth 20000 in
theorem ggX12_kindHere_X12_byteAt : GoodIn wsX12_kindHere wsX12_byteAt := goodIn_r _ [16, 17, 18, 27, 28, 29, 30, 31, 32, 33, 34, 35, 36, 37, 38, 39, 40, 41, 42, 43, 44, 45, 46, 47, 48, 49, 50, 51, 52, 53, 54] (by decide +kernel) (by decide +kernel)
set_option maxRecDepth 20000 in
theorem gX12_kindHere_X12_byteAt : GoodIn wsX12_kindHere (wsV RX12 76 RX12 yX12_byteAt wsX12_byteAt) := goodIn_app (goodIn_of _ (by decide +kernel)) ggX12_kindHere_X12_byteAt
theorem dX12_kindHere_0 : decode cX12_kindHere 0 = .ok (.aload_n 0, 1) := by decide +kernel
theorem dX12_kindHere_1 : decode cX12_kindHere 1 = .ok (.bipush 99, 2) := by decide +kernel
theorem dX12_kindHere_3 : decode cX12_kindHere 3 = .ok (.bipush 104, 2) := by decide +kernel
theorem dX12_kindHere_5 : decode cX12_kindHere 5 = .ok (.bipush 105, 2) := by decide +kernel
theorem dX12_kindHere_7 : decode cX12_kindHere 7 = .ok (.bipush 108, 2) := by decide +kernel
theorem dX12_kindHere_9 : decode cX12_kindHere 9 = .ok (.bipush 100, 2) := by decide +kernel
theorem dX12_kindHere_11 : decode cX12_kindHere 11 = .ok (.invokevirtual 104, 3) := by decide +kernel
theorem dX12_kindHere_14 : decode cX12_kindHere 14 = .ok (.ifCond .eq 5, 3) := by decide +kernel
theorem dX12_kindHere_17 : decode cX12_kindHere 17 = .ok (.iconst 0, 1) := by decide +kernel
theorem dX12_kindHere_18 : decode cX12_kindHere 18 = .ok (.ireturn, 1) := by decide +kernel
theorem dX12_kindHere_19 : decode cX12_kindHere 19 = .ok (.aload_n 0, 1) := by decide +kernel
theorem dX12_kindHere_20 : decode cX12_kindHere 20 = .ok (.bipush 104, 2) := by decide +kernel
theorem dX12_kindHere_22 : decode cX12_kindHere 22 = .ok (.bipush 101, 2) := by decide +kernel
theorem dX12_kindHere_24 : decode cX12_kindHere 24 = .ok (.bipush 105, 2) := by decide +kernel
theorem dX12_kindHere_26 : decode cX12_kindHere 26 = .ok (.bipush 114, 2) := by decide +kernel
theorem dX12_kindHere_28 : decode cX12_kindHere 28 = .ok (.invokevirtual 107, 3) := by decide +kernel
theorem dX12_kindHere_31 : decode cX12_kindHere 31 = .ok (.ifCond .eq 5, 3) := by decide +kernel
theorem dX12_kindHere_34 : decode cX12_kindHere 34 = .ok (.iconst 1, 1) := by decide +kernel
theorem dX12_kindHere_35 : decode cX12_kindHere 35 = .ok (.ireturn, 1) := by decide +kernel
theorem dX12_kindHere_36 : decode cX12_kindHere 36 = .ok (.aload_n 0, 1) := by decide +kernel
theorem dX12_kindHere_37 : decode cX12_kindHere 37 = .ok (.bipush 6, 2) := by decide +kernel
theorem dX12_kindHere_39 : decode cX12_kindHere 39 = .ok (.bipush 117, 2) := by decide +kernel
theorem dX12_kindHere_41 : decode cX12_kindHere 41 = .ok (.bipush 114, 2) := by decide +kernel
theorem dX12_kindHere_43 : decode cX12_kindHere 43 = .ok (.bipush 99, 2) := by decide +kernel
theorem dX12_kindHere_45 : decode cX12_kindHere 45 = .ok (.bipush 110, 2) := by decide +kernel
theorem dX12_kindHere_47 : decode cX12_kindHere 47 = .ok (.invokevirtual 100, 3) := by decide +kernel
theorem dX12_kindHere_50 : decode cX12_kindHere 50 = .ok (.ifCond .eq 19, 3) := by decide +kernel
theorem dX12_kindHere_53 : decode cX12_kindHere 53 = .ok (.aload_n 0, 1) := by decide +kernel
theorem dX12_kindHere_54 : decode cX12_kindHere 54 = .ok (.iconst 2, 1) := by decide +kernel
theorem dX12_kindHere_55 : decode cX12_kindHere 55 = .ok (.bipush 99, 2) := by decide +kernel
theorem dX12_kindHere_57 : decode cX12_kindHere 57 = .ok (.bipush 104, 2) := by decide +kernel
theorem dX12_kindHere_59 : decode cX12_kindHere 59 = .ok (.bipush 105, 2) := by decide +kernel
theorem dX12_kindHere_61 : decode cX12_kindHere 61 = .ok (.invokevirtual 111, 3) := by decide +kernel
theorem dX12_kindHere_64 : decode cX12_kindHere 64 = .ok (.ifCond .eq 5, 3) := by decide +kernel
theorem dX12_kindHere_67 : decode cX12_kindHere 67 = .ok (.iconst 2, 1) := by decide +kernel
theorem dX12_kindHere_68 : decode cX12_kindHere 68 = .ok (.ireturn, 1) := by decide +kernel
theorem dX12_kindHere_69 : decode cX12_kindHere 69 = .ok (.aload_n 0, 1) := by decide +kernel
theorem dX12_kindHere_70 : decode cX12_kindHere 70 = .ok (.bipush 6, 2) := by decide +kernel
theorem dX12_kindHere_72 : decode cX12_kindHere 72 = .ok (.bipush 99, 2) := by decide +kernel
theorem dX12_kindHere_74 : decode cX12_kindHere 74 = .ok (.bipush 117, 2) := by decide +kernel
theorem dX12_kindHere_76 : decode cX12_kindHere 76 = .ok (.bipush 114, 2) := by decide +kernel
theorem dX12_kindHere_78 : decode cX12_kindHere 78 = .ok (.bipush 101, 2) := by decide +kernel
theorem dX12_kindHere_80 : decode cX12_kindHere 80 = .ok (.invokevirtual 100, 3) := by decide +kernel
theorem dX12_kindHere_83 : decode cX12_kindHere 83 = .ok (.ifCond .eq 19, 3) := by decide +kernel
theorem dX12_kindHere_86 : decode cX12_kindHere 86 = .ok (.aload_n 0, 1) := by decide +kernel
theorem dX12_kindHere_87 : decode cX12_kindHere 87 = .ok (.iconst 2, 1) := by decide +kernel
theorem dX12_kindHere_88 : decode cX12_kindHere 88 = .ok (.bipush 114, 2) := by decide +kernel
theorem dX12_kindHere_90 : decode cX12_kindHere 90 = .ok (.bipush 97, 2) := by decide +kernel
theorem dX12_kindHere_92 : decode cX12_kindHere 92 = .ok (.bipush 116, 2) := by decide +kernel
theorem dX12_kindHere_94 : decode cX12_kindHere 94 = .ok (.invokevirtual 111, 3) := by decide +kernel
theorem dX12_kindHere_97 : decode cX12_kindHere 97 = .ok (.ifCond .eq 5, 3) := by decide +kernel
theorem dX12_kindHere_100 : decode cX12_kindHere 100 = .ok (.iconst 3, 1) := by decide +kernel
theorem dX12_kindHere_101 : decode cX12_kindHere 101 = .ok (.ireturn, 1) := by decide +kernel
theorem dX12_kindHere_102 : decode cX12_kindHere 102 = .ok (.aload_n 0, 1) := by decide +kernel
theorem dX12_kindHere_103 : decode cX12_kindHere 103 = .ok (.bipush 8, 2) := by decide +kernel
theorem dX12_kindHere_105 : decode cX12_kindHere 105 = .ok (.bipush 114, 2) := by decide +kernel
theorem dX12_kindHere_107 : decode cX12_kindHere 107 = .ok (.bipush 101, 2) := by decide +kernel
theorem dX12_kindHere_109 : decode cX12_kindHere 109 = .ok (.bipush 102, 2) := by decide +kernel
theorem dX12_kindHere_111 : decode cX12_kindHere 111 = .ok (.bipush 114, 2) := by decide +kernel
theorem dX12_kindHere_113 : decode cX12_kindHere 113 = .ok (.invokevirtual 100, 3) := by decide +kernel
theorem dX12_kindHere_116 : decode cX12_kindHere 116 = .ok (.ifCond .eq 35, 3) := by decide +kernel
theorem dX12_kindHere_119 : decode cX12_kindHere 119 = .ok (.aload_n 0, 1) := by decide +kernel
theorem dX12_kindHere_120 : decode cX12_kindHere 120 = .ok (.iconst 3, 1) := by decide +kernel
theorem dX12_kindHere_121 : decode cX12_kindHere 121 = .ok (.bipush 111, 2) := by decide +kernel
theorem dX12_kindHere_123 : decode cX12_kindHere 123 = .ok (.bipush 114, 2) := by decide +kernel
theorem dX12_kindHere_125 : decode cX12_kindHere 125 = .ok (.bipush 109, 2) := by decide +kernel
theorem dX12_kindHere_127 : decode cX12_kindHere 127 = .ok (.invokevirtual 111, 3) := by decide +kernel
theorem dX12_kindHere_130 : decode cX12_kindHere 130 = .ok (.ifCond .eq 21, 3) := by decide +kernel
theorem dX12_kindHere_133 : decode cX12_kindHere 133 = .ok (.aload_n 0, 1) := by decide +kernel
theorem dX12_kindHere_134 : decode cX12_kindHere 134 = .ok (.aload_n 0, 1) := by decide +kernel
theorem dX12_kindHere_135 : decode cX12_kindHere 135 = .ok (.getfield 73, 3) := by decide +kernel
theorem dX12_kindHere_138 : decode cX12_kindHere 138 = .ok (.bipush 6, 2) := by decide +kernel
theorem dX12_kindHere_140 : decode cX12_kindHere 140 = .ok (.iadd, 1) := by decide +kernel
theorem dX12_kindHere_141 : decode cX12_kindHere 141 = .ok (.invokevirtual 76, 3) := by decide +kernel
theorem dX12_kindHere_144 : decode cX12_kindHere 144 = .ok (.bipush 101, 2) := by decide +kernel
theorem dX12_kindHere_146 : decode cX12_kindHere 146 = .ok (.if_icmp .ne 5, 3) := by decide +kernel
theorem dX12_kindHere_149 : decode cX12_kindHere 149 = .ok (.iconst 4, 1) := by decide +kernel
theorem dX12_kindHere_150 : decode cX12_kindHere 150 = .ok (.ireturn, 1) := by decide +kernel
theorem dX12_kindHere_151 : decode cX12_kindHere 151 = .ok (.aload_n 0, 1) := by decide +kernel
theorem dX12_kindHere_152 : decode cX12_kindHere 152 = .ok (.bipush 116, 2) := by decide +kernel
theorem dX12_kindHere_154 : decode cX12_kindHere 154 = .ok (.bipush 119, 2) := by decide +kernel
theorem dX12_kindHere_156 : decode cX12_kindHere 156 = .ok (.bipush 105, 2) := by decide +kernel
theorem dX12_kindHere_158 : decode cX12_kindHere 158 = .ok (.bipush 110, 2) := by decide +kernel
theorem dX12_kindHere_160 : decode cX12_kindHere 160 = .ok (.invokevirtual 107, 3) := by decide +kernel
theorem dX12_kindHere_163 : decode cX12_kindHere 163 = .ok (.ifCond .eq 7, 3) := by decide +kernel
theorem dX12_kindHere_166 : decode cX12_kindHere 166 = .ok (.iconst 5, 1) := by decide +kernel
theorem dX12_kindHere_167 : decode cX12_kindHere 167 = .ok (.goto 4, 3) := by decide +kernel
theorem dX12_kindHere_170 : decode cX12_kindHere 170 = .ok (.iconst (-1), 1) := by decide +kernel
theorem dX12_kindHere_171 : decode cX12_kindHere 171 = .ok (.ireturn, 1) := by decide +kernel
set_option maxRecDepth 20000 in
theorem ggX12_numberTo_X12_needs : GoodIn wsX12_numberTo wsX12_needs := goodIn_r _ [11, 5, 12, 13, 14, 10, 15, 2, 3, 1, 4, 16, 17, 18, 19, 20, 21, 22, 23, 24, 25, 26, 27, 28, 29, 30, 31, 32, 33, 34, 35, 36, 37, 38, 39, 40, 41, 42, 43, 44, 45, 46, 47, 48, 49, 50, 51, 52, 53, 54, 55] (by decide +kernel) (by decide +kernel)
set_option maxRecDepth 20000 in
theorem gX12_numberTo_X12_needs : GoodIn wsX12_numberTo (wsV RX12 114 RX12 yX12_needs wsX12_needs) := goodIn_app (goodIn_of _ (by decide +kernel)) ggX12_numberTo_X12_needs
theorem dX12_numberTo_0 : decode cX12_numberTo 0 = .ok (.aload_n 0, 1) := by decide +kernel
theorem dX12_numberTo_1 : decode cX12_numberTo 1 = .ok (.getfield 87, 3) := by decide +kernel
theorem dX12_numberTo_4 : decode cX12_numberTo 4 = .ok (.iconst 2, 1) := by decide +kernel
theorem dX12_numberTo_5 : decode cX12_numberTo 5 = .ok (.if_icmp .ne 28, 3) := by decide +kernel
theorem dX12_numberTo_8 : decode cX12_numberTo 8 = .ok (.aload_n 0, 1) := by decide +kernel
theorem dX12_numberTo_9 : decode cX12_numberTo 9 = .ok (.getfield 70, 3) := by decide +kernel
theorem dX12_numberTo_12 : decode cX12_numberTo 12 = .ok (.aload_n 0, 1) := by decide +kernel
theorem dX12_numberTo_13 : decode cX12_numberTo 13 = .ok (.getfield 73, 3) := by decide +kernel
theorem dX12_numberTo_16 : decode cX12_numberTo 16 = .ok (.isub, 1) := by decide +kernel
theorem dX12_numberTo_17 : decode cX12_numberTo 17 = .ok (.iconst 3, 1) := by decide +kernel
theorem dX12_numberTo_18 : decode cX12_numberTo 18 = .ok (.if_icmp .gt 15, 3) := by decide +kernel
theorem dX12_numberTo_21 : decode cX12_numberTo 21 = .ok (.aload_n 0, 1) := by decide +kernel
theorem dX12_numberTo_22 : decode cX12_numberTo 22 = .ok (.getfield 90, 3) := by decide +kernel
theorem dX12_numberTo_25 : decode cX12_numberTo 25 = .ok (.iload_n 2, 1) := by decide +kernel
theorem dX12_numberTo_26 : decode cX12_numberTo 26 = .ok (.if_icmp .gt 7, 3) := by decide +kernel
theorem dX12_numberTo_29 : decode cX12_numberTo 29 = .ok (.iconst 1, 1) := by decide +kernel
theorem dX12_numberTo_30 : decode cX12_numberTo 30 = .ok (.goto 4, 3) := by decide +kernel
theorem dX12_numberTo_33 : decode cX12_numberTo 33 = .ok (.iconst 0, 1) := by decide +kernel
theorem dX12_numberTo_34 : decode cX12_numberTo 34 = .ok (.istore_n 3, 1) := by decide +kernel
theorem dX12_numberTo_35 : decode cX12_numberTo 35 = .ok (.iload_n 3, 1) := by decide +kernel
theorem dX12_numberTo_36 : decode cX12_numberTo 36 = .ok (.ifCond .eq 20, 3) := by decide +kernel
theorem dX12_numberTo_39 : decode cX12_numberTo 39 = .ok (.aload_n 0, 1) := by decide +kernel
theorem dX12_numberTo_40 : decode cX12_numberTo 40 = .ok (.getfield 93, 3) := by decide +kernel
theorem dX12_numberTo_43 : decode cX12_numberTo 43 = .ok (.ifCond .ne 13, 3) := by decide +kernel
theorem dX12_numberTo_46 : decode cX12_numberTo 46 = .ok (.aload_n 0, 1) := by decide +kernel
theorem dX12_numberTo_47 : decode cX12_numberTo 47 = .ok (.getfield 7, 3) := by decide +kernel
theorem dX12_numberTo_50 : decode cX12_numberTo 50 = .ok (.iload_n 1, 1) := by decide +kernel
theorem dX12_numberTo_51 : decode cX12_numberTo 51 = .ok (.aload_n 0, 1) := by decide +kernel
theorem dX12_numberTo_52 : decode cX12_numberTo 52 = .ok (.getfield 90, 3) := by decide +kernel
theorem dX12_numberTo_55 : decode cX12_numberTo 55 = .ok (.iastore, 1) := by decide +kernel
theorem dX12_numberTo_56 : decode cX12_numberTo 56 = .ok (.aload_n 0, 1) := by decide +kernel
theorem dX12_numberTo_57 : decode cX12_numberTo 57 = .ok (.iload_n 3, 1) := by decide +kernel
theorem dX12_numberTo_58 : decode cX12_numberTo 58 = .ok (.invokevirtual 114, 3) := by decide +kernel
theorem dX12_numberTo_61 : decode cX12_numberTo 61 = .ok (.return_, 1) := by decide +kernel
set_option maxRecDepth 20000 in
theorem ggX12_perhaps_X12_nextToken : GoodIn wsX12_perhaps wsX12_nextToken := goodIn_r _ [6, 7, 8, 9, 10, 11, 12, 13, 5, 14, 15, 16, 17, 18, 19, 20, 21, 22, 32, 33, 34, 35, 36, 37, 38, 39, 40, 41, 42, 43, 44, 45, 46, 47, 48, 49, 50, 51, 52, 53, 54, 55, 56, 57, 58, 59] (by decide +kernel) (by decide +kernel)
set_option maxRecDepth 20000 in
theorem gX12_perhaps_X12_nextToken : GoodIn wsX12_perhaps (wsV RX12 97 RX12 yX12_nextToken wsX12_nextToken) := goodIn_app (goodIn_of _ (by decide +kernel)) ggX12_perhaps_X12_nextToken
set_option maxRecDepth 20000 in
theorem ggX12_perhaps_X12_numberTo : GoodIn wsX12_perhaps wsX12_numberTo := goodIn_r _ [26, 9, 7, 8, 10, 1, 27, 28, 29, 30, 5, 31, 2, 3, 4, 6, 11, 12, 13, 14, 15, 16, 17, 18, 19, 20, 21, 22, 32, 33, 34, 35, 36, 37, 38, 39, 40, 41, 42, 43, 44, 45, 46, 47, 48, 49, 50, 51, 52, 53, 54, 55, 56, 57, 58, 59] (by decide +kernel) (by decide +kernel)
set_option maxRecDepth 20000 in
theorem gX12_perhaps_X12_numberTo : GoodIn wsX12_perhaps (wsV RX12 118 RX12 yX12_numberTo wsX12_numberTo) := goodIn_app (goodIn_of _ (by decide +kernel)) ggX12_perhaps_X12_numberTo
theorem dX12_perhaps_0 : decode cX12_perhaps 0 = .ok (.aload_n 0, 1) := by decide +kernel
theorem dX12_perhaps_1 : decode cX12_perhaps 1 = .ok (.getfield 93, 3) := by decide +kernel
theorem dX12_perhaps_4 : decode cX12_perhaps 4 = .ok (.ifCond .ne 17, 3) := by decide +kernel
theorem dX12_perhaps_7 : decode cX12_perhaps 7 = .ok (.iload_n 1, 1) := by decide +kernel
theorem dX12_perhaps_8 : decode cX12_perhaps 8 = .ok (.ifCond .eq 13, 3) := by decide +kernel
theorem dX12_perhaps_11 : decode cX12_perhaps 11 = .ok (.aload_n 0, 1) := by decide +kernel
theorem dX12_perhaps_12 : decode cX12_perhaps 12 = .ok (.invokevirtual 97, 3) := by decide +kernel
theorem dX12_perhaps_15 : decode cX12_perhaps 15 = .ok (.aload_n 0, 1) := by decide +kernel
theorem dX12_perhaps_16 : decode cX12_perhaps 16 = .ok (.iload_n 2, 1) := by decide +kernel
theorem dX12_perhaps_17 : decode cX12_perhaps 17 = .ok (.iload_n 3, 1) := by decide +kernel
theorem dX12_perhaps_18 : decode cX12_perhaps 18 = .ok (.invokevirtual 118, 3) := by decide +kernel
theorem dX12_perhaps_21 : decode cX12_perhaps 21 = .ok (.return_, 1) := by decide +kernel
set_option maxRecDepth 20000 in
theorem ggX12_isTwo_X12_byteAt : GoodIn wsX12_isTwo wsX12_byteAt := goodIn_r _ [8, 9, 10, 11, 12, 13, 14, 15, 16, 17, 18, 19, 20, 21, 22, 23, 24, 25, 26, 27, 28, 29, 30, 31, 32, 33, 34, 35, 36, 37, 38] (by decide +kernel) (by decide +kernel)
set_option maxRecDepth 20000 in
theorem gX12_isTwo_X12_byteAt : GoodIn wsX12_isTwo (wsV RX12 76 RX12 yX12_byteAt wsX12_byteAt) := goodIn_app (goodIn_of _ (by decide +kernel)) ggX12_isTwo_X12_byteAt
theorem dX12_isTwo_0 : decode cX12_isTwo 0 = .ok (.aload_n 0, 1) := by decide +kernel
theorem dX12_isTwo_1 : decode cX12_isTwo 1 = .ok (.getfield 87, 3) := by decide +kernel
theorem dX12_isTwo_4 : decode cX12_isTwo 4 = .ok (.iconst 1, 1) := by decide +kernel
theorem dX12_isTwo_5 : decode cX12_isTwo 5 = .ok (.if_icmp .ne 46, 3) := by decide +kernel
theorem dX12_isTwo_8 : decode cX12_isTwo 8 = .ok (.aload_n 0, 1) := by decide +kernel
theorem dX12_isTwo_9 : decode cX12_isTwo 9 = .ok (.getfield 70, 3) := by decide +kernel
theorem dX12_isTwo_12 : decode cX12_isTwo 12 = .ok (.aload_n 0, 1) := by decide +kernel
theorem dX12_isTwo_13 : decode cX12_isTwo 13 = .ok (.getfield 73, 3) := by decide +kernel
theorem dX12_isTwo_16 : decode cX12_isTwo 16 = .ok (.isub, 1) := by decide +kernel
theorem dX12_isTwo_17 : decode cX12_isTwo 17 = .ok (.iconst 2, 1) := by decide +kernel
theorem dX12_isTwo_18 : decode cX12_isTwo 18 = .ok (.if_icmp .ne 33, 3) := by decide +kernel
theorem dX12_isTwo_21 : decode cX12_isTwo 21 = .ok (.aload_n 0, 1) := by decide +kernel
theorem dX12_isTwo_22 : decode cX12_isTwo 22 = .ok (.aload_n 0, 1) := by decide +kernel
theorem dX12_isTwo_23 : decode cX12_isTwo 23 = .ok (.getfield 73, 3) := by decide +kernel
theorem dX12_isTwo_26 : decode cX12_isTwo 26 = .ok (.invokevirtual 76, 3) := by decide +kernel
theorem dX12_isTwo_29 : decode cX12_isTwo 29 = .ok (.iload_n 1, 1) := by decide +kernel
theorem dX12_isTwo_30 : decode cX12_isTwo 30 = .ok (.if_icmp .ne 21, 3) := by decide +kernel
theorem dX12_isTwo_33 : decode cX12_isTwo 33 = .ok (.aload_n 0, 1) := by decide +kernel
theorem dX12_isTwo_34 : decode cX12_isTwo 34 = .ok (.aload_n 0, 1) := by decide +kernel
theorem dX12_isTwo_35 : decode cX12_isTwo 35 = .ok (.getfield 73, 3) := by decide +kernel
theorem dX12_isTwo_38 : decode cX12_isTwo 38 = .ok (.iconst 1, 1) := by decide +kernel
theorem dX12_isTwo_39 : decode cX12_isTwo 39 = .ok (.iadd, 1) := by decide +kernel
theorem dX12_isTwo_40 : decode cX12_isTwo 40 = .ok (.invokevirtual 76, 3) := by decide +kernel
theorem dX12_isTwo_43 : decode cX12_isTwo 43 = .ok (.iload_n 2, 1) := by decide +kernel
theorem dX12_isTwo_44 : decode cX12_isTwo 44 = .ok (.if_icmp .ne 7, 3) := by decide +kernel
theorem dX12_isTwo_47 : decode cX12_isTwo 47 = .ok (.iconst 1, 1) := by decide +kernel
theorem dX12_isTwo_48 : decode cX12_isTwo 48 = .ok (.goto 4, 3) := by decide +kernel
theorem dX12_isTwo_51 : decode cX12_isTwo 51 = .ok (.iconst 0, 1) := by decide +kernel
theorem dX12_isTwo_52 : decode cX12_isTwo 52 = .ok (.ireturn, 1) := by decide +kernel
set_option maxRecDepth 20000 in
theorem ggX12_childHere_X12_needs : GoodIn wsX12_childHere wsX12_needs := goodIn_r _ [7, 2, 8, 9, 10, 6, 11, 12, 13, 14, 15, 16, 17, 18, 19, 20, 21, 22, 23, 24, 25, 26, 27, 56, 57, 58, 59, 60, 61, 62, 63, 64, 65, 66, 67, 68, 69, 70, 71, 72, 73, 74, 75, 76, 77, 78, 79, 80, 81, 82, 83] (by decide +kernel) (by decide +kernel)
set_option maxRecDepth 20000 in
theorem gX12_childHere_X12_needs : GoodIn wsX12_childHere (wsV RX12 114 RX12 yX12_needs wsX12_needs) := goodIn_app (goodIn_of _ (by decide +kernel)) ggX12_childHere_X12_needs
set_option maxRecDepth 20000 in
theorem ggX12_childHere_X12_isTwo : GoodIn wsX12_childHere wsX12_isTwo := goodIn_r _ [31, 14, 12, 13, 16, 17, 18, 6, 19, 20, 21, 56, 57, 58, 59, 60, 61, 62, 63, 64, 65, 66, 67, 68, 69, 70, 71, 72, 73, 74, 75, 76, 77, 78, 79, 80, 81, 82, 83] (by decide +kernel) (by decide +kernel)
set_option maxRecDepth 20000 in
theorem gX12_childHere_X12_isTwo : GoodIn wsX12_childHere (wsV RX12 122 RX12 yX12_isTwo wsX12_isTwo) := goodIn_app (goodIn_of _ (by decide +kernel)) ggX12_childHere_X12_isTwo
set_option maxRecDepth 20000 in
theorem ggX12_childHere_X12_comes : GoodIn wsX12_childHere wsX12_comes := goodIn_r _ [35, 1, 56, 57, 58, 59, 60, 61, 62, 63, 64, 65, 66, 67, 68, 69, 70, 71, 72, 73, 74, 75, 76, 77, 78, 79, 80, 81, 82, 83] (by decide +kernel) (by decide +kernel)
set_option maxRecDepth 20000 in
theorem gX12_childHere_X12_comes : GoodIn wsX12_childHere (wsV RX12 126 RX12 yX12_comes wsX12_comes) := goodIn_app (goodIn_of _ (by decide +kernel)) ggX12_childHere_X12_comes
set_option maxRecDepth 20000 in
theorem ggX12_childHere_X12_numberTo : GoodIn wsX12_childHere wsX12_numberTo := goodIn_r _ [39, 14, 12, 13, 15, 2, 1, 3, 4, 5, 6, 7, 8, 9, 10, 11, 16, 17, 18, 19, 20, 21, 22, 23, 24, 25, 26, 27, 56, 57, 58, 59, 60, 61, 62, 63, 64, 65, 66, 67, 68, 69, 70, 71, 72, 73, 74, 75, 76, 77, 78, 79, 80, 81, 82, 83] (by decide +kernel) (by decide +kernel)
set_option maxRecDepth 20000 in
theorem gX12_childHere_X12_numberTo : GoodIn wsX12_childHere (wsV RX12 118 RX12 yX12_numberTo wsX12_numberTo) := goodIn_app (goodIn_of _ (by decide +kernel)) ggX12_childHere_X12_numberTo
set_option maxRecDepth 20000 in
theorem ggX12_childHere_X12_isFive : GoodIn wsX12_childHere wsX12_isFive := goodIn_r _ [43, 13, 44, 45, 46, 6, 47, 14, 12, 16, 17, 18, 19, 20, 21, 56, 57, 58, 59, 60, 61, 62, 63, 64, 65, 66, 67, 68, 69, 70, 71, 72, 73, 74, 75, 76, 77, 78, 79, 80, 81, 82, 83] (by decide +kernel) (by decide +kernel)
set_option maxRecDepth 20000 in
theorem gX12_childHere_X12_isFive : GoodIn wsX12_childHere (wsV RX12 104 RX12 yX12_isFive wsX12_isFive) := goodIn_app (goodIn_of _ (by decide +kernel)) ggX12_childHere_X12_isFive
set_option maxRecDepth 20000 in
theorem ggX12_childHere_X12_perhaps : GoodIn wsX12_childHere wsX12_perhaps := goodIn_r _ [51, 2, 8, 9, 10, 6, 11, 12, 13, 14, 15, 16, 17, 18, 19, 20, 21, 22, 23, 24, 25, 26, 27, 36, 37, 38, 39, 1, 3, 4, 5, 7, 56, 57, 58, 59, 60, 61, 62, 63, 64, 65, 66, 67, 68, 69, 70, 71, 72, 73, 74, 75, 76, 77, 78, 79, 80, 81, 82, 83] (by decide +kernel) (by decide +kernel)
set_option maxRecDepth 20000 in
theorem gX12_childHere_X12_perhaps : GoodIn wsX12_childHere (wsV RX12 130 RX12 yX12_perhaps wsX12_perhaps) := goodIn_app (goodIn_of _ (by decide +kernel)) ggX12_childHere_X12_perhaps
set_option maxRecDepth 20000 in
theorem ggX12_childHere_X12_isFour : GoodIn wsX12_childHere wsX12_isFour := goodIn_r _ [55, 44, 45, 46, 6, 47, 14, 12, 13, 16, 17, 18, 19, 20, 21, 56, 57, 58, 59, 60, 61, 62, 63, 64, 65, 66, 67, 68, 69, 70, 71, 72, 73, 74, 75, 76, 77, 78, 79, 80, 81, 82, 83] (by decide +kernel) (by decide +kernel)
set_option maxRecDepth 20000 in
theorem gX12_childHere_X12_isFour : GoodIn wsX12_childHere (wsV RX12 107 RX12 yX12_isFour wsX12_isFour) := goodIn_app (goodIn_of _ (by decide +kernel)) ggX12_childHere_X12_isFour
set_option maxRecDepth 20000 in
theorem ggX12_childHere_X12_isName : GoodIn wsX12_childHere wsX12_isName := goodIn_r _ [47, 14, 12, 13, 16, 17, 18, 6, 19, 20, 21, 56, 57, 58, 59, 60, 61, 62, 63, 64, 65, 66, 67, 68, 69, 70, 71, 72, 73, 74, 75, 76, 77, 78, 79, 80, 81, 82, 83] (by decide +kernel) (by decide +kernel)
set_option maxRecDepth 20000 in
theorem gX12_childHere_X12_isName : GoodIn wsX12_childHere (wsV RX12 100 RX12 yX12_isName wsX12_isName) := goodIn_app (goodIn_of _ (by decide +kernel)) ggX12_childHere_X12_isName
theorem dX12_childHere_0 : decode cX12_childHere 0 = .ok (.bipush 16, 2) := by decide +kernel
theorem dX12_childHere_2 : decode cX12_childHere 2 = .ok (.bipush 6, 2) := by decide +kernel
theorem dX12_childHere_4 : decode cX12_childHere 4 = .ok (.aload_n 0, 1) := by decide +kernel
theorem dX12_childHere_5 : decode cX12_childHere 5 = .ok (.getfield 7, 3) := by decide +kernel
theorem dX12_childHere_8 : decode cX12_childHere 8 = .ok (.iconst 0, 1) := by decide +kernel
theorem dX12_childHere_9 : decode cX12_childHere 9 = .ok (.iaload, 1) := by decide +kernel
theorem dX12_childHere_10 : decode cX12_childHere 10 = .ok (.imul, 1) := by decide +kernel
theorem dX12_childHere_11 : decode cX12_childHere 11 = .ok (.iadd, 1) := by decide +kernel
theorem dX12_childHere_12 : decode cX12_childHere 12 = .ok (.istore_n 2, 1) := by decide +kernel
theorem dX12_childHere_13 : decode cX12_childHere 13 = .ok (.aload_n 0, 1) := by decide +kernel
theorem dX12_childHere_14 : decode cX12_childHere 14 = .ok (.aload_n 0, 1) := by decide +kernel
theorem dX12_childHere_15 : decode cX12_childHere 15 = .ok (.getfield 7, 3) := by decide +kernel
theorem dX12_childHere_18 : decode cX12_childHere 18 = .ok (.iconst 0, 1) := by decide +kernel
theorem dX12_childHere_19 : decode cX12_childHere 19 = .ok (.iaload, 1) := by decide +kernel
theorem dX12_childHere_20 : decode cX12_childHere 20 = .ok (.bipush 8, 2) := by decide +kernel
theorem dX12_childHere_22 : decode cX12_childHere 22 = .ok (.if_icmp .ge 7, 3) := by decide +kernel
theorem dX12_childHere_25 : decode cX12_childHere 25 = .ok (.iconst 1, 1) := by decide +kernel
theorem dX12_childHere_26 : decode cX12_childHere 26 = .ok (.goto 4, 3) := by decide +kernel
theorem dX12_childHere_29 : decode cX12_childHere 29 = .ok (.iconst 0, 1) := by decide +kernel
theorem dX12_childHere_30 : decode cX12_childHere 30 = .ok (.invokevirtual 114, 3) := by decide +kernel
theorem dX12_childHere_33 : decode cX12_childHere 33 = .ok (.aload_n 0, 1) := by decide +kernel
theorem dX12_childHere_34 : decode cX12_childHere 34 = .ok (.aload_n 0, 1) := by decide +kernel
theorem dX12_childHere_35 : decode cX12_childHere 35 = .ok (.bipush 116, 2) := by decide +kernel
theorem dX12_childHere_37 : decode cX12_childHere 37 = .ok (.bipush 111, 2) := by decide +kernel
theorem dX12_childHere_39 : decode cX12_childHere 39 = .ok (.invokevirtual 122, 3) := by decide +kernel
theorem dX12_childHere_42 : decode cX12_childHere 42 = .ok (.invokevirtual 114, 3) := by decide +kernel
theorem dX12_childHere_45 : decode cX12_childHere 45 = .ok (.aload_n 0, 1) := by decide +kernel
theorem dX12_childHere_46 : decode cX12_childHere 46 = .ok (.getfield 93, 3) := by decide +kernel
theorem dX12_childHere_49 : decode cX12_childHere 49 = .ok (.ifCond .ne 12, 3) := by decide +kernel
theorem dX12_childHere_52 : decode cX12_childHere 52 = .ok (.aload_n 0, 1) := by decide +kernel
theorem dX12_childHere_53 : decode cX12_childHere 53 = .ok (.iload_n 1, 1) := by decide +kernel
theorem dX12_childHere_54 : decode cX12_childHere 54 = .ok (.bipush 50, 2) := by decide +kernel
theorem dX12_childHere_56 : decode cX12_childHere 56 = .ok (.iconst 5, 1) := by decide +kernel
theorem dX12_childHere_57 : decode cX12_childHere 57 = .ok (.iconst 0, 1) := by decide +kernel
theorem dX12_childHere_58 : decode cX12_childHere 58 = .ok (.invokevirtual 126, 3) := by decide +kernel
theorem dX12_childHere_61 : decode cX12_childHere 61 = .ok (.aload_n 0, 1) := by decide +kernel
theorem dX12_childHere_62 : decode cX12_childHere 62 = .ok (.aload_n 0, 1) := by decide +kernel
theorem dX12_childHere_63 : decode cX12_childHere 63 = .ok (.getfield 93, 3) := by decide +kernel
theorem dX12_childHere_66 : decode cX12_childHere 66 = .ok (.ifCond .eq 7, 3) := by decide +kernel
theorem dX12_childHere_69 : decode cX12_childHere 69 = .ok (.iconst 0, 1) := by decide +kernel
theorem dX12_childHere_70 : decode cX12_childHere 70 = .ok (.goto 6, 3) := by decide +kernel
theorem dX12_childHere_73 : decode cX12_childHere 73 = .ok (.iload_n 2, 1) := by decide +kernel
theorem dX12_childHere_74 : decode cX12_childHere 74 = .ok (.iconst 5, 1) := by decide +kernel
theorem dX12_childHere_75 : decode cX12_childHere 75 = .ok (.iadd, 1) := by decide +kernel
theorem dX12_childHere_76 : decode cX12_childHere 76 = .ok (.bipush 7, 2) := by decide +kernel
theorem dX12_childHere_78 : decode cX12_childHere 78 = .ok (.invokevirtual 118, 3) := by decide +kernel
theorem dX12_childHere_81 : decode cX12_childHere 81 = .ok (.aload_n 0, 1) := by decide +kernel
theorem dX12_childHere_82 : decode cX12_childHere 82 = .ok (.aload_n 0, 1) := by decide +kernel
theorem dX12_childHere_83 : decode cX12_childHere 83 = .ok (.bipush 116, 2) := by decide +kernel
theorem dX12_childHere_85 : decode cX12_childHere 85 = .ok (.bipush 114, 2) := by decide +kernel
theorem dX12_childHere_87 : decode cX12_childHere 87 = .ok (.bipush 97, 2) := by decide +kernel
theorem dX12_childHere_89 : decode cX12_childHere 89 = .ok (.bipush 105, 2) := by decide +kernel
theorem dX12_childHere_91 : decode cX12_childHere 91 = .ok (.bipush 116, 2) := by decide +kernel
theorem dX12_childHere_93 : decode cX12_childHere 93 = .ok (.invokevirtual 104, 3) := by decide +kernel
theorem dX12_childHere_96 : decode cX12_childHere 96 = .ok (.iload_n 2, 1) := by decide +kernel
theorem dX12_childHere_97 : decode cX12_childHere 97 = .ok (.iconst 1, 1) := by decide +kernel
theorem dX12_childHere_98 : decode cX12_childHere 98 = .ok (.iadd, 1) := by decide +kernel
theorem dX12_childHere_99 : decode cX12_childHere 99 = .ok (.bipush 99, 2) := by decide +kernel
theorem dX12_childHere_101 : decode cX12_childHere 101 = .ok (.invokevirtual 130, 3) := by decide +kernel
theorem dX12_childHere_104 : decode cX12_childHere 104 = .ok (.aload_n 0, 1) := by decide +kernel
theorem dX12_childHere_105 : decode cX12_childHere 105 = .ok (.aload_n 0, 1) := by decide +kernel
theorem dX12_childHere_106 : decode cX12_childHere 106 = .ok (.bipush 102, 2) := by decide +kernel
theorem dX12_childHere_108 : decode cX12_childHere 108 = .ok (.bipush 105, 2) := by decide +kernel
theorem dX12_childHere_110 : decode cX12_childHere 110 = .ok (.bipush 114, 2) := by decide +kernel
theorem dX12_childHere_112 : decode cX12_childHere 112 = .ok (.bipush 101, 2) := by decide +kernel
theorem dX12_childHere_114 : decode cX12_childHere 114 = .ok (.invokevirtual 107, 3) := by decide +kernel
theorem dX12_childHere_117 : decode cX12_childHere 117 = .ok (.iload_n 2, 1) := by decide +kernel
theorem dX12_childHere_118 : decode cX12_childHere 118 = .ok (.iconst 2, 1) := by decide +kernel
theorem dX12_childHere_119 : decode cX12_childHere 119 = .ok (.iadd, 1) := by decide +kernel
theorem dX12_childHere_120 : decode cX12_childHere 120 = .ok (.bipush 9, 2) := by decide +kernel
theorem dX12_childHere_122 : decode cX12_childHere 122 = .ok (.invokevirtual 130, 3) := by decide +kernel
theorem dX12_childHere_125 : decode cX12_childHere 125 = .ok (.aload_n 0, 1) := by decide +kernel
theorem dX12_childHere_126 : decode cX12_childHere 126 = .ok (.aload_n 0, 1) := by decide +kernel
theorem dX12_childHere_127 : decode cX12_childHere 127 = .ok (.bipush 119, 2) := by decide +kernel
theorem dX12_childHere_129 : decode cX12_childHere 129 = .ok (.bipush 105, 2) := by decide +kernel
theorem dX12_childHere_131 : decode cX12_childHere 131 = .ok (.bipush 115, 2) := by decide +kernel
theorem dX12_childHere_133 : decode cX12_childHere 133 = .ok (.bipush 104, 2) := by decide +kernel
theorem dX12_childHere_135 : decode cX12_childHere 135 = .ok (.invokevirtual 107, 3) := by decide +kernel
theorem dX12_childHere_138 : decode cX12_childHere 138 = .ok (.iload_n 2, 1) := by decide +kernel
theorem dX12_childHere_139 : decode cX12_childHere 139 = .ok (.iconst 3, 1) := by decide +kernel
theorem dX12_childHere_140 : decode cX12_childHere 140 = .ok (.iadd, 1) := by decide +kernel
theorem dX12_childHere_141 : decode cX12_childHere 141 = .ok (.bipush 99, 2) := by decide +kernel
theorem dX12_childHere_143 : decode cX12_childHere 143 = .ok (.invokevirtual 130, 3) := by decide +kernel
theorem dX12_childHere_146 : decode cX12_childHere 146 = .ok (.aload_n 0, 1) := by decide +kernel
theorem dX12_childHere_147 : decode cX12_childHere 147 = .ok (.aload_n 0, 1) := by decide +kernel
theorem dX12_childHere_148 : decode cX12_childHere 148 = .ok (.iconst 3, 1) := by decide +kernel
theorem dX12_childHere_149 : decode cX12_childHere 149 = .ok (.bipush 97, 2) := by decide +kernel
theorem dX12_childHere_151 : decode cX12_childHere 151 = .ok (.bipush 103, 2) := by decide +kernel
theorem dX12_childHere_153 : decode cX12_childHere 153 = .ok (.bipush 101, 2) := by decide +kernel
theorem dX12_childHere_155 : decode cX12_childHere 155 = .ok (.bipush 101, 2) := by decide +kernel
theorem dX12_childHere_157 : decode cX12_childHere 157 = .ok (.invokevirtual 100, 3) := by decide +kernel
theorem dX12_childHere_160 : decode cX12_childHere 160 = .ok (.iload_n 2, 1) := by decide +kernel
theorem dX12_childHere_161 : decode cX12_childHere 161 = .ok (.iconst 4, 1) := by decide +kernel
theorem dX12_childHere_162 : decode cX12_childHere 162 = .ok (.iadd, 1) := by decide +kernel
theorem dX12_childHere_163 : decode cX12_childHere 163 = .ok (.bipush 99, 2) := by decide +kernel
theorem dX12_childHere_165 : decode cX12_childHere 165 = .ok (.invokevirtual 130, 3) := by decide +kernel
theorem dX12_childHere_168 : decode cX12_childHere 168 = .ok (.return_, 1) := by decide +kernel
set_option maxRecDepth 20000 in
theorem ggX12_viceHere_X12_nextToken : GoodIn wsX12_viceHere wsX12_nextToken := goodIn_r _ [10, 3, 4, 2, 1, 11, 12, 13, 9, 14, 15, 16, 17, 18, 19, 20, 21, 22, 36, 37, 38, 39, 40, 41, 42, 43, 44, 45, 46, 47, 48, 49, 50, 51, 52, 53, 54, 55, 56, 57, 58, 59, 60, 61, 62, 63] (by decide +kernel) (by decide +kernel)
set_option maxRecDepth 20000 in
theorem gX12_viceHere_X12_nextToken : GoodIn wsX12_viceHere (wsV RX12 97 RX12 yX12_nextToken wsX12_nextToken) := goodIn_app (goodIn_of _ (by decide +kernel)) ggX12_viceHere_X12_nextToken
set_option maxRecDepth 20000 in
theorem ggX12_viceHere_X12_needs : GoodIn wsX12_viceHere wsX12_needs := goodIn_r _ [26, 5, 6, 7, 8, 9, 10, 3, 4, 2, 1, 11, 12, 13, 14, 15, 16, 17, 18, 19, 20, 21, 22, 36, 37, 38, 39, 40, 41, 42, 43, 44, 45, 46, 47, 48, 49, 50, 51, 52, 53, 54, 55, 56, 57, 58, 59, 60, 61, 62, 63] (by decide +kernel) (by decide +kernel)
set_option maxRecDepth 20000 in
theorem gX12_viceHere_X12_needs : GoodIn wsX12_viceHere (wsV RX12 114 RX12 yX12_needs wsX12_needs) := goodIn_app (goodIn_of _ (by decide +kernel)) ggX12_viceHere_X12_needs
set_option maxRecDepth 20000 in
theorem ggX12_viceHere_X12_isTwo : GoodIn wsX12_viceHere wsX12_isTwo := goodIn_r _ [30, 2, 3, 4, 11, 12, 13, 9, 14, 15, 16, 36, 37, 38, 39, 40, 41, 42, 43, 44, 45, 46, 47, 48, 49, 50, 51, 52, 53, 54, 55, 56, 57, 58, 59, 60, 61, 62, 63] (by decide +kernel) (by decide +kernel)
set_option maxRecDepth 20000 in
theorem gX12_viceHere_X12_isTwo : GoodIn wsX12_viceHere (wsV RX12 122 RX12 yX12_isTwo wsX12_isTwo) := goodIn_app (goodIn_of _ (by decide +kernel)) ggX12_viceHere_X12_isTwo
set_option maxRecDepth 20000 in
theorem ggX12_viceHere_X12_numberTo : GoodIn wsX12_viceHere wsX12_numberTo := goodIn_r _ [34, 2, 3, 4, 1, 5, 35, 23, 24, 25, 9, 26, 6, 7, 8, 10, 11, 12, 13, 14, 15, 16, 17, 18, 19, 20, 21, 22, 36, 37, 38, 39, 40, 41, 42, 43, 44, 45, 46, 47, 48, 49, 50, 51, 52, 53, 54, 55, 56, 57, 58, 59, 60, 61, 62, 63] (by decide +kernel) (by decide +kernel)
set_option maxRecDepth 20000 in
theorem gX12_viceHere_X12_numberTo : GoodIn wsX12_viceHere (wsV RX12 118 RX12 yX12_numberTo wsX12_numberTo) := goodIn_app (goodIn_of _ (by decide +kernel)) ggX12_viceHere_X12_numberTo
theorem dX12_viceHere_0 : decode cX12_viceHere 0 = .ok (.aload_n 0, 1) := by decide +kernel
theorem dX12_viceHere_1 : decode cX12_viceHere 1 = .ok (.invokevirtual 97, 3) := by decide +kernel
theorem dX12_viceHere_4 : decode cX12_viceHere 4 = .ok (.aload_n 0, 1) := by decide +kernel
theorem dX12_viceHere_5 : decode cX12_viceHere 5 = .ok (.getfield 90, 3) := by decide +kernel
theorem dX12_viceHere_8 : decode cX12_viceHere 8 = .ok (.istore_n 1, 1) := by decide +kernel
theorem dX12_viceHere_9 : decode cX12_viceHere 9 = .ok (.aload_n 0, 1) := by decide +kernel
theorem dX12_viceHere_10 : decode cX12_viceHere 10 = .ok (.aload_n 0, 1) := by decide +kernel
theorem dX12_viceHere_11 : decode cX12_viceHere 11 = .ok (.getfield 87, 3) := by decide +kernel
theorem dX12_viceHere_14 : decode cX12_viceHere 14 = .ok (.iconst 2, 1) := by decide +kernel
theorem dX12_viceHere_15 : decode cX12_viceHere 15 = .ok (.if_icmp .ne 29, 3) := by decide +kernel
theorem dX12_viceHere_18 : decode cX12_viceHere 18 = .ok (.aload_n 0, 1) := by decide +kernel
theorem dX12_viceHere_19 : decode cX12_viceHere 19 = .ok (.getfield 70, 3) := by decide +kernel
theorem dX12_viceHere_22 : decode cX12_viceHere 22 = .ok (.aload_n 0, 1) := by decide +kernel
theorem dX12_viceHere_23 : decode cX12_viceHere 23 = .ok (.getfield 73, 3) := by decide +kernel
theorem dX12_viceHere_26 : decode cX12_viceHere 26 = .ok (.isub, 1) := by decide +kernel
theorem dX12_viceHere_27 : decode cX12_viceHere 27 = .ok (.iconst 3, 1) := by decide +kernel
theorem dX12_viceHere_28 : decode cX12_viceHere 28 = .ok (.if_icmp .gt 16, 3) := by decide +kernel
theorem dX12_viceHere_31 : decode cX12_viceHere 31 = .ok (.aload_n 0, 1) := by decide +kernel
theorem dX12_viceHere_32 : decode cX12_viceHere 32 = .ok (.getfield 90, 3) := by decide +kernel
theorem dX12_viceHere_35 : decode cX12_viceHere 35 = .ok (.bipush 8, 2) := by decide +kernel
theorem dX12_viceHere_37 : decode cX12_viceHere 37 = .ok (.if_icmp .ge 7, 3) := by decide +kernel
theorem dX12_viceHere_40 : decode cX12_viceHere 40 = .ok (.iconst 1, 1) := by decide +kernel
theorem dX12_viceHere_41 : decode cX12_viceHere 41 = .ok (.goto 4, 3) := by decide +kernel
theorem dX12_viceHere_44 : decode cX12_viceHere 44 = .ok (.iconst 0, 1) := by decide +kernel
theorem dX12_viceHere_45 : decode cX12_viceHere 45 = .ok (.invokevirtual 114, 3) := by decide +kernel
theorem dX12_viceHere_48 : decode cX12_viceHere 48 = .ok (.aload_n 0, 1) := by decide +kernel
theorem dX12_viceHere_49 : decode cX12_viceHere 49 = .ok (.aload_n 0, 1) := by decide +kernel
theorem dX12_viceHere_50 : decode cX12_viceHere 50 = .ok (.bipush 105, 2) := by decide +kernel
theorem dX12_viceHere_52 : decode cX12_viceHere 52 = .ok (.bipush 115, 2) := by decide +kernel
theorem dX12_viceHere_54 : decode cX12_viceHere 54 = .ok (.invokevirtual 122, 3) := by decide +kernel
theorem dX12_viceHere_57 : decode cX12_viceHere 57 = .ok (.invokevirtual 114, 3) := by decide +kernel
theorem dX12_viceHere_60 : decode cX12_viceHere 60 = .ok (.aload_n 0, 1) := by decide +kernel
theorem dX12_viceHere_61 : decode cX12_viceHere 61 = .ok (.aload_n 0, 1) := by decide +kernel
theorem dX12_viceHere_62 : decode cX12_viceHere 62 = .ok (.getfield 93, 3) := by decide +kernel
theorem dX12_viceHere_65 : decode cX12_viceHere 65 = .ok (.ifCond .eq 7, 3) := by decide +kernel
theorem dX12_viceHere_68 : decode cX12_viceHere 68 = .ok (.iconst 0, 1) := by decide +kernel
theorem dX12_viceHere_69 : decode cX12_viceHere 69 = .ok (.goto 7, 3) := by decide +kernel
theorem dX12_viceHere_72 : decode cX12_viceHere 72 = .ok (.bipush 8, 2) := by decide +kernel
theorem dX12_viceHere_74 : decode cX12_viceHere 74 = .ok (.iload_n 1, 1) := by decide +kernel
theorem dX12_viceHere_75 : decode cX12_viceHere 75 = .ok (.iadd, 1) := by decide +kernel
theorem dX12_viceHere_76 : decode cX12_viceHere 76 = .ok (.bipush 99, 2) := by decide +kernel
theorem dX12_viceHere_78 : decode cX12_viceHere 78 = .ok (.invokevirtual 118, 3) := by decide +kernel
theorem dX12_viceHere_81 : decode cX12_viceHere 81 = .ok (.return_, 1) := by decide +kernel
set_option maxRecDepth 20000 in
theorem ggX12_easyHere_X12_nextToken : GoodIn wsX12_easyHere wsX12_nextToken := goodIn_r _ [11, 3, 4, 2, 1, 12, 13, 14, 10, 15, 16, 17, 18, 19, 20, 21, 22, 23, 28, 29, 30, 31, 32, 33, 34, 35, 36, 37, 38, 39, 40, 41, 42, 43, 44, 45, 46, 47, 48, 49, 50, 51, 52, 53, 54, 55] (by decide +kernel) (by decide +kernel)
set_option maxRecDepth 20000 in
theorem gX12_easyHere_X12_nextToken : GoodIn wsX12_easyHere (wsV RX12 97 RX12 yX12_nextToken wsX12_nextToken) := goodIn_app (goodIn_of _ (by decide +kernel)) ggX12_easyHere_X12_nextToken
set_option maxRecDepth 20000 in
theorem ggX12_easyHere_X12_needs : GoodIn wsX12_easyHere wsX12_needs := goodIn_r _ [27, 6, 7, 8, 9, 10, 11, 3, 4, 2, 1, 12, 13, 14, 15, 16, 17, 18, 19, 20, 21, 22, 23, 28, 29, 30, 31, 32, 33, 34, 35, 36, 37, 38, 39, 40, 41, 42, 43, 44, 45, 46, 47, 48, 49, 50, 51, 52, 53, 54, 55] (by decide +kernel) (by decide +kernel)
set_option maxRecDepth 20000 in
theorem gX12_easyHere_X12_needs : GoodIn wsX12_easyHere (wsV RX12 114 RX12 yX12_needs wsX12_needs) := goodIn_app (goodIn_of _ (by decide +kernel)) ggX12_easyHere_X12_needs
theorem dX12_easyHere_0 : decode cX12_easyHere 0 = .ok (.aload_n 0, 1) := by decide +kernel
theorem dX12_easyHere_1 : decode cX12_easyHere 1 = .ok (.invokevirtual 97, 3) := by decide +kernel
theorem dX12_easyHere_4 : decode cX12_easyHere 4 = .ok (.aload_n 0, 1) := by decide +kernel
theorem dX12_easyHere_5 : decode cX12_easyHere 5 = .ok (.getfield 90, 3) := by decide +kernel
theorem dX12_easyHere_8 : decode cX12_easyHere 8 = .ok (.istore_n 1, 1) := by decide +kernel
theorem dX12_easyHere_9 : decode cX12_easyHere 9 = .ok (.aload_n 0, 1) := by decide +kernel
theorem dX12_easyHere_10 : decode cX12_easyHere 10 = .ok (.aload_n 0, 1) := by decide +kernel
theorem dX12_easyHere_11 : decode cX12_easyHere 11 = .ok (.getfield 87, 3) := by decide +kernel
theorem dX12_easyHere_14 : decode cX12_easyHere 14 = .ok (.iconst 2, 1) := by decide +kernel
theorem dX12_easyHere_15 : decode cX12_easyHere 15 = .ok (.if_icmp .ne 29, 3) := by decide +kernel
theorem dX12_easyHere_18 : decode cX12_easyHere 18 = .ok (.aload_n 0, 1) := by decide +kernel
theorem dX12_easyHere_19 : decode cX12_easyHere 19 = .ok (.getfield 70, 3) := by decide +kernel
theorem dX12_easyHere_22 : decode cX12_easyHere 22 = .ok (.aload_n 0, 1) := by decide +kernel
theorem dX12_easyHere_23 : decode cX12_easyHere 23 = .ok (.getfield 73, 3) := by decide +kernel
theorem dX12_easyHere_26 : decode cX12_easyHere 26 = .ok (.isub, 1) := by decide +kernel
theorem dX12_easyHere_27 : decode cX12_easyHere 27 = .ok (.iconst 3, 1) := by decide +kernel
theorem dX12_easyHere_28 : decode cX12_easyHere 28 = .ok (.if_icmp .gt 16, 3) := by decide +kernel
theorem dX12_easyHere_31 : decode cX12_easyHere 31 = .ok (.aload_n 0, 1) := by decide +kernel
theorem dX12_easyHere_32 : decode cX12_easyHere 32 = .ok (.getfield 90, 3) := by decide +kernel
theorem dX12_easyHere_35 : decode cX12_easyHere 35 = .ok (.bipush 8, 2) := by decide +kernel
theorem dX12_easyHere_37 : decode cX12_easyHere 37 = .ok (.if_icmp .ge 7, 3) := by decide +kernel
theorem dX12_easyHere_40 : decode cX12_easyHere 40 = .ok (.iconst 1, 1) := by decide +kernel
theorem dX12_easyHere_41 : decode cX12_easyHere 41 = .ok (.goto 4, 3) := by decide +kernel
theorem dX12_easyHere_44 : decode cX12_easyHere 44 = .ok (.iconst 0, 1) := by decide +kernel
theorem dX12_easyHere_45 : decode cX12_easyHere 45 = .ok (.invokevirtual 114, 3) := by decide +kernel
theorem dX12_easyHere_48 : decode cX12_easyHere 48 = .ok (.aload_n 0, 1) := by decide +kernel
theorem dX12_easyHere_49 : decode cX12_easyHere 49 = .ok (.getfield 7, 3) := by decide +kernel
theorem dX12_easyHere_52 : decode cX12_easyHere 52 = .ok (.bipush 7, 2) := by decide +kernel
theorem dX12_easyHere_54 : decode cX12_easyHere 54 = .ok (.dup2, 1) := by decide +kernel
theorem dX12_easyHere_55 : decode cX12_easyHere 55 = .ok (.iaload, 1) := by decide +kernel
theorem dX12_easyHere_56 : decode cX12_easyHere 56 = .ok (.aload_n 0, 1) := by decide +kernel
theorem dX12_easyHere_57 : decode cX12_easyHere 57 = .ok (.getfield 93, 3) := by decide +kernel
theorem dX12_easyHere_60 : decode cX12_easyHere 60 = .ok (.ifCond .eq 7, 3) := by decide +kernel
theorem dX12_easyHere_63 : decode cX12_easyHere 63 = .ok (.iconst 0, 1) := by decide +kernel
theorem dX12_easyHere_64 : decode cX12_easyHere 64 = .ok (.goto 6, 3) := by decide +kernel
theorem dX12_easyHere_67 : decode cX12_easyHere 67 = .ok (.iconst 1, 1) := by decide +kernel
theorem dX12_easyHere_68 : decode cX12_easyHere 68 = .ok (.iload_n 1, 1) := by decide +kernel
theorem dX12_easyHere_69 : decode cX12_easyHere 69 = .ok (.ishl, 1) := by decide +kernel
theorem dX12_easyHere_70 : decode cX12_easyHere 70 = .ok (.ior, 1) := by decide +kernel
theorem dX12_easyHere_71 : decode cX12_easyHere 71 = .ok (.iastore, 1) := by decide +kernel
theorem dX12_easyHere_72 : decode cX12_easyHere 72 = .ok (.return_, 1) := by decide +kernel
set_option maxRecDepth 20000 in
theorem ggX12_lawHere_X12_isFive : GoodIn wsX12_lawHere wsX12_isFive := goodIn_r _ [5, 6, 7, 8, 9, 4, 10, 11, 12, 13, 14, 15, 16, 17, 18, 23, 24, 25, 26, 27, 28, 29, 30, 31, 32, 33, 34, 35, 36, 37, 38, 39, 40, 41, 42, 43, 44, 45, 46, 47, 48, 49, 50] (by decide +kernel) (by decide +kernel)
set_option maxRecDepth 20000 in
theorem gX12_lawHere_X12_isFive : GoodIn wsX12_lawHere (wsV RX12 104 RX12 yX12_isFive wsX12_isFive) := goodIn_app (goodIn_of _ (by decide +kernel)) ggX12_lawHere_X12_isFive
set_option maxRecDepth 20000 in
theorem ggX12_lawHere_X12_isFour : GoodIn wsX12_lawHere wsX12_isFour := goodIn_r _ [22, 7, 8, 9, 4, 10, 11, 12, 6, 13, 14, 15, 16, 17, 18, 23, 24, 25, 26, 27, 28, 29, 30, 31, 32, 33, 34, 35, 36, 37, 38, 39, 40, 41, 42, 43, 44, 45, 46, 47, 48, 49, 50] (by decide +kernel) (by decide +kernel)
set_option maxRecDepth 20000 in
theorem gX12_lawHere_X12_isFour : GoodIn wsX12_lawHere (wsV RX12 107 RX12 yX12_isFour wsX12_isFour) := goodIn_app (goodIn_of _ (by decide +kernel)) ggX12_lawHere_X12_isFour
theorem dX12_lawHere_0 : decode cX12_lawHere 0 = .ok (.aload_n 0, 1) := by decide +kernel
theorem dX12_lawHere_1 : decode cX12_lawHere 1 = .ok (.bipush 112, 2) := by decide +kernel
theorem dX12_lawHere_3 : decode cX12_lawHere 3 = .ok (.bipush 105, 2) := by decide +kernel
theorem dX12_lawHere_5 : decode cX12_lawHere 5 = .ok (.bipush 101, 2) := by decide +kernel
theorem dX12_lawHere_7 : decode cX12_lawHere 7 = .ok (.bipush 116, 2) := by decide +kernel
theorem dX12_lawHere_9 : decode cX12_lawHere 9 = .ok (.bipush 121, 2) := by decide +kernel
theorem dX12_lawHere_11 : decode cX12_lawHere 11 = .ok (.invokevirtual 104, 3) := by decide +kernel
theorem dX12_lawHere_14 : decode cX12_lawHere 14 = .ok (.ifCond .eq 5, 3) := by decide +kernel
theorem dX12_lawHere_17 : decode cX12_lawHere 17 = .ok (.iconst 3, 1) := by decide +kernel
theorem dX12_lawHere_18 : decode cX12_lawHere 18 = .ok (.ireturn, 1) := by decide +kernel
theorem dX12_lawHere_19 : decode cX12_lawHere 19 = .ok (.aload_n 0, 1) := by decide +kernel
theorem dX12_lawHere_20 : decode cX12_lawHere 20 = .ok (.bipush 115, 2) := by decide +kernel
theorem dX12_lawHere_22 : decode cX12_lawHere 22 = .ok (.bipush 108, 2) := by decide +kernel
theorem dX12_lawHere_24 : decode cX12_lawHere 24 = .ok (.bipush 117, 2) := by decide +kernel
theorem dX12_lawHere_26 : decode cX12_lawHere 26 = .ok (.bipush 109, 2) := by decide +kernel
theorem dX12_lawHere_28 : decode cX12_lawHere 28 = .ok (.invokevirtual 107, 3) := by decide +kernel
theorem dX12_lawHere_31 : decode cX12_lawHere 31 = .ok (.ifCond .eq 5, 3) := by decide +kernel
theorem dX12_lawHere_34 : decode cX12_lawHere 34 = .ok (.iconst 4, 1) := by decide +kernel
theorem dX12_lawHere_35 : decode cX12_lawHere 35 = .ok (.ireturn, 1) := by decide +kernel
theorem dX12_lawHere_36 : decode cX12_lawHere 36 = .ok (.aload_n 0, 1) := by decide +kernel
theorem dX12_lawHere_37 : decode cX12_lawHere 37 = .ok (.bipush 114, 2) := by decide +kernel
theorem dX12_lawHere_39 : decode cX12_lawHere 39 = .ok (.bipush 111, 2) := by decide +kernel
theorem dX12_lawHere_41 : decode cX12_lawHere 41 = .ok (.bipush 111, 2) := by decide +kernel
theorem dX12_lawHere_43 : decode cX12_lawHere 43 = .ok (.bipush 109, 2) := by decide +kernel
theorem dX12_lawHere_45 : decode cX12_lawHere 45 = .ok (.invokevirtual 107, 3) := by decide +kernel
theorem dX12_lawHere_48 : decode cX12_lawHere 48 = .ok (.ifCond .eq 5, 3) := by decide +kernel
theorem dX12_lawHere_51 : decode cX12_lawHere 51 = .ok (.iconst 5, 1) := by decide +kernel
theorem dX12_lawHere_52 : decode cX12_lawHere 52 = .ok (.ireturn, 1) := by decide +kernel
theorem dX12_lawHere_53 : decode cX12_lawHere 53 = .ok (.aload_n 0, 1) := by decide +kernel
theorem dX12_lawHere_54 : decode cX12_lawHere 54 = .ok (.bipush 115, 2) := by decide +kernel
theorem dX12_lawHere_56 : decode cX12_lawHere 56 = .ok (.bipush 108, 2) := by decide +kernel
theorem dX12_lawHere_58 : decode cX12_lawHere 58 = .ok (.bipush 105, 2) := by decide +kernel
theorem dX12_lawHere_60 : decode cX12_lawHere 60 = .ok (.bipush 112, 2) := by decide +kernel
theorem dX12_lawHere_62 : decode cX12_lawHere 62 = .ok (.invokevirtual 107, 3) := by decide +kernel
theorem dX12_lawHere_65 : decode cX12_lawHere 65 = .ok (.ifCond .eq 8, 3) := by decide +kernel
theorem dX12_lawHere_68 : decode cX12_lawHere 68 = .ok (.bipush 6, 2) := by decide +kernel
theorem dX12_lawHere_70 : decode cX12_lawHere 70 = .ok (.goto 4, 3) := by decide +kernel
theorem dX12_lawHere_73 : decode cX12_lawHere 73 = .ok (.iconst (-1), 1) := by decide +kernel
theorem dX12_lawHere_74 : decode cX12_lawHere 74 = .ok (.ireturn, 1) := by decide +kernel
set_option maxRecDepth 20000 in
theorem ggX12_itemHere_X12_kindHere : GoodIn wsX12_itemHere wsX12_kindHere := goodIn_r _ [7, 2, 8, 9, 10, 6, 11, 12, 13, 14, 15, 1, 16, 17, 18, 19, 20, 21, 22, 23, 24, 25, 26, 27, 28, 29, 30, 80, 81, 82, 83, 84, 85, 86, 87, 88, 89, 90, 91, 92, 93, 94, 95, 96, 97, 98, 99, 100, 101, 102, 103, 104, 105, 106, 107] (by decide +kernel) (by decide +kernel)
set_option maxRecDepth 20000 in
theorem gX12_itemHere_X12_kindHere : GoodIn wsX12_itemHere (wsV RX12 134 RX12 yX12_kindHere wsX12_kindHere) := goodIn_app (goodIn_of _ (by decide +kernel)) ggX12_itemHere_X12_kindHere
set_option maxRecDepth 20000 in
theorem ggX12_itemHere_X12_lawHere : GoodIn wsX12_itemHere wsX12_lawHere := goodIn_r _ [34, 8, 9, 10, 6, 11, 2, 12, 13, 14, 15, 1, 16, 17, 18, 19, 20, 21, 22, 23, 24, 25, 26, 80, 81, 82, 83, 84, 85, 86, 87, 88, 89, 90, 91, 92, 93, 94, 95, 96, 97, 98, 99, 100, 101, 102, 103, 104, 105, 106, 107] (by decide +kernel) (by decide +kernel)
set_option maxRecDepth 20000 in
theorem gX12_itemHere_X12_lawHere : GoodIn wsX12_itemHere (wsV RX12 138 RX12 yX12_lawHere wsX12_lawHere) := goodIn_app (goodIn_of _ (by decide +kernel)) ggX12_itemHere_X12_lawHere
set_option maxRecDepth 20000 in
theorem ggX12_itemHere_X12_childHere : GoodIn wsX12_itemHere wsX12_childHere := goodIn_r _ [38, 39, 40, 41, 42, 43, 6, 44, 45, 46, 47, 48, 16, 2, 1, 49, 17, 18, 19, 20, 21, 22, 50, 51, 52, 53, 54, 55, 56, 57, 58, 59, 60, 61, 62, 63, 64, 65, 66, 67, 8, 9, 10, 11, 12, 13, 14, 15, 68, 69, 70, 71, 23, 24, 25, 26, 80, 81, 82, 83, 84, 85, 86, 87, 88, 89, 90, 91, 92, 93, 94, 95, 96, 97, 98, 99, 100, 101, 102, 103, 104, 105, 106, 107] (by decide +kernel) (by decide +kernel)
set_option maxRecDepth 20000 in
theorem gX12_itemHere_X12_childHere : GoodIn wsX12_itemHere (wsV RX12 141 RX12 yX12_childHere wsX12_childHere) := goodIn_app (goodIn_of _ (by decide +kernel)) ggX12_itemHere_X12_childHere
set_option maxRecDepth 20000 in
theorem ggX12_itemHere_X12_nextToken : GoodIn wsX12_itemHere wsX12_nextToken := goodIn_r _ [48, 16, 2, 1, 49, 17, 18, 19, 6, 20, 21, 22, 50, 51, 52, 53, 54, 55, 80, 81, 82, 83, 84, 85, 86, 87, 88, 89, 90, 91, 92, 93, 94, 95, 96, 97, 98, 99, 100, 101, 102, 103, 104, 105, 106, 107] (by decide +kernel) (by decide +kernel)
set_option maxRecDepth 20000 in
theorem gX12_itemHere_X12_nextToken : GoodIn wsX12_itemHere (wsV RX12 97 RX12 yX12_nextToken wsX12_nextToken) := goodIn_app (goodIn_of _ (by decide +kernel)) ggX12_itemHere_X12_nextToken
set_option maxRecDepth 20000 in
theorem ggX12_itemHere_X12_numberTo : GoodIn wsX12_itemHere wsX12_numberTo := goodIn_r _ [67, 1, 16, 2, 49, 40, 39, 41, 42, 43, 6, 44, 45, 46, 47, 48, 17, 18, 19, 20, 21, 22, 50, 51, 52, 53, 54, 55, 80, 81, 82, 83, 84, 85, 86, 87, 88, 89, 90, 91, 92, 93, 94, 95, 96, 97, 98, 99, 100, 101, 102, 103, 104, 105, 106, 107] (by decide +kernel) (by decide +kernel)
set_option maxRecDepth 20000 in
theorem gX12_itemHere_X12_numberTo : GoodIn wsX12_itemHere (wsV RX12 118 RX12 yX12_numberTo wsX12_numberTo) := goodIn_app (goodIn_of _ (by decide +kernel)) ggX12_itemHere_X12_numberTo
set_option maxRecDepth 20000 in
theorem ggX12_itemHere_X12_isFour : GoodIn wsX12_itemHere wsX12_isFour := goodIn_r _ [26, 12, 13, 14, 6, 15, 1, 16, 2, 17, 18, 19, 20, 21, 22, 80, 81, 82, 83, 84, 85, 86, 87, 88, 89, 90, 91, 92, 93, 94, 95, 96, 97, 98, 99, 100, 101, 102, 103, 104, 105, 106, 107] (by decide +kernel) (by decide +kernel)
set_option maxRecDepth 20000 in
theorem gX12_itemHere_X12_isFour : GoodIn wsX12_itemHere (wsV RX12 107 RX12 yX12_isFour wsX12_isFour) := goodIn_app (goodIn_of _ (by decide +kernel)) ggX12_itemHere_X12_isFour
set_option maxRecDepth 20000 in
theorem ggX12_itemHere_X12_viceHere : GoodIn wsX12_itemHere wsX12_viceHere := goodIn_r _ [75, 49, 1, 16, 2, 40, 45, 46, 47, 6, 48, 17, 18, 19, 20, 21, 22, 50, 51, 52, 53, 54, 55, 41, 42, 43, 44, 56, 57, 58, 59, 64, 65, 66, 67, 39, 80, 81, 82, 83, 84, 85, 86, 87, 88, 89, 90, 91, 92, 93, 94, 95, 96, 97, 98, 99, 100, 101, 102, 103, 104, 105, 106, 107] (by decide +kernel) (by decide +kernel)
set_option maxRecDepth 20000 in
theorem gX12_itemHere_X12_viceHere : GoodIn wsX12_itemHere (wsV RX12 145 RX12 yX12_viceHere wsX12_viceHere) := goodIn_app (goodIn_of _ (by decide +kernel)) ggX12_itemHere_X12_viceHere
set_option maxRecDepth 20000 in
theorem ggX12_itemHere_X12_easyHere : GoodIn wsX12_itemHere wsX12_easyHere := goodIn_r _ [79, 49, 1, 16, 2, 39, 40, 45, 46, 47, 6, 48, 17, 18, 19, 20, 21, 22, 50, 51, 52, 53, 54, 55, 41, 42, 43, 44, 80, 81, 82, 83, 84, 85, 86, 87, 88, 89, 90, 91, 92, 93, 94, 95, 96, 97, 98, 99, 100, 101, 102, 103, 104, 105, 106, 107] (by decide +kernel) (by decide +kernel)
set_option maxRecDepth 20000 in
theorem gX12_itemHere_X12_easyHere : GoodIn wsX12_itemHere (wsV RX12 148 RX12 yX12_easyHere wsX12_easyHere) := goodIn_app (goodIn_of _ (by decide +kernel)) ggX12_itemHere_X12_easyHere
set_option maxRecDepth 20000 in
theorem ggX12_itemHere_X12_needs : GoodIn wsX12_itemHere wsX12_needs := goodIn_r _ [44, 40, 45, 46, 47, 6, 48, 16, 2, 1, 49, 17, 18, 19, 20, 21, 22, 50, 51, 52, 53, 54, 55, 80, 81, 82, 83, 84, 85, 86, 87, 88, 89, 90, 91, 92, 93, 94, 95, 96, 97, 98, 99, 100, 101, 102, 103, 104, 105, 106, 107] (by decide +kernel) (by decide +kernel)
set_option maxRecDepth 20000 in
theorem gX12_itemHere_X12_needs : GoodIn wsX12_itemHere (wsV RX12 114 RX12 yX12_needs wsX12_needs) := goodIn_app (goodIn_of _ (by decide +kernel)) ggX12_itemHere_X12_needs
set_option maxRecDepth 20000 in
theorem ggX12_itemHere_X12_byteAt : GoodIn wsX12_itemHere wsX12_byteAt := goodIn_r _ [20, 21, 22, 80, 81, 82, 83, 84, 85, 86, 87, 88, 89, 90, 91, 92, 93, 94, 95, 96, 97, 98, 99, 100, 101, 102, 103, 104, 105, 106, 107] (by decide +kernel) (by decide +kernel)
set_option maxRecDepth 20000 in
theorem gX12_itemHere_X12_byteAt : GoodIn wsX12_itemHere (wsV RX12 76 RX12 yX12_byteAt wsX12_byteAt) := goodIn_app (goodIn_of _ (by decide +kernel)) ggX12_itemHere_X12_byteAt
theorem dX12_itemHere_0 : decode cX12_itemHere 0 = .ok (.aload_n 0, 1) := by decide +kernel
theorem dX12_itemHere_1 : decode cX12_itemHere 1 = .ok (.invokevirtual 134, 3) := by decide +kernel
theorem dX12_itemHere_4 : decode cX12_itemHere 4 = .ok (.istore_n 1, 1) := by decide +kernel
theorem dX12_itemHere_5 : decode cX12_itemHere 5 = .ok (.aload_n 0, 1) := by decide +kernel
theorem dX12_itemHere_6 : decode cX12_itemHere 6 = .ok (.invokevirtual 138, 3) := by decide +kernel
theorem dX12_itemHere_9 : decode cX12_itemHere 9 = .ok (.istore_n 2, 1) := by decide +kernel
theorem dX12_itemHere_10 : decode cX12_itemHere 10 = .ok (.iload_n 1, 1) := by decide +kernel
theorem dX12_itemHere_11 : decode cX12_itemHere 11 = .ok (.ifCond .lt 11, 3) := by decide +kernel
theorem dX12_itemHere_14 : decode cX12_itemHere 14 = .ok (.aload_n 0, 1) := by decide +kernel
theorem dX12_itemHere_15 : decode cX12_itemHere 15 = .ok (.iload_n 1, 1) := by decide +kernel
theorem dX12_itemHere_16 : decode cX12_itemHere 16 = .ok (.invokevirtual 141, 3) := by decide +kernel
theorem dX12_itemHere_19 : decode cX12_itemHere 19 = .ok (.goto 86, 3) := by decide +kernel
theorem dX12_itemHere_22 : decode cX12_itemHere 22 = .ok (.iload_n 2, 1) := by decide +kernel
theorem dX12_itemHere_23 : decode cX12_itemHere 23 = .ok (.ifCond .lt 33, 3) := by decide +kernel
theorem dX12_itemHere_26 : decode cX12_itemHere 26 = .ok (.aload_n 0, 1) := by decide +kernel
theorem dX12_itemHere_27 : decode cX12_itemHere 27 = .ok (.invokevirtual 97, 3) := by decide +kernel
theorem dX12_itemHere_30 : decode cX12_itemHere 30 = .ok (.aload_n 0, 1) := by decide +kernel
theorem dX12_itemHere_31 : decode cX12_itemHere 31 = .ok (.iload_n 2, 1) := by decide +kernel
theorem dX12_itemHere_32 : decode cX12_itemHere 32 = .ok (.iload_n 2, 1) := by decide +kernel
theorem dX12_itemHere_33 : decode cX12_itemHere 33 = .ok (.iconst 5, 1) := by decide +kernel
theorem dX12_itemHere_34 : decode cX12_itemHere 34 = .ok (.if_icmp .eq 9, 3) := by decide +kernel
theorem dX12_itemHere_37 : decode cX12_itemHere 37 = .ok (.iload_n 2, 1) := by decide +kernel
theorem dX12_itemHere_38 : decode cX12_itemHere 38 = .ok (.bipush 6, 2) := by decide +kernel
theorem dX12_itemHere_40 : decode cX12_itemHere 40 = .ok (.if_icmp .ne 8, 3) := by decide +kernel
theorem dX12_itemHere_43 : decode cX12_itemHere 43 = .ok (.bipush 99, 2) := by decide +kernel
theorem dX12_itemHere_45 : decode cX12_itemHere 45 = .ok (.goto 5, 3) := by decide +kernel
theorem dX12_itemHere_48 : decode cX12_itemHere 48 = .ok (.bipush 9, 2) := by decide +kernel
theorem dX12_itemHere_50 : decode cX12_itemHere 50 = .ok (.invokevirtual 118, 3) := by decide +kernel
theorem dX12_itemHere_53 : decode cX12_itemHere 53 = .ok (.goto 52, 3) := by decide +kernel
theorem dX12_itemHere_56 : decode cX12_itemHere 56 = .ok (.aload_n 0, 1) := by decide +kernel
theorem dX12_itemHere_57 : decode cX12_itemHere 57 = .ok (.bipush 118, 2) := by decide +kernel
theorem dX12_itemHere_59 : decode cX12_itemHere 59 = .ok (.bipush 105, 2) := by decide +kernel
theorem dX12_itemHere_61 : decode cX12_itemHere 61 = .ok (.bipush 99, 2) := by decide +kernel
theorem dX12_itemHere_63 : decode cX12_itemHere 63 = .ok (.bipush 101, 2) := by decide +kernel
theorem dX12_itemHere_65 : decode cX12_itemHere 65 = .ok (.invokevirtual 107, 3) := by decide +kernel
theorem dX12_itemHere_68 : decode cX12_itemHere 68 = .ok (.ifCond .eq 10, 3) := by decide +kernel
theorem dX12_itemHere_71 : decode cX12_itemHere 71 = .ok (.aload_n 0, 1) := by decide +kernel
theorem dX12_itemHere_72 : decode cX12_itemHere 72 = .ok (.invokevirtual 145, 3) := by decide +kernel
theorem dX12_itemHere_75 : decode cX12_itemHere 75 = .ok (.goto 30, 3) := by decide +kernel
theorem dX12_itemHere_78 : decode cX12_itemHere 78 = .ok (.aload_n 0, 1) := by decide +kernel
theorem dX12_itemHere_79 : decode cX12_itemHere 79 = .ok (.bipush 101, 2) := by decide +kernel
theorem dX12_itemHere_81 : decode cX12_itemHere 81 = .ok (.bipush 97, 2) := by decide +kernel
theorem dX12_itemHere_83 : decode cX12_itemHere 83 = .ok (.bipush 115, 2) := by decide +kernel
theorem dX12_itemHere_85 : decode cX12_itemHere 85 = .ok (.bipush 121, 2) := by decide +kernel
theorem dX12_itemHere_87 : decode cX12_itemHere 87 = .ok (.invokevirtual 107, 3) := by decide +kernel
theorem dX12_itemHere_90 : decode cX12_itemHere 90 = .ok (.ifCond .eq 10, 3) := by decide +kernel
theorem dX12_itemHere_93 : decode cX12_itemHere 93 = .ok (.aload_n 0, 1) := by decide +kernel
theorem dX12_itemHere_94 : decode cX12_itemHere 94 = .ok (.invokevirtual 148, 3) := by decide +kernel
theorem dX12_itemHere_97 : decode cX12_itemHere 97 = .ok (.goto 8, 3) := by decide +kernel
theorem dX12_itemHere_100 : decode cX12_itemHere 100 = .ok (.aload_n 0, 1) := by decide +kernel
theorem dX12_itemHere_101 : decode cX12_itemHere 101 = .ok (.iconst 0, 1) := by decide +kernel
theorem dX12_itemHere_102 : decode cX12_itemHere 102 = .ok (.invokevirtual 114, 3) := by decide +kernel
theorem dX12_itemHere_105 : decode cX12_itemHere 105 = .ok (.aload_n 0, 1) := by decide +kernel
theorem dX12_itemHere_106 : decode cX12_itemHere 106 = .ok (.aload_n 0, 1) := by decide +kernel
theorem dX12_itemHere_107 : decode cX12_itemHere 107 = .ok (.getfield 87, 3) := by decide +kernel
theorem dX12_itemHere_110 : decode cX12_itemHere 110 = .ok (.iconst 3, 1) := by decide +kernel
theorem dX12_itemHere_111 : decode cX12_itemHere 111 = .ok (.if_icmp .ne 20, 3) := by decide +kernel
theorem dX12_itemHere_114 : decode cX12_itemHere 114 = .ok (.aload_n 0, 1) := by decide +kernel
theorem dX12_itemHere_115 : decode cX12_itemHere 115 = .ok (.aload_n 0, 1) := by decide +kernel
theorem dX12_itemHere_116 : decode cX12_itemHere 116 = .ok (.getfield 73, 3) := by decide +kernel
theorem dX12_itemHere_119 : decode cX12_itemHere 119 = .ok (.invokevirtual 76, 3) := by decide +kernel
theorem dX12_itemHere_122 : decode cX12_itemHere 122 = .ok (.bipush 59, 2) := by decide +kernel
theorem dX12_itemHere_124 : decode cX12_itemHere 124 = .ok (.if_icmp .ne 7, 3) := by decide +kernel
theorem dX12_itemHere_127 : decode cX12_itemHere 127 = .ok (.iconst 1, 1) := by decide +kernel
theorem dX12_itemHere_128 : decode cX12_itemHere 128 = .ok (.goto 4, 3) := by decide +kernel
theorem dX12_itemHere_131 : decode cX12_itemHere 131 = .ok (.iconst 0, 1) := by decide +kernel
theorem dX12_itemHere_132 : decode cX12_itemHere 132 = .ok (.invokevirtual 114, 3) := by decide +kernel
theorem dX12_itemHere_135 : decode cX12_itemHere 135 = .ok (.return_, 1) := by decide +kernel
set_option maxRecDepth 20000 in
theorem ggX12_church_X12_copyRow : GoodIn wsX12_church wsX12_copyRow := goodIn_r _ [12] (by decide +kernel) (by decide +kernel)
set_option maxRecDepth 20000 in
theorem gX12_church_X12_copyRow : GoodIn wsX12_church (va_wsS RX12 151 yX12_copyRow wsX12_copyRow) := goodIn_app (goodIn_of _ (by decide +kernel)) ggX12_church_X12_copyRow
set_option maxRecDepth 20000 in
theorem ggX12_church_X12_begins : GoodIn wsX12_church wsX12_begins := goodIn_r _ [16, 1, 93, 94, 95, 96, 97, 98, 99, 100, 101, 102, 103, 104, 105, 106, 107, 108, 109, 110, 111, 112, 113, 114, 115, 116, 117, 118, 119, 120] (by decide +kernel) (by decide +kernel)
set_option maxRecDepth 20000 in
theorem gX12_church_X12_begins : GoodIn wsX12_church (wsV RX12 55 RX12 yX12_begins wsX12_begins) := goodIn_app (goodIn_of _ (by decide +kernel)) ggX12_church_X12_begins
set_option maxRecDepth 20000 in
theorem ggX12_church_X12_nextToken : GoodIn wsX12_church wsX12_nextToken := goodIn_r _ [20, 3, 7, 5, 21, 22, 23, 24, 11, 25, 6, 26, 27, 28, 29, 30, 31, 32, 93, 94, 95, 96, 97, 98, 99, 100, 101, 102, 103, 104, 105, 106, 107, 108, 109, 110, 111, 112, 113, 114, 115, 116, 117, 118, 119, 120] (by decide +kernel) (by decide +kernel)
set_option maxRecDepth 20000 in
theorem gX12_church_X12_nextToken : GoodIn wsX12_church (wsV RX12 97 RX12 yX12_nextToken wsX12_nextToken) := goodIn_app (goodIn_of _ (by decide +kernel)) ggX12_church_X12_nextToken
set_option maxRecDepth 20000 in
theorem ggX12_church_X12_itemHere : GoodIn wsX12_church wsX12_itemHere := goodIn_r _ [36, 5, 7, 37, 38, 39, 11, 40, 41, 42, 43, 44, 45, 46, 47, 48, 3, 22, 23, 24, 25, 6, 26, 49, 50, 51, 52, 53, 54, 55, 56, 57, 58, 59, 60, 61, 62, 63, 64, 1, 4, 65, 66, 67, 68, 17, 18, 19, 20, 21, 27, 28, 29, 30, 31, 32, 69, 70, 71, 72, 73, 74, 75, 76, 77, 78, 79, 80, 81, 82, 83, 84, 85, 86, 87, 88, 89, 90, 91, 92, 93, 94, 95, 96, 97, 98, 99, 100, 101, 102, 103, 104, 105, 106, 107, 108, 109, 110, 111, 112, 113, 114, 115, 116, 117, 118, 119, 120] (by decide +kernel) (by decide +kernel)
set_option maxRecDepth 20000 in
theorem gX12_church_X12_itemHere : GoodIn wsX12_church (wsV RX12 155 RX12 yX12_itemHere wsX12_itemHere) := goodIn_app (goodIn_of _ (by decide +kernel)) ggX12_church_X12_itemHere
theorem dX12_church_0 : decode cX12_church 0 = .ok (.aload_n 0, 1) := by decide +kernel
theorem dX12_church_1 : decode cX12_church 1 = .ok (.getfield 7, 3) := by decide +kernel
theorem dX12_church_4 : decode cX12_church 4 = .ok (.aload_n 0, 1) := by decide +kernel
theorem dX12_church_5 : decode cX12_church 5 = .ok (.getfield 19, 3) := by decide +kernel
theorem dX12_church_8 : decode cX12_church 8 = .ok (.invokestatic 151, 3) := by decide +kernel
theorem dX12_church_11 : decode cX12_church 11 = .ok (.aload_n 0, 1) := by decide +kernel
theorem dX12_church_12 : decode cX12_church 12 = .ok (.invokevirtual 55, 3) := by decide +kernel
theorem dX12_church_15 : decode cX12_church 15 = .ok (.aload_n 0, 1) := by decide +kernel
theorem dX12_church_16 : decode cX12_church 16 = .ok (.iconst 0, 1) := by decide +kernel
theorem dX12_church_17 : decode cX12_church 17 = .ok (.putfield 70, 3) := by decide +kernel
theorem dX12_church_20 : decode cX12_church 20 = .ok (.aload_n 0, 1) := by decide +kernel
theorem dX12_church_21 : decode cX12_church 21 = .ok (.iconst 0, 1) := by decide +kernel
theorem dX12_church_22 : decode cX12_church 22 = .ok (.putfield 93, 3) := by decide +kernel
theorem dX12_church_25 : decode cX12_church 25 = .ok (.aload_n 0, 1) := by decide +kernel
theorem dX12_church_26 : decode cX12_church 26 = .ok (.invokevirtual 97, 3) := by decide +kernel
theorem dX12_church_29 : decode cX12_church 29 = .ok (.aload_n 0, 1) := by decide +kernel
theorem dX12_church_30 : decode cX12_church 30 = .ok (.getfield 93, 3) := by decide +kernel
theorem dX12_church_33 : decode cX12_church 33 = .ok (.ifCond .ne 17, 3) := by decide +kernel
theorem dX12_church_36 : decode cX12_church 36 = .ok (.aload_n 0, 1) := by decide +kernel
theorem dX12_church_37 : decode cX12_church 37 = .ok (.getfield 87, 3) := by decide +kernel
theorem dX12_church_40 : decode cX12_church 40 = .ok (.ifCond .eq 10, 3) := by decide +kernel
theorem dX12_church_43 : decode cX12_church 43 = .ok (.aload_n 0, 1) := by decide +kernel
theorem dX12_church_44 : decode cX12_church 44 = .ok (.invokevirtual 155, 3) := by decide +kernel
theorem dX12_church_47 : decode cX12_church 47 = .ok (.goto (-18), 3) := by decide +kernel
theorem dX12_church_50 : decode cX12_church 50 = .ok (.aload_n 0, 1) := by decide +kernel
theorem dX12_church_51 : decode cX12_church 51 = .ok (.iconst 0, 1) := by decide +kernel
theorem dX12_church_52 : decode cX12_church 52 = .ok (.putfield 64, 3) := by decide +kernel
theorem dX12_church_55 : decode cX12_church 55 = .ok (.aload_n 0, 1) := by decide +kernel
theorem dX12_church_56 : decode cX12_church 56 = .ok (.getfield 93, 3) := by decide +kernel
theorem dX12_church_59 : decode cX12_church 59 = .ok (.ifCond .eq 22, 3) := by decide +kernel
theorem dX12_church_62 : decode cX12_church 62 = .ok (.aload_n 0, 1) := by decide +kernel
theorem dX12_church_63 : decode cX12_church 63 = .ok (.getfield 19, 3) := by decide +kernel
theorem dX12_church_66 : decode cX12_church 66 = .ok (.aload_n 0, 1) := by decide +kernel
theorem dX12_church_67 : decode cX12_church 67 = .ok (.getfield 7, 3) := by decide +kernel
theorem dX12_church_70 : decode cX12_church 70 = .ok (.invokestatic 151, 3) := by decide +kernel
theorem dX12_church_73 : decode cX12_church 73 = .ok (.bipush (-100), 2) := by decide +kernel
theorem dX12_church_75 : decode cX12_church 75 = .ok (.aload_n 0, 1) := by decide +kernel
theorem dX12_church_76 : decode cX12_church 76 = .ok (.getfield 73, 3) := by decide +kernel
theorem dX12_church_79 : decode cX12_church 79 = .ok (.isub, 1) := by decide +kernel
theorem dX12_church_80 : decode cX12_church 80 = .ok (.ireturn, 1) := by decide +kernel
theorem dX12_church_81 : decode cX12_church 81 = .ok (.aload_n 0, 1) := by decide +kernel
theorem dX12_church_82 : decode cX12_church 82 = .ok (.iconst 0, 1) := by decide +kernel
theorem dX12_church_83 : decode cX12_church 83 = .ok (.putfield 158, 3) := by decide +kernel
theorem dX12_church_86 : decode cX12_church 86 = .ok (.aload_n 0, 1) := by decide +kernel
theorem dX12_church_87 : decode cX12_church 87 = .ok (.getfield 7, 3) := by decide +kernel
theorem dX12_church_90 : decode cX12_church 90 = .ok (.iconst 0, 1) := by decide +kernel
theorem dX12_church_91 : decode cX12_church 91 = .ok (.iaload, 1) := by decide +kernel
theorem dX12_church_92 : decode cX12_church 92 = .ok (.ireturn, 1) := by decide +kernel
set_option maxRecDepth 20000 in
theorem ggX12_set_X12_isIn : GoodIn wsX12_set wsX12_isIn := goodIn_r _ [7] (by decide +kernel) (by decide +kernel)
set_option maxRecDepth 20000 in
theorem gX12_set_X12_isIn : GoodIn wsX12_set (va_wsS RX12 60 yX12_isIn wsX12_isIn) := goodIn_app (goodIn_of _ (by decide +kernel)) ggX12_set_X12_isIn
set_option maxRecDepth 20000 in
theorem ggX12_set_X12_lets : GoodIn wsX12_set wsX12_lets := goodIn_r _ [11, 12, 13, 14, 15, 16, 17, 18, 19, 20, 21, 22, 23, 24, 25, 26, 27, 28, 29, 30, 31, 32, 33, 34, 35, 36, 37, 38, 39, 40] (by decide +kernel) (by decide +kernel)
set_option maxRecDepth 20000 in
theorem gX12_set_X12_lets : GoodIn wsX12_set (wsV RX12 167 RX12 yX12_lets wsX12_lets) := goodIn_app (goodIn_of _ (by decide +kernel)) ggX12_set_X12_lets
theorem dX12_set_0 : decode cX12_set 0 = .ok (.iload_n 1, 1) := by decide +kernel
theorem dX12_set_1 : decode cX12_set 1 = .ok (.i2l, 1) := by decide +kernel
theorem dX12_set_2 : decode cX12_set 2 = .ok (.lconst 0, 1) := by decide +kernel
theorem dX12_set_3 : decode cX12_set 3 = .ok (.ldc2_w 161, 3) := by decide +kernel
theorem dX12_set_6 : decode cX12_set 6 = .ok (.invokestatic 60, 3) := by decide +kernel
theorem dX12_set_9 : decode cX12_set 9 = .ok (.ifCond .eq 37, 3) := by decide +kernel
theorem dX12_set_12 : decode cX12_set 12 = .ok (.iload_n 2, 1) := by decide +kernel
theorem dX12_set_13 : decode cX12_set 13 = .ok (.i2l, 1) := by decide +kernel
theorem dX12_set_14 : decode cX12_set 14 = .ok (.lconst 0, 1) := by decide +kernel
theorem dX12_set_15 : decode cX12_set 15 = .ok (.iload_n 1, 1) := by decide +kernel
theorem dX12_set_16 : decode cX12_set 16 = .ok (.iconst 1, 1) := by decide +kernel
theorem dX12_set_17 : decode cX12_set 17 = .ok (.if_icmp .le 9, 3) := by decide +kernel
theorem dX12_set_20 : decode cX12_set 20 = .ok (.ldc2_w 163, 3) := by decide +kernel
theorem dX12_set_23 : decode cX12_set 23 = .ok (.goto 6, 3) := by decide +kernel
theorem dX12_set_26 : decode cX12_set 26 = .ok (.ldc2_w 165, 3) := by decide +kernel
theorem dX12_set_29 : decode cX12_set 29 = .ok (.invokestatic 60, 3) := by decide +kernel
theorem dX12_set_32 : decode cX12_set 32 = .ok (.ifCond .eq 14, 3) := by decide +kernel
theorem dX12_set_35 : decode cX12_set 35 = .ok (.aload_n 0, 1) := by decide +kernel
theorem dX12_set_36 : decode cX12_set 36 = .ok (.iconst 3, 1) := by decide +kernel
theorem dX12_set_37 : decode cX12_set 37 = .ok (.iload_n 1, 1) := by decide +kernel
theorem dX12_set_38 : decode cX12_set 38 = .ok (.iadd, 1) := by decide +kernel
theorem dX12_set_39 : decode cX12_set 39 = .ok (.iload_n 2, 1) := by decide +kernel
theorem dX12_set_40 : decode cX12_set 40 = .ok (.invokevirtual 167, 3) := by decide +kernel
theorem dX12_set_43 : decode cX12_set 43 = .ok (.goto 4, 3) := by decide +kernel
theorem dX12_set_46 : decode cX12_set 46 = .ok (.iconst (-1), 1) := by decide +kernel
theorem dX12_set_47 : decode cX12_set 47 = .ok (.ireturn, 1) := by decide +kernel
set_option maxRecDepth 20000 in
theorem ggX12_lawOf_X12_isIn : GoodIn wsX12_lawOf wsX12_isIn := goodIn_r _ [6] (by decide +kernel) (by decide +kernel)
set_option maxRecDepth 20000 in
theorem gX12_lawOf_X12_isIn : GoodIn wsX12_lawOf (va_wsS RX12 60 yX12_isIn wsX12_isIn) := goodIn_app (goodIn_of _ (by decide +kernel)) ggX12_lawOf_X12_isIn
theorem dX12_lawOf_0 : decode cX12_lawOf 0 = .ok (.iload_n 1, 1) := by decide +kernel
theorem dX12_lawOf_1 : decode cX12_lawOf 1 = .ok (.i2l, 1) := by decide +kernel
theorem dX12_lawOf_2 : decode cX12_lawOf 2 = .ok (.lconst 0, 1) := by decide +kernel
theorem dX12_lawOf_3 : decode cX12_lawOf 3 = .ok (.ldc2_w 161, 3) := by decide +kernel
theorem dX12_lawOf_6 : decode cX12_lawOf 6 = .ok (.invokestatic 60, 3) := by decide +kernel
theorem dX12_lawOf_9 : decode cX12_lawOf 9 = .ok (.ifCond .eq 14, 3) := by decide +kernel
theorem dX12_lawOf_12 : decode cX12_lawOf 12 = .ok (.aload_n 0, 1) := by decide +kernel
theorem dX12_lawOf_13 : decode cX12_lawOf 13 = .ok (.getfield 7, 3) := by decide +kernel
theorem dX12_lawOf_16 : decode cX12_lawOf 16 = .ok (.iconst 3, 1) := by decide +kernel
theorem dX12_lawOf_17 : decode cX12_lawOf 17 = .ok (.iload_n 1, 1) := by decide +kernel
theorem dX12_lawOf_18 : decode cX12_lawOf 18 = .ok (.iadd, 1) := by decide +kernel
theorem dX12_lawOf_19 : decode cX12_lawOf 19 = .ok (.iaload, 1) := by decide +kernel
theorem dX12_lawOf_20 : decode cX12_lawOf 20 = .ok (.goto 4, 3) := by decide +kernel
theorem dX12_lawOf_23 : decode cX12_lawOf 23 = .ok (.iconst (-1), 1) := by decide +kernel
theorem dX12_lawOf_24 : decode cX12_lawOf 24 = .ok (.ireturn, 1) := by decide +kernel
theorem dX12_comes_0 : decode cX12_comes 0 = .ok (.bipush 16, 2) := by decide +kernel
theorem dX12_comes_2 : decode cX12_comes 2 = .ok (.bipush 6, 2) := by decide +kernel
theorem dX12_comes_4 : decode cX12_comes 4 = .ok (.aload_n 0, 1) := by decide +kernel
theorem dX12_comes_5 : decode cX12_comes 5 = .ok (.getfield 7, 3) := by decide +kernel
theorem dX12_comes_8 : decode cX12_comes 8 = .ok (.iconst 0, 1) := by decide +kernel
theorem dX12_comes_9 : decode cX12_comes 9 = .ok (.iaload, 1) := by decide +kernel
theorem dX12_comes_10 : decode cX12_comes 10 = .ok (.imul, 1) := by decide +kernel
theorem dX12_comes_11 : decode cX12_comes 11 = .ok (.iadd, 1) := by decide +kernel
theorem dX12_comes_12 : decode cX12_comes 12 = .ok (.istore 5, 2) := by decide +kernel
theorem dX12_comes_14 : decode cX12_comes 14 = .ok (.aload_n 0, 1) := by decide +kernel
theorem dX12_comes_15 : decode cX12_comes 15 = .ok (.getfield 7, 3) := by decide +kernel
theorem dX12_comes_18 : decode cX12_comes 18 = .ok (.iload 5, 2) := by decide +kernel
theorem dX12_comes_20 : decode cX12_comes 20 = .ok (.iload_n 1, 1) := by decide +kernel
theorem dX12_comes_21 : decode cX12_comes 21 = .ok (.iastore, 1) := by decide +kernel
theorem dX12_comes_22 : decode cX12_comes 22 = .ok (.aload_n 0, 1) := by decide +kernel
theorem dX12_comes_23 : decode cX12_comes 23 = .ok (.getfield 7, 3) := by decide +kernel
theorem dX12_comes_26 : decode cX12_comes 26 = .ok (.iload 5, 2) := by decide +kernel
theorem dX12_comes_28 : decode cX12_comes 28 = .ok (.iconst 1, 1) := by decide +kernel
theorem dX12_comes_29 : decode cX12_comes 29 = .ok (.iadd, 1) := by decide +kernel
theorem dX12_comes_30 : decode cX12_comes 30 = .ok (.iload_n 2, 1) := by decide +kernel
theorem dX12_comes_31 : decode cX12_comes 31 = .ok (.iastore, 1) := by decide +kernel
theorem dX12_comes_32 : decode cX12_comes 32 = .ok (.aload_n 0, 1) := by decide +kernel
theorem dX12_comes_33 : decode cX12_comes 33 = .ok (.getfield 7, 3) := by decide +kernel
theorem dX12_comes_36 : decode cX12_comes 36 = .ok (.iload 5, 2) := by decide +kernel
theorem dX12_comes_38 : decode cX12_comes 38 = .ok (.iconst 2, 1) := by decide +kernel
theorem dX12_comes_39 : decode cX12_comes 39 = .ok (.iadd, 1) := by decide +kernel
theorem dX12_comes_40 : decode cX12_comes 40 = .ok (.iload_n 3, 1) := by decide +kernel
theorem dX12_comes_41 : decode cX12_comes 41 = .ok (.iastore, 1) := by decide +kernel
theorem dX12_comes_42 : decode cX12_comes 42 = .ok (.aload_n 0, 1) := by decide +kernel
theorem dX12_comes_43 : decode cX12_comes 43 = .ok (.getfield 7, 3) := by decide +kernel
theorem dX12_comes_46 : decode cX12_comes 46 = .ok (.iload 5, 2) := by decide +kernel
theorem dX12_comes_48 : decode cX12_comes 48 = .ok (.iconst 3, 1) := by decide +kernel
theorem dX12_comes_49 : decode cX12_comes 49 = .ok (.iadd, 1) := by decide +kernel
theorem dX12_comes_50 : decode cX12_comes 50 = .ok (.bipush 50, 2) := by decide +kernel
theorem dX12_comes_52 : decode cX12_comes 52 = .ok (.iastore, 1) := by decide +kernel
theorem dX12_comes_53 : decode cX12_comes 53 = .ok (.aload_n 0, 1) := by decide +kernel
theorem dX12_comes_54 : decode cX12_comes 54 = .ok (.getfield 7, 3) := by decide +kernel
theorem dX12_comes_57 : decode cX12_comes 57 = .ok (.iload 5, 2) := by decide +kernel
theorem dX12_comes_59 : decode cX12_comes 59 = .ok (.iconst 4, 1) := by decide +kernel
theorem dX12_comes_60 : decode cX12_comes 60 = .ok (.iadd, 1) := by decide +kernel
theorem dX12_comes_61 : decode cX12_comes 61 = .ok (.iconst 0, 1) := by decide +kernel
theorem dX12_comes_62 : decode cX12_comes 62 = .ok (.iastore, 1) := by decide +kernel
theorem dX12_comes_63 : decode cX12_comes 63 = .ok (.aload_n 0, 1) := by decide +kernel
theorem dX12_comes_64 : decode cX12_comes 64 = .ok (.getfield 7, 3) := by decide +kernel
theorem dX12_comes_67 : decode cX12_comes 67 = .ok (.iload 5, 2) := by decide +kernel
theorem dX12_comes_69 : decode cX12_comes 69 = .ok (.iconst 5, 1) := by decide +kernel
theorem dX12_comes_70 : decode cX12_comes 70 = .ok (.iadd, 1) := by decide +kernel
theorem dX12_comes_71 : decode cX12_comes 71 = .ok (.iload 4, 2) := by decide +kernel
theorem dX12_comes_73 : decode cX12_comes 73 = .ok (.iastore, 1) := by decide +kernel
theorem dX12_comes_74 : decode cX12_comes 74 = .ok (.aload_n 0, 1) := by decide +kernel
theorem dX12_comes_75 : decode cX12_comes 75 = .ok (.getfield 7, 3) := by decide +kernel
theorem dX12_comes_78 : decode cX12_comes 78 = .ok (.iconst 0, 1) := by decide +kernel
theorem dX12_comes_79 : decode cX12_comes 79 = .ok (.dup2, 1) := by decide +kernel
theorem dX12_comes_80 : decode cX12_comes 80 = .ok (.iaload, 1) := by decide +kernel
theorem dX12_comes_81 : decode cX12_comes 81 = .ok (.iconst 1, 1) := by decide +kernel
theorem dX12_comes_82 : decode cX12_comes 82 = .ok (.iadd, 1) := by decide +kernel
theorem dX12_comes_83 : decode cX12_comes 83 = .ok (.iastore, 1) := by decide +kernel
theorem dX12_comes_84 : decode cX12_comes 84 = .ok (.return_, 1) := by decide +kernel
set_option maxRecDepth 20000 in
theorem ggX12_child_X12_isIn : GoodIn wsX12_child wsX12_isIn := goodIn_r _ [8] (by decide +kernel) (by decide +kernel)
set_option maxRecDepth 20000 in
theorem gX12_child_X12_isIn : GoodIn wsX12_child (va_wsS RX12 60 yX12_isIn wsX12_isIn) := goodIn_app (goodIn_of _ (by decide +kernel)) ggX12_child_X12_isIn
set_option maxRecDepth 20000 in
theorem ggX12_child_X12_isMother : GoodIn wsX12_child wsX12_isMother := goodIn_r _ [11] (by decide +kernel) (by decide +kernel)
set_option maxRecDepth 20000 in
theorem gX12_child_X12_isMother : GoodIn wsX12_child (va_wsS RX12 173 yX12_isMother wsX12_isMother) := goodIn_app (goodIn_of _ (by decide +kernel)) ggX12_child_X12_isMother
set_option maxRecDepth 20000 in
theorem ggX12_child_X12_comes : GoodIn wsX12_child wsX12_comes := goodIn_r _ [15, 4, 16, 17, 18, 19, 20, 21, 22, 23, 24, 25, 26, 27, 28, 29, 30, 31, 32, 33, 34, 35, 36, 37, 38, 39, 40, 41, 42, 43] (by decide +kernel) (by decide +kernel)
set_option maxRecDepth 20000 in
theorem gX12_child_X12_comes : GoodIn wsX12_child (wsV RX12 126 RX12 yX12_comes wsX12_comes) := goodIn_app (goodIn_of _ (by decide +kernel)) ggX12_child_X12_comes
theorem dX12_child_0 : decode cX12_child 0 = .ok (.iload_n 1, 1) := by decide +kernel
theorem dX12_child_1 : decode cX12_child 1 = .ok (.i2l, 1) := by decide +kernel
theorem dX12_child_2 : decode cX12_child 2 = .ok (.lconst 0, 1) := by decide +kernel
theorem dX12_child_3 : decode cX12_child 3 = .ok (.ldc2_w 171, 3) := by decide +kernel
theorem dX12_child_6 : decode cX12_child 6 = .ok (.invokestatic 60, 3) := by decide +kernel
theorem dX12_child_9 : decode cX12_child 9 = .ok (.ifCond .eq 35, 3) := by decide +kernel
theorem dX12_child_12 : decode cX12_child 12 = .ok (.iload_n 2, 1) := by decide +kernel
theorem dX12_child_13 : decode cX12_child 13 = .ok (.i2l, 1) := by decide +kernel
theorem dX12_child_14 : decode cX12_child 14 = .ok (.lconst 0, 1) := by decide +kernel
theorem dX12_child_15 : decode cX12_child 15 = .ok (.ldc2_w 163, 3) := by decide +kernel
theorem dX12_child_18 : decode cX12_child 18 = .ok (.invokestatic 60, 3) := by decide +kernel
theorem dX12_child_21 : decode cX12_child 21 = .ok (.ifCond .eq 23, 3) := by decide +kernel
theorem dX12_child_24 : decode cX12_child 24 = .ok (.iload_n 3, 1) := by decide +kernel
theorem dX12_child_25 : decode cX12_child 25 = .ok (.i2l, 1) := by decide +kernel
theorem dX12_child_26 : decode cX12_child 26 = .ok (.lconst 0, 1) := by decide +kernel
theorem dX12_child_27 : decode cX12_child 27 = .ok (.ldc2_w 165, 3) := by decide +kernel
theorem dX12_child_30 : decode cX12_child 30 = .ok (.invokestatic 60, 3) := by decide +kernel
theorem dX12_child_33 : decode cX12_child 33 = .ok (.ifCond .eq 11, 3) := by decide +kernel
theorem dX12_child_36 : decode cX12_child 36 = .ok (.iload 4, 2) := by decide +kernel
theorem dX12_child_38 : decode cX12_child 38 = .ok (.invokestatic 173, 3) := by decide +kernel
theorem dX12_child_41 : decode cX12_child 41 = .ok (.ifCond .ne 5, 3) := by decide +kernel
theorem dX12_child_44 : decode cX12_child 44 = .ok (.iconst (-1), 1) := by decide +kernel
theorem dX12_child_45 : decode cX12_child 45 = .ok (.ireturn, 1) := by decide +kernel
theorem dX12_child_46 : decode cX12_child 46 = .ok (.aload_n 0, 1) := by decide +kernel
theorem dX12_child_47 : decode cX12_child 47 = .ok (.getfield 7, 3) := by decide +kernel
theorem dX12_child_50 : decode cX12_child 50 = .ok (.iconst 0, 1) := by decide +kernel
theorem dX12_child_51 : decode cX12_child 51 = .ok (.iaload, 1) := by decide +kernel
theorem dX12_child_52 : decode cX12_child 52 = .ok (.bipush 8, 2) := by decide +kernel
theorem dX12_child_54 : decode cX12_child 54 = .ok (.if_icmp .ne 6, 3) := by decide +kernel
theorem dX12_child_57 : decode cX12_child 57 = .ok (.bipush (-2), 2) := by decide +kernel
theorem dX12_child_59 : decode cX12_child 59 = .ok (.ireturn, 1) := by decide +kernel
theorem dX12_child_60 : decode cX12_child 60 = .ok (.aload_n 0, 1) := by decide +kernel
theorem dX12_child_61 : decode cX12_child 61 = .ok (.iload_n 1, 1) := by decide +kernel
theorem dX12_child_62 : decode cX12_child 62 = .ok (.iload_n 2, 1) := by decide +kernel
theorem dX12_child_63 : decode cX12_child 63 = .ok (.iload_n 3, 1) := by decide +kernel
theorem dX12_child_64 : decode cX12_child 64 = .ok (.iload 4, 2) := by decide +kernel
theorem dX12_child_66 : decode cX12_child 66 = .ok (.invokevirtual 126, 3) := by decide +kernel
theorem dX12_child_69 : decode cX12_child 69 = .ok (.aload_n 0, 1) := by decide +kernel
theorem dX12_child_70 : decode cX12_child 70 = .ok (.getfield 7, 3) := by decide +kernel
theorem dX12_child_73 : decode cX12_child 73 = .ok (.iconst 0, 1) := by decide +kernel
theorem dX12_child_74 : decode cX12_child 74 = .ok (.iaload, 1) := by decide +kernel
theorem dX12_child_75 : decode cX12_child 75 = .ok (.iconst 1, 1) := by decide +kernel
theorem dX12_child_76 : decode cX12_child 76 = .ok (.isub, 1) := by decide +kernel
theorem dX12_child_77 : decode cX12_child 77 = .ok (.ireturn, 1) := by decide +kernel
set_option maxRecDepth 20000 in
theorem ggX12_moves_X12_its : GoodIn wsX12_moves wsX12_its := goodIn_r _ [6, 1, 7, 8, 9, 10, 11, 12, 13, 14, 15, 16, 17, 18, 19, 20, 21, 22, 23, 24, 25, 26, 27, 28, 29, 30, 31, 32, 33, 34] (by decide +kernel) (by decide +kernel)
set_option maxRecDepth 20000 in
theorem gX12_moves_X12_its : GoodIn wsX12_moves (wsV RX12 176 RX12 yX12_its wsX12_its) := goodIn_app (goodIn_of _ (by decide +kernel)) ggX12_moves_X12_its
theorem dX12_moves_0 : decode cX12_moves 0 = .ok (.aload_n 0, 1) := by decide +kernel
theorem dX12_moves_1 : decode cX12_moves 1 = .ok (.iload_n 1, 1) := by decide +kernel
theorem dX12_moves_2 : decode cX12_moves 2 = .ok (.iconst 2, 1) := by decide +kernel
theorem dX12_moves_3 : decode cX12_moves 3 = .ok (.invokevirtual 176, 3) := by decide +kernel
theorem dX12_moves_6 : decode cX12_moves 6 = .ok (.istore_n 2, 1) := by decide +kernel
theorem dX12_moves_7 : decode cX12_moves 7 = .ok (.aload_n 0, 1) := by decide +kernel
theorem dX12_moves_8 : decode cX12_moves 8 = .ok (.iload_n 1, 1) := by decide +kernel
theorem dX12_moves_9 : decode cX12_moves 9 = .ok (.iconst 0, 1) := by decide +kernel
theorem dX12_moves_10 : decode cX12_moves 10 = .ok (.invokevirtual 176, 3) := by decide +kernel
theorem dX12_moves_13 : decode cX12_moves 13 = .ok (.tableswitch 87 1 5 #[35, 39, 48, 59, 70], 35) := by decide +kernel
theorem dX12_moves_48 : decode cX12_moves 48 = .ok (.iload_n 2, 1) := by decide +kernel
theorem dX12_moves_49 : decode cX12_moves 49 = .ok (.iconst 2, 1) := by decide +kernel
theorem dX12_moves_50 : decode cX12_moves 50 = .ok (.idiv, 1) := by decide +kernel
theorem dX12_moves_51 : decode cX12_moves 51 = .ok (.ireturn, 1) := by decide +kernel
theorem dX12_moves_52 : decode cX12_moves 52 = .ok (.iload_n 2, 1) := by decide +kernel
theorem dX12_moves_53 : decode cX12_moves 53 = .ok (.aload_n 0, 1) := by decide +kernel
theorem dX12_moves_54 : decode cX12_moves 54 = .ok (.getfield 7, 3) := by decide +kernel
theorem dX12_moves_57 : decode cX12_moves 57 = .ok (.iconst 4, 1) := by decide +kernel
theorem dX12_moves_58 : decode cX12_moves 58 = .ok (.iaload, 1) := by decide +kernel
theorem dX12_moves_59 : decode cX12_moves 59 = .ok (.iadd, 1) := by decide +kernel
theorem dX12_moves_60 : decode cX12_moves 60 = .ok (.ireturn, 1) := by decide +kernel
theorem dX12_moves_61 : decode cX12_moves 61 = .ok (.iload_n 2, 1) := by decide +kernel
theorem dX12_moves_62 : decode cX12_moves 62 = .ok (.iconst 2, 1) := by decide +kernel
theorem dX12_moves_63 : decode cX12_moves 63 = .ok (.idiv, 1) := by decide +kernel
theorem dX12_moves_64 : decode cX12_moves 64 = .ok (.aload_n 0, 1) := by decide +kernel
theorem dX12_moves_65 : decode cX12_moves 65 = .ok (.getfield 7, 3) := by decide +kernel
theorem dX12_moves_68 : decode cX12_moves 68 = .ok (.iconst 3, 1) := by decide +kernel
theorem dX12_moves_69 : decode cX12_moves 69 = .ok (.iaload, 1) := by decide +kernel
theorem dX12_moves_70 : decode cX12_moves 70 = .ok (.iadd, 1) := by decide +kernel
theorem dX12_moves_71 : decode cX12_moves 71 = .ok (.ireturn, 1) := by decide +kernel
theorem dX12_moves_72 : decode cX12_moves 72 = .ok (.iconst 2, 1) := by decide +kernel
theorem dX12_moves_73 : decode cX12_moves 73 = .ok (.iload_n 2, 1) := by decide +kernel
theorem dX12_moves_74 : decode cX12_moves 74 = .ok (.aload_n 0, 1) := by decide +kernel
theorem dX12_moves_75 : decode cX12_moves 75 = .ok (.getfield 7, 3) := by decide +kernel
theorem dX12_moves_78 : decode cX12_moves 78 = .ok (.iconst 4, 1) := by decide +kernel
theorem dX12_moves_79 : decode cX12_moves 79 = .ok (.iaload, 1) := by decide +kernel
theorem dX12_moves_80 : decode cX12_moves 80 = .ok (.iadd, 1) := by decide +kernel
theorem dX12_moves_81 : decode cX12_moves 81 = .ok (.imul, 1) := by decide +kernel
theorem dX12_moves_82 : decode cX12_moves 82 = .ok (.ireturn, 1) := by decide +kernel
theorem dX12_moves_83 : decode cX12_moves 83 = .ok (.aload_n 0, 1) := by decide +kernel
theorem dX12_moves_84 : decode cX12_moves 84 = .ok (.getfield 7, 3) := by decide +kernel
theorem dX12_moves_87 : decode cX12_moves 87 = .ok (.iconst 1, 1) := by decide +kernel
theorem dX12_moves_88 : decode cX12_moves 88 = .ok (.iaload, 1) := by decide +kernel
theorem dX12_moves_89 : decode cX12_moves 89 = .ok (.iconst 2, 1) := by decide +kernel
theorem dX12_moves_90 : decode cX12_moves 90 = .ok (.irem, 1) := by decide +kernel
theorem dX12_moves_91 : decode cX12_moves 91 = .ok (.ifCond .ne 7, 3) := by decide +kernel
theorem dX12_moves_94 : decode cX12_moves 94 = .ok (.iload_n 2, 1) := by decide +kernel
theorem dX12_moves_95 : decode cX12_moves 95 = .ok (.goto 4, 3) := by decide +kernel
theorem dX12_moves_98 : decode cX12_moves 98 = .ok (.iconst 0, 1) := by decide +kernel
theorem dX12_moves_99 : decode cX12_moves 99 = .ok (.ireturn, 1) := by decide +kernel
theorem dX12_moves_100 : decode cX12_moves 100 = .ok (.iload_n 2, 1) := by decide +kernel
theorem dX12_moves_101 : decode cX12_moves 101 = .ok (.ireturn, 1) := by decide +kernel
set_option maxRecDepth 20000 in
theorem ggX12_ends_X12_its : GoodIn wsX12_ends wsX12_its := goodIn_r _ [6, 1, 7, 8, 9, 10, 11, 12, 13, 14, 15, 16, 17, 18, 19, 20, 21, 22, 23, 24, 25, 26, 27, 28, 29, 30, 31, 32, 33, 34] (by decide +kernel) (by decide +kernel)
set_option maxRecDepth 20000 in
theorem gX12_ends_X12_its : GoodIn wsX12_ends (wsV RX12 176 RX12 yX12_its wsX12_its) := goodIn_app (goodIn_of _ (by decide +kernel)) ggX12_ends_X12_its
theorem dX12_ends_0 : decode cX12_ends 0 = .ok (.aload_n 0, 1) := by decide +kernel
theorem dX12_ends_1 : decode cX12_ends 1 = .ok (.iload_n 1, 1) := by decide +kernel
theorem dX12_ends_2 : decode cX12_ends 2 = .ok (.iconst 0, 1) := by decide +kernel
theorem dX12_ends_3 : decode cX12_ends 3 = .ok (.invokevirtual 176, 3) := by decide +kernel
theorem dX12_ends_6 : decode cX12_ends 6 = .ok (.tableswitch 56 1 4 #[30, 33, 36, 46], 30) := by decide +kernel
theorem dX12_ends_36 : decode cX12_ends 36 = .ok (.bipush 25, 2) := by decide +kernel
theorem dX12_ends_38 : decode cX12_ends 38 = .ok (.ireturn, 1) := by decide +kernel
theorem dX12_ends_39 : decode cX12_ends 39 = .ok (.bipush 14, 2) := by decide +kernel
theorem dX12_ends_41 : decode cX12_ends 41 = .ok (.ireturn, 1) := by decide +kernel
theorem dX12_ends_42 : decode cX12_ends 42 = .ok (.bipush 25, 2) := by decide +kernel
theorem dX12_ends_44 : decode cX12_ends 44 = .ok (.aload_n 0, 1) := by decide +kernel
theorem dX12_ends_45 : decode cX12_ends 45 = .ok (.getfield 7, 3) := by decide +kernel
theorem dX12_ends_48 : decode cX12_ends 48 = .ok (.iconst 3, 1) := by decide +kernel
theorem dX12_ends_49 : decode cX12_ends 49 = .ok (.iaload, 1) := by decide +kernel
theorem dX12_ends_50 : decode cX12_ends 50 = .ok (.isub, 1) := by decide +kernel
theorem dX12_ends_51 : decode cX12_ends 51 = .ok (.ireturn, 1) := by decide +kernel
theorem dX12_ends_52 : decode cX12_ends 52 = .ok (.bipush 14, 2) := by decide +kernel
theorem dX12_ends_54 : decode cX12_ends 54 = .ok (.aload_n 0, 1) := by decide +kernel
theorem dX12_ends_55 : decode cX12_ends 55 = .ok (.iload_n 1, 1) := by decide +kernel
theorem dX12_ends_56 : decode cX12_ends 56 = .ok (.iconst 2, 1) := by decide +kernel
theorem dX12_ends_57 : decode cX12_ends 57 = .ok (.invokevirtual 176, 3) := by decide +kernel
theorem dX12_ends_60 : decode cX12_ends 60 = .ok (.iadd, 1) := by decide +kernel
theorem dX12_ends_61 : decode cX12_ends 61 = .ok (.ireturn, 1) := by decide +kernel
theorem dX12_ends_62 : decode cX12_ends 62 = .ok (.bipush 21, 2) := by decide +kernel
theorem dX12_ends_64 : decode cX12_ends 64 = .ok (.ireturn, 1) := by decide +kernel
set_option maxRecDepth 20000 in
theorem ggX12_isYoung_X12_its : GoodIn wsX12_isYoung wsX12_its := goodIn_r _ [5, 6, 11, 12, 13, 14, 15, 16, 17, 18, 19, 20, 21, 22, 23, 24, 25, 26, 27, 28, 29, 30, 31, 32, 33, 34, 35, 36, 37, 38] (by decide +kernel) (by decide +kernel)
set_option maxRecDepth 20000 in
theorem gX12_isYoung_X12_its : GoodIn wsX12_isYoung (wsV RX12 176 RX12 yX12_its wsX12_its) := goodIn_app (goodIn_of _ (by decide +kernel)) ggX12_isYoung_X12_its
set_option maxRecDepth 20000 in
theorem ggX12_isYoung_X12_ends : GoodIn wsX12_isYoung wsX12_ends := goodIn_r _ [10, 6, 1, 2, 3, 4, 5, 11, 12, 13, 14, 15, 16, 17, 18, 19, 20, 21, 22, 23, 24, 25, 26, 27, 28, 29, 30, 31, 32, 33, 34, 35, 36, 37, 38] (by decide +kernel) (by decide +kernel)
set_option maxRecDepth 20000 in
theorem gX12_isYoung_X12_ends : GoodIn wsX12_isYoung (wsV RX12 179 RX12 yX12_ends wsX12_ends) := goodIn_app (goodIn_of _ (by decide +kernel)) ggX12_isYoung_X12_ends
theorem dX12_isYoung_0 : decode cX12_isYoung 0 = .ok (.aload_n 0, 1) := by decide +kernel
theorem dX12_isYoung_1 : decode cX12_isYoung 1 = .ok (.iload_n 1, 1) := by decide +kernel
theorem dX12_isYoung_2 : decode cX12_isYoung 2 = .ok (.iconst 4, 1) := by decide +kernel
theorem dX12_isYoung_3 : decode cX12_isYoung 3 = .ok (.invokevirtual 176, 3) := by decide +kernel
theorem dX12_isYoung_6 : decode cX12_isYoung 6 = .ok (.aload_n 0, 1) := by decide +kernel
theorem dX12_isYoung_7 : decode cX12_isYoung 7 = .ok (.iload_n 1, 1) := by decide +kernel
theorem dX12_isYoung_8 : decode cX12_isYoung 8 = .ok (.invokevirtual 179, 3) := by decide +kernel
theorem dX12_isYoung_11 : decode cX12_isYoung 11 = .ok (.if_icmp .ge 7, 3) := by decide +kernel
theorem dX12_isYoung_14 : decode cX12_isYoung 14 = .ok (.iconst 1, 1) := by decide +kernel
theorem dX12_isYoung_15 : decode cX12_isYoung 15 = .ok (.goto 4, 3) := by decide +kernel
theorem dX12_isYoung_18 : decode cX12_isYoung 18 = .ok (.iconst 0, 1) := by decide +kernel
theorem dX12_isYoung_19 : decode cX12_isYoung 19 = .ok (.ireturn, 1) := by decide +kernel
set_option maxRecDepth 20000 in
theorem ggX12_of_X12_isOne : GoodIn wsX12_of wsX12_isOne := goodIn_r _ [6, 7, 15, 16, 17, 18, 19, 20, 21, 22, 23, 24, 25, 26, 27, 28, 29, 30, 31, 32, 33, 34, 35, 36, 37, 38, 39, 40, 41, 42] (by decide +kernel) (by decide +kernel)
set_option maxRecDepth 20000 in
theorem gX12_of_X12_isOne : GoodIn wsX12_of (wsV RX12 182 RX12 yX12_isOne wsX12_isOne) := goodIn_app (goodIn_of _ (by decide +kernel)) ggX12_of_X12_isOne
set_option maxRecDepth 20000 in
theorem ggX12_of_X12_isIn : GoodIn wsX12_of wsX12_isIn := goodIn_r _ [10] (by decide +kernel) (by decide +kernel)
set_option maxRecDepth 20000 in
theorem gX12_of_X12_isIn : GoodIn wsX12_of (va_wsS RX12 60 yX12_isIn wsX12_isIn) := goodIn_app (goodIn_of _ (by decide +kernel)) ggX12_of_X12_isIn
set_option maxRecDepth 20000 in
theorem ggX12_of_X12_its : GoodIn wsX12_of wsX12_its := goodIn_r _ [14, 7, 15, 16, 17, 18, 19, 20, 21, 22, 23, 24, 25, 26, 27, 28, 29, 30, 31, 32, 33, 34, 35, 36, 37, 38, 39, 40, 41, 42] (by decide +kernel) (by decide +kernel)
set_option maxRecDepth 20000 in
theorem gX12_of_X12_its : GoodIn wsX12_of (wsV RX12 176 RX12 yX12_its wsX12_its) := goodIn_app (goodIn_of _ (by decide +kernel)) ggX12_of_X12_its
theorem dX12_of_0 : decode cX12_of 0 = .ok (.aload_n 0, 1) := by decide +kernel
theorem dX12_of_1 : decode cX12_of 1 = .ok (.iload_n 1, 1) := by decide +kernel
theorem dX12_of_2 : decode cX12_of 2 = .ok (.invokevirtual 182, 3) := by decide +kernel
theorem dX12_of_5 : decode cX12_of 5 = .ok (.ifCond .eq 24, 3) := by decide +kernel
theorem dX12_of_8 : decode cX12_of 8 = .ok (.iload_n 2, 1) := by decide +kernel
theorem dX12_of_9 : decode cX12_of 9 = .ok (.i2l, 1) := by decide +kernel
theorem dX12_of_10 : decode cX12_of 10 = .ok (.lconst 0, 1) := by decide +kernel
theorem dX12_of_11 : decode cX12_of 11 = .ok (.ldc2_w 171, 3) := by decide +kernel
theorem dX12_of_14 : decode cX12_of 14 = .ok (.invokestatic 60, 3) := by decide +kernel
theorem dX12_of_17 : decode cX12_of 17 = .ok (.ifCond .eq 12, 3) := by decide +kernel
theorem dX12_of_20 : decode cX12_of 20 = .ok (.aload_n 0, 1) := by decide +kernel
theorem dX12_of_21 : decode cX12_of 21 = .ok (.iload_n 1, 1) := by decide +kernel
theorem dX12_of_22 : decode cX12_of 22 = .ok (.iload_n 2, 1) := by decide +kernel
theorem dX12_of_23 : decode cX12_of 23 = .ok (.invokevirtual 176, 3) := by decide +kernel
theorem dX12_of_26 : decode cX12_of 26 = .ok (.goto 4, 3) := by decide +kernel
theorem dX12_of_29 : decode cX12_of 29 = .ok (.iconst (-1), 1) := by decide +kernel
theorem dX12_of_30 : decode cX12_of 30 = .ok (.ireturn, 1) := by decide +kernel
set_option maxRecDepth 20000 in
theorem ggX12_does_X12_isOne : GoodIn wsX12_does wsX12_isOne := goodIn_r _ [5, 6, 22, 23, 24, 25, 26, 27, 28, 29, 30, 31, 32, 33, 34, 35, 36, 37, 38, 39, 40, 41, 42, 43, 44, 45, 46, 47, 48, 49] (by decide +kernel) (by decide +kernel)
set_option maxRecDepth 20000 in
theorem gX12_does_X12_isOne : GoodIn wsX12_does (wsV RX12 182 RX12 yX12_isOne wsX12_isOne) := goodIn_app (goodIn_of _ (by decide +kernel)) ggX12_does_X12_isOne
set_option maxRecDepth 20000 in
theorem ggX12_does_X12_isIn : GoodIn wsX12_does wsX12_isIn := goodIn_r _ [9] (by decide +kernel) (by decide +kernel)
set_option maxRecDepth 20000 in
theorem gX12_does_X12_isIn : GoodIn wsX12_does (va_wsS RX12 60 yX12_isIn wsX12_isIn) := goodIn_app (goodIn_of _ (by decide +kernel)) ggX12_does_X12_isIn
set_option maxRecDepth 20000 in
theorem ggX12_does_X12_moves : GoodIn wsX12_does wsX12_moves := goodIn_r _ [13, 6, 14, 15, 16, 4, 17, 22, 23, 24, 25, 26, 27, 28, 29, 30, 31, 32, 33, 34, 35, 36, 37, 38, 39, 40, 41, 42, 43, 44, 45, 46, 47, 48, 49] (by decide +kernel) (by decide +kernel)
set_option maxRecDepth 20000 in
theorem gX12_does_X12_moves : GoodIn wsX12_does (wsV RX12 185 RX12 yX12_moves wsX12_moves) := goodIn_app (goodIn_of _ (by decide +kernel)) ggX12_does_X12_moves
set_option maxRecDepth 20000 in
theorem ggX12_does_X12_ends : GoodIn wsX12_does wsX12_ends := goodIn_r _ [21, 6, 14, 15, 16, 4, 17, 22, 23, 24, 25, 26, 27, 28, 29, 30, 31, 32, 33, 34, 35, 36, 37, 38, 39, 40, 41, 42, 43, 44, 45, 46, 47, 48, 49] (by decide +kernel) (by decide +kernel)
set_option maxRecDepth 20000 in
theorem gX12_does_X12_ends : GoodIn wsX12_does (wsV RX12 179 RX12 yX12_ends wsX12_ends) := goodIn_app (goodIn_of _ (by decide +kernel)) ggX12_does_X12_ends
theorem dX12_does_0 : decode cX12_does 0 = .ok (.aload_n 0, 1) := by decide +kernel
theorem dX12_does_1 : decode cX12_does 1 = .ok (.iload_n 1, 1) := by decide +kernel
theorem dX12_does_2 : decode cX12_does 2 = .ok (.invokevirtual 182, 3) := by decide +kernel
theorem dX12_does_5 : decode cX12_does 5 = .ok (.ifCond .eq 13, 3) := by decide +kernel
theorem dX12_does_8 : decode cX12_does 8 = .ok (.iload_n 2, 1) := by decide +kernel
theorem dX12_does_9 : decode cX12_does 9 = .ok (.i2l, 1) := by decide +kernel
theorem dX12_does_10 : decode cX12_does 10 = .ok (.lconst 0, 1) := by decide +kernel
theorem dX12_does_11 : decode cX12_does 11 = .ok (.lconst 1, 1) := by decide +kernel
theorem dX12_does_12 : decode cX12_does 12 = .ok (.invokestatic 60, 3) := by decide +kernel
theorem dX12_does_15 : decode cX12_does 15 = .ok (.ifCond .ne 5, 3) := by decide +kernel
theorem dX12_does_18 : decode cX12_does 18 = .ok (.iconst (-1), 1) := by decide +kernel
theorem dX12_does_19 : decode cX12_does 19 = .ok (.ireturn, 1) := by decide +kernel
theorem dX12_does_20 : decode cX12_does 20 = .ok (.iload_n 2, 1) := by decide +kernel
theorem dX12_does_21 : decode cX12_does 21 = .ok (.ifCond .ne 11, 3) := by decide +kernel
theorem dX12_does_24 : decode cX12_does 24 = .ok (.aload_n 0, 1) := by decide +kernel
theorem dX12_does_25 : decode cX12_does 25 = .ok (.iload_n 1, 1) := by decide +kernel
theorem dX12_does_26 : decode cX12_does 26 = .ok (.invokevirtual 185, 3) := by decide +kernel
theorem dX12_does_29 : decode cX12_does 29 = .ok (.goto 8, 3) := by decide +kernel
theorem dX12_does_32 : decode cX12_does 32 = .ok (.aload_n 0, 1) := by decide +kernel
theorem dX12_does_33 : decode cX12_does 33 = .ok (.iload_n 1, 1) := by decide +kernel
theorem dX12_does_34 : decode cX12_does 34 = .ok (.invokevirtual 179, 3) := by decide +kernel
theorem dX12_does_37 : decode cX12_does 37 = .ok (.ireturn, 1) := by decide +kernel
set_option maxRecDepth 20000 in
theorem ggX12_mind_X12_isOne : GoodIn wsX12_mind wsX12_isOne := goodIn_r _ [8, 3, 16, 17, 18, 19, 20, 21, 22, 23, 24, 25, 26, 27, 28, 29, 30, 31, 32, 33, 34, 35, 36, 37, 38, 39, 40, 41, 42, 43] (by decide +kernel) (by decide +kernel)
set_option maxRecDepth 20000 in
theorem gX12_mind_X12_isOne : GoodIn wsX12_mind (wsV RX12 182 RX12 yX12_isOne wsX12_isOne) := goodIn_app (goodIn_of _ (by decide +kernel)) ggX12_mind_X12_isOne
set_option maxRecDepth 20000 in
theorem ggX12_mind_X12_isIn : GoodIn wsX12_mind wsX12_isIn := goodIn_r _ [11] (by decide +kernel) (by decide +kernel)
set_option maxRecDepth 20000 in
theorem gX12_mind_X12_isIn : GoodIn wsX12_mind (va_wsS RX12 60 yX12_isIn wsX12_isIn) := goodIn_app (goodIn_of _ (by decide +kernel)) ggX12_mind_X12_isIn
set_option maxRecDepth 20000 in
theorem ggX12_mind_X12_lets : GoodIn wsX12_mind wsX12_lets := goodIn_r _ [15, 3, 16, 17, 18, 19, 20, 21, 22, 23, 24, 25, 26, 27, 28, 29, 30, 31, 32, 33, 34, 35, 36, 37, 38, 39, 40, 41, 42, 43] (by decide +kernel) (by decide +kernel)
set_option maxRecDepth 20000 in
theorem gX12_mind_X12_lets : GoodIn wsX12_mind (wsV RX12 167 RX12 yX12_lets wsX12_lets) := goodIn_app (goodIn_of _ (by decide +kernel)) ggX12_mind_X12_lets
theorem dX12_mind_0 : decode cX12_mind 0 = .ok (.aload_n 0, 1) := by decide +kernel
theorem dX12_mind_1 : decode cX12_mind 1 = .ok (.iload_n 1, 1) := by decide +kernel
theorem dX12_mind_2 : decode cX12_mind 2 = .ok (.invokevirtual 182, 3) := by decide +kernel
theorem dX12_mind_5 : decode cX12_mind 5 = .ok (.ifCond .eq 27, 3) := by decide +kernel
theorem dX12_mind_8 : decode cX12_mind 8 = .ok (.iload_n 2, 1) := by decide +kernel
theorem dX12_mind_9 : decode cX12_mind 9 = .ok (.i2l, 1) := by decide +kernel
theorem dX12_mind_10 : decode cX12_mind 10 = .ok (.lconst 0, 1) := by decide +kernel
theorem dX12_mind_11 : decode cX12_mind 11 = .ok (.ldc2_w 171, 3) := by decide +kernel
theorem dX12_mind_14 : decode cX12_mind 14 = .ok (.invokestatic 60, 3) := by decide +kernel
theorem dX12_mind_17 : decode cX12_mind 17 = .ok (.ifCond .eq 15, 3) := by decide +kernel
theorem dX12_mind_20 : decode cX12_mind 20 = .ok (.iload_n 3, 1) := by decide +kernel
theorem dX12_mind_21 : decode cX12_mind 21 = .ok (.i2l, 1) := by decide +kernel
theorem dX12_mind_22 : decode cX12_mind 22 = .ok (.lconst 0, 1) := by decide +kernel
theorem dX12_mind_23 : decode cX12_mind 23 = .ok (.ldc2_w 165, 3) := by decide +kernel
theorem dX12_mind_26 : decode cX12_mind 26 = .ok (.invokestatic 60, 3) := by decide +kernel
theorem dX12_mind_29 : decode cX12_mind 29 = .ok (.ifCond .ne 5, 3) := by decide +kernel
theorem dX12_mind_32 : decode cX12_mind 32 = .ok (.iconst (-1), 1) := by decide +kernel
theorem dX12_mind_33 : decode cX12_mind 33 = .ok (.ireturn, 1) := by decide +kernel
theorem dX12_mind_34 : decode cX12_mind 34 = .ok (.aload_n 0, 1) := by decide +kernel
theorem dX12_mind_35 : decode cX12_mind 35 = .ok (.getfield 7, 3) := by decide +kernel
theorem dX12_mind_38 : decode cX12_mind 38 = .ok (.bipush 16, 2) := by decide +kernel
theorem dX12_mind_40 : decode cX12_mind 40 = .ok (.bipush 6, 2) := by decide +kernel
theorem dX12_mind_42 : decode cX12_mind 42 = .ok (.iload_n 1, 1) := by decide +kernel
theorem dX12_mind_43 : decode cX12_mind 43 = .ok (.imul, 1) := by decide +kernel
theorem dX12_mind_44 : decode cX12_mind 44 = .ok (.iadd, 1) := by decide +kernel
theorem dX12_mind_45 : decode cX12_mind 45 = .ok (.iconst 2, 1) := by decide +kernel
theorem dX12_mind_46 : decode cX12_mind 46 = .ok (.iadd, 1) := by decide +kernel
theorem dX12_mind_47 : decode cX12_mind 47 = .ok (.iload_n 3, 1) := by decide +kernel
theorem dX12_mind_48 : decode cX12_mind 48 = .ok (.iastore, 1) := by decide +kernel
theorem dX12_mind_49 : decode cX12_mind 49 = .ok (.aload_n 0, 1) := by decide +kernel
theorem dX12_mind_50 : decode cX12_mind 50 = .ok (.bipush 16, 2) := by decide +kernel
theorem dX12_mind_52 : decode cX12_mind 52 = .ok (.bipush 6, 2) := by decide +kernel
theorem dX12_mind_54 : decode cX12_mind 54 = .ok (.iload_n 1, 1) := by decide +kernel
theorem dX12_mind_55 : decode cX12_mind 55 = .ok (.imul, 1) := by decide +kernel
theorem dX12_mind_56 : decode cX12_mind 56 = .ok (.iadd, 1) := by decide +kernel
theorem dX12_mind_57 : decode cX12_mind 57 = .ok (.iload_n 2, 1) := by decide +kernel
theorem dX12_mind_58 : decode cX12_mind 58 = .ok (.invokevirtual 167, 3) := by decide +kernel
theorem dX12_mind_61 : decode cX12_mind 61 = .ok (.ireturn, 1) := by decide +kernel
set_option maxRecDepth 20000 in
theorem ggX12_change_X12_isOne : GoodIn wsX12_change wsX12_isOne := goodIn_r _ [6, 7, 15, 16, 17, 18, 19, 20, 21, 22, 23, 24, 25, 26, 27, 28, 29, 30, 31, 32, 33, 34, 35, 36, 37, 38, 39, 40, 41, 42] (by decide +kernel) (by decide +kernel)
set_option maxRecDepth 20000 in
theorem gX12_change_X12_isOne : GoodIn wsX12_change (wsV RX12 182 RX12 yX12_isOne wsX12_isOne) := goodIn_app (goodIn_of _ (by decide +kernel)) ggX12_change_X12_isOne
set_option maxRecDepth 20000 in
theorem ggX12_change_X12_isIn : GoodIn wsX12_change wsX12_isIn := goodIn_r _ [10] (by decide +kernel) (by decide +kernel)
set_option maxRecDepth 20000 in
theorem gX12_change_X12_isIn : GoodIn wsX12_change (va_wsS RX12 60 yX12_isIn wsX12_isIn) := goodIn_app (goodIn_of _ (by decide +kernel)) ggX12_change_X12_isIn
set_option maxRecDepth 20000 in
theorem ggX12_change_X12_lets : GoodIn wsX12_change wsX12_lets := goodIn_r _ [14, 7, 15, 16, 17, 18, 19, 20, 21, 22, 23, 24, 25, 26, 27, 28, 29, 30, 31, 32, 33, 34, 35, 36, 37, 38, 39, 40, 41, 42] (by decide +kernel) (by decide +kernel)
set_option maxRecDepth 20000 in
theorem gX12_change_X12_lets : GoodIn wsX12_change (wsV RX12 167 RX12 yX12_lets wsX12_lets) := goodIn_app (goodIn_of _ (by decide +kernel)) ggX12_change_X12_lets
theorem dX12_change_0 : decode cX12_change 0 = .ok (.aload_n 0, 1) := by decide +kernel
theorem dX12_change_1 : decode cX12_change 1 = .ok (.iload_n 1, 1) := by decide +kernel
theorem dX12_change_2 : decode cX12_change 2 = .ok (.invokevirtual 182, 3) := by decide +kernel
theorem dX12_change_5 : decode cX12_change 5 = .ok (.ifCond .eq 34, 3) := by decide +kernel
theorem dX12_change_8 : decode cX12_change 8 = .ok (.iload_n 2, 1) := by decide +kernel
theorem dX12_change_9 : decode cX12_change 9 = .ok (.iconst 1, 1) := by decide +kernel
theorem dX12_change_10 : decode cX12_change 10 = .ok (.if_icmp .eq 13, 3) := by decide +kernel
theorem dX12_change_13 : decode cX12_change 13 = .ok (.iload_n 2, 1) := by decide +kernel
theorem dX12_change_14 : decode cX12_change 14 = .ok (.iconst 3, 1) := by decide +kernel
theorem dX12_change_15 : decode cX12_change 15 = .ok (.if_icmp .eq 8, 3) := by decide +kernel
theorem dX12_change_18 : decode cX12_change 18 = .ok (.iload_n 2, 1) := by decide +kernel
theorem dX12_change_19 : decode cX12_change 19 = .ok (.iconst 4, 1) := by decide +kernel
theorem dX12_change_20 : decode cX12_change 20 = .ok (.if_icmp .ne 19, 3) := by decide +kernel
theorem dX12_change_23 : decode cX12_change 23 = .ok (.iload_n 3, 1) := by decide +kernel
theorem dX12_change_24 : decode cX12_change 24 = .ok (.i2l, 1) := by decide +kernel
theorem dX12_change_25 : decode cX12_change 25 = .ok (.lconst 0, 1) := by decide +kernel
theorem dX12_change_26 : decode cX12_change 26 = .ok (.ldc2_w 163, 3) := by decide +kernel
theorem dX12_change_29 : decode cX12_change 29 = .ok (.invokestatic 60, 3) := by decide +kernel
theorem dX12_change_32 : decode cX12_change 32 = .ok (.ifCond .eq 7, 3) := by decide +kernel
theorem dX12_change_35 : decode cX12_change 35 = .ok (.iconst 1, 1) := by decide +kernel
theorem dX12_change_36 : decode cX12_change 36 = .ok (.goto 4, 3) := by decide +kernel
theorem dX12_change_39 : decode cX12_change 39 = .ok (.iconst 0, 1) := by decide +kernel
theorem dX12_change_40 : decode cX12_change 40 = .ok (.istore 4, 2) := by decide +kernel
theorem dX12_change_42 : decode cX12_change 42 = .ok (.iload 4, 2) := by decide +kernel
theorem dX12_change_44 : decode cX12_change 44 = .ok (.ifCond .eq 20, 3) := by decide +kernel
theorem dX12_change_47 : decode cX12_change 47 = .ok (.aload_n 0, 1) := by decide +kernel
theorem dX12_change_48 : decode cX12_change 48 = .ok (.bipush 16, 2) := by decide +kernel
theorem dX12_change_50 : decode cX12_change 50 = .ok (.bipush 6, 2) := by decide +kernel
theorem dX12_change_52 : decode cX12_change 52 = .ok (.iload_n 1, 1) := by decide +kernel
theorem dX12_change_53 : decode cX12_change 53 = .ok (.imul, 1) := by decide +kernel
theorem dX12_change_54 : decode cX12_change 54 = .ok (.iadd, 1) := by decide +kernel
theorem dX12_change_55 : decode cX12_change 55 = .ok (.iload_n 2, 1) := by decide +kernel
theorem dX12_change_56 : decode cX12_change 56 = .ok (.iadd, 1) := by decide +kernel
theorem dX12_change_57 : decode cX12_change 57 = .ok (.iload_n 3, 1) := by decide +kernel
theorem dX12_change_58 : decode cX12_change 58 = .ok (.invokevirtual 167, 3) := by decide +kernel
theorem dX12_change_61 : decode cX12_change 61 = .ok (.goto 4, 3) := by decide +kernel
theorem dX12_change_64 : decode cX12_change 64 = .ok (.iconst (-1), 1) := by decide +kernel
theorem dX12_change_65 : decode cX12_change 65 = .ok (.ireturn, 1) := by decide +kernel
set_option maxRecDepth 20000 in
theorem ggX12_swear_X12_isOne : GoodIn wsX12_swear wsX12_isOne := goodIn_r _ [5, 6, 14, 15, 16, 17, 18, 19, 20, 21, 22, 23, 24, 25, 26, 27, 28, 29, 30, 31, 32, 33, 34, 35, 36, 37, 38, 39, 40, 41] (by decide +kernel) (by decide +kernel)
set_option maxRecDepth 20000 in
theorem gX12_swear_X12_isOne : GoodIn wsX12_swear (wsV RX12 182 RX12 yX12_isOne wsX12_isOne) := goodIn_app (goodIn_of _ (by decide +kernel)) ggX12_swear_X12_isOne
set_option maxRecDepth 20000 in
theorem ggX12_swear_X12_isMother : GoodIn wsX12_swear wsX12_isMother := goodIn_r _ [9] (by decide +kernel) (by decide +kernel)
set_option maxRecDepth 20000 in
theorem gX12_swear_X12_isMother : GoodIn wsX12_swear (va_wsS RX12 173 yX12_isMother wsX12_isMother) := goodIn_app (goodIn_of _ (by decide +kernel)) ggX12_swear_X12_isMother
set_option maxRecDepth 20000 in
theorem ggX12_swear_X12_lets : GoodIn wsX12_swear wsX12_lets := goodIn_r _ [13, 6, 14, 15, 16, 17, 18, 19, 20, 21, 22, 23, 24, 25, 26, 27, 28, 29, 30, 31, 32, 33, 34, 35, 36, 37, 38, 39, 40, 41] (by decide +kernel) (by decide +kernel)
set_option maxRecDepth 20000 in
theorem gX12_swear_X12_lets : GoodIn wsX12_swear (wsV RX12 167 RX12 yX12_lets wsX12_lets) := goodIn_app (goodIn_of _ (by decide +kernel)) ggX12_swear_X12_lets
theorem dX12_swear_0 : decode cX12_swear 0 = .ok (.aload_n 0, 1) := by decide +kernel
theorem dX12_swear_1 : decode cX12_swear 1 = .ok (.iload_n 1, 1) := by decide +kernel
theorem dX12_swear_2 : decode cX12_swear 2 = .ok (.invokevirtual 182, 3) := by decide +kernel
theorem dX12_swear_5 : decode cX12_swear 5 = .ok (.ifCond .eq 27, 3) := by decide +kernel
theorem dX12_swear_8 : decode cX12_swear 8 = .ok (.iload_n 2, 1) := by decide +kernel
theorem dX12_swear_9 : decode cX12_swear 9 = .ok (.invokestatic 173, 3) := by decide +kernel
theorem dX12_swear_12 : decode cX12_swear 12 = .ok (.ifCond .eq 20, 3) := by decide +kernel
theorem dX12_swear_15 : decode cX12_swear 15 = .ok (.aload_n 0, 1) := by decide +kernel
theorem dX12_swear_16 : decode cX12_swear 16 = .ok (.bipush 16, 2) := by decide +kernel
theorem dX12_swear_18 : decode cX12_swear 18 = .ok (.bipush 6, 2) := by decide +kernel
theorem dX12_swear_20 : decode cX12_swear 20 = .ok (.iload_n 1, 1) := by decide +kernel
theorem dX12_swear_21 : decode cX12_swear 21 = .ok (.imul, 1) := by decide +kernel
theorem dX12_swear_22 : decode cX12_swear 22 = .ok (.iadd, 1) := by decide +kernel
theorem dX12_swear_23 : decode cX12_swear 23 = .ok (.iconst 5, 1) := by decide +kernel
theorem dX12_swear_24 : decode cX12_swear 24 = .ok (.iadd, 1) := by decide +kernel
theorem dX12_swear_25 : decode cX12_swear 25 = .ok (.iload_n 2, 1) := by decide +kernel
theorem dX12_swear_26 : decode cX12_swear 26 = .ok (.invokevirtual 167, 3) := by decide +kernel
theorem dX12_swear_29 : decode cX12_swear 29 = .ok (.goto 4, 3) := by decide +kernel
theorem dX12_swear_32 : decode cX12_swear 32 = .ok (.iconst (-1), 1) := by decide +kernel
theorem dX12_swear_33 : decode cX12_swear 33 = .ok (.ireturn, 1) := by decide +kernel
set_option maxRecDepth 20000 in
theorem ggX12_vice_X12_isMother : GoodIn wsX12_vice wsX12_isMother := goodIn_r _ [5] (by decide +kernel) (by decide +kernel)
set_option maxRecDepth 20000 in
theorem gX12_vice_X12_isMother : GoodIn wsX12_vice (va_wsS RX12 173 yX12_isMother wsX12_isMother) := goodIn_app (goodIn_of _ (by decide +kernel)) ggX12_vice_X12_isMother
set_option maxRecDepth 20000 in
theorem ggX12_vice_X12_isIn : GoodIn wsX12_vice wsX12_isIn := goodIn_r _ [8] (by decide +kernel) (by decide +kernel)
set_option maxRecDepth 20000 in
theorem gX12_vice_X12_isIn : GoodIn wsX12_vice (va_wsS RX12 60 yX12_isIn wsX12_isIn) := goodIn_app (goodIn_of _ (by decide +kernel)) ggX12_vice_X12_isIn
set_option maxRecDepth 20000 in
theorem ggX12_vice_X12_lets : GoodIn wsX12_vice wsX12_lets := goodIn_r _ [12, 13, 14, 15, 16, 17, 18, 19, 20, 21, 22, 23, 24, 25, 26, 27, 28, 29, 30, 31, 32, 33, 34, 35, 36, 37, 38, 39, 40, 41] (by decide +kernel) (by decide +kernel)
set_option maxRecDepth 20000 in
theorem gX12_vice_X12_lets : GoodIn wsX12_vice (wsV RX12 167 RX12 yX12_lets wsX12_lets) := goodIn_app (goodIn_of _ (by decide +kernel)) ggX12_vice_X12_lets
theorem dX12_vice_0 : decode cX12_vice 0 = .ok (.iload_n 1, 1) := by decide +kernel
theorem dX12_vice_1 : decode cX12_vice 1 = .ok (.invokestatic 173, 3) := by decide +kernel
theorem dX12_vice_4 : decode cX12_vice 4 = .ok (.ifCond .eq 27, 3) := by decide +kernel
theorem dX12_vice_7 : decode cX12_vice 7 = .ok (.iload_n 2, 1) := by decide +kernel
theorem dX12_vice_8 : decode cX12_vice 8 = .ok (.i2l, 1) := by decide +kernel
theorem dX12_vice_9 : decode cX12_vice 9 = .ok (.lconst 0, 1) := by decide +kernel
theorem dX12_vice_10 : decode cX12_vice 10 = .ok (.ldc2_w 163, 3) := by decide +kernel
theorem dX12_vice_13 : decode cX12_vice 13 = .ok (.invokestatic 60, 3) := by decide +kernel
theorem dX12_vice_16 : decode cX12_vice 16 = .ok (.ifCond .eq 15, 3) := by decide +kernel
theorem dX12_vice_19 : decode cX12_vice 19 = .ok (.aload_n 0, 1) := by decide +kernel
theorem dX12_vice_20 : decode cX12_vice 20 = .ok (.bipush 8, 2) := by decide +kernel
theorem dX12_vice_22 : decode cX12_vice 22 = .ok (.iload_n 1, 1) := by decide +kernel
theorem dX12_vice_23 : decode cX12_vice 23 = .ok (.iadd, 1) := by decide +kernel
theorem dX12_vice_24 : decode cX12_vice 24 = .ok (.iload_n 2, 1) := by decide +kernel
theorem dX12_vice_25 : decode cX12_vice 25 = .ok (.invokevirtual 167, 3) := by decide +kernel
theorem dX12_vice_28 : decode cX12_vice 28 = .ok (.goto 4, 3) := by decide +kernel
theorem dX12_vice_31 : decode cX12_vice 31 = .ok (.iconst (-1), 1) := by decide +kernel
theorem dX12_vice_32 : decode cX12_vice 32 = .ok (.ireturn, 1) := by decide +kernel
set_option maxRecDepth 20000 in
theorem ggX12_easy_X12_isMother : GoodIn wsX12_easy wsX12_isMother := goodIn_r _ [5] (by decide +kernel) (by decide +kernel)
set_option maxRecDepth 20000 in
theorem gX12_easy_X12_isMother : GoodIn wsX12_easy (va_wsS RX12 173 yX12_isMother wsX12_isMother) := goodIn_app (goodIn_of _ (by decide +kernel)) ggX12_easy_X12_isMother
set_option maxRecDepth 20000 in
theorem ggX12_easy_X12_isIn : GoodIn wsX12_easy wsX12_isIn := goodIn_r _ [8] (by decide +kernel) (by decide +kernel)
set_option maxRecDepth 20000 in
theorem gX12_easy_X12_isIn : GoodIn wsX12_easy (va_wsS RX12 60 yX12_isIn wsX12_isIn) := goodIn_app (goodIn_of _ (by decide +kernel)) ggX12_easy_X12_isIn
theorem dX12_easy_0 : decode cX12_easy 0 = .ok (.iload_n 1, 1) := by decide +kernel
theorem dX12_easy_1 : decode cX12_easy 1 = .ok (.invokestatic 173, 3) := by decide +kernel
theorem dX12_easy_4 : decode cX12_easy 4 = .ok (.ifCond .eq 13, 3) := by decide +kernel
theorem dX12_easy_7 : decode cX12_easy 7 = .ok (.iload_n 2, 1) := by decide +kernel
theorem dX12_easy_8 : decode cX12_easy 8 = .ok (.i2l, 1) := by decide +kernel
theorem dX12_easy_9 : decode cX12_easy 9 = .ok (.lconst 0, 1) := by decide +kernel
theorem dX12_easy_10 : decode cX12_easy 10 = .ok (.lconst 1, 1) := by decide +kernel
theorem dX12_easy_11 : decode cX12_easy 11 = .ok (.invokestatic 60, 3) := by decide +kernel
theorem dX12_easy_14 : decode cX12_easy 14 = .ok (.ifCond .ne 5, 3) := by decide +kernel
theorem dX12_easy_17 : decode cX12_easy 17 = .ok (.iconst (-1), 1) := by decide +kernel
theorem dX12_easy_18 : decode cX12_easy 18 = .ok (.ireturn, 1) := by decide +kernel
theorem dX12_easy_19 : decode cX12_easy 19 = .ok (.aload_n 0, 1) := by decide +kernel
theorem dX12_easy_20 : decode cX12_easy 20 = .ok (.getfield 7, 3) := by decide +kernel
theorem dX12_easy_23 : decode cX12_easy 23 = .ok (.bipush 7, 2) := by decide +kernel
theorem dX12_easy_25 : decode cX12_easy 25 = .ok (.iaload, 1) := by decide +kernel
theorem dX12_easy_26 : decode cX12_easy 26 = .ok (.iload_n 1, 1) := by decide +kernel
theorem dX12_easy_27 : decode cX12_easy 27 = .ok (.ishr, 1) := by decide +kernel
theorem dX12_easy_28 : decode cX12_easy 28 = .ok (.iconst 1, 1) := by decide +kernel
theorem dX12_easy_29 : decode cX12_easy 29 = .ok (.iand, 1) := by decide +kernel
theorem dX12_easy_30 : decode cX12_easy 30 = .ok (.istore_n 3, 1) := by decide +kernel
theorem dX12_easy_31 : decode cX12_easy 31 = .ok (.aload_n 0, 1) := by decide +kernel
theorem dX12_easy_32 : decode cX12_easy 32 = .ok (.getfield 7, 3) := by decide +kernel
theorem dX12_easy_35 : decode cX12_easy 35 = .ok (.bipush 7, 2) := by decide +kernel
theorem dX12_easy_37 : decode cX12_easy 37 = .ok (.aload_n 0, 1) := by decide +kernel
theorem dX12_easy_38 : decode cX12_easy 38 = .ok (.getfield 7, 3) := by decide +kernel
theorem dX12_easy_41 : decode cX12_easy 41 = .ok (.bipush 7, 2) := by decide +kernel
theorem dX12_easy_43 : decode cX12_easy 43 = .ok (.iaload, 1) := by decide +kernel
theorem dX12_easy_44 : decode cX12_easy 44 = .ok (.iconst 1, 1) := by decide +kernel
theorem dX12_easy_45 : decode cX12_easy 45 = .ok (.iload_n 1, 1) := by decide +kernel
theorem dX12_easy_46 : decode cX12_easy 46 = .ok (.ishl, 1) := by decide +kernel
theorem dX12_easy_47 : decode cX12_easy 47 = .ok (.iconst (-1), 1) := by decide +kernel
theorem dX12_easy_48 : decode cX12_easy 48 = .ok (.ixor, 1) := by decide +kernel
theorem dX12_easy_49 : decode cX12_easy 49 = .ok (.iand, 1) := by decide +kernel
theorem dX12_easy_50 : decode cX12_easy 50 = .ok (.iload_n 2, 1) := by decide +kernel
theorem dX12_easy_51 : decode cX12_easy 51 = .ok (.iload_n 1, 1) := by decide +kernel
theorem dX12_easy_52 : decode cX12_easy 52 = .ok (.ishl, 1) := by decide +kernel
theorem dX12_easy_53 : decode cX12_easy 53 = .ok (.ior, 1) := by decide +kernel
theorem dX12_easy_54 : decode cX12_easy 54 = .ok (.iastore, 1) := by decide +kernel
theorem dX12_easy_55 : decode cX12_easy 55 = .ok (.iload_n 3, 1) := by decide +kernel
theorem dX12_easy_56 : decode cX12_easy 56 = .ok (.ireturn, 1) := by decide +kernel
set_option maxRecDepth 20000 in
theorem ggX12_swornTo_X12_its : GoodIn wsX12_swornTo wsX12_its := goodIn_r _ [6, 1, 7, 8, 9, 10, 11, 12, 13, 14, 15, 16, 17, 18, 19, 20, 21, 22, 23, 24, 25, 26, 27, 28, 29, 30, 31, 32, 33, 34] (by decide +kernel) (by decide +kernel)
set_option maxRecDepth 20000 in
theorem gX12_swornTo_X12_its : GoodIn wsX12_swornTo (wsV RX12 176 RX12 yX12_its wsX12_its) := goodIn_app (goodIn_of _ (by decide +kernel)) ggX12_swornTo_X12_its
theorem dX12_swornTo_0 : decode cX12_swornTo 0 = .ok (.iconst 0, 1) := by decide +kernel
theorem dX12_swornTo_1 : decode cX12_swornTo 1 = .ok (.istore_n 2, 1) := by decide +kernel
theorem dX12_swornTo_2 : decode cX12_swornTo 2 = .ok (.iconst 0, 1) := by decide +kernel
theorem dX12_swornTo_3 : decode cX12_swornTo 3 = .ok (.istore_n 3, 1) := by decide +kernel
theorem dX12_swornTo_4 : decode cX12_swornTo 4 = .ok (.iload_n 3, 1) := by decide +kernel
theorem dX12_swornTo_5 : decode cX12_swornTo 5 = .ok (.aload_n 0, 1) := by decide +kernel
theorem dX12_swornTo_6 : decode cX12_swornTo 6 = .ok (.getfield 7, 3) := by decide +kernel
theorem dX12_swornTo_9 : decode cX12_swornTo 9 = .ok (.iconst 0, 1) := by decide +kernel
theorem dX12_swornTo_10 : decode cX12_swornTo 10 = .ok (.iaload, 1) := by decide +kernel
theorem dX12_swornTo_11 : decode cX12_swornTo 11 = .ok (.if_icmp .ge 29, 3) := by decide +kernel
theorem dX12_swornTo_14 : decode cX12_swornTo 14 = .ok (.iload_n 2, 1) := by decide +kernel
theorem dX12_swornTo_15 : decode cX12_swornTo 15 = .ok (.aload_n 0, 1) := by decide +kernel
theorem dX12_swornTo_16 : decode cX12_swornTo 16 = .ok (.iload_n 3, 1) := by decide +kernel
theorem dX12_swornTo_17 : decode cX12_swornTo 17 = .ok (.iconst 5, 1) := by decide +kernel
theorem dX12_swornTo_18 : decode cX12_swornTo 18 = .ok (.invokevirtual 176, 3) := by decide +kernel
theorem dX12_swornTo_21 : decode cX12_swornTo 21 = .ok (.iload_n 1, 1) := by decide +kernel
theorem dX12_swornTo_22 : decode cX12_swornTo 22 = .ok (.if_icmp .ne 9, 3) := by decide +kernel
theorem dX12_swornTo_25 : decode cX12_swornTo 25 = .ok (.iconst 1, 1) := by decide +kernel
theorem dX12_swornTo_26 : decode cX12_swornTo 26 = .ok (.iload_n 3, 1) := by decide +kernel
theorem dX12_swornTo_27 : decode cX12_swornTo 27 = .ok (.ishl, 1) := by decide +kernel
theorem dX12_swornTo_28 : decode cX12_swornTo 28 = .ok (.goto 4, 3) := by decide +kernel
theorem dX12_swornTo_31 : decode cX12_swornTo 31 = .ok (.iconst 0, 1) := by decide +kernel
theorem dX12_swornTo_32 : decode cX12_swornTo 32 = .ok (.ior, 1) := by decide +kernel
theorem dX12_swornTo_33 : decode cX12_swornTo 33 = .ok (.istore_n 2, 1) := by decide +kernel
theorem dX12_swornTo_34 : decode cX12_swornTo 34 = .ok (.iinc 3 1, 3) := by decide +kernel
theorem dX12_swornTo_37 : decode cX12_swornTo 37 = .ok (.goto (-33), 3) := by decide +kernel
theorem dX12_swornTo_40 : decode cX12_swornTo 40 = .ok (.iload_n 2, 1) := by decide +kernel
theorem dX12_swornTo_41 : decode cX12_swornTo 41 = .ok (.ireturn, 1) := by decide +kernel
set_option maxRecDepth 20000 in
theorem ggX12_godmother_X12_isMother : GoodIn wsX12_godmother wsX12_isMother := goodIn_r _ [6] (by decide +kernel) (by decide +kernel)
set_option maxRecDepth 20000 in
theorem gX12_godmother_X12_isMother : GoodIn wsX12_godmother (va_wsS RX12 173 yX12_isMother wsX12_isMother) := goodIn_app (goodIn_of _ (by decide +kernel)) ggX12_godmother_X12_isMother
set_option maxRecDepth 20000 in
theorem ggX12_godmother_X12_isIn : GoodIn wsX12_godmother wsX12_isIn := goodIn_r _ [9] (by decide +kernel) (by decide +kernel)
set_option maxRecDepth 20000 in
theorem gX12_godmother_X12_isIn : GoodIn wsX12_godmother (va_wsS RX12 60 yX12_isIn wsX12_isIn) := goodIn_app (goodIn_of _ (by decide +kernel)) ggX12_godmother_X12_isIn
set_option maxRecDepth 20000 in
theorem ggX12_godmother_X12_swornTo : GoodIn wsX12_godmother wsX12_swornTo := goodIn_r _ [13, 2, 14, 15, 16, 5, 17, 18, 19, 20, 21, 22, 23, 24, 25, 26, 27, 28, 29, 30, 31, 32, 33, 34, 35, 36, 37, 38, 39, 40, 41, 42, 43, 44, 45] (by decide +kernel) (by decide +kernel)
set_option maxRecDepth 20000 in
theorem gX12_godmother_X12_swornTo : GoodIn wsX12_godmother (wsV RX12 190 RX12 yX12_swornTo wsX12_swornTo) := goodIn_app (goodIn_of _ (by decide +kernel)) ggX12_godmother_X12_swornTo
theorem dX12_godmother_0 : decode cX12_godmother 0 = .ok (.iload_n 1, 1) := by decide +kernel
theorem dX12_godmother_1 : decode cX12_godmother 1 = .ok (.invokestatic 173, 3) := by decide +kernel
theorem dX12_godmother_4 : decode cX12_godmother 4 = .ok (.ifCond .eq 15, 3) := by decide +kernel
theorem dX12_godmother_7 : decode cX12_godmother 7 = .ok (.iload_n 2, 1) := by decide +kernel
theorem dX12_godmother_8 : decode cX12_godmother 8 = .ok (.i2l, 1) := by decide +kernel
theorem dX12_godmother_9 : decode cX12_godmother 9 = .ok (.lconst 0, 1) := by decide +kernel
theorem dX12_godmother_10 : decode cX12_godmother 10 = .ok (.ldc2_w 188, 3) := by decide +kernel
theorem dX12_godmother_13 : decode cX12_godmother 13 = .ok (.invokestatic 60, 3) := by decide +kernel
theorem dX12_godmother_16 : decode cX12_godmother 16 = .ok (.ifCond .ne 5, 3) := by decide +kernel
theorem dX12_godmother_19 : decode cX12_godmother 19 = .ok (.iconst (-1), 1) := by decide +kernel
theorem dX12_godmother_20 : decode cX12_godmother 20 = .ok (.ireturn, 1) := by decide +kernel
theorem dX12_godmother_21 : decode cX12_godmother 21 = .ok (.iload_n 2, 1) := by decide +kernel
theorem dX12_godmother_22 : decode cX12_godmother 22 = .ok (.ifCond .ne 15, 3) := by decide +kernel
theorem dX12_godmother_25 : decode cX12_godmother 25 = .ok (.aload_n 0, 1) := by decide +kernel
theorem dX12_godmother_26 : decode cX12_godmother 26 = .ok (.getfield 7, 3) := by decide +kernel
theorem dX12_godmother_29 : decode cX12_godmother 29 = .ok (.bipush 8, 2) := by decide +kernel
theorem dX12_godmother_31 : decode cX12_godmother 31 = .ok (.iload_n 1, 1) := by decide +kernel
theorem dX12_godmother_32 : decode cX12_godmother 32 = .ok (.iadd, 1) := by decide +kernel
theorem dX12_godmother_33 : decode cX12_godmother 33 = .ok (.iaload, 1) := by decide +kernel
theorem dX12_godmother_34 : decode cX12_godmother 34 = .ok (.goto 27, 3) := by decide +kernel
theorem dX12_godmother_37 : decode cX12_godmother 37 = .ok (.iload_n 2, 1) := by decide +kernel
theorem dX12_godmother_38 : decode cX12_godmother 38 = .ok (.iconst 1, 1) := by decide +kernel
theorem dX12_godmother_39 : decode cX12_godmother 39 = .ok (.if_icmp .ne 17, 3) := by decide +kernel
theorem dX12_godmother_42 : decode cX12_godmother 42 = .ok (.aload_n 0, 1) := by decide +kernel
theorem dX12_godmother_43 : decode cX12_godmother 43 = .ok (.getfield 7, 3) := by decide +kernel
theorem dX12_godmother_46 : decode cX12_godmother 46 = .ok (.bipush 7, 2) := by decide +kernel
theorem dX12_godmother_48 : decode cX12_godmother 48 = .ok (.iaload, 1) := by decide +kernel
theorem dX12_godmother_49 : decode cX12_godmother 49 = .ok (.iload_n 1, 1) := by decide +kernel
theorem dX12_godmother_50 : decode cX12_godmother 50 = .ok (.ishr, 1) := by decide +kernel
theorem dX12_godmother_51 : decode cX12_godmother 51 = .ok (.iconst 1, 1) := by decide +kernel
theorem dX12_godmother_52 : decode cX12_godmother 52 = .ok (.iand, 1) := by decide +kernel
theorem dX12_godmother_53 : decode cX12_godmother 53 = .ok (.goto 8, 3) := by decide +kernel
theorem dX12_godmother_56 : decode cX12_godmother 56 = .ok (.aload_n 0, 1) := by decide +kernel
theorem dX12_godmother_57 : decode cX12_godmother 57 = .ok (.iload_n 1, 1) := by decide +kernel
theorem dX12_godmother_58 : decode cX12_godmother 58 = .ok (.invokevirtual 190, 3) := by decide +kernel
theorem dX12_godmother_61 : decode cX12_godmother 61 = .ok (.ireturn, 1) := by decide +kernel
set_option maxRecDepth 20000 in
theorem ggX12_moved_X12_its : GoodIn wsX12_moved wsX12_its := goodIn_r _ [6, 1, 20, 21, 22, 23, 24, 25, 26, 27, 28, 29, 30, 31, 32, 33, 34, 35, 36, 37, 38, 39, 40, 41, 42, 43, 44, 45, 46, 47] (by decide +kernel) (by decide +kernel)
set_option maxRecDepth 20000 in
theorem gX12_moved_X12_its : GoodIn wsX12_moved (wsV RX12 176 RX12 yX12_its wsX12_its) := goodIn_app (goodIn_of _ (by decide +kernel)) ggX12_moved_X12_its
set_option maxRecDepth 20000 in
theorem ggX12_moved_X12_moves : GoodIn wsX12_moved wsX12_moves := goodIn_r _ [10, 1, 2, 3, 4, 5, 6, 20, 21, 22, 23, 24, 25, 26, 27, 28, 29, 30, 31, 32, 33, 34, 35, 36, 37, 38, 39, 40, 41, 42, 43, 44, 45, 46, 47] (by decide +kernel) (by decide +kernel)
set_option maxRecDepth 20000 in
theorem gX12_moved_X12_moves : GoodIn wsX12_moved (wsV RX12 185 RX12 yX12_moves wsX12_moves) := goodIn_app (goodIn_of _ (by decide +kernel)) ggX12_moved_X12_moves
set_option maxRecDepth 20000 in
theorem ggX12_moved_X12_least : GoodIn wsX12_moved wsX12_least := goodIn_r _ [13] (by decide +kernel) (by decide +kernel)
set_option maxRecDepth 20000 in
theorem gX12_moved_X12_least : GoodIn wsX12_moved (va_wsS RX12 193 yX12_least wsX12_least) := goodIn_app (goodIn_of _ (by decide +kernel)) ggX12_moved_X12_least
set_option maxRecDepth 20000 in
theorem ggX12_moved_X12_greatest : GoodIn wsX12_moved wsX12_greatest := goodIn_r _ [16] (by decide +kernel) (by decide +kernel)
set_option maxRecDepth 20000 in
theorem gX12_moved_X12_greatest : GoodIn wsX12_moved (va_wsS RX12 196 yX12_greatest wsX12_greatest) := goodIn_app (goodIn_of _ (by decide +kernel)) ggX12_moved_X12_greatest
set_option maxRecDepth 20000 in
theorem ggX12_moved_X12_within : GoodIn wsX12_moved wsX12_within := goodIn_r _ [19] (by decide +kernel) (by decide +kernel)
set_option maxRecDepth 20000 in
theorem gX12_moved_X12_within : GoodIn wsX12_moved (va_wsS RX12 199 yX12_within wsX12_within) := goodIn_app (goodIn_of _ (by decide +kernel)) ggX12_moved_X12_within
theorem dX12_moved_0 : decode cX12_moved 0 = .ok (.aload_n 0, 1) := by decide +kernel
theorem dX12_moved_1 : decode cX12_moved 1 = .ok (.iload_n 1, 1) := by decide +kernel
theorem dX12_moved_2 : decode cX12_moved 2 = .ok (.iconst 1, 1) := by decide +kernel
theorem dX12_moved_3 : decode cX12_moved 3 = .ok (.invokevirtual 176, 3) := by decide +kernel
theorem dX12_moved_6 : decode cX12_moved 6 = .ok (.istore_n 2, 1) := by decide +kernel
theorem dX12_moved_7 : decode cX12_moved 7 = .ok (.aload_n 0, 1) := by decide +kernel
theorem dX12_moved_8 : decode cX12_moved 8 = .ok (.getfield 7, 3) := by decide +kernel
theorem dX12_moved_11 : decode cX12_moved 11 = .ok (.bipush 8, 2) := by decide +kernel
theorem dX12_moved_13 : decode cX12_moved 13 = .ok (.aload_n 0, 1) := by decide +kernel
theorem dX12_moved_14 : decode cX12_moved 14 = .ok (.iload_n 1, 1) := by decide +kernel
theorem dX12_moved_15 : decode cX12_moved 15 = .ok (.iconst 5, 1) := by decide +kernel
theorem dX12_moved_16 : decode cX12_moved 16 = .ok (.invokevirtual 176, 3) := by decide +kernel
theorem dX12_moved_19 : decode cX12_moved 19 = .ok (.iadd, 1) := by decide +kernel
theorem dX12_moved_20 : decode cX12_moved 20 = .ok (.iaload, 1) := by decide +kernel
theorem dX12_moved_21 : decode cX12_moved 21 = .ok (.istore_n 3, 1) := by decide +kernel
theorem dX12_moved_22 : decode cX12_moved 22 = .ok (.aload_n 0, 1) := by decide +kernel
theorem dX12_moved_23 : decode cX12_moved 23 = .ok (.iload_n 1, 1) := by decide +kernel
theorem dX12_moved_24 : decode cX12_moved 24 = .ok (.invokevirtual 185, 3) := by decide +kernel
theorem dX12_moved_27 : decode cX12_moved 27 = .ok (.istore 4, 2) := by decide +kernel
theorem dX12_moved_29 : decode cX12_moved 29 = .ok (.aload_n 0, 1) := by decide +kernel
theorem dX12_moved_30 : decode cX12_moved 30 = .ok (.getfield 7, 3) := by decide +kernel
theorem dX12_moved_33 : decode cX12_moved 33 = .ok (.bipush 7, 2) := by decide +kernel
theorem dX12_moved_35 : decode cX12_moved 35 = .ok (.iaload, 1) := by decide +kernel
theorem dX12_moved_36 : decode cX12_moved 36 = .ok (.aload_n 0, 1) := by decide +kernel
theorem dX12_moved_37 : decode cX12_moved 37 = .ok (.iload_n 1, 1) := by decide +kernel
theorem dX12_moved_38 : decode cX12_moved 38 = .ok (.iconst 5, 1) := by decide +kernel
theorem dX12_moved_39 : decode cX12_moved 39 = .ok (.invokevirtual 176, 3) := by decide +kernel
theorem dX12_moved_42 : decode cX12_moved 42 = .ok (.ishr, 1) := by decide +kernel
theorem dX12_moved_43 : decode cX12_moved 43 = .ok (.iconst 1, 1) := by decide +kernel
theorem dX12_moved_44 : decode cX12_moved 44 = .ok (.iand, 1) := by decide +kernel
theorem dX12_moved_45 : decode cX12_moved 45 = .ok (.iconst 1, 1) := by decide +kernel
theorem dX12_moved_46 : decode cX12_moved 46 = .ok (.if_icmp .ne 28, 3) := by decide +kernel
theorem dX12_moved_49 : decode cX12_moved 49 = .ok (.iload_n 2, 1) := by decide +kernel
theorem dX12_moved_50 : decode cX12_moved 50 = .ok (.iload_n 3, 1) := by decide +kernel
theorem dX12_moved_51 : decode cX12_moved 51 = .ok (.if_icmp .ge 14, 3) := by decide +kernel
theorem dX12_moved_54 : decode cX12_moved 54 = .ok (.iload_n 3, 1) := by decide +kernel
theorem dX12_moved_55 : decode cX12_moved 55 = .ok (.iload_n 2, 1) := by decide +kernel
theorem dX12_moved_56 : decode cX12_moved 56 = .ok (.iload 4, 2) := by decide +kernel
theorem dX12_moved_58 : decode cX12_moved 58 = .ok (.iadd, 1) := by decide +kernel
theorem dX12_moved_59 : decode cX12_moved 59 = .ok (.invokestatic 193, 3) := by decide +kernel
theorem dX12_moved_62 : decode cX12_moved 62 = .ok (.goto 11, 3) := by decide +kernel
theorem dX12_moved_65 : decode cX12_moved 65 = .ok (.iload_n 3, 1) := by decide +kernel
theorem dX12_moved_66 : decode cX12_moved 66 = .ok (.iload_n 2, 1) := by decide +kernel
theorem dX12_moved_67 : decode cX12_moved 67 = .ok (.iload 4, 2) := by decide +kernel
theorem dX12_moved_69 : decode cX12_moved 69 = .ok (.isub, 1) := by decide +kernel
theorem dX12_moved_70 : decode cX12_moved 70 = .ok (.invokestatic 196, 3) := by decide +kernel
theorem dX12_moved_73 : decode cX12_moved 73 = .ok (.ireturn, 1) := by decide +kernel
theorem dX12_moved_74 : decode cX12_moved 74 = .ok (.iload_n 2, 1) := by decide +kernel
theorem dX12_moved_75 : decode cX12_moved 75 = .ok (.iload_n 3, 1) := by decide +kernel
theorem dX12_moved_76 : decode cX12_moved 76 = .ok (.if_icmp .lt 10, 3) := by decide +kernel
theorem dX12_moved_79 : decode cX12_moved 79 = .ok (.iload_n 2, 1) := by decide +kernel
theorem dX12_moved_80 : decode cX12_moved 80 = .ok (.iload 4, 2) := by decide +kernel
theorem dX12_moved_82 : decode cX12_moved 82 = .ok (.iadd, 1) := by decide +kernel
theorem dX12_moved_83 : decode cX12_moved 83 = .ok (.goto 7, 3) := by decide +kernel
theorem dX12_moved_86 : decode cX12_moved 86 = .ok (.iload_n 2, 1) := by decide +kernel
theorem dX12_moved_87 : decode cX12_moved 87 = .ok (.iload 4, 2) := by decide +kernel
theorem dX12_moved_89 : decode cX12_moved 89 = .ok (.isub, 1) := by decide +kernel
theorem dX12_moved_90 : decode cX12_moved 90 = .ok (.invokestatic 199, 3) := by decide +kernel
theorem dX12_moved_93 : decode cX12_moved 93 = .ok (.ireturn, 1) := by decide +kernel
set_option maxRecDepth 20000 in
theorem ggX12_goesOn_X12_isYoung : GoodIn wsX12_goesOn wsX12_isYoung := goodIn_r _ [6, 7, 8, 9, 5, 10, 1, 11, 12, 13, 14, 32, 33, 34, 35, 36, 37, 38, 39, 40, 41, 42, 43, 44, 45, 46, 47, 48, 49, 50, 51, 52, 53, 54, 55, 56, 57, 58, 59] (by decide +kernel) (by decide +kernel)
set_option maxRecDepth 20000 in
theorem gX12_goesOn_X12_isYoung : GoodIn wsX12_goesOn (wsV RX12 202 RX12 yX12_isYoung wsX12_isYoung) := goodIn_app (goodIn_of _ (by decide +kernel)) ggX12_goesOn_X12_isYoung
set_option maxRecDepth 20000 in
theorem ggX12_goesOn_X12_moved : GoodIn wsX12_goesOn wsX12_moved := goodIn_r _ [18, 1, 7, 8, 9, 5, 10, 19, 20, 21, 22, 23, 24, 25, 26, 27, 28, 29, 30, 31, 32, 33, 34, 35, 36, 37, 38, 39, 40, 41, 42, 43, 44, 45, 46, 47, 48, 49, 50, 51, 52, 53, 54, 55, 56, 57, 58, 59] (by decide +kernel) (by decide +kernel)
set_option maxRecDepth 20000 in
theorem gX12_goesOn_X12_moved : GoodIn wsX12_goesOn (wsV RX12 205 RX12 yX12_moved wsX12_moved) := goodIn_app (goodIn_of _ (by decide +kernel)) ggX12_goesOn_X12_moved
set_option maxRecDepth 20000 in
theorem ggX12_goesOn_X12_its : GoodIn wsX12_goesOn wsX12_its := goodIn_r _ [10, 1, 32, 33, 34, 35, 36, 37, 38, 39, 40, 41, 42, 43, 44, 45, 46, 47, 48, 49, 50, 51, 52, 53, 54, 55, 56, 57, 58, 59] (by decide +kernel) (by decide +kernel)
set_option maxRecDepth 20000 in
theorem gX12_goesOn_X12_its : GoodIn wsX12_goesOn (wsV RX12 176 RX12 yX12_its wsX12_its) := goodIn_app (goodIn_of _ (by decide +kernel)) ggX12_goesOn_X12_its
set_option maxRecDepth 20000 in
theorem ggX12_goesOn_X12_least : GoodIn wsX12_goesOn wsX12_least := goodIn_r _ [25] (by decide +kernel) (by decide +kernel)
set_option maxRecDepth 20000 in
theorem gX12_goesOn_X12_least : GoodIn wsX12_goesOn (va_wsS RX12 193 yX12_least wsX12_least) := goodIn_app (goodIn_of _ (by decide +kernel)) ggX12_goesOn_X12_least
theorem dX12_goesOn_0 : decode cX12_goesOn 0 = .ok (.iconst 0, 1) := by decide +kernel
theorem dX12_goesOn_1 : decode cX12_goesOn 1 = .ok (.istore_n 1, 1) := by decide +kernel
theorem dX12_goesOn_2 : decode cX12_goesOn 2 = .ok (.iload_n 1, 1) := by decide +kernel
theorem dX12_goesOn_3 : decode cX12_goesOn 3 = .ok (.aload_n 0, 1) := by decide +kernel
theorem dX12_goesOn_4 : decode cX12_goesOn 4 = .ok (.getfield 7, 3) := by decide +kernel
theorem dX12_goesOn_7 : decode cX12_goesOn 7 = .ok (.iconst 0, 1) := by decide +kernel
theorem dX12_goesOn_8 : decode cX12_goesOn 8 = .ok (.iaload, 1) := by decide +kernel
theorem dX12_goesOn_9 : decode cX12_goesOn 9 = .ok (.if_icmp .ge 45, 3) := by decide +kernel
theorem dX12_goesOn_12 : decode cX12_goesOn 12 = .ok (.aload_n 0, 1) := by decide +kernel
theorem dX12_goesOn_13 : decode cX12_goesOn 13 = .ok (.getfield 7, 3) := by decide +kernel
theorem dX12_goesOn_16 : decode cX12_goesOn 16 = .ok (.bipush 16, 2) := by decide +kernel
theorem dX12_goesOn_18 : decode cX12_goesOn 18 = .ok (.bipush 6, 2) := by decide +kernel
theorem dX12_goesOn_20 : decode cX12_goesOn 20 = .ok (.iload_n 1, 1) := by decide +kernel
theorem dX12_goesOn_21 : decode cX12_goesOn 21 = .ok (.imul, 1) := by decide +kernel
theorem dX12_goesOn_22 : decode cX12_goesOn 22 = .ok (.iadd, 1) := by decide +kernel
theorem dX12_goesOn_23 : decode cX12_goesOn 23 = .ok (.iconst 1, 1) := by decide +kernel
theorem dX12_goesOn_24 : decode cX12_goesOn 24 = .ok (.iadd, 1) := by decide +kernel
theorem dX12_goesOn_25 : decode cX12_goesOn 25 = .ok (.aload_n 0, 1) := by decide +kernel
theorem dX12_goesOn_26 : decode cX12_goesOn 26 = .ok (.iload_n 1, 1) := by decide +kernel
theorem dX12_goesOn_27 : decode cX12_goesOn 27 = .ok (.invokevirtual 202, 3) := by decide +kernel
theorem dX12_goesOn_30 : decode cX12_goesOn 30 = .ok (.ifCond .eq 11, 3) := by decide +kernel
theorem dX12_goesOn_33 : decode cX12_goesOn 33 = .ok (.aload_n 0, 1) := by decide +kernel
theorem dX12_goesOn_34 : decode cX12_goesOn 34 = .ok (.iload_n 1, 1) := by decide +kernel
theorem dX12_goesOn_35 : decode cX12_goesOn 35 = .ok (.invokevirtual 205, 3) := by decide +kernel
theorem dX12_goesOn_38 : decode cX12_goesOn 38 = .ok (.goto 9, 3) := by decide +kernel
theorem dX12_goesOn_41 : decode cX12_goesOn 41 = .ok (.aload_n 0, 1) := by decide +kernel
theorem dX12_goesOn_42 : decode cX12_goesOn 42 = .ok (.iload_n 1, 1) := by decide +kernel
theorem dX12_goesOn_43 : decode cX12_goesOn 43 = .ok (.iconst 1, 1) := by decide +kernel
theorem dX12_goesOn_44 : decode cX12_goesOn 44 = .ok (.invokevirtual 176, 3) := by decide +kernel
theorem dX12_goesOn_47 : decode cX12_goesOn 47 = .ok (.iastore, 1) := by decide +kernel
theorem dX12_goesOn_48 : decode cX12_goesOn 48 = .ok (.iinc 1 1, 3) := by decide +kernel
theorem dX12_goesOn_51 : decode cX12_goesOn 51 = .ok (.goto (-49), 3) := by decide +kernel
theorem dX12_goesOn_54 : decode cX12_goesOn 54 = .ok (.iconst 0, 1) := by decide +kernel
theorem dX12_goesOn_55 : decode cX12_goesOn 55 = .ok (.istore_n 1, 1) := by decide +kernel
theorem dX12_goesOn_56 : decode cX12_goesOn 56 = .ok (.iload_n 1, 1) := by decide +kernel
theorem dX12_goesOn_57 : decode cX12_goesOn 57 = .ok (.aload_n 0, 1) := by decide +kernel
theorem dX12_goesOn_58 : decode cX12_goesOn 58 = .ok (.getfield 7, 3) := by decide +kernel
theorem dX12_goesOn_61 : decode cX12_goesOn 61 = .ok (.iconst 0, 1) := by decide +kernel
theorem dX12_goesOn_62 : decode cX12_goesOn 62 = .ok (.iaload, 1) := by decide +kernel
theorem dX12_goesOn_63 : decode cX12_goesOn 63 = .ok (.if_icmp .ge 36, 3) := by decide +kernel
theorem dX12_goesOn_66 : decode cX12_goesOn 66 = .ok (.aload_n 0, 1) := by decide +kernel
theorem dX12_goesOn_67 : decode cX12_goesOn 67 = .ok (.getfield 7, 3) := by decide +kernel
theorem dX12_goesOn_70 : decode cX12_goesOn 70 = .ok (.bipush 16, 2) := by decide +kernel
theorem dX12_goesOn_72 : decode cX12_goesOn 72 = .ok (.bipush 6, 2) := by decide +kernel
theorem dX12_goesOn_74 : decode cX12_goesOn 74 = .ok (.iload_n 1, 1) := by decide +kernel
theorem dX12_goesOn_75 : decode cX12_goesOn 75 = .ok (.imul, 1) := by decide +kernel
theorem dX12_goesOn_76 : decode cX12_goesOn 76 = .ok (.iadd, 1) := by decide +kernel
theorem dX12_goesOn_77 : decode cX12_goesOn 77 = .ok (.iconst 4, 1) := by decide +kernel
theorem dX12_goesOn_78 : decode cX12_goesOn 78 = .ok (.iadd, 1) := by decide +kernel
theorem dX12_goesOn_79 : decode cX12_goesOn 79 = .ok (.bipush 99, 2) := by decide +kernel
theorem dX12_goesOn_81 : decode cX12_goesOn 81 = .ok (.aload_n 0, 1) := by decide +kernel
theorem dX12_goesOn_82 : decode cX12_goesOn 82 = .ok (.iload_n 1, 1) := by decide +kernel
theorem dX12_goesOn_83 : decode cX12_goesOn 83 = .ok (.iconst 4, 1) := by decide +kernel
theorem dX12_goesOn_84 : decode cX12_goesOn 84 = .ok (.invokevirtual 176, 3) := by decide +kernel
theorem dX12_goesOn_87 : decode cX12_goesOn 87 = .ok (.iconst 1, 1) := by decide +kernel
theorem dX12_goesOn_88 : decode cX12_goesOn 88 = .ok (.iadd, 1) := by decide +kernel
theorem dX12_goesOn_89 : decode cX12_goesOn 89 = .ok (.invokestatic 193, 3) := by decide +kernel
theorem dX12_goesOn_92 : decode cX12_goesOn 92 = .ok (.iastore, 1) := by decide +kernel
theorem dX12_goesOn_93 : decode cX12_goesOn 93 = .ok (.iinc 1 1, 3) := by decide +kernel
theorem dX12_goesOn_96 : decode cX12_goesOn 96 = .ok (.goto (-40), 3) := by decide +kernel
theorem dX12_goesOn_99 : decode cX12_goesOn 99 = .ok (.aload_n 0, 1) := by decide +kernel
theorem dX12_goesOn_100 : decode cX12_goesOn 100 = .ok (.getfield 7, 3) := by decide +kernel
theorem dX12_goesOn_103 : decode cX12_goesOn 103 = .ok (.iconst 1, 1) := by decide +kernel
theorem dX12_goesOn_104 : decode cX12_goesOn 104 = .ok (.dup2, 1) := by decide +kernel
theorem dX12_goesOn_105 : decode cX12_goesOn 105 = .ok (.iaload, 1) := by decide +kernel
theorem dX12_goesOn_106 : decode cX12_goesOn 106 = .ok (.iconst 1, 1) := by decide +kernel
theorem dX12_goesOn_107 : decode cX12_goesOn 107 = .ok (.iadd, 1) := by decide +kernel
theorem dX12_goesOn_108 : decode cX12_goesOn 108 = .ok (.iastore, 1) := by decide +kernel
theorem dX12_goesOn_109 : decode cX12_goesOn 109 = .ok (.return_, 1) := by decide +kernel
set_option maxRecDepth 20000 in
theorem ggX12_goes_X12_goesOn : GoodIn wsX12_goes wsX12_goesOn := goodIn_r _ [5, 6, 7, 8, 9, 4, 10, 11, 12, 13, 14, 15, 16, 17, 18, 19, 20, 21, 22, 23, 24, 25, 26, 27, 28, 29, 30, 31, 32, 33, 34, 35, 36, 37, 38, 39, 40, 41, 42, 43, 44, 45, 46, 47, 48, 49, 50, 51, 52, 53, 54, 55, 56, 57, 58, 59, 60, 61, 62, 63] (by decide +kernel) (by decide +kernel)
set_option maxRecDepth 20000 in
theorem gX12_goes_X12_goesOn : GoodIn wsX12_goes (wsV RX12 208 RX12 yX12_goesOn wsX12_goesOn) := goodIn_app (goodIn_of _ (by decide +kernel)) ggX12_goes_X12_goesOn
theorem dX12_goes_0 : decode cX12_goes 0 = .ok (.iconst 0, 1) := by decide +kernel
theorem dX12_goes_1 : decode cX12_goes 1 = .ok (.istore_n 2, 1) := by decide +kernel
theorem dX12_goes_2 : decode cX12_goes 2 = .ok (.iload_n 2, 1) := by decide +kernel
theorem dX12_goes_3 : decode cX12_goes 3 = .ok (.iload_n 1, 1) := by decide +kernel
theorem dX12_goes_4 : decode cX12_goes 4 = .ok (.if_icmp .ge 13, 3) := by decide +kernel
theorem dX12_goes_7 : decode cX12_goes 7 = .ok (.aload_n 0, 1) := by decide +kernel
theorem dX12_goes_8 : decode cX12_goes 8 = .ok (.invokevirtual 208, 3) := by decide +kernel
theorem dX12_goes_11 : decode cX12_goes 11 = .ok (.iinc 2 1, 3) := by decide +kernel
theorem dX12_goes_14 : decode cX12_goes 14 = .ok (.goto (-12), 3) := by decide +kernel
theorem dX12_goes_17 : decode cX12_goes 17 = .ok (.return_, 1) := by decide +kernel
set_option maxRecDepth 20000 in
theorem ggX12_traits_X12_its : GoodIn wsX12_traits wsX12_its := goodIn_r _ [6, 1, 7, 8, 9, 10, 11, 12, 13, 14, 15, 16, 17, 18, 19, 20, 21, 22, 23, 24, 25, 26, 27, 28, 29, 30, 31, 32, 33, 34] (by decide +kernel) (by decide +kernel)
set_option maxRecDepth 20000 in
theorem gX12_traits_X12_its : GoodIn wsX12_traits (wsV RX12 176 RX12 yX12_its wsX12_its) := goodIn_app (goodIn_of _ (by decide +kernel)) ggX12_traits_X12_its
theorem dX12_traits_0 : decode cX12_traits 0 = .ok (.iconst 0, 1) := by decide +kernel
theorem dX12_traits_1 : decode cX12_traits 1 = .ok (.istore_n 1, 1) := by decide +kernel
theorem dX12_traits_2 : decode cX12_traits 2 = .ok (.iconst 0, 1) := by decide +kernel
theorem dX12_traits_3 : decode cX12_traits 3 = .ok (.istore_n 2, 1) := by decide +kernel
theorem dX12_traits_4 : decode cX12_traits 4 = .ok (.iload_n 2, 1) := by decide +kernel
theorem dX12_traits_5 : decode cX12_traits 5 = .ok (.aload_n 0, 1) := by decide +kernel
theorem dX12_traits_6 : decode cX12_traits 6 = .ok (.getfield 7, 3) := by decide +kernel
theorem dX12_traits_9 : decode cX12_traits 9 = .ok (.iconst 0, 1) := by decide +kernel
theorem dX12_traits_10 : decode cX12_traits 10 = .ok (.iaload, 1) := by decide +kernel
theorem dX12_traits_11 : decode cX12_traits 11 = .ok (.if_icmp .ge 18, 3) := by decide +kernel
theorem dX12_traits_14 : decode cX12_traits 14 = .ok (.iload_n 1, 1) := by decide +kernel
theorem dX12_traits_15 : decode cX12_traits 15 = .ok (.aload_n 0, 1) := by decide +kernel
theorem dX12_traits_16 : decode cX12_traits 16 = .ok (.iload_n 2, 1) := by decide +kernel
theorem dX12_traits_17 : decode cX12_traits 17 = .ok (.iconst 1, 1) := by decide +kernel
theorem dX12_traits_18 : decode cX12_traits 18 = .ok (.invokevirtual 176, 3) := by decide +kernel
theorem dX12_traits_21 : decode cX12_traits 21 = .ok (.iadd, 1) := by decide +kernel
theorem dX12_traits_22 : decode cX12_traits 22 = .ok (.istore_n 1, 1) := by decide +kernel
theorem dX12_traits_23 : decode cX12_traits 23 = .ok (.iinc 2 1, 3) := by decide +kernel
theorem dX12_traits_26 : decode cX12_traits 26 = .ok (.goto (-22), 3) := by decide +kernel
theorem dX12_traits_29 : decode cX12_traits 29 = .ok (.iload_n 1, 1) := by decide +kernel
theorem dX12_traits_30 : decode cX12_traits 30 = .ok (.ireturn, 1) := by decide +kernel
set_option maxRecDepth 20000 in
theorem ggX12_farNow_X12_its : GoodIn wsX12_farNow wsX12_its := goodIn_r _ [5, 6, 10, 11, 12, 13, 14, 15, 16, 17, 18, 19, 20, 21, 22, 23, 24, 25, 26, 27, 28, 29, 30, 31, 32, 33, 34, 35, 36, 37] (by decide +kernel) (by decide +kernel)
set_option maxRecDepth 20000 in
theorem gX12_farNow_X12_its : GoodIn wsX12_farNow (wsV RX12 176 RX12 yX12_its wsX12_its) := goodIn_app (goodIn_of _ (by decide +kernel)) ggX12_farNow_X12_its
set_option maxRecDepth 20000 in
theorem ggX12_farNow_X12_apart : GoodIn wsX12_farNow wsX12_apart := goodIn_r _ [9] (by decide +kernel) (by decide +kernel)
set_option maxRecDepth 20000 in
theorem gX12_farNow_X12_apart : GoodIn wsX12_farNow (va_wsS RX12 211 yX12_apart wsX12_apart) := goodIn_app (goodIn_of _ (by decide +kernel)) ggX12_farNow_X12_apart
theorem dX12_farNow_0 : decode cX12_farNow 0 = .ok (.aload_n 0, 1) := by decide +kernel
theorem dX12_farNow_1 : decode cX12_farNow 1 = .ok (.iload_n 1, 1) := by decide +kernel
theorem dX12_farNow_2 : decode cX12_farNow 2 = .ok (.iconst 1, 1) := by decide +kernel
theorem dX12_farNow_3 : decode cX12_farNow 3 = .ok (.invokevirtual 176, 3) := by decide +kernel
theorem dX12_farNow_6 : decode cX12_farNow 6 = .ok (.aload_n 0, 1) := by decide +kernel
theorem dX12_farNow_7 : decode cX12_farNow 7 = .ok (.iload_n 1, 1) := by decide +kernel
theorem dX12_farNow_8 : decode cX12_farNow 8 = .ok (.iconst 3, 1) := by decide +kernel
theorem dX12_farNow_9 : decode cX12_farNow 9 = .ok (.invokevirtual 176, 3) := by decide +kernel
theorem dX12_farNow_12 : decode cX12_farNow 12 = .ok (.invokestatic 211, 3) := by decide +kernel
theorem dX12_farNow_15 : decode cX12_farNow 15 = .ok (.ireturn, 1) := by decide +kernel
set_option maxRecDepth 20000 in
theorem ggX12_farAll_X12_farNow : GoodIn wsX12_farAll wsX12_farNow := goodIn_r _ [6, 7, 8, 9, 5, 10, 1, 11, 12, 13, 14, 15, 16, 17, 18, 19, 20, 21, 22, 23, 24, 25, 26, 27, 28, 29, 30, 31, 32, 33, 34, 35, 36, 37, 38, 39, 40, 41] (by decide +kernel) (by decide +kernel)
set_option maxRecDepth 20000 in
theorem gX12_farAll_X12_farNow : GoodIn wsX12_farAll (wsV RX12 214 RX12 yX12_farNow wsX12_farNow) := goodIn_app (goodIn_of _ (by decide +kernel)) ggX12_farAll_X12_farNow
theorem dX12_farAll_0 : decode cX12_farAll 0 = .ok (.iconst 0, 1) := by decide +kernel
theorem dX12_farAll_1 : decode cX12_farAll 1 = .ok (.istore_n 1, 1) := by decide +kernel
theorem dX12_farAll_2 : decode cX12_farAll 2 = .ok (.iconst 0, 1) := by decide +kernel
theorem dX12_farAll_3 : decode cX12_farAll 3 = .ok (.istore_n 2, 1) := by decide +kernel
theorem dX12_farAll_4 : decode cX12_farAll 4 = .ok (.iload_n 2, 1) := by decide +kernel
theorem dX12_farAll_5 : decode cX12_farAll 5 = .ok (.aload_n 0, 1) := by decide +kernel
theorem dX12_farAll_6 : decode cX12_farAll 6 = .ok (.getfield 7, 3) := by decide +kernel
theorem dX12_farAll_9 : decode cX12_farAll 9 = .ok (.iconst 0, 1) := by decide +kernel
theorem dX12_farAll_10 : decode cX12_farAll 10 = .ok (.iaload, 1) := by decide +kernel
theorem dX12_farAll_11 : decode cX12_farAll 11 = .ok (.if_icmp .ge 17, 3) := by decide +kernel
theorem dX12_farAll_14 : decode cX12_farAll 14 = .ok (.iload_n 1, 1) := by decide +kernel
theorem dX12_farAll_15 : decode cX12_farAll 15 = .ok (.aload_n 0, 1) := by decide +kernel
theorem dX12_farAll_16 : decode cX12_farAll 16 = .ok (.iload_n 2, 1) := by decide +kernel
theorem dX12_farAll_17 : decode cX12_farAll 17 = .ok (.invokevirtual 214, 3) := by decide +kernel
theorem dX12_farAll_20 : decode cX12_farAll 20 = .ok (.iadd, 1) := by decide +kernel
theorem dX12_farAll_21 : decode cX12_farAll 21 = .ok (.istore_n 1, 1) := by decide +kernel
theorem dX12_farAll_22 : decode cX12_farAll 22 = .ok (.iinc 2 1, 3) := by decide +kernel
theorem dX12_farAll_25 : decode cX12_farAll 25 = .ok (.goto (-21), 3) := by decide +kernel
theorem dX12_farAll_28 : decode cX12_farAll 28 = .ok (.iload_n 1, 1) := by decide +kernel
theorem dX12_farAll_29 : decode cX12_farAll 29 = .ok (.ireturn, 1) := by decide +kernel
set_option maxRecDepth 20000 in
theorem ggX12_years_X12_isIn : GoodIn wsX12_years wsX12_isIn := goodIn_r _ [5] (by decide +kernel) (by decide +kernel)
set_option maxRecDepth 20000 in
theorem gX12_years_X12_isIn : GoodIn wsX12_years (va_wsS RX12 60 yX12_isIn wsX12_isIn) := goodIn_app (goodIn_of _ (by decide +kernel)) ggX12_years_X12_isIn
set_option maxRecDepth 20000 in
theorem ggX12_years_X12_goes : GoodIn wsX12_years wsX12_goes := goodIn_r _ [9, 10, 11, 12, 4, 13, 14, 15, 16, 17, 18, 19, 20, 21, 22, 23, 24, 25, 26, 27, 28, 29, 30, 31, 32, 33, 34, 35, 36, 37, 38, 39, 40, 41, 42, 43, 48, 49, 50, 51, 52, 53, 54, 55, 56, 57, 58, 59, 60, 61, 62, 63, 64, 65, 66, 67, 68, 69, 70, 71, 72, 73, 74, 75] (by decide +kernel) (by decide +kernel)
set_option maxRecDepth 20000 in
theorem gX12_years_X12_goes : GoodIn wsX12_years (wsV RX12 219 RX12 yX12_goes wsX12_goes) := goodIn_app (goodIn_of _ (by decide +kernel)) ggX12_years_X12_goes
set_option maxRecDepth 20000 in
theorem ggX12_years_X12_traits : GoodIn wsX12_years wsX12_traits := goodIn_r _ [47, 14, 19, 20, 21, 4, 22, 48, 49, 50, 51, 52, 53, 54, 55, 56, 57, 58, 59, 60, 61, 62, 63, 64, 65, 66, 67, 68, 69, 70, 71, 72, 73, 74, 75] (by decide +kernel) (by decide +kernel)
set_option maxRecDepth 20000 in
theorem gX12_years_X12_traits : GoodIn wsX12_years (wsV RX12 222 RX12 yX12_traits wsX12_traits) := goodIn_app (goodIn_of _ (by decide +kernel)) ggX12_years_X12_traits
theorem dX12_years_0 : decode cX12_years 0 = .ok (.iload_n 1, 1) := by decide +kernel
theorem dX12_years_1 : decode cX12_years 1 = .ok (.i2l, 1) := by decide +kernel
theorem dX12_years_2 : decode cX12_years 2 = .ok (.lconst 1, 1) := by decide +kernel
theorem dX12_years_3 : decode cX12_years 3 = .ok (.ldc2_w 217, 3) := by decide +kernel
theorem dX12_years_6 : decode cX12_years 6 = .ok (.invokestatic 60, 3) := by decide +kernel
theorem dX12_years_9 : decode cX12_years 9 = .ok (.ifCond .ne 5, 3) := by decide +kernel
theorem dX12_years_12 : decode cX12_years 12 = .ok (.iconst (-1), 1) := by decide +kernel
theorem dX12_years_13 : decode cX12_years 13 = .ok (.ireturn, 1) := by decide +kernel
theorem dX12_years_14 : decode cX12_years 14 = .ok (.aload_n 0, 1) := by decide +kernel
theorem dX12_years_15 : decode cX12_years 15 = .ok (.iload_n 1, 1) := by decide +kernel
theorem dX12_years_16 : decode cX12_years 16 = .ok (.invokevirtual 219, 3) := by decide +kernel
theorem dX12_years_19 : decode cX12_years 19 = .ok (.aload_n 0, 1) := by decide +kernel
theorem dX12_years_20 : decode cX12_years 20 = .ok (.invokevirtual 222, 3) := by decide +kernel
theorem dX12_years_23 : decode cX12_years 23 = .ok (.ireturn, 1) := by decide +kernel
set_option maxRecDepth 20000 in
theorem ggX12_seed_X12_lets : GoodIn wsX12_seed wsX12_lets := goodIn_r _ [5, 6, 7, 8, 9, 10, 11, 12, 13, 14, 15, 16, 17, 18, 19, 20, 21, 22, 23, 24, 25, 26, 27, 28, 29, 30, 31, 32, 33, 34] (by decide +kernel) (by decide +kernel)
set_option maxRecDepth 20000 in
theorem gX12_seed_X12_lets : GoodIn wsX12_seed (wsV RX12 167 RX12 yX12_lets wsX12_lets) := goodIn_app (goodIn_of _ (by decide +kernel)) ggX12_seed_X12_lets
theorem dX12_seed_0 : decode cX12_seed 0 = .ok (.aload_n 0, 1) := by decide +kernel
theorem dX12_seed_1 : decode cX12_seed 1 = .ok (.iconst 2, 1) := by decide +kernel
theorem dX12_seed_2 : decode cX12_seed 2 = .ok (.iload_n 1, 1) := by decide +kernel
theorem dX12_seed_3 : decode cX12_seed 3 = .ok (.invokevirtual 167, 3) := by decide +kernel
theorem dX12_seed_6 : decode cX12_seed 6 = .ok (.ireturn, 1) := by decide +kernel
theorem dX12_drawn_0 : decode cX12_drawn 0 = .ok (.aload_n 0, 1) := by decide +kernel
theorem dX12_drawn_1 : decode cX12_drawn 1 = .ok (.getfield 7, 3) := by decide +kernel
theorem dX12_drawn_4 : decode cX12_drawn 4 = .ok (.iconst 2, 1) := by decide +kernel
theorem dX12_drawn_5 : decode cX12_drawn 5 = .ok (.aload_n 0, 1) := by decide +kernel
theorem dX12_drawn_6 : decode cX12_drawn 6 = .ok (.getfield 7, 3) := by decide +kernel
theorem dX12_drawn_9 : decode cX12_drawn 9 = .ok (.iconst 2, 1) := by decide +kernel
theorem dX12_drawn_10 : decode cX12_drawn 10 = .ok (.iaload, 1) := by decide +kernel
theorem dX12_drawn_11 : decode cX12_drawn 11 = .ok (.ldc 225, 2) := by decide +kernel
theorem dX12_drawn_13 : decode cX12_drawn 13 = .ok (.imul, 1) := by decide +kernel
theorem dX12_drawn_14 : decode cX12_drawn 14 = .ok (.sipush 12345, 3) := by decide +kernel
