/-! the law's words stand in the tables -/
def allT : List (List Cond) := [k2_sels lw_privs, tables_1_1, tables_1_2, tables_1_3, tables_1_4, tables_1_5, tables_1_6, tables_1_7]
theorem allT_in : ∀ ws ∈ allT, ∀ w ∈ ws, w ∈ lw_tbl := by
  exact List.forall_mem_cons.mpr ⟨fun w h => List.mem_append_left _ h, List.forall_mem_cons.mpr ⟨fun w h => List.mem_append_right _ (List.mem_append_left _ h), List.forall_mem_cons.mpr ⟨fun w h => List.mem_append_right _ (List.mem_append_right _ (List.mem_append_left _ h)), List.forall_mem_cons.mpr ⟨fun w h => List.mem_append_right _ (List.mem_append_right _ (List.mem_append_right _ (List.mem_append_left _ h))), List.forall_mem_cons.mpr ⟨fun w h => List.mem_append_right _ (List.mem_append_right _ (List.mem_append_right _ (List.mem_append_right _ (List.mem_append_left _ h)))), List.forall_mem_cons.mpr ⟨fun w h => List.mem_append_right _ (List.mem_append_right _ (List.mem_append_right _ (List.mem_append_right _ (List.mem_append_right _ (List.mem_append_left _ h))))), List.forall_mem_cons.mpr ⟨fun w h => List.mem_append_right _ (List.mem_append_right _ (List.mem_append_right _ (List.mem_append_right _ (List.mem_append_right _ (List.mem_append_right _ (List.mem_append_left _ h)))))), List.forall_mem_cons.mpr ⟨fun w h => List.mem_append_right _ (List.mem_append_right _ (List.mem_append_right _ (List.mem_append_right _ (List.mem_append_right _ (List.mem_append_right _ (List.mem_append_right _ (h))))))), fun _ h => absurd h List.not_mem_nil⟩⟩⟩⟩⟩⟩⟩⟩
theorem inT_of {ws : List Cond} (ps : List (Nat × Nat)) (hp : ws = ps.filterMap (fun q => (allT.getD q.1 [])[q.2]?)) : ∀ w ∈ ws, w ∈ lw_tbl := by
  intro w hw
  rw [hp] at hw
  obtain ⟨q, -, hq⟩ := List.mem_filterMap.mp hw
  have h1 : w ∈ allT.getD q.1 [] := List.mem_of_getElem? hq
  rw [List.getD_eq_getElem?_getD] at h1
  cases hx : allT[q.1]? with
  | none => rw [hx] at h1; exact absurd h1 List.not_mem_nil
  | some ws => rw [hx] at h1; exact allT_in ws (List.mem_of_getElem? hx) w h1
theorem inL_ap {big a b : List Cond} (ha : ∀ w ∈ a, w ∈ big) (hb : ∀ w ∈ b, w ∈ big) : ∀ w ∈ a ++ b, w ∈ big := fun w h => (List.mem_append.mp h).elim (ha w) (hb w)
set_option maxRecDepth 100000 in
theorem in_wsL_law_r1 : ∀ w ∈ wsL_law_r1, w ∈ lw_tbl := inT_of [(1, 20), (1, 21), (1, 1), (5, 61), (5, 62), (1, 13), (7, 125), (1, 22), (1, 23), (1, 24), (1, 25), (1, 26), (1, 27), (1, 28), (1, 30), (1, 2), (1, 36), (1, 37), (1, 3), (1, 43), (1, 44), (1, 4), (1, 50), (1, 51)] rfl
set_option maxRecDepth 100000 in
theorem in_wsL_law_r2 : ∀ w ∈ wsL_law_r2, w ∈ lw_tbl := inT_of [(1, 5), (1, 57), (1, 58), (1, 6), (1, 64), (1, 65), (1, 7), (1, 71), (1, 72), (1, 8), (2, 4), (2, 5), (2, 6), (1, 158), (1, 79), (1, 9), (2, 7), (1, 160), (1, 161), (1, 10), (2, 8), (1, 187), (1, 188), (1, 11)] rfl
set_option maxRecDepth 100000 in
theorem in_wsL_law_r3 : ∀ w ∈ wsL_law_r3, w ∈ lw_tbl := inT_of [(2, 9), (1, 213), (1, 214), (1, 12), (2, 10), (1, 115), (2, 11), (2, 12), (2, 13), (1, 31), (1, 32), (1, 33), (1, 34), (1, 38), (1, 39), (1, 40), (1, 41), (1, 45), (1, 46), (1, 47), (1, 48), (1, 52), (1, 53), (1, 54)] rfl
set_option maxRecDepth 100000 in
theorem in_wsL_law_r4 : ∀ w ∈ wsL_law_r4, w ∈ lw_tbl := inT_of [(1, 55), (1, 59), (1, 60), (1, 61), (1, 62), (1, 66), (1, 67), (1, 68), (1, 69), (1, 73), (1, 74), (1, 75), (1, 76), (1, 140), (1, 122), (1, 127), (1, 77), (1, 139), (1, 137), (1, 80), (1, 81), (1, 82), (1, 83), (1, 116)] rfl
set_option maxRecDepth 100000 in
theorem in_wsL_law_r5 : ∀ w ∈ wsL_law_r5, w ∈ lw_tbl := inT_of [(1, 117), (1, 118), (1, 119), (1, 130), (1, 133), (1, 135), (1, 159), (1, 162), (1, 163), (1, 164), (1, 165), (1, 186), (1, 168), (1, 189), (1, 190), (1, 191), (1, 192), (1, 193), (1, 194), (1, 195), (1, 196), (1, 197), (1, 212), (1, 198)] rfl
set_option maxRecDepth 100000 in
theorem in_wsL_law_r6 : ∀ w ∈ wsL_law_r6, w ∈ lw_tbl := inT_of [(1, 215), (1, 216), (1, 217), (1, 218), (1, 219), (5, 63), (5, 64), (5, 65), (5, 66), (5, 71), (5, 72), (5, 73), (5, 74), (5, 76), (5, 83), (5, 84), (5, 85), (5, 87), (5, 88), (5, 89), (5, 90), (5, 91), (5, 92), (5, 93)] rfl
set_option maxRecDepth 100000 in
theorem in_wsL_law_r7 : ∀ w ∈ wsL_law_r7, w ∈ lw_tbl := inT_of [(5, 67), (5, 69), (0, 28), (5, 70), (2, 41), (2, 42), (2, 43), (2, 44), (1, 167), (2, 45), (2, 46), (2, 47), (2, 48), (1, 166), (2, 50), (2, 51), (5, 156), (5, 157), (5, 158), (5, 159), (5, 160), (5, 77), (5, 164), (5, 161)] rfl
set_option maxRecDepth 100000 in
theorem in_wsL_law_r8 : ∀ w ∈ wsL_law_r8, w ∈ lw_tbl := inT_of [(5, 162), (5, 163), (2, 52), (2, 53), (2, 54), (2, 55), (1, 138), (2, 14), (1, 134), (2, 56), (2, 57), (2, 58), (2, 59), (2, 60), (1, 170), (1, 172), (1, 171), (2, 61), (2, 63), (0, 0), (2, 64), (1, 169), (2, 65), (2, 67)] rfl
set_option maxRecDepth 100000 in
theorem in_wsL_law_r9 : ∀ w ∈ wsL_law_r9, w ∈ lw_tbl := inT_of [(0, 1), (2, 68), (2, 69), (2, 71), (0, 2), (2, 72), (2, 73), (2, 75), (0, 3), (2, 76), (1, 126), (1, 128), (1, 131), (2, 77), (2, 79), (0, 4), (2, 80), (2, 82), (2, 84), (0, 5), (2, 85), (2, 86), (2, 87), (2, 88)] rfl
set_option maxRecDepth 100000 in
theorem in_wsL_law_r10 : ∀ w ∈ wsL_law_r10, w ∈ lw_tbl := inT_of [(1, 14), (2, 89), (7, 139), (2, 90), (2, 91), (2, 92), (2, 93), (2, 94), (7, 140), (2, 96), (2, 97), (2, 98), (2, 99), (2, 100), (2, 101), (2, 102), (2, 103), (2, 104), (2, 105), (1, 15), (2, 106), (2, 107), (2, 108), (2, 109)] rfl
set_option maxRecDepth 100000 in
theorem in_wsL_law_r11 : ∀ w ∈ wsL_law_r11, w ∈ lw_tbl := inT_of [(2, 110), (2, 112), (2, 113), (1, 16), (2, 114), (2, 115), (2, 116), (1, 17), (2, 117), (2, 118), (2, 119), (2, 120), (2, 121), (2, 122), (2, 123), (2, 124), (2, 125), (2, 126), (2, 127), (2, 128), (2, 130), (2, 132), (2, 139), (2, 141)] rfl
set_option maxRecDepth 100000 in
theorem in_wsL_law_r12 : ∀ w ∈ wsL_law_r12, w ∈ lw_tbl := inT_of [(0, 6), (2, 142), (2, 147), (2, 149), (0, 7), (2, 150), (1, 94), (1, 96), (2, 151), (2, 152), (2, 153), (2, 154), (2, 155), (2, 156), (2, 157), (2, 158), (2, 159), (2, 160), (1, 18), (2, 161), (2, 163), (2, 165), (0, 8), (2, 166)] rfl
set_option maxRecDepth 100000 in
theorem in_wsL_law_r13 : ∀ w ∈ wsL_law_r13, w ∈ lw_tbl := inT_of [(2, 168), (2, 170), (0, 9), (2, 171), (2, 172), (2, 174), (0, 10), (2, 175), (2, 176), (2, 178), (0, 11), (2, 179), (2, 181), (2, 183), (0, 12), (2, 184), (2, 186), (2, 187), (2, 188), (2, 189), (1, 84), (1, 87), (1, 90), (1, 99)] rfl
set_option maxRecDepth 100000 in
theorem in_wsL_law_r14 : ∀ w ∈ wsL_law_r14, w ∈ lw_tbl := inT_of [(1, 93), (1, 95), (2, 197), (2, 199), (0, 13), (2, 200), (2, 201), (2, 202), (2, 203), (2, 204), (2, 205), (2, 206), (2, 207), (2, 208), (5, 165), (5, 166), (5, 167), (5, 168), (5, 80), (5, 82), (5, 78), (5, 79), (5, 86), (5, 169)] rfl
set_option maxRecDepth 100000 in
theorem in_wsL_law_r15 : ∀ w ∈ wsL_law_r15, w ∈ lw_tbl := inT_of [(5, 170), (5, 171), (5, 172), (5, 174), (0, 29), (5, 175), (5, 81), (5, 176), (5, 178), (0, 30), (5, 179), (5, 180), (5, 181), (5, 182), (5, 183), (5, 184), (5, 185), (5, 186), (5, 188), (0, 31), (5, 189), (5, 190), (5, 192), (0, 32)] rfl
set_option maxRecDepth 100000 in
theorem in_wsL_law_r16 : ∀ w ∈ wsL_law_r16, w ∈ lw_tbl := inT_of [(5, 193), (5, 194), (5, 196), (0, 33), (5, 197), (5, 198), (5, 200), (0, 34), (5, 201), (5, 202), (5, 204), (0, 35), (5, 205), (5, 206), (5, 208), (0, 36), (5, 209), (5, 210), (5, 212), (0, 37), (5, 213), (5, 214), (5, 216), (0, 38)] rfl
set_option maxRecDepth 100000 in
theorem in_wsL_law_r17 : ∀ w ∈ wsL_law_r17, w ∈ lw_tbl := inT_of [(5, 217), (5, 218), (5, 220), (0, 39), (5, 221), (5, 222), (5, 224), (0, 40), (5, 225), (5, 226), (5, 228), (0, 41), (5, 229), (5, 230), (5, 232), (0, 42), (5, 233), (5, 234), (5, 236), (0, 43), (5, 237), (5, 238), (6, 0), (0, 44)] rfl
set_option maxRecDepth 100000 in
theorem in_wsL_law_r18 : ∀ w ∈ wsL_law_r18, w ∈ lw_tbl := inT_of [(6, 1), (6, 2), (6, 4), (0, 45), (6, 5), (2, 209), (2, 210), (2, 211), (2, 212), (2, 214), (1, 125), (2, 213), (6, 6), (6, 7), (6, 8), (6, 9), (6, 10), (6, 11), (6, 12), (6, 13), (6, 15), (0, 46), (6, 16), (2, 215)] rfl
set_option maxRecDepth 100000 in
theorem in_wsL_law_r19 : ∀ w ∈ wsL_law_r19, w ∈ lw_tbl := inT_of [(2, 216), (2, 217), (2, 218), (6, 17), (6, 18), (6, 19), (6, 20), (2, 219), (2, 220), (2, 221), (2, 222), (2, 223), (2, 224), (2, 225), (2, 226), (2, 227), (2, 228), (2, 229), (2, 230), (6, 21), (6, 22), (6, 23), (6, 24), (6, 25)] rfl
set_option maxRecDepth 100000 in
theorem in_wsL_law_r20 : ∀ w ∈ wsL_law_r20, w ∈ lw_tbl := inT_of [(6, 26), (6, 27), (6, 28), (2, 231), (2, 232), (2, 233), (2, 234), (2, 235), (2, 236), (2, 237), (2, 238), (2, 239), (6, 29), (6, 30), (6, 31), (6, 32), (6, 33), (6, 35), (0, 47), (6, 36), (6, 37), (6, 39), (0, 48), (6, 40)] rfl
set_option maxRecDepth 100000 in
theorem in_wsL_law_r21 : ∀ w ∈ wsL_law_r21, w ∈ lw_tbl := inT_of [(3, 0), (3, 1), (3, 2), (3, 3), (3, 4), (3, 5), (3, 6), (3, 7), (1, 91), (3, 8), (3, 9), (3, 10), (3, 11), (1, 85), (3, 12), (3, 13), (3, 14), (3, 36), (3, 12), (3, 15), (3, 13), (3, 16), (3, 17), (3, 18)] rfl
set_option maxRecDepth 100000 in
theorem in_wsL_law_r22 : ∀ w ∈ wsL_law_r22, w ∈ lw_tbl := inT_of [(1, 123), (3, 19), (7, 126), (1, 56), (3, 20), (3, 21), (3, 22), (1, 42), (3, 23), (3, 24), (3, 25), (3, 26), (3, 27), (7, 127), (1, 63), (3, 28), (3, 29), (1, 124), (3, 30), (1, 49), (3, 31), (3, 32), (3, 33), (3, 34)] rfl
set_option maxRecDepth 100000 in
theorem in_wsL_law_r23 : ∀ w ∈ wsL_law_r23, w ∈ lw_tbl := inT_of [(1, 70), (3, 35), (3, 37), (3, 38), (3, 39), (3, 40), (3, 41), (3, 42), (3, 43), (3, 62), (3, 41), (3, 44), (3, 42), (3, 45), (3, 46), (3, 47), (3, 48), (7, 128), (3, 49), (3, 50), (3, 51), (3, 52), (3, 53), (3, 54)] rfl
set_option maxRecDepth 100000 in
theorem in_wsL_law_r24 : ∀ w ∈ wsL_law_r24, w ∈ lw_tbl := inT_of [(3, 55), (3, 56), (7, 129), (3, 57), (3, 58), (3, 59), (3, 60), (3, 61), (6, 41), (6, 42), (6, 43), (6, 44), (6, 45), (6, 47), (0, 49), (6, 48), (6, 49), (6, 51), (0, 50), (6, 52), (3, 63), (3, 64), (3, 65), (3, 66)] rfl
set_option maxRecDepth 100000 in
theorem in_wsL_law_r25 : ∀ w ∈ wsL_law_r25, w ∈ lw_tbl := inT_of [(1, 86), (1, 92), (6, 53), (6, 54), (6, 55), (6, 56), (3, 67), (3, 68), (3, 69), (3, 70), (3, 71), (3, 72), (3, 73), (3, 74), (6, 57), (6, 58), (6, 59), (6, 60), (3, 75), (3, 76), (3, 77), (3, 78), (1, 100), (6, 61)] rfl
set_option maxRecDepth 100000 in
theorem in_wsL_law_r26 : ∀ w ∈ wsL_law_r26, w ∈ lw_tbl := inT_of [(6, 62), (6, 63), (6, 64), (3, 79), (3, 80), (3, 81), (3, 82), (1, 129), (6, 65), (6, 66), (6, 67), (6, 68), (3, 83), (3, 84), (3, 85), (3, 86), (1, 132), (3, 87), (3, 88), (3, 89), (3, 90), (6, 69), (6, 70), (6, 71)] rfl
set_option maxRecDepth 100000 in
theorem in_wsL_law_r27 : ∀ w ∈ wsL_law_r27, w ∈ lw_tbl := inT_of [(6, 72), (3, 91), (3, 92), (3, 93), (3, 94), (3, 95), (3, 96), (3, 97), (3, 98), (1, 101), (6, 73), (6, 74), (6, 75), (6, 76), (6, 77), (6, 78), (6, 80), (0, 51), (6, 81), (3, 99), (3, 100), (3, 101), (3, 102), (3, 103)] rfl
set_option maxRecDepth 100000 in
theorem in_wsL_law_r28 : ∀ w ∈ wsL_law_r28, w ∈ lw_tbl := inT_of [(3, 104), (3, 105), (3, 106), (3, 107), (3, 108), (3, 109), (3, 110), (1, 97), (3, 112), (3, 113), (3, 114), (3, 115), (3, 116), (3, 124), (3, 125), (3, 122), (3, 123), (3, 118), (3, 119), (3, 120), (3, 121), (3, 126), (3, 127), (3, 128)] rfl
set_option maxRecDepth 100000 in
theorem in_wsL_law_r29 : ∀ w ∈ wsL_law_r29, w ∈ lw_tbl := inT_of [(3, 129), (1, 88), (6, 82), (6, 83), (6, 84), (6, 85), (6, 86), (6, 87), (6, 89), (0, 52), (6, 90), (6, 91), (6, 93), (0, 53), (6, 94), (6, 95), (6, 97), (0, 54), (6, 98), (6, 99), (6, 101), (0, 55), (6, 102), (6, 103)] rfl
set_option maxRecDepth 100000 in
theorem in_wsL_law_r30 : ∀ w ∈ wsL_law_r30, w ∈ lw_tbl := inT_of [(6, 104), (6, 105), (6, 106), (6, 107), (6, 108), (6, 109), (6, 110), (6, 111), (6, 112), (6, 114), (0, 56), (6, 115), (3, 130), (3, 131), (3, 132), (3, 133), (6, 116), (6, 117), (6, 118), (6, 119), (3, 134), (3, 135), (3, 136), (3, 137)] rfl
set_option maxRecDepth 100000 in
theorem in_wsL_law_r31 : ∀ w ∈ wsL_law_r31, w ∈ lw_tbl := inT_of [(3, 138), (3, 139), (3, 140), (3, 141), (3, 142), (3, 144), (0, 14), (3, 145), (3, 146), (6, 120), (6, 121), (6, 122), (6, 123), (6, 124), (6, 126), (0, 57), (6, 127), (6, 128), (3, 147), (3, 148), (3, 149), (3, 150), (3, 151), (3, 153)] rfl
set_option maxRecDepth 100000 in
theorem in_wsL_law_r32 : ∀ w ∈ wsL_law_r32, w ∈ lw_tbl := inT_of [(0, 15), (3, 154), (3, 155), (3, 157), (0, 16), (3, 158), (3, 159), (3, 161), (0, 17), (3, 162), (1, 136), (3, 163), (3, 164), (3, 165), (3, 166), (3, 167), (3, 168), (3, 169), (3, 170), (3, 171), (6, 129), (6, 130), (6, 131), (6, 132)] rfl
set_option maxRecDepth 100000 in
theorem in_wsL_law_r33 : ∀ w ∈ wsL_law_r33, w ∈ lw_tbl := inT_of [(6, 133), (6, 134), (6, 136), (0, 58), (6, 137), (6, 138), (6, 140), (0, 59), (6, 141), (6, 142), (6, 143), (6, 144), (6, 145), (3, 172), (3, 173), (3, 174), (3, 175), (3, 176), (3, 177), (3, 178), (3, 179), (3, 180), (3, 181), (3, 182)] rfl
set_option maxRecDepth 100000 in
theorem in_wsL_law_r34 : ∀ w ∈ wsL_law_r34, w ∈ lw_tbl := inT_of [(3, 183), (3, 184), (3, 185), (3, 186), (3, 187), (3, 188), (3, 190), (3, 189), (3, 191), (3, 192), (3, 193), (3, 194), (6, 146), (6, 147), (6, 148), (6, 149), (6, 150), (6, 152), (0, 60), (6, 153), (6, 154), (6, 156), (0, 61), (6, 157)] rfl
set_option maxRecDepth 100000 in
theorem in_wsL_law_r35 : ∀ w ∈ wsL_law_r35, w ∈ lw_tbl := inT_of [(3, 195), (3, 196), (3, 197), (3, 198), (1, 89), (6, 158), (6, 159), (6, 160), (6, 161), (3, 199), (3, 200), (3, 201), (3, 202), (6, 162), (6, 163), (6, 164), (6, 165), (3, 203), (3, 204), (3, 205), (3, 206), (3, 207), (6, 166), (6, 167)] rfl
set_option maxRecDepth 100000 in
theorem in_wsL_law_r36 : ∀ w ∈ wsL_law_r36, w ∈ lw_tbl := inT_of [(6, 168), (6, 169), (3, 208), (3, 209), (3, 210), (3, 211), (6, 170), (6, 171), (6, 172), (6, 173), (6, 174), (6, 176), (0, 62), (6, 177), (3, 212), (3, 213), (3, 214), (3, 215), (3, 216), (3, 218), (0, 18), (3, 219), (3, 220), (3, 221)] rfl
set_option maxRecDepth 100000 in
theorem in_wsL_law_r37 : ∀ w ∈ wsL_law_r37, w ∈ lw_tbl := inT_of [(3, 222), (6, 178), (6, 179), (6, 180), (6, 181), (6, 182), (6, 183), (6, 184), (6, 185), (6, 187), (0, 63), (6, 188), (3, 223), (3, 224), (3, 225), (3, 226), (6, 189), (6, 190), (6, 191), (6, 192), (3, 227), (3, 228), (3, 229), (3, 230)] rfl
set_option maxRecDepth 100000 in
theorem in_wsL_law_r38 : ∀ w ∈ wsL_law_r38, w ∈ lw_tbl := inT_of [(6, 193), (6, 194), (6, 195), (6, 196), (3, 231), (3, 232), (3, 233), (3, 234), (3, 235), (3, 237), (0, 19), (3, 238), (3, 239), (4, 0), (1, 19), (4, 1), (4, 2), (4, 3), (4, 4), (4, 5), (4, 7), (0, 20), (4, 8), (4, 9)] rfl
set_option maxRecDepth 100000 in
theorem in_wsL_law_r39 : ∀ w ∈ wsL_law_r39, w ∈ lw_tbl := inT_of [(4, 11), (0, 21), (4, 12), (6, 197), (6, 198), (6, 199), (6, 200), (6, 205), (6, 201), (6, 203), (0, 64), (6, 204), (6, 206), (6, 207), (6, 208), (4, 13), (4, 14), (4, 15), (4, 16), (4, 17), (4, 19), (0, 22), (4, 20), (6, 209)] rfl
set_option maxRecDepth 100000 in
theorem in_wsL_law_r40 : ∀ w ∈ wsL_law_r40, w ∈ lw_tbl := inT_of [(6, 210), (6, 211), (6, 212), (6, 213), (6, 215), (0, 65), (6, 216), (4, 21), (4, 22), (4, 23), (4, 24), (4, 25), (4, 26), (4, 27), (4, 28), (4, 30), (4, 31), (4, 32), (4, 33), (4, 34), (4, 35), (4, 36), (4, 37), (4, 38)] rfl
set_option maxRecDepth 100000 in
theorem in_wsL_law_r41 : ∀ w ∈ wsL_law_r41, w ∈ lw_tbl := inT_of [(4, 39), (4, 41), (0, 23), (4, 42), (4, 55), (4, 43), (4, 44), (4, 45), (4, 46), (4, 47), (4, 48), (4, 49), (4, 50), (4, 51), (4, 53), (0, 24), (4, 54), (6, 217), (6, 218), (6, 219), (6, 220), (6, 221), (6, 222), (6, 223)] rfl
set_option maxRecDepth 100000 in
theorem in_wsL_law_r42 : ∀ w ∈ wsL_law_r42, w ∈ lw_tbl := inT_of [(6, 224), (6, 226), (0, 66), (6, 227), (4, 56), (4, 57), (4, 58), (4, 59), (4, 66), (4, 60), (4, 61), (4, 62), (4, 63), (4, 64), (4, 65), (4, 67), (4, 68), (4, 69), (4, 70), (4, 71), (4, 72), (6, 228), (6, 229), (6, 230)] rfl
set_option maxRecDepth 100000 in
theorem in_wsL_law_r43 : ∀ w ∈ wsL_law_r43, w ∈ lw_tbl := inT_of [(6, 231), (6, 232), (6, 236), (6, 233), (6, 234), (6, 235), (6, 237), (6, 238), (6, 239), (4, 73), (4, 74), (4, 75), (4, 76), (7, 0), (7, 1), (7, 2), (7, 3), (4, 77), (4, 78), (4, 79), (4, 80), (4, 81), (4, 83), (0, 25)] rfl
set_option maxRecDepth 100000 in
theorem in_wsL_law_r44 : ∀ w ∈ wsL_law_r44, w ∈ lw_tbl := inT_of [(4, 84), (1, 98), (7, 4), (7, 5), (7, 6), (7, 7), (7, 8), (4, 85), (4, 86), (4, 87), (4, 88), (4, 89), (4, 91), (0, 26), (4, 92), (7, 9), (7, 10), (7, 11), (7, 12), (7, 13), (7, 15), (0, 67), (7, 16), (4, 93)] rfl
set_option maxRecDepth 100000 in
theorem in_wsL_law_r45 : ∀ w ∈ wsL_law_r45, w ∈ lw_tbl := inT_of [(4, 94), (4, 95), (4, 96), (7, 17), (7, 18), (7, 19), (7, 20), (4, 97), (4, 98), (4, 99), (4, 100), (7, 21), (7, 22), (7, 23), (7, 24), (4, 101), (4, 102), (4, 103), (4, 104), (4, 105), (4, 106), (7, 41), (7, 42), (7, 43)] rfl
set_option maxRecDepth 100000 in
theorem in_wsL_law_r46 : ∀ w ∈ wsL_law_r46, w ∈ lw_tbl := inT_of [(7, 44), (7, 37), (7, 39), (0, 68), (7, 40), (4, 107), (4, 108), (4, 109), (4, 110), (4, 111), (4, 112), (4, 113), (4, 114), (7, 25), (7, 26), (7, 27), (7, 28), (4, 115), (4, 116), (4, 117), (4, 118), (4, 119), (4, 120), (4, 121)] rfl
set_option maxRecDepth 100000 in
theorem in_wsL_law_r47 : ∀ w ∈ wsL_law_r47, w ∈ lw_tbl := inT_of [(4, 122), (4, 123), (4, 124), (4, 125), (7, 29), (7, 30), (7, 31), (7, 32), (4, 126), (4, 127), (4, 128), (4, 129), (7, 33), (7, 34), (7, 35), (7, 36), (4, 130), (4, 131), (4, 132), (4, 133), (4, 134), (4, 135), (4, 136), (4, 137)] rfl
set_option maxRecDepth 100000 in
theorem in_wsL_law_r48 : ∀ w ∈ wsL_law_r48, w ∈ lw_tbl := inT_of [(4, 138), (4, 139), (4, 140), (4, 141), (4, 142), (4, 144), (0, 27), (4, 145), (4, 146), (4, 147), (4, 148), (4, 149), (4, 150), (4, 151), (4, 152), (4, 153), (4, 154), (4, 155), (7, 45), (7, 46), (7, 47), (7, 48), (7, 49), (7, 50)] rfl
set_option maxRecDepth 100000 in
theorem in_wsL_law_r49 : ∀ w ∈ wsL_law_r49, w ∈ lw_tbl := inT_of [(7, 51), (4, 156), (4, 157), (4, 158), (4, 159), (4, 160), (4, 161), (4, 162), (4, 163), (4, 164), (4, 165), (4, 166), (4, 167), (4, 168), (4, 169), (4, 170), (4, 171), (4, 172), (4, 173), (4, 174), (4, 175), (1, 28), (1, 36), (1, 43)] rfl
set_option maxRecDepth 100000 in
theorem in_wsL_law_r50 : ∀ w ∈ wsL_law_r50, w ∈ lw_tbl := inT_of [(1, 50), (1, 57), (1, 64), (7, 52), (7, 53), (7, 54), (7, 55), (7, 56), (7, 57), (7, 58), (7, 60), (0, 69), (7, 61), (7, 62), (7, 63), (7, 64), (4, 176), (4, 177), (4, 178), (4, 179), (1, 232), (4, 180), (4, 181), (4, 182)] rfl
set_option maxRecDepth 100000 in
theorem in_wsL_law_r51 : ∀ w ∈ wsL_law_r51, w ∈ lw_tbl := inT_of [(4, 183), (1, 223), (1, 227), (1, 221), (1, 231), (4, 184), (4, 185), (4, 186), (4, 210), (1, 224), (4, 211), (4, 192), (4, 193), (4, 194), (4, 184), (4, 187), (4, 185), (4, 188), (4, 189), (4, 190), (1, 228), (4, 191), (4, 198), (4, 199)] rfl
set_option maxRecDepth 100000 in
theorem in_wsL_law_r52 : ∀ w ∈ wsL_law_r52, w ∈ lw_tbl := inT_of [(4, 200), (4, 201), (4, 202), (4, 203), (7, 130), (4, 204), (4, 205), (4, 206), (4, 207), (4, 208), (4, 209), (4, 212), (4, 213), (4, 214), (4, 231), (1, 229), (4, 232), (4, 232), (4, 212), (4, 215), (4, 213), (4, 216), (4, 217), (4, 218)] rfl
set_option maxRecDepth 100000 in
theorem in_wsL_law_r53 : ∀ w ∈ wsL_law_r53, w ∈ lw_tbl := inT_of [(4, 219), (4, 220), (4, 221), (4, 222), (4, 223), (4, 224), (1, 230), (4, 228), (7, 131), (4, 229), (4, 230), (4, 233), (4, 234), (4, 235), (5, 14), (5, 15), (5, 16), (5, 17), (5, 18), (4, 233), (4, 236), (4, 234), (4, 237), (4, 238)] rfl
set_option maxRecDepth 100000 in
theorem in_wsL_law_r54 : ∀ w ∈ wsL_law_r54, w ∈ lw_tbl := inT_of [(4, 239), (5, 3), (5, 4), (5, 5), (5, 6), (5, 7), (1, 225), (5, 8), (5, 9), (5, 10), (5, 11), (5, 12), (5, 13), (5, 19), (5, 20), (5, 21), (5, 38), (5, 39), (5, 39), (5, 19), (5, 22), (5, 23), (5, 24), (5, 20)] rfl
set_option maxRecDepth 100000 in
theorem in_wsL_law_r55 : ∀ w ∈ wsL_law_r55, w ∈ lw_tbl := inT_of [(5, 25), (5, 26), (5, 27), (1, 226), (5, 28), (5, 29), (5, 30), (5, 31), (5, 32), (5, 33), (5, 34), (5, 35), (5, 36), (5, 37), (7, 65), (7, 66), (7, 67), (7, 68), (5, 94), (5, 98), (5, 95), (5, 96), (5, 97), (7, 69)] rfl
set_option maxRecDepth 100000 in
theorem in_wsL_law_r56 : ∀ w ∈ wsL_law_r56, w ∈ lw_tbl := inT_of [(7, 71), (0, 70), (7, 72), (7, 73), (7, 75), (0, 71), (7, 76), (7, 77), (7, 79), (0, 72), (7, 80), (7, 81), (7, 83), (0, 73), (7, 84), (7, 85), (7, 87), (0, 74), (7, 88), (7, 89), (7, 91), (0, 75), (7, 92), (7, 93)] rfl
set_option maxRecDepth 100000 in
theorem in_wsL_law_r57 : ∀ w ∈ wsL_law_r57, w ∈ lw_tbl := inT_of [(7, 95), (0, 76), (7, 96), (7, 97), (7, 99), (0, 77), (7, 100), (7, 101), (7, 103), (0, 78), (7, 104), (7, 105), (7, 107), (0, 79), (7, 108), (5, 40), (5, 41), (5, 42), (5, 43), (1, 222), (1, 220), (7, 109), (7, 110), (7, 111)] rfl
set_option maxRecDepth 100000 in
theorem in_wsL_law_r58 : ∀ w ∈ wsL_law_r58, w ∈ lw_tbl := inT_of [(7, 112), (5, 44), (5, 45), (5, 46), (5, 47), (5, 48), (5, 49), (5, 50), (5, 51), (5, 52), (7, 113), (7, 114), (7, 115), (7, 116), (5, 53), (5, 54), (5, 55), (5, 56), (2, 15), (7, 117), (7, 118), (7, 119), (7, 120), (5, 75)] rfl
set_option maxRecDepth 100000 in
theorem in_wsL_law_r59 : ∀ w ∈ wsL_law_r59, w ∈ lw_tbl := inT_of [(5, 57), (5, 58), (5, 59), (5, 60), (7, 121), (7, 122), (7, 123), (7, 124)] rfl
set_option maxRecDepth 100000 in
theorem in_wsX110 : ∀ w ∈ wsX110, w ∈ lw_tbl := inT_of [(2, 16), (2, 18), (2, 20), (2, 22), (2, 24), (2, 26), (2, 28), (2, 30), (2, 32), (2, 34), (2, 36), (2, 38)] rfl
set_option maxRecDepth 100000 in
theorem in_wsX120 : ∀ w ∈ wsX120, w ∈ lw_tbl := inT_of [(5, 99), (5, 101), (5, 103), (5, 105), (5, 107), (5, 109), (5, 111), (5, 113), (5, 115), (5, 117), (5, 119), (5, 121), (5, 123), (5, 125), (5, 127), (5, 129), (5, 131), (5, 133), (5, 135), (5, 137), (5, 139), (5, 141), (5, 143), (5, 145), (5, 147), (5, 149), (5, 151), (5, 153)] rfl
set_option maxRecDepth 100000 in
theorem in_wsX00 : ∀ w ∈ wsX00, w ∈ lw_tbl := inT_of [] rfl
set_option maxRecDepth 100000 in
theorem in_wsX50 : ∀ w ∈ wsX50, w ∈ lw_tbl := inT_of [] rfl
set_option maxRecDepth 100000 in
theorem in_wsX100 : ∀ w ∈ wsX100, w ∈ lw_tbl := inT_of [] rfl
set_option maxRecDepth 100000 in
theorem in_wsX30 : ∀ w ∈ wsX30, w ∈ lw_tbl := inT_of [] rfl
set_option maxRecDepth 100000 in
theorem in_wsX70 : ∀ w ∈ wsX70, w ∈ lw_tbl := inT_of [] rfl
set_option maxRecDepth 100000 in
theorem in_wsX90 : ∀ w ∈ wsX90, w ∈ lw_tbl := inT_of [] rfl
set_option maxRecDepth 100000 in
theorem in_wsX10 : ∀ w ∈ wsX10, w ∈ lw_tbl := inT_of [(1, 141), (1, 143), (1, 145), (1, 147), (1, 149), (1, 151), (1, 153), (1, 155)] rfl
set_option maxRecDepth 100000 in
theorem in_wsX60 : ∀ w ∈ wsX60, w ∈ lw_tbl := inT_of [(1, 102), (1, 104), (1, 106), (1, 108), (1, 110), (1, 112)] rfl
set_option maxRecDepth 100000 in
theorem in_wsX80 : ∀ w ∈ wsX80, w ∈ lw_tbl := inT_of [(1, 173), (1, 175), (1, 177), (1, 179), (1, 181), (1, 183)] rfl
set_option maxRecDepth 100000 in
theorem in_wsX20 : ∀ w ∈ wsX20, w ∈ lw_tbl := inT_of [(1, 199), (1, 201), (1, 203), (1, 205), (1, 207), (1, 209)] rfl
set_option maxRecDepth 100000 in
theorem in_wsX40 : ∀ w ∈ wsX40, w ∈ lw_tbl := inT_of [(1, 233), (1, 235), (1, 237), (1, 239), (2, 1)] rfl
set_option maxRecDepth 100000 in
theorem in_wBX : ∀ w ∈ wBX, w ∈ lw_tbl := inT_of [(5, 0), (5, 1), (1, 56), (4, 195), (4, 196), (4, 225), (4, 226), (1, 63), (1, 42), (1, 49)] rfl
set_option maxRecDepth 100000 in
theorem wsL_law_in : ∀ w ∈ wsL_law, w ∈ lw_tbl := inL_ap (inL_ap (inL_ap (inL_ap (inL_ap (inL_ap (inL_ap (inL_ap (inL_ap (inL_ap (inL_ap (inL_ap (inL_ap (inL_ap (inL_ap in_wsL_law_r1 (inL_ap in_wsL_law_r2 (inL_ap in_wsL_law_r3 (inL_ap in_wsL_law_r4 (inL_ap in_wsL_law_r5 (inL_ap in_wsL_law_r6 (inL_ap in_wsL_law_r7 (inL_ap in_wsL_law_r8 (inL_ap in_wsL_law_r9 (inL_ap in_wsL_law_r10 (inL_ap in_wsL_law_r11 (inL_ap in_wsL_law_r12 (inL_ap in_wsL_law_r13 (inL_ap in_wsL_law_r14 (inL_ap in_wsL_law_r15 (inL_ap in_wsL_law_r16 (inL_ap in_wsL_law_r17 (inL_ap in_wsL_law_r18 (inL_ap in_wsL_law_r19 (inL_ap in_wsL_law_r20 (inL_ap in_wsL_law_r21 (inL_ap in_wsL_law_r22 (inL_ap in_wsL_law_r23 (inL_ap in_wsL_law_r24 (inL_ap in_wsL_law_r25 (inL_ap in_wsL_law_r26 (inL_ap in_wsL_law_r27 (inL_ap in_wsL_law_r28 (inL_ap in_wsL_law_r29 (inL_ap in_wsL_law_r30 (inL_ap in_wsL_law_r31 (inL_ap in_wsL_law_r32 (inL_ap in_wsL_law_r33 (inL_ap in_wsL_law_r34 (inL_ap in_wsL_law_r35 (inL_ap in_wsL_law_r36 (inL_ap in_wsL_law_r37 (inL_ap in_wsL_law_r38 (inL_ap in_wsL_law_r39 (inL_ap in_wsL_law_r40 (inL_ap in_wsL_law_r41 (inL_ap in_wsL_law_r42 (inL_ap in_wsL_law_r43 (inL_ap in_wsL_law_r44 (inL_ap in_wsL_law_r45 (inL_ap in_wsL_law_r46 (inL_ap in_wsL_law_r47 (inL_ap in_wsL_law_r48 (inL_ap in_wsL_law_r49 (inL_ap in_wsL_law_r50 (inL_ap in_wsL_law_r51 (inL_ap in_wsL_law_r52 (inL_ap in_wsL_law_r53 (inL_ap in_wsL_law_r54 (inL_ap in_wsL_law_r55 (inL_ap in_wsL_law_r56 (inL_ap in_wsL_law_r57 (inL_ap in_wsL_law_r58 (in_wsL_law_r59))))))))))))))))))))))))))))))))))))))))))))))))))))))))))) in_wsX110) in_wsX120) in_wsX00) in_wsX50) in_wsX100) in_wsX30) in_wsX70) in_wsX90) in_wsX10) in_wsX60) in_wsX80) in_wsX20) in_wsX40) (fun _ h => absurd h List.not_mem_nil)
