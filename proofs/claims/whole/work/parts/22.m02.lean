def M_childHere_76  (σ : Sg) (x2 : Int32) (t1 : Int32) : Option (Unit × Sg) :=
  bi_ (M_numberTo_0 σ t1 (7 : Int32)) fun _ σ_2 =>
  bi_ (M_isFive_0 σ_2 (116 : Int32) (114 : Int32) (97 : Int32) (105 : Int32) (116 : Int32)) fun r_5 σ_4 =>
  bi_ (M_perhaps_0 σ_4 r_5 (x2 + (1 : Int32)) (99 : Int32)) fun _ σ_7 =>
  bi_ (M_isFour_0 σ_7 (102 : Int32) (105 : Int32) (114 : Int32) (101 : Int32)) fun r_10 σ_9 =>
  bi_ (M_perhaps_0 σ_9 r_10 (x2 + (2 : Int32)) (9 : Int32)) fun _ σ_12 =>
  bi_ (M_isFour_0 σ_12 (119 : Int32) (105 : Int32) (115 : Int32) (104 : Int32)) fun r_15 σ_14 =>
  bi_ (M_perhaps_0 σ_14 r_15 (x2 + (3 : Int32)) (99 : Int32)) fun _ σ_17 =>
  bi_ (M_isName_0 σ_17 (3 : Int32) (97 : Int32) (103 : Int32) (101 : Int32) (101 : Int32)) fun r_20 σ_19 =>
  bi_ (M_perhaps_0 σ_19 r_20 (x2 + (4 : Int32)) (99 : Int32)) fun _ σ_22 =>
  some ((), σ_22)
set_option maxRecDepth 100000 in
theorem kM_childHere_76 {p : Program} {l : Launch} {e : Env} {s : State} {m : MethodId} {args : Array Value} {below : List Frame} {meth : Method} {c : Code} {D : va_G} {cy : Nat → ClassId} {a : Nat → Nat} (X : cx_ cX12_childHere RX12 wsX12_childHere 3 none 16 a D cy xfM p s m args meth c)   {σ' : Sg}  : ∀ (σ : Sg) (x2 : Int32) (t1 : Int32) (H : Heap) (locs : List Loc) (ls : Array Slot), M_childHere_76 σ x2 t1 = some ((), σ') → iv_ 16 a D (shM cy a σ) s H locs → lv_has ls 3 [(0, .ref (a 0)), (2, .int x2)] → W p l e ({ frames := 5, cells := 0, slots := 0, locals := 109 }) s m args below meth c H locs 0 0 (MQ below (qg_ 16 a D (shM cy a σ') none s.heap.size) args s 0 0 (fr_ 16 a s.heap.size)) (F0 m 76 ls [.int t1, .ref (a 0)]) := by
  obtain ⟨hx, hb, hr, hml, hown, hts, hlk, hK, hA, hXf⟩ := id X
  intro σ x2 t1 H locs ls h I hl
  unfold M_childHere_76 at h
  refine lv_bipush (v := 7) hx hb dX12_childHere_76 (by decide) ?_
  obtain ⟨_, σ_2, hc_1, h⟩ := bi_of h
  refine cv_ (rV_ (nn := 2) (As := [.int t1, .int (7 : Int32)]) (rest := []) X xkM I (c_M_numberTo hc_1 H.size) gX12_childHere_X12_numberTo rfl ⟨rfl, rfl⟩ (by decide +kernel) ⟨Nat.le_of_ble_eq_true rfl, Nat.le_of_ble_eq_true rfl⟩ (by decide) shM_0 rfl rfl hl.1 rfl (Nat.le_of_ble_eq_true rfl) dX12_childHere_78) I (fun H locs I => ?_)
  refine lv_aload_n hx hb dX12_childHere_81 rfl (lv_at hl 0 rfl) ?_
  refine lv_aload_n hx hb dX12_childHere_82 rfl (lv_at hl 0 rfl) ?_
  refine lv_bipush (v := 116) hx hb dX12_childHere_83 (by decide) ?_
  refine lv_bipush (v := 114) hx hb dX12_childHere_85 (by decide) ?_
  refine lv_bipush (v := 97) hx hb dX12_childHere_87 (by decide) ?_
  refine lv_bipush (v := 105) hx hb dX12_childHere_89 (by decide) ?_
  refine lv_bipush (v := 116) hx hb dX12_childHere_91 (by decide) ?_
  obtain ⟨r_5, σ_4, hc_3, h⟩ := bi_of h
  refine cg_ (rV_ (nn := 5) (As := [.int (116 : Int32), .int (114 : Int32), .int (97 : Int32), .int (105 : Int32), .int (116 : Int32)]) (rest := [.ref (a 0)]) X xkM I (c_M_isFive hc_3 H.size) gX12_childHere_X12_isFive rfl ⟨rfl, rfl⟩ (by decide +kernel) ⟨Nat.le_of_ble_eq_true rfl, Nat.le_of_ble_eq_true rfl⟩ (by decide) shM_0 rfl rfl hl.1 rfl (Nat.le_of_ble_eq_true rfl) dX12_childHere_93) I (fun H locs I => ?_)
  refine lv_iload_n hx hb dX12_childHere_96 rfl (lv_at hl 1 rfl) ?_
  refine lv_iconst (v := 1) hx hb dX12_childHere_97 (by decide) ?_
  refine lv_iadd hx hb dX12_childHere_98 ?_
  refine lv_bipush (v := 99) hx hb dX12_childHere_99 (by decide) ?_
  obtain ⟨_, σ_7, hc_6, h⟩ := bi_of h
  refine cv_ (rV_ (nn := 3) (As := [.int r_5, .int (x2 + (1 : Int32)), .int (99 : Int32)]) (rest := []) X xkM I (c_M_perhaps hc_6 H.size) gX12_childHere_X12_perhaps rfl ⟨rfl, rfl⟩ (by decide +kernel) ⟨Nat.le_of_ble_eq_true rfl, Nat.le_of_ble_eq_true rfl⟩ (by decide) shM_0 rfl rfl hl.1 rfl (Nat.le_of_ble_eq_true rfl) dX12_childHere_101) I (fun H locs I => ?_)
  refine lv_aload_n hx hb dX12_childHere_104 rfl (lv_at hl 0 rfl) ?_
  refine lv_aload_n hx hb dX12_childHere_105 rfl (lv_at hl 0 rfl) ?_
  refine lv_bipush (v := 102) hx hb dX12_childHere_106 (by decide) ?_
  refine lv_bipush (v := 105) hx hb dX12_childHere_108 (by decide) ?_
  refine lv_bipush (v := 114) hx hb dX12_childHere_110 (by decide) ?_
  refine lv_bipush (v := 101) hx hb dX12_childHere_112 (by decide) ?_
  obtain ⟨r_10, σ_9, hc_8, h⟩ := bi_of h
  refine cg_ (rV_ (nn := 4) (As := [.int (102 : Int32), .int (105 : Int32), .int (114 : Int32), .int (101 : Int32)]) (rest := [.ref (a 0)]) X xkM I (c_M_isFour hc_8 H.size) gX12_childHere_X12_isFour rfl ⟨rfl, rfl⟩ (by decide +kernel) ⟨Nat.le_of_ble_eq_true rfl, Nat.le_of_ble_eq_true rfl⟩ (by decide) shM_0 rfl rfl hl.1 rfl (Nat.le_of_ble_eq_true rfl) dX12_childHere_114) I (fun H locs I => ?_)
  refine lv_iload_n hx hb dX12_childHere_117 rfl (lv_at hl 1 rfl) ?_
  refine lv_iconst (v := 2) hx hb dX12_childHere_118 (by decide) ?_
  refine lv_iadd hx hb dX12_childHere_119 ?_
  refine lv_bipush (v := 9) hx hb dX12_childHere_120 (by decide) ?_
  obtain ⟨_, σ_12, hc_11, h⟩ := bi_of h
  refine cv_ (rV_ (nn := 3) (As := [.int r_10, .int (x2 + (2 : Int32)), .int (9 : Int32)]) (rest := []) X xkM I (c_M_perhaps hc_11 H.size) gX12_childHere_X12_perhaps rfl ⟨rfl, rfl⟩ (by decide +kernel) ⟨Nat.le_of_ble_eq_true rfl, Nat.le_of_ble_eq_true rfl⟩ (by decide) shM_0 rfl rfl hl.1 rfl (Nat.le_of_ble_eq_true rfl) dX12_childHere_122) I (fun H locs I => ?_)
  refine lv_aload_n hx hb dX12_childHere_125 rfl (lv_at hl 0 rfl) ?_
  refine lv_aload_n hx hb dX12_childHere_126 rfl (lv_at hl 0 rfl) ?_
  refine lv_bipush (v := 119) hx hb dX12_childHere_127 (by decide) ?_
  refine lv_bipush (v := 105) hx hb dX12_childHere_129 (by decide) ?_
  refine lv_bipush (v := 115) hx hb dX12_childHere_131 (by decide) ?_
  refine lv_bipush (v := 104) hx hb dX12_childHere_133 (by decide) ?_
  obtain ⟨r_15, σ_14, hc_13, h⟩ := bi_of h
  refine cg_ (rV_ (nn := 4) (As := [.int (119 : Int32), .int (105 : Int32), .int (115 : Int32), .int (104 : Int32)]) (rest := [.ref (a 0)]) X xkM I (c_M_isFour hc_13 H.size) gX12_childHere_X12_isFour rfl ⟨rfl, rfl⟩ (by decide +kernel) ⟨Nat.le_of_ble_eq_true rfl, Nat.le_of_ble_eq_true rfl⟩ (by decide) shM_0 rfl rfl hl.1 rfl (Nat.le_of_ble_eq_true rfl) dX12_childHere_135) I (fun H locs I => ?_)
  refine lv_iload_n hx hb dX12_childHere_138 rfl (lv_at hl 1 rfl) ?_
  refine lv_iconst (v := 3) hx hb dX12_childHere_139 (by decide) ?_
  refine lv_iadd hx hb dX12_childHere_140 ?_
  refine lv_bipush (v := 99) hx hb dX12_childHere_141 (by decide) ?_
  obtain ⟨_, σ_17, hc_16, h⟩ := bi_of h
  refine cv_ (rV_ (nn := 3) (As := [.int r_15, .int (x2 + (3 : Int32)), .int (99 : Int32)]) (rest := []) X xkM I (c_M_perhaps hc_16 H.size) gX12_childHere_X12_perhaps rfl ⟨rfl, rfl⟩ (by decide +kernel) ⟨Nat.le_of_ble_eq_true rfl, Nat.le_of_ble_eq_true rfl⟩ (by decide) shM_0 rfl rfl hl.1 rfl (Nat.le_of_ble_eq_true rfl) dX12_childHere_143) I (fun H locs I => ?_)
  refine lv_aload_n hx hb dX12_childHere_146 rfl (lv_at hl 0 rfl) ?_
  refine lv_aload_n hx hb dX12_childHere_147 rfl (lv_at hl 0 rfl) ?_
  refine lv_iconst (v := 3) hx hb dX12_childHere_148 (by decide) ?_
  refine lv_bipush (v := 97) hx hb dX12_childHere_149 (by decide) ?_
  refine lv_bipush (v := 103) hx hb dX12_childHere_151 (by decide) ?_
  refine lv_bipush (v := 101) hx hb dX12_childHere_153 (by decide) ?_
  refine lv_bipush (v := 101) hx hb dX12_childHere_155 (by decide) ?_
  obtain ⟨r_20, σ_19, hc_18, h⟩ := bi_of h
  refine cg_ (rV_ (nn := 5) (As := [.int (3 : Int32), .int (97 : Int32), .int (103 : Int32), .int (101 : Int32), .int (101 : Int32)]) (rest := [.ref (a 0)]) X xkM I (c_M_isName hc_18 H.size) gX12_childHere_X12_isName rfl ⟨rfl, rfl⟩ (by decide +kernel) ⟨Nat.le_of_ble_eq_true rfl, Nat.le_of_ble_eq_true rfl⟩ (by decide) shM_0 rfl rfl hl.1 rfl (Nat.le_of_ble_eq_true rfl) dX12_childHere_157) I (fun H locs I => ?_)
  refine lv_iload_n hx hb dX12_childHere_160 rfl (lv_at hl 1 rfl) ?_
  refine lv_iconst (v := 4) hx hb dX12_childHere_161 (by decide) ?_
  refine lv_iadd hx hb dX12_childHere_162 ?_
  refine lv_bipush (v := 99) hx hb dX12_childHere_163 (by decide) ?_
  obtain ⟨_, σ_22, hc_21, h⟩ := bi_of h
  refine cv_ (rV_ (nn := 3) (As := [.int r_20, .int (x2 + (4 : Int32)), .int (99 : Int32)]) (rest := []) X xkM I (c_M_perhaps hc_21 H.size) gX12_childHere_X12_perhaps rfl ⟨rfl, rfl⟩ (by decide +kernel) ⟨Nat.le_of_ble_eq_true rfl, Nat.le_of_ble_eq_true rfl⟩ (by decide) shM_0 rfl rfl hl.1 rfl (Nat.le_of_ble_eq_true rfl) dX12_childHere_165) I (fun H locs I => ?_)
  obtain rfl := re_v h
  exact rtv_ X I dX12_childHere_168
def M_childHere_61  (σ : Sg) (x2 : Int32) : Option (Unit × Sg) :=
  if (rd_ σ 0 11) = 0 then (M_childHere_76 σ x2 (x2 + (5 : Int32)))
  else (M_childHere_76 σ x2 (0 : Int32))
set_option maxRecDepth 100000 in
theorem kM_childHere_61 {p : Program} {l : Launch} {e : Env} {s : State} {m : MethodId} {args : Array Value} {below : List Frame} {meth : Method} {c : Code} {D : va_G} {cy : Nat → ClassId} {a : Nat → Nat} (X : cx_ cX12_childHere RX12 wsX12_childHere 3 none 16 a D cy xfM p s m args meth c)   {σ' : Sg}  : ∀ (σ : Sg) (x2 : Int32) (H : Heap) (locs : List Loc) (ls : Array Slot), M_childHere_61 σ x2 = some ((), σ') → iv_ 16 a D (shM cy a σ) s H locs → lv_has ls 3 [(0, .ref (a 0)), (2, .int x2)] → W p l e ({ frames := 5, cells := 0, slots := 0, locals := 109 }) s m args below meth c H locs 0 0 (MQ below (qg_ 16 a D (shM cy a σ') none s.heap.size) args s 0 0 (fr_ 16 a s.heap.size)) (F0 m 61 ls []) := by
  obtain ⟨hx, hb, hr, hml, hown, hts, hlk, hK, hA, hXf⟩ := id X
  intro σ x2 H locs ls h I hl
  unfold M_childHere_61 at h
  refine lv_aload_n hx hb dX12_childHere_61 rfl (lv_at hl 0 rfl) ?_
  refine lv_aload_n hx hb dX12_childHere_62 rfl (lv_at hl 0 rfl) ?_
  refine ig_ (index := 93) X I (fun _ q => List.mem_cons_of_mem _ (List.mem_append_right _ q)) 0 (by decide) shM_0 rfl 11 (by decide) (by decide +kernel) rfl (v := .int (rd_ σ 0 11)) rfl dX12_childHere_63 ?_
  refine lv_if_eq (tgt := 73) hx hb dX12_childHere_66 (by decide) (fun c_1 => ?_) (fun c_1 => ?_)
  · have h := if_t h c_1
    refine lv_iload_n hx hb dX12_childHere_73 rfl (lv_at hl 1 rfl) ?_
    refine lv_iconst (v := 5) hx hb dX12_childHere_74 (by decide) ?_
    refine lv_iadd hx hb dX12_childHere_75 ?_
    exact kM_childHere_76 X  σ x2 (x2 + (5 : Int32)) H locs ls h I (lv_sub hl [0, 1] rfl)
  · have h := if_f h c_1
    refine lv_iconst (v := 0) hx hb dX12_childHere_69 (by decide) ?_
    refine lv_goto (tgt := 76) hx hb dX12_childHere_70 (by decide) ?_
    exact kM_childHere_76 X  σ x2 (0 : Int32) H locs ls h I (lv_sub hl [0, 1] rfl)
def M_childHere_30  (σ : Sg) (x1 : Int32) (x2 : Int32) (t1 : Int32) : Option (Unit × Sg) :=
  bi_ (M_needs_0 σ t1) fun _ σ_2 =>
  bi_ (M_isTwo_0 σ_2 (116 : Int32) (111 : Int32)) fun r_5 σ_4 =>
  bi_ (M_needs_0 σ_4 r_5) fun _ σ_7 =>
  if (rd_ σ_7 0 11) = 0 then (bi_ (M_comes_0 σ_7 x1 (50 : Int32) (5 : Int32) (0 : Int32)) fun _ σ_10 =>
  M_childHere_61 σ_10 x2)
  else (M_childHere_61 σ_7 x2)
set_option maxRecDepth 100000 in
theorem kM_childHere_30 {p : Program} {l : Launch} {e : Env} {s : State} {m : MethodId} {args : Array Value} {below : List Frame} {meth : Method} {c : Code} {D : va_G} {cy : Nat → ClassId} {a : Nat → Nat} (X : cx_ cX12_childHere RX12 wsX12_childHere 3 none 16 a D cy xfM p s m args meth c)   {σ' : Sg}  : ∀ (σ : Sg) (x1 : Int32) (x2 : Int32) (t1 : Int32) (H : Heap) (locs : List Loc) (ls : Array Slot), M_childHere_30 σ x1 x2 t1 = some ((), σ') → iv_ 16 a D (shM cy a σ) s H locs → lv_has ls 3 [(0, .ref (a 0)), (1, .int x1), (2, .int x2)] → W p l e ({ frames := 5, cells := 0, slots := 0, locals := 109 }) s m args below meth c H locs 0 0 (MQ below (qg_ 16 a D (shM cy a σ') none s.heap.size) args s 0 0 (fr_ 16 a s.heap.size)) (F0 m 30 ls [.int t1, .ref (a 0)]) := by
  obtain ⟨hx, hb, hr, hml, hown, hts, hlk, hK, hA, hXf⟩ := id X
  intro σ x1 x2 t1 H locs ls h I hl
  unfold M_childHere_30 at h
  obtain ⟨_, σ_2, hc_1, h⟩ := bi_of h
  refine cv_ (rV_ (nn := 1) (As := [.int t1]) (rest := []) X xkM I (c_M_needs hc_1 H.size) gX12_childHere_X12_needs rfl ⟨rfl, rfl⟩ (by decide +kernel) ⟨Nat.le_of_ble_eq_true rfl, Nat.le_of_ble_eq_true rfl⟩ (by decide) shM_0 rfl rfl hl.1 rfl (Nat.le_of_ble_eq_true rfl) dX12_childHere_30) I (fun H locs I => ?_)
  refine lv_aload_n hx hb dX12_childHere_33 rfl (lv_at hl 0 rfl) ?_
  refine lv_aload_n hx hb dX12_childHere_34 rfl (lv_at hl 0 rfl) ?_
  refine lv_bipush (v := 116) hx hb dX12_childHere_35 (by decide) ?_
  refine lv_bipush (v := 111) hx hb dX12_childHere_37 (by decide) ?_
  obtain ⟨r_5, σ_4, hc_3, h⟩ := bi_of h
  refine cg_ (rV_ (nn := 2) (As := [.int (116 : Int32), .int (111 : Int32)]) (rest := [.ref (a 0)]) X xkM I (c_M_isTwo hc_3 H.size) gX12_childHere_X12_isTwo rfl ⟨rfl, rfl⟩ (by decide +kernel) ⟨Nat.le_of_ble_eq_true rfl, Nat.le_of_ble_eq_true rfl⟩ (by decide) shM_0 rfl rfl hl.1 rfl (Nat.le_of_ble_eq_true rfl) dX12_childHere_39) I (fun H locs I => ?_)
  obtain ⟨_, σ_7, hc_6, h⟩ := bi_of h
  refine cv_ (rV_ (nn := 1) (As := [.int r_5]) (rest := []) X xkM I (c_M_needs hc_6 H.size) gX12_childHere_X12_needs rfl ⟨rfl, rfl⟩ (by decide +kernel) ⟨Nat.le_of_ble_eq_true rfl, Nat.le_of_ble_eq_true rfl⟩ (by decide) shM_0 rfl rfl hl.1 rfl (Nat.le_of_ble_eq_true rfl) dX12_childHere_42) I (fun H locs I => ?_)
  refine lv_aload_n hx hb dX12_childHere_45 rfl (lv_at hl 0 rfl) ?_
  refine ig_ (index := 93) X I (fun _ q => List.mem_cons_of_mem _ (List.mem_append_right _ q)) 0 (by decide) shM_0 rfl 11 (by decide) (by decide +kernel) rfl (v := .int (rd_ σ_7 0 11)) rfl dX12_childHere_46 ?_
  refine lv_if_ne (tgt := 61) hx hb dX12_childHere_49 (by decide) (fun c_8 => ?_) (fun c_8 => ?_)
  · have h := if_f h c_8
    exact kM_childHere_61 X  σ_7 x2 H locs ls h I (lv_sub hl [0, 2] rfl)
  · have h := if_t h c_8
    refine lv_aload_n hx hb dX12_childHere_52 rfl (lv_at hl 0 rfl) ?_
    refine lv_iload_n hx hb dX12_childHere_53 rfl (lv_at hl 1 rfl) ?_
    refine lv_bipush (v := 50) hx hb dX12_childHere_54 (by decide) ?_
    refine lv_iconst (v := 5) hx hb dX12_childHere_56 (by decide) ?_
    refine lv_iconst (v := 0) hx hb dX12_childHere_57 (by decide) ?_
    obtain ⟨_, σ_10, hc_9, h⟩ := bi_of h
    refine cv_ (rV_ (nn := 4) (As := [.int x1, .int (50 : Int32), .int (5 : Int32), .int (0 : Int32)]) (rest := []) X xkM I (c_M_comes hc_9 H.size) gX12_childHere_X12_comes rfl ⟨rfl, rfl⟩ (by decide +kernel) ⟨Nat.le_of_ble_eq_true rfl, Nat.le_of_ble_eq_true rfl⟩ (by decide) shM_0 rfl rfl hl.1 rfl (Nat.le_of_ble_eq_true rfl) dX12_childHere_58) I (fun H locs I => ?_)
    exact kM_childHere_61 X  σ_10 x2 H locs ls h I (lv_sub hl [0, 2] rfl)
def M_childHere_0  (σ : Sg) (x1 : Int32) : Option (Unit × Sg) :=
  lt_ (((16 : Int32) + ((6 : Int32) * (rd_ σ 1 0)))) fun y_1 =>
  if (8 : Int32) ≤ (rd_ σ 1 0) then (M_childHere_30 σ x1 y_1 (0 : Int32))
  else (M_childHere_30 σ x1 y_1 (1 : Int32))
set_option maxRecDepth 100000 in
theorem kM_childHere_0 {p : Program} {l : Launch} {e : Env} {s : State} {m : MethodId} {args : Array Value} {below : List Frame} {meth : Method} {c : Code} {D : va_G} {cy : Nat → ClassId} {a : Nat → Nat} (X : cx_ cX12_childHere RX12 wsX12_childHere 3 none 16 a D cy xfM p s m args meth c)   {σ' : Sg}  : ∀ (σ : Sg) (x1 : Int32) (H : Heap) (locs : List Loc) (ls : Array Slot), M_childHere_0 σ x1 = some ((), σ') → iv_ 16 a D (shM cy a σ) s H locs → lv_has ls 3 [(0, .ref (a 0)), (1, .int x1)] → W p l e ({ frames := 5, cells := 0, slots := 0, locals := 109 }) s m args below meth c H locs 0 0 (MQ below (qg_ 16 a D (shM cy a σ') none s.heap.size) args s 0 0 (fr_ 16 a s.heap.size)) (F0 m 0 ls []) := by
  obtain ⟨hx, hb, hr, hml, hown, hts, hlk, hK, hA, hXf⟩ := id X
  intro σ x1 H locs ls h I hl
  unfold M_childHere_0 at h
  refine lv_bipush (v := 16) hx hb dX12_childHere_0 (by decide) ?_
  refine lv_bipush (v := 6) hx hb dX12_childHere_2 (by decide) ?_
  refine lv_aload_n hx hb dX12_childHere_4 rfl (lv_at hl 0 rfl) ?_
  refine ig_ (index := 7) X I (fun _ q => List.mem_cons_of_mem _ (List.mem_append_right _ q)) 0 (by decide) shM_0 rfl 0 (by decide) (by decide +kernel) rfl (v := .ref (a 1)) rfl dX12_childHere_5 ?_
  refine lv_iconst (v := 0) hx hb dX12_childHere_8 (by decide) ?_
  refine ia_ X I 1 (by decide) shM_1 (in_of (by decide)) (v0 := rd_ σ 1 0) rfl dX12_childHere_9 ?_
  refine lv_imul hx hb dX12_childHere_10 ?_
  refine lv_iadd hx hb dX12_childHere_11 ?_
  refine lv_topi (fun y_1 e_2 => ?_)
  have h := lt_at h e_2
  refine lv_istore_n (lv' := [(2, .int y_1), (0, .ref (a 0)), (1, .int x1)]) hx hb dX12_childHere_12 rfl hl (by decide) rfl (fun ls hl => ?_)
  refine lv_aload_n hx hb dX12_childHere_13 rfl (lv_at hl 1 rfl) ?_
  refine lv_aload_n hx hb dX12_childHere_14 rfl (lv_at hl 1 rfl) ?_
  refine ig_ (index := 7) X I (fun _ q => List.mem_cons_of_mem _ (List.mem_append_right _ q)) 0 (by decide) shM_0 rfl 0 (by decide) (by decide +kernel) rfl (v := .ref (a 1)) rfl dX12_childHere_15 ?_
  refine lv_iconst (v := 0) hx hb dX12_childHere_18 (by decide) ?_
  refine ia_ X I 1 (by decide) shM_1 (in_of (by decide)) (v0 := rd_ σ 1 0) rfl dX12_childHere_19 ?_
  refine lv_bipush (v := 8) hx hb dX12_childHere_20 (by decide) ?_
  refine lv_icmp_ge (tgt := 29) hx hb dX12_childHere_22 (by decide) (fun c_3 => ?_) (fun c_3 => ?_)
  · have h := if_t h c_3
    refine lv_iconst (v := 0) hx hb dX12_childHere_29 (by decide) ?_
    exact kM_childHere_30 X  σ x1 y_1 (0 : Int32) H locs ls h I (lv_sub hl [1, 2, 0] rfl)
  · have h := if_f h c_3
    refine lv_iconst (v := 1) hx hb dX12_childHere_25 (by decide) ?_
    refine lv_goto (tgt := 30) hx hb dX12_childHere_26 (by decide) ?_
    exact kM_childHere_30 X  σ x1 y_1 (1 : Int32) H locs ls h I (lv_sub hl [1, 2, 0] rfl)
theorem c_M_childHere {l : Launch} {D : va_G} {cy : Nat → ClassId} {a : Nat → Nat} {σ : Sg} {x1 : Int32}  {σ' : Sg} (h : M_childHere_0 σ x1 = some ((), σ')) (sz : Nat) : Met l yX12_childHere wsX12_childHere ({ frames := 5, cells := 0, slots := 0, locals := 109 }) (va_Pc [.ref (a 0), .int x1] (pr_ 16 a D cy (shM cy a σ) xfM sz)) (qg_ 16 a D (shM cy a σ') none sz) 0 0 (fr_ 16 a sz) := by
  refine ent_ (by decide) rfl (Nat.le_of_ble_eq_true rfl) ?_
  intro p e s m below meth c ls hsz X I hl
  subst hsz
  exact kM_childHere_0 X σ x1 s.heap [] ls h I hl

def M_itemHere_132  (σ : Sg) (t1 : Int32) : Option (Unit × Sg) :=
  bi_ (M_needs_0 σ t1) fun _ σ_2 =>
  some ((), σ_2)
set_option maxRecDepth 100000 in
theorem kM_itemHere_132 {p : Program} {l : Launch} {e : Env} {s : State} {m : MethodId} {args : Array Value} {below : List Frame} {meth : Method} {c : Code} {D : va_G} {cy : Nat → ClassId} {a : Nat → Nat} (X : cx_ cX12_itemHere RX12 wsX12_itemHere 3 none 16 a D cy xfM p s m args meth c)   {σ' : Sg}  : ∀ (σ : Sg) (t1 : Int32) (H : Heap) (locs : List Loc) (ls : Array Slot), M_itemHere_132 σ t1 = some ((), σ') → iv_ 16 a D (shM cy a σ) s H locs → lv_has ls 3 [] → W p l e ({ frames := 6, cells := 0, slots := 0, locals := 131 }) s m args below meth c H locs 0 0 (MQ below (qg_ 16 a D (shM cy a σ') none s.heap.size) args s 0 0 (fr_ 16 a s.heap.size)) (F0 m 132 ls [.int t1, .ref (a 0)]) := by
  obtain ⟨hx, hb, hr, hml, hown, hts, hlk, hK, hA, hXf⟩ := id X
  intro σ t1 H locs ls h I hl
  unfold M_itemHere_132 at h
  obtain ⟨_, σ_2, hc_1, h⟩ := bi_of h
  refine cv_ (rV_ (nn := 1) (As := [.int t1]) (rest := []) X xkM I (c_M_needs hc_1 H.size) gX12_itemHere_X12_needs rfl ⟨rfl, rfl⟩ (by decide +kernel) ⟨Nat.le_of_ble_eq_true rfl, Nat.le_of_ble_eq_true rfl⟩ (by decide) shM_0 rfl rfl hl.1 rfl (Nat.le_of_ble_eq_true rfl) dX12_itemHere_132) I (fun H locs I => ?_)
  obtain rfl := re_v h
  exact rtv_ X I dX12_itemHere_135
def M_itemHere_131  (σ : Sg)  : Option (Unit × Sg) :=
  M_itemHere_132 σ (0 : Int32)
set_option maxRecDepth 100000 in
theorem kM_itemHere_131 {p : Program} {l : Launch} {e : Env} {s : State} {m : MethodId} {args : Array Value} {below : List Frame} {meth : Method} {c : Code} {D : va_G} {cy : Nat → ClassId} {a : Nat → Nat} (X : cx_ cX12_itemHere RX12 wsX12_itemHere 3 none 16 a D cy xfM p s m args meth c)   {σ' : Sg}  : ∀ (σ : Sg)  (H : Heap) (locs : List Loc) (ls : Array Slot), M_itemHere_131 σ = some ((), σ') → iv_ 16 a D (shM cy a σ) s H locs → lv_has ls 3 [] → W p l e ({ frames := 6, cells := 0, slots := 0, locals := 131 }) s m args below meth c H locs 0 0 (MQ below (qg_ 16 a D (shM cy a σ') none s.heap.size) args s 0 0 (fr_ 16 a s.heap.size)) (F0 m 131 ls [.ref (a 0)]) := by
  obtain ⟨hx, hb, hr, hml, hown, hts, hlk, hK, hA, hXf⟩ := id X
  intro σ  H locs ls h I hl
  unfold M_itemHere_131 at h
  refine lv_iconst (v := 0) hx hb dX12_itemHere_131 (by decide) ?_
  exact kM_itemHere_132 X  σ (0 : Int32) H locs ls h I (lv_sub hl [] rfl)
def M_itemHere_105  (σ : Sg)  : Option (Unit × Sg) :=
  if (rd_ σ 0 7) = (3 : Int32) then (bi_ (M_byteAt_0 σ (rd_ σ 0 8)) fun r_4 σ_3 =>
  if r_4 = (59 : Int32) then (M_itemHere_132 σ_3 (1 : Int32))
  else (M_itemHere_131 σ_3))
  else (M_itemHere_131 σ)
set_option maxRecDepth 100000 in
theorem kM_itemHere_105 {p : Program} {l : Launch} {e : Env} {s : State} {m : MethodId} {args : Array Value} {below : List Frame} {meth : Method} {c : Code} {D : va_G} {cy : Nat → ClassId} {a : Nat → Nat} (X : cx_ cX12_itemHere RX12 wsX12_itemHere 3 none 16 a D cy xfM p s m args meth c)   {σ' : Sg}  : ∀ (σ : Sg)  (H : Heap) (locs : List Loc) (ls : Array Slot), M_itemHere_105 σ = some ((), σ') → iv_ 16 a D (shM cy a σ) s H locs → lv_has ls 3 [(0, .ref (a 0))] → W p l e ({ frames := 6, cells := 0, slots := 0, locals := 131 }) s m args below meth c H locs 0 0 (MQ below (qg_ 16 a D (shM cy a σ') none s.heap.size) args s 0 0 (fr_ 16 a s.heap.size)) (F0 m 105 ls []) := by
  obtain ⟨hx, hb, hr, hml, hown, hts, hlk, hK, hA, hXf⟩ := id X
  intro σ  H locs ls h I hl
  unfold M_itemHere_105 at h
  refine lv_aload_n hx hb dX12_itemHere_105 rfl (lv_at hl 0 rfl) ?_
  refine lv_aload_n hx hb dX12_itemHere_106 rfl (lv_at hl 0 rfl) ?_
  refine ig_ (index := 87) X I (fun _ q => List.mem_cons_of_mem _ (List.mem_append_right _ q)) 0 (by decide) shM_0 rfl 7 (by decide) (by decide +kernel) rfl (v := .int (rd_ σ 0 7)) rfl dX12_itemHere_107 ?_
  refine lv_iconst (v := 3) hx hb dX12_itemHere_110 (by decide) ?_
  refine lv_icmp_ne (tgt := 131) hx hb dX12_itemHere_111 (by decide) (fun c_1 => ?_) (fun c_1 => ?_)
  · have h := if_f h c_1
    exact kM_itemHere_131 X  σ H locs ls h I (lv_sub hl [] rfl)
  · have h := if_t h c_1
    refine lv_aload_n hx hb dX12_itemHere_114 rfl (lv_at hl 0 rfl) ?_
    refine lv_aload_n hx hb dX12_itemHere_115 rfl (lv_at hl 0 rfl) ?_
    refine ig_ (index := 73) X I (fun _ q => List.mem_cons_of_mem _ (List.mem_append_right _ q)) 0 (by decide) shM_0 rfl 8 (by decide) (by decide +kernel) rfl (v := .int (rd_ σ 0 8)) rfl dX12_itemHere_116 ?_
    obtain ⟨r_4, σ_3, hc_2, h⟩ := bi_of h
    refine cg_ (rV_ (nn := 1) (As := [.int (rd_ σ 0 8)]) (rest := [.ref (a 0)]) X xkM I (c_M_byteAt hc_2 H.size) gX12_itemHere_X12_byteAt rfl ⟨rfl, rfl⟩ (by decide +kernel) ⟨Nat.le_of_ble_eq_true rfl, Nat.le_of_ble_eq_true rfl⟩ (by decide) shM_0 rfl rfl hl.1 rfl (Nat.le_of_ble_eq_true rfl) dX12_itemHere_119) I (fun H locs I => ?_)
    refine lv_bipush (v := 59) hx hb dX12_itemHere_122 (by decide) ?_
    refine lv_icmp_ne (tgt := 131) hx hb dX12_itemHere_124 (by decide) (fun c_5 => ?_) (fun c_5 => ?_)
    · have h := if_f h c_5
      exact kM_itemHere_131 X  σ_3 H locs ls h I (lv_sub hl [] rfl)
    · have h := if_t h c_5
      refine lv_iconst (v := 1) hx hb dX12_itemHere_127 (by decide) ?_
      refine lv_goto (tgt := 132) hx hb dX12_itemHere_128 (by decide) ?_
      exact kM_itemHere_132 X  σ_3 (1 : Int32) H locs ls h I (lv_sub hl [] rfl)
def M_itemHere_50  (σ : Sg) (t2 : Int32) (t1 : Int32) : Option (Unit × Sg) :=
  bi_ (M_numberTo_0 σ t1 t2) fun _ σ_2 =>
  M_itemHere_105 σ_2
set_option maxRecDepth 100000 in
theorem kM_itemHere_50 {p : Program} {l : Launch} {e : Env} {s : State} {m : MethodId} {args : Array Value} {below : List Frame} {meth : Method} {c : Code} {D : va_G} {cy : Nat → ClassId} {a : Nat → Nat} (X : cx_ cX12_itemHere RX12 wsX12_itemHere 3 none 16 a D cy xfM p s m args meth c)   {σ' : Sg}  : ∀ (σ : Sg) (t2 : Int32) (t1 : Int32) (H : Heap) (locs : List Loc) (ls : Array Slot), M_itemHere_50 σ t2 t1 = some ((), σ') → iv_ 16 a D (shM cy a σ) s H locs → lv_has ls 3 [(0, .ref (a 0))] → W p l e ({ frames := 6, cells := 0, slots := 0, locals := 131 }) s m args below meth c H locs 0 0 (MQ below (qg_ 16 a D (shM cy a σ') none s.heap.size) args s 0 0 (fr_ 16 a s.heap.size)) (F0 m 50 ls [.int t2, .int t1, .ref (a 0)]) := by
  obtain ⟨hx, hb, hr, hml, hown, hts, hlk, hK, hA, hXf⟩ := id X
  intro σ t2 t1 H locs ls h I hl
  unfold M_itemHere_50 at h
  obtain ⟨_, σ_2, hc_1, h⟩ := bi_of h
  refine cv_ (rV_ (nn := 2) (As := [.int t1, .int t2]) (rest := []) X xkM I (c_M_numberTo hc_1 H.size) gX12_itemHere_X12_numberTo rfl ⟨rfl, rfl⟩ (by decide +kernel) ⟨Nat.le_of_ble_eq_true rfl, Nat.le_of_ble_eq_true rfl⟩ (by decide) shM_0 rfl rfl hl.1 rfl (Nat.le_of_ble_eq_true rfl) dX12_itemHere_50) I (fun H locs I => ?_)
  refine lv_goto (tgt := 105) hx hb dX12_itemHere_53 (by decide) ?_
  exact kM_itemHere_105 X  σ_2 H locs ls h I (lv_sub hl [0] rfl)
def M_itemHere_43  (σ : Sg) (t1 : Int32) : Option (Unit × Sg) :=
  M_itemHere_50 σ (99 : Int32) t1
set_option maxRecDepth 100000 in
theorem kM_itemHere_43 {p : Program} {l : Launch} {e : Env} {s : State} {m : MethodId} {args : Array Value} {below : List Frame} {meth : Method} {c : Code} {D : va_G} {cy : Nat → ClassId} {a : Nat → Nat} (X : cx_ cX12_itemHere RX12 wsX12_itemHere 3 none 16 a D cy xfM p s m args meth c)   {σ' : Sg}  : ∀ (σ : Sg) (t1 : Int32) (H : Heap) (locs : List Loc) (ls : Array Slot), M_itemHere_43 σ t1 = some ((), σ') → iv_ 16 a D (shM cy a σ) s H locs → lv_has ls 3 [(0, .ref (a 0))] → W p l e ({ frames := 6, cells := 0, slots := 0, locals := 131 }) s m args below meth c H locs 0 0 (MQ below (qg_ 16 a D (shM cy a σ') none s.heap.size) args s 0 0 (fr_ 16 a s.heap.size)) (F0 m 43 ls [.int t1, .ref (a 0)]) := by
  obtain ⟨hx, hb, hr, hml, hown, hts, hlk, hK, hA, hXf⟩ := id X
  intro σ t1 H locs ls h I hl
  unfold M_itemHere_43 at h
  refine lv_bipush (v := 99) hx hb dX12_itemHere_43 (by decide) ?_
  refine lv_goto (tgt := 50) hx hb dX12_itemHere_45 (by decide) ?_
  exact kM_itemHere_50 X  σ (99 : Int32) t1 H locs ls h I (lv_sub hl [0] rfl)
def M_itemHere_0  (σ : Sg)  : Option (Unit × Sg) :=
  bi_ (M_kindHere_0 σ) fun r_3 σ_2 =>
  bi_ (M_lawHere_0 σ_2) fun r_6 σ_5 =>
  if r_3 < 0 then (if r_6 < 0 then (bi_ (M_isFour_0 σ_5 (118 : Int32) (105 : Int32) (99 : Int32) (101 : Int32)) fun r_11 σ_10 =>
  if r_11 = 0 then (bi_ (M_isFour_0 σ_10 (101 : Int32) (97 : Int32) (115 : Int32) (121 : Int32)) fun r_15 σ_14 =>
  if r_15 = 0 then (bi_ (M_needs_0 σ_14 (0 : Int32)) fun _ σ_18 =>
  M_itemHere_105 σ_18)
  else (bi_ (M_easyHere_0 σ_14) fun _ σ_20 =>
  M_itemHere_105 σ_20))
  else (bi_ (M_viceHere_0 σ_10) fun _ σ_22 =>
  M_itemHere_105 σ_22))
  else (bi_ (M_nextToken_0 σ_5) fun _ σ_24 =>
  if r_6 = (5 : Int32) then (M_itemHere_43 σ_24 r_6)
  else (if r_6 = (6 : Int32) then (M_itemHere_43 σ_24 r_6)
  else (M_itemHere_50 σ_24 (9 : Int32) r_6))))
  else (bi_ (M_childHere_0 σ_5 r_3) fun _ σ_28 =>
  M_itemHere_105 σ_28)
set_option maxRecDepth 100000 in
theorem kM_itemHere_0 {p : Program} {l : Launch} {e : Env} {s : State} {m : MethodId} {args : Array Value} {below : List Frame} {meth : Method} {c : Code} {D : va_G} {cy : Nat → ClassId} {a : Nat → Nat} (X : cx_ cX12_itemHere RX12 wsX12_itemHere 3 none 16 a D cy xfM p s m args meth c)   {σ' : Sg}  : ∀ (σ : Sg)  (H : Heap) (locs : List Loc) (ls : Array Slot), M_itemHere_0 σ = some ((), σ') → iv_ 16 a D (shM cy a σ) s H locs → lv_has ls 3 [(0, .ref (a 0))] → W p l e ({ frames := 6, cells := 0, slots := 0, locals := 131 }) s m args below meth c H locs 0 0 (MQ below (qg_ 16 a D (shM cy a σ') none s.heap.size) args s 0 0 (fr_ 16 a s.heap.size)) (F0 m 0 ls []) := by
  obtain ⟨hx, hb, hr, hml, hown, hts, hlk, hK, hA, hXf⟩ := id X
  intro σ  H locs ls h I hl
  unfold M_itemHere_0 at h
  refine lv_aload_n hx hb dX12_itemHere_0 rfl (lv_at hl 0 rfl) ?_
  obtain ⟨r_3, σ_2, hc_1, h⟩ := bi_of h
  refine cg_ (rV_ (nn := 0) (As := []) (rest := []) X xkM I (c_M_kindHere hc_1 H.size) gX12_itemHere_X12_kindHere rfl ⟨rfl, rfl⟩ (by decide +kernel) ⟨Nat.le_of_ble_eq_true rfl, Nat.le_of_ble_eq_true rfl⟩ (by decide) shM_0 rfl rfl hl.1 rfl (Nat.le_of_ble_eq_true rfl) dX12_itemHere_1) I (fun H locs I => ?_)
  refine lv_istore_n (lv' := [(1, .int r_3), (0, .ref (a 0))]) hx hb dX12_itemHere_4 rfl hl (by decide) rfl (fun ls hl => ?_)
  refine lv_aload_n hx hb dX12_itemHere_5 rfl (lv_at hl 1 rfl) ?_
  obtain ⟨r_6, σ_5, hc_4, h⟩ := bi_of h
  refine cg_ (rV_ (nn := 0) (As := []) (rest := []) X xkM I (c_M_lawHere hc_4 H.size) gX12_itemHere_X12_lawHere rfl ⟨rfl, rfl⟩ (by decide +kernel) ⟨Nat.le_of_ble_eq_true rfl, Nat.le_of_ble_eq_true rfl⟩ (by decide) shM_0 rfl rfl hl.1 rfl (Nat.le_of_ble_eq_true rfl) dX12_itemHere_6) I (fun H locs I => ?_)
  refine lv_istore_n (lv' := [(2, .int r_6), (1, .int r_3), (0, .ref (a 0))]) hx hb dX12_itemHere_9 rfl hl (by decide) rfl (fun ls hl => ?_)
  refine lv_iload_n hx hb dX12_itemHere_10 rfl (lv_at hl 1 rfl) ?_
  refine lv_if_lt (tgt := 22) hx hb dX12_itemHere_11 (by decide) (fun c_7 => ?_) (fun c_7 => ?_)
  · have h := if_t h c_7
    refine lv_iload_n hx hb dX12_itemHere_22 rfl (lv_at hl 0 rfl) ?_
    refine lv_if_lt (tgt := 56) hx hb dX12_itemHere_23 (by decide) (fun c_8 => ?_) (fun c_8 => ?_)
    · have h := if_t h c_8
      refine lv_aload_n hx hb dX12_itemHere_56 rfl (lv_at hl 2 rfl) ?_
      refine lv_bipush (v := 118) hx hb dX12_itemHere_57 (by decide) ?_
      refine lv_bipush (v := 105) hx hb dX12_itemHere_59 (by decide) ?_
      refine lv_bipush (v := 99) hx hb dX12_itemHere_61 (by decide) ?_
      refine lv_bipush (v := 101) hx hb dX12_itemHere_63 (by decide) ?_
      obtain ⟨r_11, σ_10, hc_9, h⟩ := bi_of h
      refine cg_ (rV_ (nn := 4) (As := [.int (118 : Int32), .int (105 : Int32), .int (99 : Int32), .int (101 : Int32)]) (rest := []) X xkM I (c_M_isFour hc_9 H.size) gX12_itemHere_X12_isFour rfl ⟨rfl, rfl⟩ (by decide +kernel) ⟨Nat.le_of_ble_eq_true rfl, Nat.le_of_ble_eq_true rfl⟩ (by decide) shM_0 rfl rfl hl.1 rfl (Nat.le_of_ble_eq_true rfl) dX12_itemHere_65) I (fun H locs I => ?_)
      refine lv_if_eq (tgt := 78) hx hb dX12_itemHere_68 (by decide) (fun c_12 => ?_) (fun c_12 => ?_)
      · have h := if_t h c_12
        refine lv_aload_n hx hb dX12_itemHere_78 rfl (lv_at hl 2 rfl) ?_
        refine lv_bipush (v := 101) hx hb dX12_itemHere_79 (by decide) ?_
        refine lv_bipush (v := 97) hx hb dX12_itemHere_81 (by decide) ?_
        refine lv_bipush (v := 115) hx hb dX12_itemHere_83 (by decide) ?_
        refine lv_bipush (v := 121) hx hb dX12_itemHere_85 (by decide) ?_
        obtain ⟨r_15, σ_14, hc_13, h⟩ := bi_of h
        refine cg_ (rV_ (nn := 4) (As := [.int (101 : Int32), .int (97 : Int32), .int (115 : Int32), .int (121 : Int32)]) (rest := []) X xkM I (c_M_isFour hc_13 H.size) gX12_itemHere_X12_isFour rfl ⟨rfl, rfl⟩ (by decide +kernel) ⟨Nat.le_of_ble_eq_true rfl, Nat.le_of_ble_eq_true rfl⟩ (by decide) shM_0 rfl rfl hl.1 rfl (Nat.le_of_ble_eq_true rfl) dX12_itemHere_87) I (fun H locs I => ?_)
        refine lv_if_eq (tgt := 100) hx hb dX12_itemHere_90 (by decide) (fun c_16 => ?_) (fun c_16 => ?_)
        · have h := if_t h c_16
          refine lv_aload_n hx hb dX12_itemHere_100 rfl (lv_at hl 2 rfl) ?_
          refine lv_iconst (v := 0) hx hb dX12_itemHere_101 (by decide) ?_
          obtain ⟨_, σ_18, hc_17, h⟩ := bi_of h
          refine cv_ (rV_ (nn := 1) (As := [.int (0 : Int32)]) (rest := []) X xkM I (c_M_needs hc_17 H.size) gX12_itemHere_X12_needs rfl ⟨rfl, rfl⟩ (by decide +kernel) ⟨Nat.le_of_ble_eq_true rfl, Nat.le_of_ble_eq_true rfl⟩ (by decide) shM_0 rfl rfl hl.1 rfl (Nat.le_of_ble_eq_true rfl) dX12_itemHere_102) I (fun H locs I => ?_)
          exact kM_itemHere_105 X  σ_18 H locs ls h I (lv_sub hl [2] rfl)
        · have h := if_f h c_16
          refine lv_aload_n hx hb dX12_itemHere_93 rfl (lv_at hl 2 rfl) ?_
          obtain ⟨_, σ_20, hc_19, h⟩ := bi_of h
          refine cv_ (rV_ (nn := 0) (As := []) (rest := []) X xkM I (c_M_easyHere hc_19 H.size) gX12_itemHere_X12_easyHere rfl ⟨rfl, rfl⟩ (by decide +kernel) ⟨Nat.le_of_ble_eq_true rfl, Nat.le_of_ble_eq_true rfl⟩ (by decide) shM_0 rfl rfl hl.1 rfl (Nat.le_of_ble_eq_true rfl) dX12_itemHere_94) I (fun H locs I => ?_)
          refine lv_goto (tgt := 105) hx hb dX12_itemHere_97 (by decide) ?_
          exact kM_itemHere_105 X  σ_20 H locs ls h I (lv_sub hl [2] rfl)
      · have h := if_f h c_12
        refine lv_aload_n hx hb dX12_itemHere_71 rfl (lv_at hl 2 rfl) ?_
        obtain ⟨_, σ_22, hc_21, h⟩ := bi_of h
        refine cv_ (rV_ (nn := 0) (As := []) (rest := []) X xkM I (c_M_viceHere hc_21 H.size) gX12_itemHere_X12_viceHere rfl ⟨rfl, rfl⟩ (by decide +kernel) ⟨Nat.le_of_ble_eq_true rfl, Nat.le_of_ble_eq_true rfl⟩ (by decide) shM_0 rfl rfl hl.1 rfl (Nat.le_of_ble_eq_true rfl) dX12_itemHere_72) I (fun H locs I => ?_)
        refine lv_goto (tgt := 105) hx hb dX12_itemHere_75 (by decide) ?_
        exact kM_itemHere_105 X  σ_22 H locs ls h I (lv_sub hl [2] rfl)
    · have h := if_f h c_8
      refine lv_aload_n hx hb dX12_itemHere_26 rfl (lv_at hl 2 rfl) ?_
      obtain ⟨_, σ_24, hc_23, h⟩ := bi_of h
      refine cv_ (rV_ (nn := 0) (As := []) (rest := []) X xkM I (c_M_nextToken hc_23 H.size) gX12_itemHere_X12_nextToken rfl ⟨rfl, rfl⟩ (by decide +kernel) ⟨Nat.le_of_ble_eq_true rfl, Nat.le_of_ble_eq_true rfl⟩ (by decide) shM_0 rfl rfl hl.1 rfl (Nat.le_of_ble_eq_true rfl) dX12_itemHere_27) I (fun H locs I => ?_)
      refine lv_aload_n hx hb dX12_itemHere_30 rfl (lv_at hl 2 rfl) ?_
      refine lv_iload_n hx hb dX12_itemHere_31 rfl (lv_at hl 0 rfl) ?_
      refine lv_iload_n hx hb dX12_itemHere_32 rfl (lv_at hl 0 rfl) ?_
      refine lv_iconst (v := 5) hx hb dX12_itemHere_33 (by decide) ?_
      refine lv_icmp_eq (tgt := 43) hx hb dX12_itemHere_34 (by decide) (fun c_25 => ?_) (fun c_25 => ?_)
      · have h := if_t h c_25
        exact kM_itemHere_43 X  σ_24 r_6 H locs ls h I (lv_sub hl [2] rfl)
      · have h := if_f h c_25
        refine lv_iload_n hx hb dX12_itemHere_37 rfl (lv_at hl 0 rfl) ?_
        refine lv_bipush (v := 6) hx hb dX12_itemHere_38 (by decide) ?_
        refine lv_icmp_ne (tgt := 48) hx hb dX12_itemHere_40 (by decide) (fun c_26 => ?_) (fun c_26 => ?_)
        · have h := if_f h c_26
          refine lv_bipush (v := 9) hx hb dX12_itemHere_48 (by decide) ?_
          exact kM_itemHere_50 X  σ_24 (9 : Int32) r_6 H locs ls h I (lv_sub hl [2] rfl)
        · have h := if_t h c_26
          exact kM_itemHere_43 X  σ_24 r_6 H locs ls h I (lv_sub hl [2] rfl)
  · have h := if_f h c_7
    refine lv_aload_n hx hb dX12_itemHere_14 rfl (lv_at hl 2 rfl) ?_
    refine lv_iload_n hx hb dX12_itemHere_15 rfl (lv_at hl 1 rfl) ?_
    obtain ⟨_, σ_28, hc_27, h⟩ := bi_of h
    refine cv_ (rV_ (nn := 1) (As := [.int r_3]) (rest := []) X xkM I (c_M_childHere hc_27 H.size) gX12_itemHere_X12_childHere rfl ⟨rfl, rfl⟩ (by decide +kernel) ⟨Nat.le_of_ble_eq_true rfl, Nat.le_of_ble_eq_true rfl⟩ (by decide) shM_0 rfl rfl hl.1 rfl (Nat.le_of_ble_eq_true rfl) dX12_itemHere_16) I (fun H locs I => ?_)
    refine lv_goto (tgt := 105) hx hb dX12_itemHere_19 (by decide) ?_
    exact kM_itemHere_105 X  σ_28 H locs ls h I (lv_sub hl [2] rfl)
theorem c_M_itemHere {l : Launch} {D : va_G} {cy : Nat → ClassId} {a : Nat → Nat} {σ : Sg}   {σ' : Sg} (h : M_itemHere_0 σ  = some ((), σ')) (sz : Nat) : Met l yX12_itemHere wsX12_itemHere ({ frames := 6, cells := 0, slots := 0, locals := 131 }) (va_Pc [.ref (a 0)] (pr_ 16 a D cy (shM cy a σ) xfM sz)) (qg_ 16 a D (shM cy a σ') none sz) 0 0 (fr_ 16 a sz) := by
  refine ent_ (by decide) rfl (Nat.le_of_ble_eq_true rfl) ?_
  intro p e s m below meth c ls hsz X I hl
  subst hsz
  exact kM_itemHere_0 X σ  s.heap [] ls h I hl

def M_copyRow_4_1_2 (k2 : Sg → Int32 → Option (Unit × Sg)) (σ : Sg) (x2 : Int32) : Option (Unit × Sg) :=
  if (64 : Int32) ≤ x2 then (some ((), σ))
  else (gd_ (in_ x2 64) (
  gd_ (in_ x2 64) (
  lt_ (wr_ σ 1 x2.toNatClampNeg (rd_ σ 4 x2.toNatClampNeg)) fun σ_4 =>
  lt_ (x2 + (1 : Int32)) fun y_6 =>
  k2 σ_4 y_6)))
set_option maxRecDepth 100000 in
theorem kM_copyRow_4_1_2 {p : Program} {l : Launch} {e : Env} {s : State} {m : MethodId} {args : Array Value} {below : List Frame} {meth : Method} {c : Code} {D : va_G} {cy : Nat → ClassId} {a : Nat → Nat} (X : cx_ cX12_copyRow RX12 wsX12_copyRow 3 none 16 a D cy xfM p s m args meth c) {k2 : Sg → Int32 → Option (Unit × Sg)}  {σ' : Sg} (hk2 : ∀ (σ : Sg) (x2 : Int32) (H : Heap) (locs : List Loc) (ls : Array Slot), k2 σ x2 = some ((), σ') → iv_ 16 a D (shM cy a σ) s H locs → lv_has ls 3 [(0, .ref (a 4)), (1, .ref (a 1)), (2, .int x2)] → W p l e ({ frames := 0, cells := 0, slots := 0, locals := 0 }) s m args below meth c H locs 0 0 (MQ below (qg_ 16 a D (shM cy a σ') none s.heap.size) args s 0 0 (fr_ 16 a s.heap.size)) (F0 m 2 ls [])) : ∀ (σ : Sg) (x2 : Int32) (H : Heap) (locs : List Loc) (ls : Array Slot), M_copyRow_4_1_2 k2 σ x2 = some ((), σ') → iv_ 16 a D (shM cy a σ) s H locs → lv_has ls 3 [(0, .ref (a 4)), (1, .ref (a 1)), (2, .int x2)] → W p l e ({ frames := 0, cells := 0, slots := 0, locals := 0 }) s m args below meth c H locs 0 0 (MQ below (qg_ 16 a D (shM cy a σ') none s.heap.size) args s 0 0 (fr_ 16 a s.heap.size)) (F0 m 2 ls []) := by
  obtain ⟨hx, hb, hr, hml, hown, hts, hlk, hK, hA, hXf⟩ := id X
  intro σ x2 H locs ls h I hl
  unfold M_copyRow_4_1_2 at h
  refine lv_iload_n hx hb dX12_copyRow_2 rfl (lv_at hl 2 rfl) ?_
  refine lv_bipush (v := 64) hx hb dX12_copyRow_3 (by decide) ?_
  refine lv_icmp_ge (tgt := 20) hx hb dX12_copyRow_5 (by decide) (fun c_1 => ?_) (fun c_1 => ?_)
  · have h := if_t h c_1
    obtain rfl := re_v h
    exact rtv_ X I dX12_copyRow_20
  · have h := if_f h c_1
    refine lv_aload_n hx hb dX12_copyRow_8 rfl (lv_at hl 1 rfl) ?_
    refine lv_iload_n hx hb dX12_copyRow_9 rfl (lv_at hl 2 rfl) ?_
    refine lv_aload_n hx hb dX12_copyRow_10 rfl (lv_at hl 0 rfl) ?_
    refine lv_iload_n hx hb dX12_copyRow_11 rfl (lv_at hl 2 rfl) ?_
    obtain ⟨g_2, h⟩ := gd_of h
    refine ia_ X I 4 (by decide) shM_4 (in_of g_2) (v0 := rd_ σ 4 x2.toNatClampNeg) rfl dX12_copyRow_12 ?_
    obtain ⟨g_3, h⟩ := gd_of h
    refine is_ (σ2 := wr_ σ 1 x2.toNatClampNeg (rd_ σ 4 x2.toNatClampNeg)) X I 1 (by decide) shM_1 (in_of g_3) shM_st_1 dX12_copyRow_13 (fun σ_4 H locs e_5 I => ?_)
    have h := lt_at h e_5
    obtain ⟨y_6, e_7⟩ : ∃ q : Int32, q = x2 + (1 : Int32) := ⟨_, rfl⟩
    have h := lt_at h e_7
    refine lv_iinc (v := y_6) (lv' := [(2, .int y_6), (0, .ref (a 4)), (1, .ref (a 1))]) hx hb dX12_copyRow_14 hl (k := 2) rfl (by rw [e_7]; rfl) (by decide) rfl (fun ls hl => ?_)
    refine lv_goto (tgt := 2) hx hb dX12_copyRow_17 (by decide) ?_
    exact hk2 σ_4 y_6 H locs ls h I (lv_sub hl [1, 2, 0] rfl)
set_option maxRecDepth 100000 in
theorem kM_copyRow_4_1_2L {p : Program} {l : Launch} {e : Env} {s : State} {m : MethodId} {args : Array Value} {below : List Frame} {meth : Method} {c : Code} {D : va_G} {cy : Nat → ClassId} {a : Nat → Nat} (X : cx_ cX12_copyRow RX12 wsX12_copyRow 3 none 16 a D cy xfM p s m args meth c)   {σ' : Sg}  : ∀ (n : Nat), ∀ (σ : Sg) (x2 : Int32) (H : Heap) (locs : List Loc) (ls : Array Slot), lp_ (M_copyRow_4_1_2) (fun _ _ => none) n σ x2 = some ((), σ') → iv_ 16 a D (shM cy a σ) s H locs → lv_has ls 3 [(0, .ref (a 4)), (1, .ref (a 1)), (2, .int x2)] → W p l e ({ frames := 0, cells := 0, slots := 0, locals := 0 }) s m args below meth c H locs 0 0 (MQ below (qg_ 16 a D (shM cy a σ') none s.heap.size) args s 0 0 (fr_ 16 a s.heap.size)) (F0 m 2 ls []) := by
  intro n
  induction n with
  | zero =>
    intro _ _ _ _ _ h
    exact absurd h (fun q => by cases (show (none : Option _) = some _ from q))
  | succ n ih => exact kM_copyRow_4_1_2 X ih

def M_copyRow_4_1_0  (σ : Sg)  : Option (Unit × Sg) :=
  lp_ M_copyRow_4_1_2 (fun _ _ => none) FU σ (0 : Int32)
set_option maxRecDepth 100000 in
theorem kM_copyRow_4_1_0 {p : Program} {l : Launch} {e : Env} {s : State} {m : MethodId} {args : Array Value} {below : List Frame} {meth : Method} {c : Code} {D : va_G} {cy : Nat → ClassId} {a : Nat → Nat} (X : cx_ cX12_copyRow RX12 wsX12_copyRow 3 none 16 a D cy xfM p s m args meth c)   {σ' : Sg}  : ∀ (σ : Sg)  (H : Heap) (locs : List Loc) (ls : Array Slot), M_copyRow_4_1_0 σ = some ((), σ') → iv_ 16 a D (shM cy a σ) s H locs → lv_has ls 3 [(0, .ref (a 4)), (1, .ref (a 1))] → W p l e ({ frames := 0, cells := 0, slots := 0, locals := 0 }) s m args below meth c H locs 0 0 (MQ below (qg_ 16 a D (shM cy a σ') none s.heap.size) args s 0 0 (fr_ 16 a s.heap.size)) (F0 m 0 ls []) := by
  obtain ⟨hx, hb, hr, hml, hown, hts, hlk, hK, hA, hXf⟩ := id X
  intro σ  H locs ls h I hl
  unfold M_copyRow_4_1_0 at h
  refine lv_iconst (v := 0) hx hb dX12_copyRow_0 (by decide) ?_
  refine lv_istore_n (lv' := [(2, .int (0 : Int32)), (0, .ref (a 4)), (1, .ref (a 1))]) hx hb dX12_copyRow_1 rfl hl (by decide) rfl (fun ls hl => ?_)
  exact kM_copyRow_4_1_2L X  FU σ (0 : Int32) H locs ls h I (lv_sub hl [1, 2, 0] rfl)
theorem c_M_copyRow_4_1 {l : Launch} {D : va_G} {cy : Nat → ClassId} {a : Nat → Nat} {σ : Sg}   {σ' : Sg} (h : M_copyRow_4_1_0 σ  = some ((), σ')) (sz : Nat) : Met l yX12_copyRow wsX12_copyRow ({ frames := 0, cells := 0, slots := 0, locals := 0 }) (va_Pc [.ref (a 4), .ref (a 1)] (pr_ 16 a D cy (shM cy a σ) xfM sz)) (qg_ 16 a D (shM cy a σ') none sz) 0 0 (fr_ 16 a sz) := by
  refine ent_ (by decide) rfl (Nat.le_of_ble_eq_true rfl) ?_
  intro p e s m below meth c ls hsz X I hl
  subst hsz
  exact kM_copyRow_4_1_0 X σ  s.heap [] ls h I hl

def M_church_50  (σ : Sg)  : Option (Int32 × Sg) :=
  lt_ (wr_ σ 0 6 (0 : Int32)) fun σ_1 =>
  if (rd_ σ_1 0 11) = 0 then (lt_ (wr_ σ_1 0 15 (0 : Int32)) fun σ_4 =>
  some ((rd_ σ_4 1 0), σ_4))
  else (bi_ (M_copyRow_4_1_0 σ_1) fun _ σ_7 =>
  some (((-100 : Int32) - (rd_ σ_7 0 8)), σ_7))
set_option maxRecDepth 100000 in
theorem kM_church_50 {p : Program} {l : Launch} {e : Env} {s : State} {m : MethodId} {args : Array Value} {below : List Frame} {meth : Method} {c : Code} {D : va_G} {cy : Nat → ClassId} {a : Nat → Nat} (X : cx_ cX12_church RX12 wsX12_church 1 (some .int) 16 a D cy xfM p s m args meth c)  {r0 : Int32} {σ' : Sg}  : ∀ (σ : Sg)  (H : Heap) (locs : List Loc) (ls : Array Slot), M_church_50 σ = some (r0, σ') → iv_ 16 a D (shM cy a σ) s H locs → lv_has ls 1 [(0, .ref (a 0))] → W p l e ({ frames := 7, cells := 0, slots := 0, locals := 153 }) s m args below meth c H locs 0 0 (MQ below (qg_ 16 a D (shM cy a σ') (some (.int r0)) s.heap.size) args s 0 0 (fr_ 16 a s.heap.size)) (F0 m 50 ls []) := by
  obtain ⟨hx, hb, hr, hml, hown, hts, hlk, hK, hA, hXf⟩ := id X
  intro σ  H locs ls h I hl
  unfold M_church_50 at h
  refine lv_aload_n hx hb dX12_church_50 rfl (lv_at hl 0 rfl) ?_
  refine lv_iconst (v := 0) hx hb dX12_church_51 (by decide) ?_
  refine ip_ (index := 64) (ty := .int) X I (fun _ q => List.mem_cons_of_mem _ (List.mem_append_right _ q)) tyX12 tyX12_ok nmX12 0 (by decide) shM_0 rfl 6 (by decide) (by decide +kernel) rfl rfl (by decide +kernel) rfl rfl (Nat.le_of_ble_eq_true rfl) shM_pt_6 dX12_church_52 (fun σ_1 H locs e_2 I => ?_)
  have h := lt_at h e_2
  refine lv_aload_n hx hb dX12_church_55 rfl (lv_at hl 0 rfl) ?_
  refine ig_ (index := 93) X I (fun _ q => List.mem_cons_of_mem _ (List.mem_append_right _ q)) 0 (by decide) shM_0 rfl 11 (by decide) (by decide +kernel) rfl (v := .int (rd_ σ_1 0 11)) rfl dX12_church_56 ?_
  refine lv_if_eq (tgt := 81) hx hb dX12_church_59 (by decide) (fun c_3 => ?_) (fun c_3 => ?_)
  · have h := if_t h c_3
    refine lv_aload_n hx hb dX12_church_81 rfl (lv_at hl 0 rfl) ?_
    refine lv_iconst (v := 0) hx hb dX12_church_82 (by decide) ?_
    refine ip_ (index := 158) (ty := .int) X I (fun _ q => List.mem_cons_of_mem _ (List.mem_append_right _ q)) tyX12 tyX12_ok nmX12 0 (by decide) shM_0 rfl 15 (by decide) (by decide +kernel) rfl rfl (by decide +kernel) rfl rfl (Nat.le_of_ble_eq_true rfl) shM_pt_15 dX12_church_83 (fun σ_4 H locs e_5 I => ?_)
    have h := lt_at h e_5
    refine lv_aload_n hx hb dX12_church_86 rfl (lv_at hl 0 rfl) ?_
    refine ig_ (index := 7) X I (fun _ q => List.mem_cons_of_mem _ (List.mem_append_right _ q)) 0 (by decide) shM_0 rfl 0 (by decide) (by decide +kernel) rfl (v := .ref (a 1)) rfl dX12_church_87 ?_
    refine lv_iconst (v := 0) hx hb dX12_church_90 (by decide) ?_
    refine ia_ X I 1 (by decide) shM_1 (in_of (by decide)) (v0 := rd_ σ_4 1 0) rfl dX12_church_91 ?_
    obtain ⟨rfl, rfl⟩ := re_s h
    exact rti_ X I dX12_church_92
  · have h := if_f h c_3
    refine lv_aload_n hx hb dX12_church_62 rfl (lv_at hl 0 rfl) ?_
    refine ig_ (index := 19) X I (fun _ q => List.mem_cons_of_mem _ (List.mem_append_right _ q)) 0 (by decide) shM_0 rfl 3 (by decide) (by decide +kernel) rfl (v := .ref (a 4)) rfl dX12_church_63 ?_
    refine lv_aload_n hx hb dX12_church_66 rfl (lv_at hl 0 rfl) ?_
    refine ig_ (index := 7) X I (fun _ q => List.mem_cons_of_mem _ (List.mem_append_right _ q)) 0 (by decide) shM_0 rfl 0 (by decide) (by decide +kernel) rfl (v := .ref (a 1)) rfl dX12_church_67 ?_
    obtain ⟨_, σ_7, hc_6, h⟩ := bi_of h
    refine cv_ (rS_ (nn := 2) (As := [.ref (a 4), .ref (a 1)]) (rest := []) X xkM I (c_M_copyRow_4_1 hc_6 H.size) gX12_church_X12_copyRow rfl ⟨rfl, rfl⟩ (by decide +kernel) ⟨Nat.le_of_ble_eq_true rfl, Nat.le_of_ble_eq_true rfl⟩ rfl hl.1 rfl (Nat.le_of_ble_eq_true rfl) dX12_church_70) I (fun H locs I => ?_)
    refine lv_bipush (v := (-100)) hx hb dX12_church_73 (by decide) ?_
    refine lv_aload_n hx hb dX12_church_75 rfl (lv_at hl 0 rfl) ?_
    refine ig_ (index := 73) X I (fun _ q => List.mem_cons_of_mem _ (List.mem_append_right _ q)) 0 (by decide) shM_0 rfl 8 (by decide) (by decide +kernel) rfl (v := .int (rd_ σ_7 0 8)) rfl dX12_church_76 ?_
    refine lv_isub hx hb dX12_church_79 ?_
    obtain ⟨rfl, rfl⟩ := re_s h
    exact rti_ X I dX12_church_80
def M_church_29 (k29 : Sg → Option (Int32 × Sg)) (σ : Sg)  : Option (Int32 × Sg) :=
  if (rd_ σ 0 11) = 0 then (if (rd_ σ 0 7) = 0 then (M_church_50 σ)
  else (bi_ (M_itemHere_0 σ) fun _ σ_4 =>
  k29 σ_4))
  else (M_church_50 σ)
set_option maxRecDepth 100000 in
theorem kM_church_29 {p : Program} {l : Launch} {e : Env} {s : State} {m : MethodId} {args : Array Value} {below : List Frame} {meth : Method} {c : Code} {D : va_G} {cy : Nat → ClassId} {a : Nat → Nat} (X : cx_ cX12_church RX12 wsX12_church 1 (some .int) 16 a D cy xfM p s m args meth c) {k29 : Sg → Option (Int32 × Sg)} {r0 : Int32} {σ' : Sg} (hk29 : ∀ (σ : Sg)  (H : Heap) (locs : List Loc) (ls : Array Slot), k29 σ = some (r0, σ') → iv_ 16 a D (shM cy a σ) s H locs → lv_has ls 1 [(0, .ref (a 0))] → W p l e ({ frames := 7, cells := 0, slots := 0, locals := 153 }) s m args below meth c H locs 0 0 (MQ below (qg_ 16 a D (shM cy a σ') (some (.int r0)) s.heap.size) args s 0 0 (fr_ 16 a s.heap.size)) (F0 m 29 ls [])) : ∀ (σ : Sg)  (H : Heap) (locs : List Loc) (ls : Array Slot), M_church_29 k29 σ = some (r0, σ') → iv_ 16 a D (shM cy a σ) s H locs → lv_has ls 1 [(0, .ref (a 0))] → W p l e ({ frames := 7, cells := 0, slots := 0, locals := 153 }) s m args below meth c H locs 0 0 (MQ below (qg_ 16 a D (shM cy a σ') (some (.int r0)) s.heap.size) args s 0 0 (fr_ 16 a s.heap.size)) (F0 m 29 ls []) := by
  obtain ⟨hx, hb, hr, hml, hown, hts, hlk, hK, hA, hXf⟩ := id X
  intro σ  H locs ls h I hl
  unfold M_church_29 at h
  refine lv_aload_n hx hb dX12_church_29 rfl (lv_at hl 0 rfl) ?_
  refine ig_ (index := 93) X I (fun _ q => List.mem_cons_of_mem _ (List.mem_append_right _ q)) 0 (by decide) shM_0 rfl 11 (by decide) (by decide +kernel) rfl (v := .int (rd_ σ 0 11)) rfl dX12_church_30 ?_
  refine lv_if_ne (tgt := 50) hx hb dX12_church_33 (by decide) (fun c_1 => ?_) (fun c_1 => ?_)
  · have h := if_f h c_1
    exact kM_church_50 X  σ H locs ls h I (lv_sub hl [0] rfl)
  · have h := if_t h c_1
    refine lv_aload_n hx hb dX12_church_36 rfl (lv_at hl 0 rfl) ?_
    refine ig_ (index := 87) X I (fun _ q => List.mem_cons_of_mem _ (List.mem_append_right _ q)) 0 (by decide) shM_0 rfl 7 (by decide) (by decide +kernel) rfl (v := .int (rd_ σ 0 7)) rfl dX12_church_37 ?_
    refine lv_if_eq (tgt := 50) hx hb dX12_church_40 (by decide) (fun c_2 => ?_) (fun c_2 => ?_)
    · have h := if_t h c_2
      exact kM_church_50 X  σ H locs ls h I (lv_sub hl [0] rfl)
    · have h := if_f h c_2
      refine lv_aload_n hx hb dX12_church_43 rfl (lv_at hl 0 rfl) ?_
      obtain ⟨_, σ_4, hc_3, h⟩ := bi_of h
      refine cv_ (rV_ (nn := 0) (As := []) (rest := []) X xkM I (c_M_itemHere hc_3 H.size) gX12_church_X12_itemHere rfl ⟨rfl, rfl⟩ (by decide +kernel) ⟨Nat.le_of_ble_eq_true rfl, Nat.le_of_ble_eq_true rfl⟩ (by decide) shM_0 rfl rfl hl.1 rfl (Nat.le_of_ble_eq_true rfl) dX12_church_44) I (fun H locs I => ?_)
      refine lv_goto (tgt := 29) hx hb dX12_church_47 (by decide) ?_
      exact hk29 σ_4 H locs ls h I (lv_sub hl [0] rfl)
set_option maxRecDepth 100000 in
theorem kM_church_29L {p : Program} {l : Launch} {e : Env} {s : State} {m : MethodId} {args : Array Value} {below : List Frame} {meth : Method} {c : Code} {D : va_G} {cy : Nat → ClassId} {a : Nat → Nat} (X : cx_ cX12_church RX12 wsX12_church 1 (some .int) 16 a D cy xfM p s m args meth c)  {r0 : Int32} {σ' : Sg}  : ∀ (n : Nat), ∀ (σ : Sg)  (H : Heap) (locs : List Loc) (ls : Array Slot), lp_ (M_church_29) (fun _ => none) n σ = some (r0, σ') → iv_ 16 a D (shM cy a σ) s H locs → lv_has ls 1 [(0, .ref (a 0))] → W p l e ({ frames := 7, cells := 0, slots := 0, locals := 153 }) s m args below meth c H locs 0 0 (MQ below (qg_ 16 a D (shM cy a σ') (some (.int r0)) s.heap.size) args s 0 0 (fr_ 16 a s.heap.size)) (F0 m 29 ls []) := by
  intro n
  induction n with
  | zero =>
    intro _ _ _ _ h
    exact absurd h (fun q => by cases (show (none : Option _) = some _ from q))
  | succ n ih => exact kM_church_29 X ih

def M_church_0  (σ : Sg)  : Option (Int32 × Sg) :=
  bi_ (M_copyRow_1_4_0 σ) fun _ σ_2 =>
  bi_ (M_begins_0 σ_2) fun _ σ_4 =>
  lt_ (wr_ σ_4 0 9 (0 : Int32)) fun σ_5 =>
  lt_ (wr_ σ_5 0 11 (0 : Int32)) fun σ_7 =>
  bi_ (M_nextToken_0 σ_7) fun _ σ_10 =>
  lp_ M_church_29 (fun _ => none) FU σ_10
set_option maxRecDepth 100000 in
theorem kM_church_0 {p : Program} {l : Launch} {e : Env} {s : State} {m : MethodId} {args : Array Value} {below : List Frame} {meth : Method} {c : Code} {D : va_G} {cy : Nat → ClassId} {a : Nat → Nat} (X : cx_ cX12_church RX12 wsX12_church 1 (some .int) 16 a D cy xfM p s m args meth c)  {r0 : Int32} {σ' : Sg}  : ∀ (σ : Sg)  (H : Heap) (locs : List Loc) (ls : Array Slot), M_church_0 σ = some (r0, σ') → iv_ 16 a D (shM cy a σ) s H locs → lv_has ls 1 [(0, .ref (a 0))] → W p l e ({ frames := 7, cells := 0, slots := 0, locals := 153 }) s m args below meth c H locs 0 0 (MQ below (qg_ 16 a D (shM cy a σ') (some (.int r0)) s.heap.size) args s 0 0 (fr_ 16 a s.heap.size)) (F0 m 0 ls []) := by
  obtain ⟨hx, hb, hr, hml, hown, hts, hlk, hK, hA, hXf⟩ := id X
  intro σ  H locs ls h I hl
  unfold M_church_0 at h
  refine lv_aload_n hx hb dX12_church_0 rfl (lv_at hl 0 rfl) ?_
  refine ig_ (index := 7) X I (fun _ q => List.mem_cons_of_mem _ (List.mem_append_right _ q)) 0 (by decide) shM_0 rfl 0 (by decide) (by decide +kernel) rfl (v := .ref (a 1)) rfl dX12_church_1 ?_
  refine lv_aload_n hx hb dX12_church_4 rfl (lv_at hl 0 rfl) ?_
  refine ig_ (index := 19) X I (fun _ q => List.mem_cons_of_mem _ (List.mem_append_right _ q)) 0 (by decide) shM_0 rfl 3 (by decide) (by decide +kernel) rfl (v := .ref (a 4)) rfl dX12_church_5 ?_
  obtain ⟨_, σ_2, hc_1, h⟩ := bi_of h
  refine cv_ (rS_ (nn := 2) (As := [.ref (a 1), .ref (a 4)]) (rest := []) X xkM I (c_M_copyRow_1_4 hc_1 H.size) gX12_church_X12_copyRow rfl ⟨rfl, rfl⟩ (by decide +kernel) ⟨Nat.le_of_ble_eq_true rfl, Nat.le_of_ble_eq_true rfl⟩ rfl hl.1 rfl (Nat.le_of_ble_eq_true rfl) dX12_church_8) I (fun H locs I => ?_)
  refine lv_aload_n hx hb dX12_church_11 rfl (lv_at hl 0 rfl) ?_
  obtain ⟨_, σ_4, hc_3, h⟩ := bi_of h
  refine cv_ (rV_ (nn := 0) (As := []) (rest := []) X xkM I (c_M_begins hc_3 H.size) gX12_church_X12_begins rfl ⟨rfl, rfl⟩ (by decide +kernel) ⟨Nat.le_of_ble_eq_true rfl, Nat.le_of_ble_eq_true rfl⟩ (by decide) shM_0 rfl rfl hl.1 rfl (Nat.le_of_ble_eq_true rfl) dX12_church_12) I (fun H locs I => ?_)
  refine lv_aload_n hx hb dX12_church_15 rfl (lv_at hl 0 rfl) ?_
  refine lv_iconst (v := 0) hx hb dX12_church_16 (by decide) ?_
  refine ip_ (index := 70) (ty := .int) X I (fun _ q => List.mem_cons_of_mem _ (List.mem_append_right _ q)) tyX12 tyX12_ok nmX12 0 (by decide) shM_0 rfl 9 (by decide) (by decide +kernel) rfl rfl (by decide +kernel) rfl rfl (Nat.le_of_ble_eq_true rfl) shM_pt_9 dX12_church_17 (fun σ_5 H locs e_6 I => ?_)
  have h := lt_at h e_6
  refine lv_aload_n hx hb dX12_church_20 rfl (lv_at hl 0 rfl) ?_
  refine lv_iconst (v := 0) hx hb dX12_church_21 (by decide) ?_
  refine ip_ (index := 93) (ty := .boolean) X I (fun _ q => List.mem_cons_of_mem _ (List.mem_append_right _ q)) tyX12 tyX12_ok nmX12 0 (by decide) shM_0 rfl 11 (by decide) (by decide +kernel) rfl rfl (by decide +kernel) (by decide) (by decide) (Nat.le_of_ble_eq_true rfl) shM_pt_11 dX12_church_22 (fun σ_7 H locs e_8 I => ?_)
  have h := lt_at h e_8
  refine lv_aload_n hx hb dX12_church_25 rfl (lv_at hl 0 rfl) ?_
  obtain ⟨_, σ_10, hc_9, h⟩ := bi_of h
  refine cv_ (rV_ (nn := 0) (As := []) (rest := []) X xkM I (c_M_nextToken hc_9 H.size) gX12_church_X12_nextToken rfl ⟨rfl, rfl⟩ (by decide +kernel) ⟨Nat.le_of_ble_eq_true rfl, Nat.le_of_ble_eq_true rfl⟩ (by decide) shM_0 rfl rfl hl.1 rfl (Nat.le_of_ble_eq_true rfl) dX12_church_26) I (fun H locs I => ?_)
  exact kM_church_29L X  FU σ_10 H locs ls h I (lv_sub hl [0] rfl)
theorem c_M_church {l : Launch} {D : va_G} {cy : Nat → ClassId} {a : Nat → Nat} {σ : Sg}  {r0 : Int32} {σ' : Sg} (h : M_church_0 σ  = some (r0, σ')) (sz : Nat) : Met l yX12_church wsX12_church ({ frames := 7, cells := 0, slots := 0, locals := 153 }) (va_Pc [.ref (a 0)] (pr_ 16 a D cy (shM cy a σ) xfM sz)) (qg_ 16 a D (shM cy a σ') (some (.int r0)) sz) 0 0 (fr_ 16 a sz) := by
  refine ent_ (by decide) rfl (Nat.le_of_ble_eq_true rfl) ?_
  intro p e s m below meth c ls hsz X I hl
  subst hsz
  exact kM_church_0 X σ  s.heap [] ls h I hl

def M_lets_0  (σ : Sg) (x1 : Int32) (x2 : Int32) : Option (Int32 × Sg) :=
  gd_ (in_ x1 64) (
  lt_ ((rd_ σ 1 x1.toNatClampNeg)) fun y_2 =>
  gd_ (in_ x1 64) (
  lt_ (wr_ σ 1 x1.toNatClampNeg x2) fun σ_5 =>
  some (y_2, σ_5)))
set_option maxRecDepth 100000 in
theorem kM_lets_0 {p : Program} {l : Launch} {e : Env} {s : State} {m : MethodId} {args : Array Value} {below : List Frame} {meth : Method} {c : Code} {D : va_G} {cy : Nat → ClassId} {a : Nat → Nat} (X : cx_ cX12_lets RX12 wsX12_lets 4 (some .int) 16 a D cy xfM p s m args meth c)  {r0 : Int32} {σ' : Sg}  : ∀ (σ : Sg) (x1 : Int32) (x2 : Int32) (H : Heap) (locs : List Loc) (ls : Array Slot), M_lets_0 σ x1 x2 = some (r0, σ') → iv_ 16 a D (shM cy a σ) s H locs → lv_has ls 4 [(0, .ref (a 0)), (1, .int x1), (2, .int x2)] → W p l e ({ frames := 0, cells := 0, slots := 0, locals := 0 }) s m args below meth c H locs 0 0 (MQ below (qg_ 16 a D (shM cy a σ') (some (.int r0)) s.heap.size) args s 0 0 (fr_ 16 a s.heap.size)) (F0 m 0 ls []) := by
  obtain ⟨hx, hb, hr, hml, hown, hts, hlk, hK, hA, hXf⟩ := id X
  intro σ x1 x2 H locs ls h I hl
  unfold M_lets_0 at h
  refine lv_aload_n hx hb dX12_lets_0 rfl (lv_at hl 0 rfl) ?_
  refine ig_ (index := 7) X I (fun _ q => List.mem_cons_of_mem _ (List.mem_append_right _ q)) 0 (by decide) shM_0 rfl 0 (by decide) (by decide +kernel) rfl (v := .ref (a 1)) rfl dX12_lets_1 ?_
  refine lv_iload_n hx hb dX12_lets_4 rfl (lv_at hl 1 rfl) ?_
  obtain ⟨g_1, h⟩ := gd_of h
  refine ia_ X I 1 (by decide) shM_1 (in_of g_1) (v0 := rd_ σ 1 x1.toNatClampNeg) rfl dX12_lets_5 ?_
  refine lv_topi (fun y_2 e_3 => ?_)
  have h := lt_at h e_3
  refine lv_istore_n (lv' := [(3, .int y_2), (0, .ref (a 0)), (1, .int x1), (2, .int x2)]) hx hb dX12_lets_6 rfl hl (by decide) rfl (fun ls hl => ?_)
  refine lv_aload_n hx hb dX12_lets_7 rfl (lv_at hl 1 rfl) ?_
  refine ig_ (index := 7) X I (fun _ q => List.mem_cons_of_mem _ (List.mem_append_right _ q)) 0 (by decide) shM_0 rfl 0 (by decide) (by decide +kernel) rfl (v := .ref (a 1)) rfl dX12_lets_8 ?_
  refine lv_iload_n hx hb dX12_lets_11 rfl (lv_at hl 2 rfl) ?_
  refine lv_iload_n hx hb dX12_lets_12 rfl (lv_at hl 3 rfl) ?_
  obtain ⟨g_4, h⟩ := gd_of h
  refine is_ (σ2 := wr_ σ 1 x1.toNatClampNeg x2) X I 1 (by decide) shM_1 (in_of g_4) shM_st_1 dX12_lets_13 (fun σ_5 H locs e_6 I => ?_)
  have h := lt_at h e_6
  refine lv_iload_n hx hb dX12_lets_14 rfl (lv_at hl 0 rfl) ?_
  obtain ⟨rfl, rfl⟩ := re_s h
  exact rti_ X I dX12_lets_15
theorem c_M_lets {l : Launch} {D : va_G} {cy : Nat → ClassId} {a : Nat → Nat} {σ : Sg} {x1 : Int32} {x2 : Int32} {r0 : Int32} {σ' : Sg} (h : M_lets_0 σ x1 x2 = some (r0, σ')) (sz : Nat) : Met l yX12_lets wsX12_lets ({ frames := 0, cells := 0, slots := 0, locals := 0 }) (va_Pc [.ref (a 0), .int x1, .int x2] (pr_ 16 a D cy (shM cy a σ) xfM sz)) (qg_ 16 a D (shM cy a σ') (some (.int r0)) sz) 0 0 (fr_ 16 a sz) := by
  refine ent_ (by decide) rfl (Nat.le_of_ble_eq_true rfl) ?_
  intro p e s m below meth c ls hsz X I hl
  subst hsz
  exact kM_lets_0 X σ x1 x2 s.heap [] ls h I hl

def M_set_29  (σ : Sg) (x1 : Int32) (x2 : Int32) (t2 : Int64) (t1 : Int64) (t0 : Int64) : Option (Int32 × Sg) :=
  bp_ (M_isIn_0 t0 t1 t2) fun r_2 =>
  if r_2 = 0 then (some ((-1 : Int32), σ))
  else (bi_ (M_lets_0 σ ((3 : Int32) + x1) x2) fun r_6 σ_5 =>
  some (r_6, σ_5))
set_option maxRecDepth 100000 in
theorem kM_set_29 {p : Program} {l : Launch} {e : Env} {s : State} {m : MethodId} {args : Array Value} {below : List Frame} {meth : Method} {c : Code} {D : va_G} {cy : Nat → ClassId} {a : Nat → Nat} (X : cx_ cX12_set RX12 wsX12_set 3 (some .int) 16 a D cy xfM p s m args meth c)  {r0 : Int32} {σ' : Sg}  : ∀ (σ : Sg) (x1 : Int32) (x2 : Int32) (t2 : Int64) (t1 : Int64) (t0 : Int64) (H : Heap) (locs : List Loc) (ls : Array Slot), M_set_29 σ x1 x2 t2 t1 t0 = some (r0, σ') → iv_ 16 a D (shM cy a σ) s H locs → lv_has ls 3 [(0, .ref (a 0)), (1, .int x1), (2, .int x2)] → W p l e ({ frames := 1, cells := 0, slots := 0, locals := 25 }) s m args below meth c H locs 0 0 (MQ below (qg_ 16 a D (shM cy a σ') (some (.int r0)) s.heap.size) args s 0 0 (fr_ 16 a s.heap.size)) (F0 m 29 ls [.long t2, .long t1, .long t0]) := by
  obtain ⟨hx, hb, hr, hml, hown, hts, hlk, hK, hA, hXf⟩ := id X
  intro σ x1 x2 t2 t1 t0 H locs ls h I hl
  unfold M_set_29 at h
  obtain ⟨r_2, hc_1, h⟩ := bp_of h
  refine cp_ (rP_ (nn := 3) (As := [.long t0, .long t1, .long t2]) (rest := []) ⟨hx, hb, hml, hown, hts⟩ (c_M_isIn hc_1) gX12_set_X12_isIn rfl ⟨rfl, rfl⟩ (by decide +kernel) ⟨Nat.le_of_ble_eq_true rfl, Nat.le_of_ble_eq_true rfl⟩ rfl hl.1 rfl (Nat.le_of_ble_eq_true rfl) dX12_set_29 ⟨Nat.zero_le _, Nat.zero_le _⟩) ?_
  refine lv_if_eq (tgt := 46) hx hb dX12_set_32 (by decide) (fun c_3 => ?_) (fun c_3 => ?_)
  · have h := if_t h c_3
    refine lv_iconst (v := (-1)) hx hb dX12_set_46 (by decide) ?_
    obtain ⟨rfl, rfl⟩ := re_s h
    exact rti_ X I dX12_set_47
  · have h := if_f h c_3
    refine lv_aload_n hx hb dX12_set_35 rfl (lv_at hl 0 rfl) ?_
    refine lv_iconst (v := 3) hx hb dX12_set_36 (by decide) ?_
    refine lv_iload_n hx hb dX12_set_37 rfl (lv_at hl 1 rfl) ?_
    refine lv_iadd hx hb dX12_set_38 ?_
    refine lv_iload_n hx hb dX12_set_39 rfl (lv_at hl 2 rfl) ?_
    obtain ⟨r_6, σ_5, hc_4, h⟩ := bi_of h
    refine cg_ (rV_ (nn := 2) (As := [.int ((3 : Int32) + x1), .int x2]) (rest := []) X xkM I (c_M_lets hc_4 H.size) gX12_set_X12_lets rfl ⟨rfl, rfl⟩ (by decide +kernel) ⟨Nat.le_of_ble_eq_true rfl, Nat.le_of_ble_eq_true rfl⟩ (by decide) shM_0 rfl rfl hl.1 rfl (Nat.le_of_ble_eq_true rfl) dX12_set_40) I (fun H locs I => ?_)
    refine lv_goto (tgt := 47) hx hb dX12_set_43 (by decide) ?_
    obtain ⟨rfl, rfl⟩ := re_s h
    exact rti_ X I dX12_set_47
def M_set_0  (σ : Sg) (x1 : Int32) (x2 : Int32) : Option (Int32 × Sg) :=
  bp_ (M_isIn_0 (x1).toInt64 (0 : Int64) (3 : Int64)) fun r_2 =>
  if r_2 = 0 then (some ((-1 : Int32), σ))
  else (if x1 ≤ (1 : Int32) then (M_set_29 σ x1 x2 (9 : Int64) (0 : Int64) (x2).toInt64)
  else (M_set_29 σ x1 x2 (99 : Int64) (0 : Int64) (x2).toInt64))
set_option maxRecDepth 100000 in
theorem kM_set_0 {p : Program} {l : Launch} {e : Env} {s : State} {m : MethodId} {args : Array Value} {below : List Frame} {meth : Method} {c : Code} {D : va_G} {cy : Nat → ClassId} {a : Nat → Nat} (X : cx_ cX12_set RX12 wsX12_set 3 (some .int) 16 a D cy xfM p s m args meth c)  {r0 : Int32} {σ' : Sg}  : ∀ (σ : Sg) (x1 : Int32) (x2 : Int32) (H : Heap) (locs : List Loc) (ls : Array Slot), M_set_0 σ x1 x2 = some (r0, σ') → iv_ 16 a D (shM cy a σ) s H locs → lv_has ls 3 [(0, .ref (a 0)), (1, .int x1), (2, .int x2)] → W p l e ({ frames := 1, cells := 0, slots := 0, locals := 25 }) s m args below meth c H locs 0 0 (MQ below (qg_ 16 a D (shM cy a σ') (some (.int r0)) s.heap.size) args s 0 0 (fr_ 16 a s.heap.size)) (F0 m 0 ls []) := by
  obtain ⟨hx, hb, hr, hml, hown, hts, hlk, hK, hA, hXf⟩ := id X
  intro σ x1 x2 H locs ls h I hl
  unfold M_set_0 at h
  refine lv_iload_n hx hb dX12_set_0 rfl (lv_at hl 1 rfl) ?_
  refine lv_i2l hx hb dX12_set_1 rfl ?_
  refine lv_lconst (v := 0) hx hb dX12_set_2 (by decide) ?_
  refine lv_ldc2 (v := 3) hx hb hown (hts (.constantLong RX12 161 (3)) (by decide +kernel)) dX12_set_3 ?_
  obtain ⟨r_2, hc_1, h⟩ := bp_of h
  refine cp_ (rP_ (nn := 3) (As := [.long (x1).toInt64, .long (0 : Int64), .long (3 : Int64)]) (rest := []) ⟨hx, hb, hml, hown, hts⟩ (c_M_isIn hc_1) gX12_set_X12_isIn rfl ⟨rfl, rfl⟩ (by decide +kernel) ⟨Nat.le_of_ble_eq_true rfl, Nat.le_of_ble_eq_true rfl⟩ rfl hl.1 rfl (Nat.le_of_ble_eq_true rfl) dX12_set_6 ⟨Nat.zero_le _, Nat.zero_le _⟩) ?_
  refine lv_if_eq (tgt := 46) hx hb dX12_set_9 (by decide) (fun c_3 => ?_) (fun c_3 => ?_)
  · have h := if_t h c_3
    refine lv_iconst (v := (-1)) hx hb dX12_set_46 (by decide) ?_
    obtain ⟨rfl, rfl⟩ := re_s h
    exact rti_ X I dX12_set_47
  · have h := if_f h c_3
    refine lv_iload_n hx hb dX12_set_12 rfl (lv_at hl 2 rfl) ?_
    refine lv_i2l hx hb dX12_set_13 rfl ?_
    refine lv_lconst (v := 0) hx hb dX12_set_14 (by decide) ?_
    refine lv_iload_n hx hb dX12_set_15 rfl (lv_at hl 1 rfl) ?_
    refine lv_iconst (v := 1) hx hb dX12_set_16 (by decide) ?_
    refine lv_icmp_le (tgt := 26) hx hb dX12_set_17 (by decide) (fun c_4 => ?_) (fun c_4 => ?_)
    · have h := if_t h c_4
      refine lv_ldc2 (v := 9) hx hb hown (hts (.constantLong RX12 165 (9)) (by decide +kernel)) dX12_set_26 ?_
      exact kM_set_29 X  σ x1 x2 (9 : Int64) (0 : Int64) (x2).toInt64 H locs ls h I (lv_sub hl [0, 1, 2] rfl)
    · have h := if_f h c_4
      refine lv_ldc2 (v := 99) hx hb hown (hts (.constantLong RX12 163 (99)) (by decide +kernel)) dX12_set_20 ?_
      refine lv_goto (tgt := 29) hx hb dX12_set_23 (by decide) ?_
      exact kM_set_29 X  σ x1 x2 (99 : Int64) (0 : Int64) (x2).toInt64 H locs ls h I (lv_sub hl [0, 1, 2] rfl)
theorem c_M_set {l : Launch} {D : va_G} {cy : Nat → ClassId} {a : Nat → Nat} {σ : Sg} {x1 : Int32} {x2 : Int32} {r0 : Int32} {σ' : Sg} (h : M_set_0 σ x1 x2 = some (r0, σ')) (sz : Nat) : Met l yX12_set wsX12_set ({ frames := 1, cells := 0, slots := 0, locals := 25 }) (va_Pc [.ref (a 0), .int x1, .int x2] (pr_ 16 a D cy (shM cy a σ) xfM sz)) (qg_ 16 a D (shM cy a σ') (some (.int r0)) sz) 0 0 (fr_ 16 a sz) := by
  refine ent_ (by decide) rfl (Nat.le_of_ble_eq_true rfl) ?_
  intro p e s m below meth c ls hsz X I hl
  subst hsz
  exact kM_set_0 X σ x1 x2 s.heap [] ls h I hl

def M_lawOf_0  (σ : Sg) (x1 : Int32) : Option (Int32 × Sg) :=
  bp_ (M_isIn_0 (x1).toInt64 (0 : Int64) (3 : Int64)) fun r_2 =>
  if r_2 = 0 then (some ((-1 : Int32), σ))
  else (lt_ (((3 : Int32) + x1)) fun y_4 =>
  gd_ (in_ y_4 64) (
  some ((rd_ σ 1 y_4.toNatClampNeg), σ)))
set_option maxRecDepth 100000 in
theorem kM_lawOf_0 {p : Program} {l : Launch} {e : Env} {s : State} {m : MethodId} {args : Array Value} {below : List Frame} {meth : Method} {c : Code} {D : va_G} {cy : Nat → ClassId} {a : Nat → Nat} (X : cx_ cX12_lawOf RX12 wsX12_lawOf 2 (some .int) 16 a D cy xfM p s m args meth c)  {r0 : Int32} {σ' : Sg}  : ∀ (σ : Sg) (x1 : Int32) (H : Heap) (locs : List Loc) (ls : Array Slot), M_lawOf_0 σ x1 = some (r0, σ') → iv_ 16 a D (shM cy a σ) s H locs → lv_has ls 2 [(0, .ref (a 0)), (1, .int x1)] → W p l e ({ frames := 1, cells := 0, slots := 0, locals := 25 }) s m args below meth c H locs 0 0 (MQ below (qg_ 16 a D (shM cy a σ') (some (.int r0)) s.heap.size) args s 0 0 (fr_ 16 a s.heap.size)) (F0 m 0 ls []) := by
  obtain ⟨hx, hb, hr, hml, hown, hts, hlk, hK, hA, hXf⟩ := id X
  intro σ x1 H locs ls h I hl
  unfold M_lawOf_0 at h
  refine lv_iload_n hx hb dX12_lawOf_0 rfl (lv_at hl 1 rfl) ?_
  refine lv_i2l hx hb dX12_lawOf_1 rfl ?_
  refine lv_lconst (v := 0) hx hb dX12_lawOf_2 (by decide) ?_
  refine lv_ldc2 (v := 3) hx hb hown (hts (.constantLong RX12 161 (3)) (by decide +kernel)) dX12_lawOf_3 ?_
  obtain ⟨r_2, hc_1, h⟩ := bp_of h
  refine cp_ (rP_ (nn := 3) (As := [.long (x1).toInt64, .long (0 : Int64), .long (3 : Int64)]) (rest := []) ⟨hx, hb, hml, hown, hts⟩ (c_M_isIn hc_1) gX12_lawOf_X12_isIn rfl ⟨rfl, rfl⟩ (by decide +kernel) ⟨Nat.le_of_ble_eq_true rfl, Nat.le_of_ble_eq_true rfl⟩ rfl hl.1 rfl (Nat.le_of_ble_eq_true rfl) dX12_lawOf_6 ⟨Nat.zero_le _, Nat.zero_le _⟩) ?_
  refine lv_if_eq (tgt := 23) hx hb dX12_lawOf_9 (by decide) (fun c_3 => ?_) (fun c_3 => ?_)
  · have h := if_t h c_3
    refine lv_iconst (v := (-1)) hx hb dX12_lawOf_23 (by decide) ?_
    obtain ⟨rfl, rfl⟩ := re_s h
    exact rti_ X I dX12_lawOf_24
  · have h := if_f h c_3
    refine lv_aload_n hx hb dX12_lawOf_12 rfl (lv_at hl 0 rfl) ?_
    refine ig_ (index := 7) X I (fun _ q => List.mem_cons_of_mem _ (List.mem_append_right _ q)) 0 (by decide) shM_0 rfl 0 (by decide) (by decide +kernel) rfl (v := .ref (a 1)) rfl dX12_lawOf_13 ?_
    refine lv_iconst (v := 3) hx hb dX12_lawOf_16 (by decide) ?_
    refine lv_iload_n hx hb dX12_lawOf_17 rfl (lv_at hl 1 rfl) ?_
    refine lv_iadd hx hb dX12_lawOf_18 ?_
    refine lv_topi (fun y_4 e_5 => ?_)
    have h := lt_at h e_5
    obtain ⟨g_6, h⟩ := gd_of h
    refine ia_ X I 1 (by decide) shM_1 (in_of g_6) (v0 := rd_ σ 1 y_4.toNatClampNeg) rfl dX12_lawOf_19 ?_
    refine lv_goto (tgt := 24) hx hb dX12_lawOf_20 (by decide) ?_
    obtain ⟨rfl, rfl⟩ := re_s h
    exact rti_ X I dX12_lawOf_24
theorem c_M_lawOf {l : Launch} {D : va_G} {cy : Nat → ClassId} {a : Nat → Nat} {σ : Sg} {x1 : Int32} {r0 : Int32} {σ' : Sg} (h : M_lawOf_0 σ x1 = some (r0, σ')) (sz : Nat) : Met l yX12_lawOf wsX12_lawOf ({ frames := 1, cells := 0, slots := 0, locals := 25 }) (va_Pc [.ref (a 0), .int x1] (pr_ 16 a D cy (shM cy a σ) xfM sz)) (qg_ 16 a D (shM cy a σ') (some (.int r0)) sz) 0 0 (fr_ 16 a sz) := by
  refine ent_ (by decide) rfl (Nat.le_of_ble_eq_true rfl) ?_
  intro p e s m below meth c ls hsz X I hl
  subst hsz
  exact kM_lawOf_0 X σ x1 s.heap [] ls h I hl

def M_isMother_0  (x0 : Int32) : Option Int32 :=
  if x0 < 0 then (some ((0 : Int32)))
  else (if (8 : Int32) ≤ x0 then (some ((0 : Int32)))
  else (some ((1 : Int32))))
set_option maxRecDepth 100000 in
theorem kM_isMother_0 {p : Program} {l : Launch} {e : Env} {s : State} {m : MethodId} {args : Array Value} {below : List Frame} {meth : Method} {c : Code} (X : px_ cX12_isMother RX12 wsX12_isMother 1 (some .boolean) p s m args meth c)  {r0 : Int32}  : ∀ (x0 : Int32) (ls : Array Slot), M_isMother_0 x0 = some r0 → lv_has ls 1 [(0, .int x0)] → W p l e ({ frames := 0, cells := 0, slots := 0, locals := 0 }) s m args below meth c s.heap [] 0 0 (MQ below (qp_ (some (.int r0))) args s 0 0 (fun _ => False)) (F0 m 0 ls []) := by
  obtain ⟨hx, hb, hr, hml, hown, hts, hlk⟩ := id X
  intro x0 ls h hl
  unfold M_isMother_0 at h
  refine lv_iload_n hx hb dX12_isMother_0 rfl (lv_at hl 0 rfl) ?_
  refine lv_if_lt (tgt := 14) hx hb dX12_isMother_1 (by decide) (fun c_1 => ?_) (fun c_1 => ?_)
  · have h := if_t h c_1
    refine lv_iconst (v := 0) hx hb dX12_isMother_14 (by decide) ?_
    obtain rfl := re_p h
    exact rpz_ X (by decide) dX12_isMother_15
  · have h := if_f h c_1
    refine lv_iload_n hx hb dX12_isMother_4 rfl (lv_at hl 0 rfl) ?_
    refine lv_bipush (v := 8) hx hb dX12_isMother_5 (by decide) ?_
    refine lv_icmp_ge (tgt := 14) hx hb dX12_isMother_7 (by decide) (fun c_2 => ?_) (fun c_2 => ?_)
    · have h := if_t h c_2
      refine lv_iconst (v := 0) hx hb dX12_isMother_14 (by decide) ?_
      obtain rfl := re_p h
      exact rpz_ X (by decide) dX12_isMother_15
    · have h := if_f h c_2
      refine lv_iconst (v := 1) hx hb dX12_isMother_10 (by decide) ?_
      refine lv_goto (tgt := 15) hx hb dX12_isMother_11 (by decide) ?_
      obtain rfl := re_p h
      exact rpz_ X (by decide) dX12_isMother_15
theorem c_M_isMother {l : Launch} {x0 : Int32} {r0 : Int32} (h : M_isMother_0 x0 = some r0) : Met l yX12_isMother wsX12_isMother ({ frames := 0, cells := 0, slots := 0, locals := 0 }) (pp_ [.int x0]) (qp_ (some (.int r0))) 0 0 (fun _ => False) := by
  refine enp_ (by decide) rfl (Nat.le_of_ble_eq_true rfl) ?_
  intro p e s m below meth c ls X hl
  exact kM_isMother_0 X x0 ls h hl

def M_child_0  (σ : Sg) (x1 : Int32) (x2 : Int32) (x3 : Int32) (x4 : Int32) : Option (Int32 × Sg) :=
  bp_ (M_isIn_0 (x1).toInt64 (0 : Int64) (5 : Int64)) fun r_2 =>
  if r_2 = 0 then (some ((-1 : Int32), σ))
  else (bp_ (M_isIn_0 (x2).toInt64 (0 : Int64) (99 : Int64)) fun r_5 =>
  if r_5 = 0 then (some ((-1 : Int32), σ))
  else (bp_ (M_isIn_0 (x3).toInt64 (0 : Int64) (9 : Int64)) fun r_8 =>
  if r_8 = 0 then (some ((-1 : Int32), σ))
  else (bp_ (M_isMother_0 x4) fun r_11 =>
  if r_11 = 0 then (some ((-1 : Int32), σ))
  else (if (rd_ σ 1 0) = (8 : Int32) then (some ((-2 : Int32), σ))
  else (bi_ (M_comes_0 σ x1 x2 x3 x4) fun _ σ_15 =>
  some (((rd_ σ_15 1 0) - (1 : Int32)), σ_15))))))
set_option maxRecDepth 100000 in
theorem kM_child_0 {p : Program} {l : Launch} {e : Env} {s : State} {m : MethodId} {args : Array Value} {below : List Frame} {meth : Method} {c : Code} {D : va_G} {cy : Nat → ClassId} {a : Nat → Nat} (X : cx_ cX12_child RX12 wsX12_child 5 (some .int) 16 a D cy xfM p s m args meth c)  {r0 : Int32} {σ' : Sg}  : ∀ (σ : Sg) (x1 : Int32) (x2 : Int32) (x3 : Int32) (x4 : Int32) (H : Heap) (locs : List Loc) (ls : Array Slot), M_child_0 σ x1 x2 x3 x4 = some (r0, σ') → iv_ 16 a D (shM cy a σ) s H locs → lv_has ls 5 [(0, .ref (a 0)), (1, .int x1), (2, .int x2), (3, .int x3), (4, .int x4)] → W p l e ({ frames := 1, cells := 0, slots := 0, locals := 25 }) s m args below meth c H locs 0 0 (MQ below (qg_ 16 a D (shM cy a σ') (some (.int r0)) s.heap.size) args s 0 0 (fr_ 16 a s.heap.size)) (F0 m 0 ls []) := by
  obtain ⟨hx, hb, hr, hml, hown, hts, hlk, hK, hA, hXf⟩ := id X
  intro σ x1 x2 x3 x4 H locs ls h I hl
  unfold M_child_0 at h
  refine lv_iload_n hx hb dX12_child_0 rfl (lv_at hl 1 rfl) ?_
  refine lv_i2l hx hb dX12_child_1 rfl ?_
  refine lv_lconst (v := 0) hx hb dX12_child_2 (by decide) ?_
  refine lv_ldc2 (v := 5) hx hb hown (hts (.constantLong RX12 171 (5)) (by decide +kernel)) dX12_child_3 ?_
  obtain ⟨r_2, hc_1, h⟩ := bp_of h
  refine cp_ (rP_ (nn := 3) (As := [.long (x1).toInt64, .long (0 : Int64), .long (5 : Int64)]) (rest := []) ⟨hx, hb, hml, hown, hts⟩ (c_M_isIn hc_1) gX12_child_X12_isIn rfl ⟨rfl, rfl⟩ (by decide +kernel) ⟨Nat.le_of_ble_eq_true rfl, Nat.le_of_ble_eq_true rfl⟩ rfl hl.1 rfl (Nat.le_of_ble_eq_true rfl) dX12_child_6 ⟨Nat.zero_le _, Nat.zero_le _⟩) ?_
  refine lv_if_eq (tgt := 44) hx hb dX12_child_9 (by decide) (fun c_3 => ?_) (fun c_3 => ?_)
  · have h := if_t h c_3
    refine lv_iconst (v := (-1)) hx hb dX12_child_44 (by decide) ?_
    obtain ⟨rfl, rfl⟩ := re_s h
    exact rti_ X I dX12_child_45
  · have h := if_f h c_3
    refine lv_iload_n hx hb dX12_child_12 rfl (lv_at hl 2 rfl) ?_
    refine lv_i2l hx hb dX12_child_13 rfl ?_
    refine lv_lconst (v := 0) hx hb dX12_child_14 (by decide) ?_
    refine lv_ldc2 (v := 99) hx hb hown (hts (.constantLong RX12 163 (99)) (by decide +kernel)) dX12_child_15 ?_
    obtain ⟨r_5, hc_4, h⟩ := bp_of h
    refine cp_ (rP_ (nn := 3) (As := [.long (x2).toInt64, .long (0 : Int64), .long (99 : Int64)]) (rest := []) ⟨hx, hb, hml, hown, hts⟩ (c_M_isIn hc_4) gX12_child_X12_isIn rfl ⟨rfl, rfl⟩ (by decide +kernel) ⟨Nat.le_of_ble_eq_true rfl, Nat.le_of_ble_eq_true rfl⟩ rfl hl.1 rfl (Nat.le_of_ble_eq_true rfl) dX12_child_18 ⟨Nat.zero_le _, Nat.zero_le _⟩) ?_
    refine lv_if_eq (tgt := 44) hx hb dX12_child_21 (by decide) (fun c_6 => ?_) (fun c_6 => ?_)
    · have h := if_t h c_6
      refine lv_iconst (v := (-1)) hx hb dX12_child_44 (by decide) ?_
      obtain ⟨rfl, rfl⟩ := re_s h
      exact rti_ X I dX12_child_45
    · have h := if_f h c_6
      refine lv_iload_n hx hb dX12_child_24 rfl (lv_at hl 3 rfl) ?_
      refine lv_i2l hx hb dX12_child_25 rfl ?_
      refine lv_lconst (v := 0) hx hb dX12_child_26 (by decide) ?_
      refine lv_ldc2 (v := 9) hx hb hown (hts (.constantLong RX12 165 (9)) (by decide +kernel)) dX12_child_27 ?_
      obtain ⟨r_8, hc_7, h⟩ := bp_of h
      refine cp_ (rP_ (nn := 3) (As := [.long (x3).toInt64, .long (0 : Int64), .long (9 : Int64)]) (rest := []) ⟨hx, hb, hml, hown, hts⟩ (c_M_isIn hc_7) gX12_child_X12_isIn rfl ⟨rfl, rfl⟩ (by decide +kernel) ⟨Nat.le_of_ble_eq_true rfl, Nat.le_of_ble_eq_true rfl⟩ rfl hl.1 rfl (Nat.le_of_ble_eq_true rfl) dX12_child_30 ⟨Nat.zero_le _, Nat.zero_le _⟩) ?_
      refine lv_if_eq (tgt := 44) hx hb dX12_child_33 (by decide) (fun c_9 => ?_) (fun c_9 => ?_)
      · have h := if_t h c_9
        refine lv_iconst (v := (-1)) hx hb dX12_child_44 (by decide) ?_
        obtain ⟨rfl, rfl⟩ := re_s h
        exact rti_ X I dX12_child_45
      · have h := if_f h c_9
        refine lv_iload hx hb dX12_child_36 (lv_at hl 4 rfl) ?_
        obtain ⟨r_11, hc_10, h⟩ := bp_of h
        refine cp_ (rP_ (nn := 1) (As := [.int x4]) (rest := []) ⟨hx, hb, hml, hown, hts⟩ (c_M_isMother hc_10) gX12_child_X12_isMother rfl ⟨rfl, rfl⟩ (by decide +kernel) ⟨Nat.le_of_ble_eq_true rfl, Nat.le_of_ble_eq_true rfl⟩ rfl hl.1 rfl (Nat.le_of_ble_eq_true rfl) dX12_child_38 ⟨Nat.zero_le _, Nat.zero_le _⟩) ?_
        refine lv_if_ne (tgt := 46) hx hb dX12_child_41 (by decide) (fun c_12 => ?_) (fun c_12 => ?_)
        · have h := if_f h c_12
          refine lv_aload_n hx hb dX12_child_46 rfl (lv_at hl 0 rfl) ?_
          refine ig_ (index := 7) X I (fun _ q => List.mem_cons_of_mem _ (List.mem_append_right _ q)) 0 (by decide) shM_0 rfl 0 (by decide) (by decide +kernel) rfl (v := .ref (a 1)) rfl dX12_child_47 ?_
          refine lv_iconst (v := 0) hx hb dX12_child_50 (by decide) ?_
          refine ia_ X I 1 (by decide) shM_1 (in_of (by decide)) (v0 := rd_ σ 1 0) rfl dX12_child_51 ?_
          refine lv_bipush (v := 8) hx hb dX12_child_52 (by decide) ?_
          refine lv_icmp_ne (tgt := 60) hx hb dX12_child_54 (by decide) (fun c_13 => ?_) (fun c_13 => ?_)
          · have h := if_f h c_13
            refine lv_aload_n hx hb dX12_child_60 rfl (lv_at hl 0 rfl) ?_
            refine lv_iload_n hx hb dX12_child_61 rfl (lv_at hl 1 rfl) ?_
            refine lv_iload_n hx hb dX12_child_62 rfl (lv_at hl 2 rfl) ?_
            refine lv_iload_n hx hb dX12_child_63 rfl (lv_at hl 3 rfl) ?_
            refine lv_iload hx hb dX12_child_64 (lv_at hl 4 rfl) ?_
            obtain ⟨_, σ_15, hc_14, h⟩ := bi_of h
            refine cv_ (rV_ (nn := 4) (As := [.int x1, .int x2, .int x3, .int x4]) (rest := []) X xkM I (c_M_comes hc_14 H.size) gX12_child_X12_comes rfl ⟨rfl, rfl⟩ (by decide +kernel) ⟨Nat.le_of_ble_eq_true rfl, Nat.le_of_ble_eq_true rfl⟩ (by decide) shM_0 rfl rfl hl.1 rfl (Nat.le_of_ble_eq_true rfl) dX12_child_66) I (fun H locs I => ?_)
            refine lv_aload_n hx hb dX12_child_69 rfl (lv_at hl 0 rfl) ?_
            refine ig_ (index := 7) X I (fun _ q => List.mem_cons_of_mem _ (List.mem_append_right _ q)) 0 (by decide) shM_0 rfl 0 (by decide) (by decide +kernel) rfl (v := .ref (a 1)) rfl dX12_child_70 ?_
            refine lv_iconst (v := 0) hx hb dX12_child_73 (by decide) ?_
            refine ia_ X I 1 (by decide) shM_1 (in_of (by decide)) (v0 := rd_ σ_15 1 0) rfl dX12_child_74 ?_
            refine lv_iconst (v := 1) hx hb dX12_child_75 (by decide) ?_
            refine lv_isub hx hb dX12_child_76 ?_
            obtain ⟨rfl, rfl⟩ := re_s h
            exact rti_ X I dX12_child_77
          · have h := if_t h c_13
            refine lv_bipush (v := (-2)) hx hb dX12_child_57 (by decide) ?_
            obtain ⟨rfl, rfl⟩ := re_s h
            exact rti_ X I dX12_child_59
        · have h := if_t h c_12
          refine lv_iconst (v := (-1)) hx hb dX12_child_44 (by decide) ?_
          obtain ⟨rfl, rfl⟩ := re_s h
          exact rti_ X I dX12_child_45
theorem c_M_child {l : Launch} {D : va_G} {cy : Nat → ClassId} {a : Nat → Nat} {σ : Sg} {x1 : Int32} {x2 : Int32} {x3 : Int32} {x4 : Int32} {r0 : Int32} {σ' : Sg} (h : M_child_0 σ x1 x2 x3 x4 = some (r0, σ')) (sz : Nat) : Met l yX12_child wsX12_child ({ frames := 1, cells := 0, slots := 0, locals := 25 }) (va_Pc [.ref (a 0), .int x1, .int x2, .int x3, .int x4] (pr_ 16 a D cy (shM cy a σ) xfM sz)) (qg_ 16 a D (shM cy a σ') (some (.int r0)) sz) 0 0 (fr_ 16 a sz) := by
  refine ent_ (by decide) rfl (Nat.le_of_ble_eq_true rfl) ?_
  intro p e s m below meth c ls hsz X I hl
  subst hsz
  exact kM_child_0 X σ x1 x2 x3 x4 s.heap [] ls h I hl

def M_isOne_0  (σ : Sg) (x1 : Int32) : Option (Int32 × Sg) :=
  if x1 < 0 then (some ((0 : Int32), σ))
  else (if (rd_ σ 1 0) ≤ x1 then (some ((0 : Int32), σ))
  else (some ((1 : Int32), σ)))
set_option maxRecDepth 100000 in
theorem kM_isOne_0 {p : Program} {l : Launch} {e : Env} {s : State} {m : MethodId} {args : Array Value} {below : List Frame} {meth : Method} {c : Code} {D : va_G} {cy : Nat → ClassId} {a : Nat → Nat} (X : cx_ cX12_isOne RX12 wsX12_isOne 2 (some .boolean) 16 a D cy xfM p s m args meth c)  {r0 : Int32} {σ' : Sg}  : ∀ (σ : Sg) (x1 : Int32) (H : Heap) (locs : List Loc) (ls : Array Slot), M_isOne_0 σ x1 = some (r0, σ') → iv_ 16 a D (shM cy a σ) s H locs → lv_has ls 2 [(0, .ref (a 0)), (1, .int x1)] → W p l e ({ frames := 0, cells := 0, slots := 0, locals := 0 }) s m args below meth c H locs 0 0 (MQ below (qg_ 16 a D (shM cy a σ') (some (.int r0)) s.heap.size) args s 0 0 (fr_ 16 a s.heap.size)) (F0 m 0 ls []) := by
  obtain ⟨hx, hb, hr, hml, hown, hts, hlk, hK, hA, hXf⟩ := id X
  intro σ x1 H locs ls h I hl
  unfold M_isOne_0 at h
  refine lv_iload_n hx hb dX12_isOne_0 rfl (lv_at hl 1 rfl) ?_
  refine lv_if_lt (tgt := 18) hx hb dX12_isOne_1 (by decide) (fun c_1 => ?_) (fun c_1 => ?_)
  · have h := if_t h c_1
    refine lv_iconst (v := 0) hx hb dX12_isOne_18 (by decide) ?_
    obtain ⟨rfl, rfl⟩ := re_s h
    exact rtz_ X I (by decide) dX12_isOne_19
  · have h := if_f h c_1
    refine lv_iload_n hx hb dX12_isOne_4 rfl (lv_at hl 1 rfl) ?_
    refine lv_aload_n hx hb dX12_isOne_5 rfl (lv_at hl 0 rfl) ?_
    refine ig_ (index := 7) X I (fun _ q => List.mem_cons_of_mem _ (List.mem_append_right _ q)) 0 (by decide) shM_0 rfl 0 (by decide) (by decide +kernel) rfl (v := .ref (a 1)) rfl dX12_isOne_6 ?_
    refine lv_iconst (v := 0) hx hb dX12_isOne_9 (by decide) ?_
    refine ia_ X I 1 (by decide) shM_1 (in_of (by decide)) (v0 := rd_ σ 1 0) rfl dX12_isOne_10 ?_
    refine lv_icmp_ge (tgt := 18) hx hb dX12_isOne_11 (by decide) (fun c_2 => ?_) (fun c_2 => ?_)
    · have h := if_t h c_2
      refine lv_iconst (v := 0) hx hb dX12_isOne_18 (by decide) ?_
      obtain ⟨rfl, rfl⟩ := re_s h
      exact rtz_ X I (by decide) dX12_isOne_19
    · have h := if_f h c_2
      refine lv_iconst (v := 1) hx hb dX12_isOne_14 (by decide) ?_
      refine lv_goto (tgt := 19) hx hb dX12_isOne_15 (by decide) ?_
      obtain ⟨rfl, rfl⟩ := re_s h
      exact rtz_ X I (by decide) dX12_isOne_19
theorem c_M_isOne {l : Launch} {D : va_G} {cy : Nat → ClassId} {a : Nat → Nat} {σ : Sg} {x1 : Int32} {r0 : Int32} {σ' : Sg} (h : M_isOne_0 σ x1 = some (r0, σ')) (sz : Nat) : Met l yX12_isOne wsX12_isOne ({ frames := 0, cells := 0, slots := 0, locals := 0 }) (va_Pc [.ref (a 0), .int x1] (pr_ 16 a D cy (shM cy a σ) xfM sz)) (qg_ 16 a D (shM cy a σ') (some (.int r0)) sz) 0 0 (fr_ 16 a sz) := by
  refine ent_ (by decide) rfl (Nat.le_of_ble_eq_true rfl) ?_
  intro p e s m below meth c ls hsz X I hl
  subst hsz
  exact kM_isOne_0 X σ x1 s.heap [] ls h I hl

def M_its_0  (σ : Sg) (x1 : Int32) (x2 : Int32) : Option (Int32 × Sg) :=
  lt_ ((((16 : Int32) + ((6 : Int32) * x1)) + x2)) fun y_1 =>
  gd_ (in_ y_1 64) (
  some ((rd_ σ 1 y_1.toNatClampNeg), σ))
set_option maxRecDepth 100000 in
theorem kM_its_0 {p : Program} {l : Launch} {e : Env} {s : State} {m : MethodId} {args : Array Value} {below : List Frame} {meth : Method} {c : Code} {D : va_G} {cy : Nat → ClassId} {a : Nat → Nat} (X : cx_ cX12_its RX12 wsX12_its 3 (some .int) 16 a D cy xfM p s m args meth c)  {r0 : Int32} {σ' : Sg}  : ∀ (σ : Sg) (x1 : Int32) (x2 : Int32) (H : Heap) (locs : List Loc) (ls : Array Slot), M_its_0 σ x1 x2 = some (r0, σ') → iv_ 16 a D (shM cy a σ) s H locs → lv_has ls 3 [(0, .ref (a 0)), (1, .int x1), (2, .int x2)] → W p l e ({ frames := 0, cells := 0, slots := 0, locals := 0 }) s m args below meth c H locs 0 0 (MQ below (qg_ 16 a D (shM cy a σ') (some (.int r0)) s.heap.size) args s 0 0 (fr_ 16 a s.heap.size)) (F0 m 0 ls []) := by
  obtain ⟨hx, hb, hr, hml, hown, hts, hlk, hK, hA, hXf⟩ := id X
  intro σ x1 x2 H locs ls h I hl
  unfold M_its_0 at h
  refine lv_aload_n hx hb dX12_its_0 rfl (lv_at hl 0 rfl) ?_
  refine ig_ (index := 7) X I (fun _ q => List.mem_cons_of_mem _ (List.mem_append_right _ q)) 0 (by decide) shM_0 rfl 0 (by decide) (by decide +kernel) rfl (v := .ref (a 1)) rfl dX12_its_1 ?_
  refine lv_bipush (v := 16) hx hb dX12_its_4 (by decide) ?_
  refine lv_bipush (v := 6) hx hb dX12_its_6 (by decide) ?_
  refine lv_iload_n hx hb dX12_its_8 rfl (lv_at hl 1 rfl) ?_
  refine lv_imul hx hb dX12_its_9 ?_
  refine lv_iadd hx hb dX12_its_10 ?_
  refine lv_iload_n hx hb dX12_its_11 rfl (lv_at hl 2 rfl) ?_
  refine lv_iadd hx hb dX12_its_12 ?_
  refine lv_topi (fun y_1 e_2 => ?_)
  have h := lt_at h e_2
  obtain ⟨g_3, h⟩ := gd_of h
  refine ia_ X I 1 (by decide) shM_1 (in_of g_3) (v0 := rd_ σ 1 y_1.toNatClampNeg) rfl dX12_its_13 ?_
  obtain ⟨rfl, rfl⟩ := re_s h
  exact rti_ X I dX12_its_14
theorem c_M_its {l : Launch} {D : va_G} {cy : Nat → ClassId} {a : Nat → Nat} {σ : Sg} {x1 : Int32} {x2 : Int32} {r0 : Int32} {σ' : Sg} (h : M_its_0 σ x1 x2 = some (r0, σ')) (sz : Nat) : Met l yX12_its wsX12_its ({ frames := 0, cells := 0, slots := 0, locals := 0 }) (va_Pc [.ref (a 0), .int x1, .int x2] (pr_ 16 a D cy (shM cy a σ) xfM sz)) (qg_ 16 a D (shM cy a σ') (some (.int r0)) sz) 0 0 (fr_ 16 a sz) := by
  refine ent_ (by decide) rfl (Nat.le_of_ble_eq_true rfl) ?_
  intro p e s m below meth c ls hsz X I hl
  subst hsz
  exact kM_its_0 X σ x1 x2 s.heap [] ls h I hl

def M_of_0  (σ : Sg) (x1 : Int32) (x2 : Int32) : Option (Int32 × Sg) :=
  bi_ (M_isOne_0 σ x1) fun r_3 σ_2 =>
  if r_3 = 0 then (some ((-1 : Int32), σ_2))
  else (bp_ (M_isIn_0 (x2).toInt64 (0 : Int64) (5 : Int64)) fun r_6 =>
  if r_6 = 0 then (some ((-1 : Int32), σ_2))
  else (bi_ (M_its_0 σ_2 x1 x2) fun r_10 σ_9 =>
  some (r_10, σ_9)))
set_option maxRecDepth 100000 in
theorem kM_of_0 {p : Program} {l : Launch} {e : Env} {s : State} {m : MethodId} {args : Array Value} {below : List Frame} {meth : Method} {c : Code} {D : va_G} {cy : Nat → ClassId} {a : Nat → Nat} (X : cx_ cX12_of RX12 wsX12_of 3 (some .int) 16 a D cy xfM p s m args meth c)  {r0 : Int32} {σ' : Sg}  : ∀ (σ : Sg) (x1 : Int32) (x2 : Int32) (H : Heap) (locs : List Loc) (ls : Array Slot), M_of_0 σ x1 x2 = some (r0, σ') → iv_ 16 a D (shM cy a σ) s H locs → lv_has ls 3 [(0, .ref (a 0)), (1, .int x1), (2, .int x2)] → W p l e ({ frames := 1, cells := 0, slots := 0, locals := 25 }) s m args below meth c H locs 0 0 (MQ below (qg_ 16 a D (shM cy a σ') (some (.int r0)) s.heap.size) args s 0 0 (fr_ 16 a s.heap.size)) (F0 m 0 ls []) := by
  obtain ⟨hx, hb, hr, hml, hown, hts, hlk, hK, hA, hXf⟩ := id X
  intro σ x1 x2 H locs ls h I hl
  unfold M_of_0 at h
  refine lv_aload_n hx hb dX12_of_0 rfl (lv_at hl 0 rfl) ?_
  refine lv_iload_n hx hb dX12_of_1 rfl (lv_at hl 1 rfl) ?_
  obtain ⟨r_3, σ_2, hc_1, h⟩ := bi_of h
  refine cg_ (rV_ (nn := 1) (As := [.int x1]) (rest := []) X xkM I (c_M_isOne hc_1 H.size) gX12_of_X12_isOne rfl ⟨rfl, rfl⟩ (by decide +kernel) ⟨Nat.le_of_ble_eq_true rfl, Nat.le_of_ble_eq_true rfl⟩ (by decide) shM_0 rfl rfl hl.1 rfl (Nat.le_of_ble_eq_true rfl) dX12_of_2) I (fun H locs I => ?_)
  refine lv_if_eq (tgt := 29) hx hb dX12_of_5 (by decide) (fun c_4 => ?_) (fun c_4 => ?_)
  · have h := if_t h c_4
    refine lv_iconst (v := (-1)) hx hb dX12_of_29 (by decide) ?_
    obtain ⟨rfl, rfl⟩ := re_s h
    exact rti_ X I dX12_of_30
  · have h := if_f h c_4
    refine lv_iload_n hx hb dX12_of_8 rfl (lv_at hl 2 rfl) ?_
    refine lv_i2l hx hb dX12_of_9 rfl ?_
    refine lv_lconst (v := 0) hx hb dX12_of_10 (by decide) ?_
    refine lv_ldc2 (v := 5) hx hb hown (hts (.constantLong RX12 171 (5)) (by decide +kernel)) dX12_of_11 ?_
    obtain ⟨r_6, hc_5, h⟩ := bp_of h
    refine cp_ (rP_ (nn := 3) (As := [.long (x2).toInt64, .long (0 : Int64), .long (5 : Int64)]) (rest := []) ⟨hx, hb, hml, hown, hts⟩ (c_M_isIn hc_5) gX12_of_X12_isIn rfl ⟨rfl, rfl⟩ (by decide +kernel) ⟨Nat.le_of_ble_eq_true rfl, Nat.le_of_ble_eq_true rfl⟩ rfl hl.1 rfl (Nat.le_of_ble_eq_true rfl) dX12_of_14 ⟨Nat.zero_le _, Nat.zero_le _⟩) ?_
    refine lv_if_eq (tgt := 29) hx hb dX12_of_17 (by decide) (fun c_7 => ?_) (fun c_7 => ?_)
    · have h := if_t h c_7
      refine lv_iconst (v := (-1)) hx hb dX12_of_29 (by decide) ?_
      obtain ⟨rfl, rfl⟩ := re_s h
      exact rti_ X I dX12_of_30
    · have h := if_f h c_7
      refine lv_aload_n hx hb dX12_of_20 rfl (lv_at hl 0 rfl) ?_
      refine lv_iload_n hx hb dX12_of_21 rfl (lv_at hl 1 rfl) ?_
      refine lv_iload_n hx hb dX12_of_22 rfl (lv_at hl 2 rfl) ?_
      obtain ⟨r_10, σ_9, hc_8, h⟩ := bi_of h
      refine cg_ (rV_ (nn := 2) (As := [.int x1, .int x2]) (rest := []) X xkM I (c_M_its hc_8 H.size) gX12_of_X12_its rfl ⟨rfl, rfl⟩ (by decide +kernel) ⟨Nat.le_of_ble_eq_true rfl, Nat.le_of_ble_eq_true rfl⟩ (by decide) shM_0 rfl rfl hl.1 rfl (Nat.le_of_ble_eq_true rfl) dX12_of_23) I (fun H locs I => ?_)
      refine lv_goto (tgt := 30) hx hb dX12_of_26 (by decide) ?_
      obtain ⟨rfl, rfl⟩ := re_s h
      exact rti_ X I dX12_of_30
theorem c_M_of {l : Launch} {D : va_G} {cy : Nat → ClassId} {a : Nat → Nat} {σ : Sg} {x1 : Int32} {x2 : Int32} {r0 : Int32} {σ' : Sg} (h : M_of_0 σ x1 x2 = some (r0, σ')) (sz : Nat) : Met l yX12_of wsX12_of ({ frames := 1, cells := 0, slots := 0, locals := 25 }) (va_Pc [.ref (a 0), .int x1, .int x2] (pr_ 16 a D cy (shM cy a σ) xfM sz)) (qg_ 16 a D (shM cy a σ') (some (.int r0)) sz) 0 0 (fr_ 16 a sz) := by
  refine ent_ (by decide) rfl (Nat.le_of_ble_eq_true rfl) ?_
  intro p e s m below meth c ls hsz X I hl
  subst hsz
  exact kM_of_0 X σ x1 x2 s.heap [] ls h I hl

def M_ends_0  (σ : Sg) (x1 : Int32) : Option (Int32 × Sg) :=
  bi_ (M_its_0 σ x1 (0 : Int32)) fun r_3 σ_2 =>
  if r_3 = 1 then (some ((25 : Int32), σ_2))
  else (if r_3 = 2 then (some ((14 : Int32), σ_2))
  else (if r_3 = 3 then (some (((25 : Int32) - (rd_ σ_2 1 3)), σ_2))
  else (if r_3 = 4 then (bi_ (M_its_0 σ_2 x1 (2 : Int32)) fun r_10 σ_9 =>
  some (((14 : Int32) + r_10), σ_9))
  else (some ((21 : Int32), σ_2)))))
set_option maxRecDepth 100000 in
theorem kM_ends_0 {p : Program} {l : Launch} {e : Env} {s : State} {m : MethodId} {args : Array Value} {below : List Frame} {meth : Method} {c : Code} {D : va_G} {cy : Nat → ClassId} {a : Nat → Nat} (X : cx_ cX12_ends RX12 wsX12_ends 2 (some .int) 16 a D cy xfM p s m args meth c)  {r0 : Int32} {σ' : Sg}  : ∀ (σ : Sg) (x1 : Int32) (H : Heap) (locs : List Loc) (ls : Array Slot), M_ends_0 σ x1 = some (r0, σ') → iv_ 16 a D (shM cy a σ) s H locs → lv_has ls 2 [(0, .ref (a 0)), (1, .int x1)] → W p l e ({ frames := 1, cells := 0, slots := 0, locals := 22 }) s m args below meth c H locs 0 0 (MQ below (qg_ 16 a D (shM cy a σ') (some (.int r0)) s.heap.size) args s 0 0 (fr_ 16 a s.heap.size)) (F0 m 0 ls []) := by
  obtain ⟨hx, hb, hr, hml, hown, hts, hlk, hK, hA, hXf⟩ := id X
  intro σ x1 H locs ls h I hl
  unfold M_ends_0 at h
  refine lv_aload_n hx hb dX12_ends_0 rfl (lv_at hl 0 rfl) ?_
  refine lv_iload_n hx hb dX12_ends_1 rfl (lv_at hl 1 rfl) ?_
  refine lv_iconst (v := 0) hx hb dX12_ends_2 (by decide) ?_
  obtain ⟨r_3, σ_2, hc_1, h⟩ := bi_of h
  refine cg_ (rV_ (nn := 2) (As := [.int x1, .int (0 : Int32)]) (rest := []) X xkM I (c_M_its hc_1 H.size) gX12_ends_X12_its rfl ⟨rfl, rfl⟩ (by decide +kernel) ⟨Nat.le_of_ble_eq_true rfl, Nat.le_of_ble_eq_true rfl⟩ (by decide) shM_0 rfl rfl hl.1 rfl (Nat.le_of_ble_eq_true rfl) dX12_ends_3) I (fun H locs I => ?_)
  by_cases c_4 : r_3 = 1
  · have h := if_t h c_4
    refine lv_tableIn (tgt := 36) (off := 30) hx hb dX12_ends_6 (by rw [c_4]; decide) (by rw [c_4]; decide) (by rw [c_4]; decide) (by decide) ?_
    refine lv_bipush (v := 25) hx hb dX12_ends_36 (by decide) ?_
    obtain ⟨rfl, rfl⟩ := re_s h
    exact rti_ X I dX12_ends_38
  · have h := if_f h c_4
    by_cases c_5 : r_3 = 2
    · have h := if_t h c_5
      refine lv_tableIn (tgt := 39) (off := 33) hx hb dX12_ends_6 (by rw [c_5]; decide) (by rw [c_5]; decide) (by rw [c_5]; decide) (by decide) ?_
      refine lv_bipush (v := 14) hx hb dX12_ends_39 (by decide) ?_
      obtain ⟨rfl, rfl⟩ := re_s h
      exact rti_ X I dX12_ends_41
    · have h := if_f h c_5
      by_cases c_6 : r_3 = 3
      · have h := if_t h c_6
        refine lv_tableIn (tgt := 42) (off := 36) hx hb dX12_ends_6 (by rw [c_6]; decide) (by rw [c_6]; decide) (by rw [c_6]; decide) (by decide) ?_
        refine lv_bipush (v := 25) hx hb dX12_ends_42 (by decide) ?_
        refine lv_aload_n hx hb dX12_ends_44 rfl (lv_at hl 0 rfl) ?_
        refine ig_ (index := 7) X I (fun _ q => List.mem_cons_of_mem _ (List.mem_append_right _ q)) 0 (by decide) shM_0 rfl 0 (by decide) (by decide +kernel) rfl (v := .ref (a 1)) rfl dX12_ends_45 ?_
        refine lv_iconst (v := 3) hx hb dX12_ends_48 (by decide) ?_
        refine ia_ X I 1 (by decide) shM_1 (in_of (by decide)) (v0 := rd_ σ_2 1 3) rfl dX12_ends_49 ?_
        refine lv_isub hx hb dX12_ends_50 ?_
        obtain ⟨rfl, rfl⟩ := re_s h
        exact rti_ X I dX12_ends_51
      · have h := if_f h c_6
        by_cases c_7 : r_3 = 4
        · have h := if_t h c_7
          refine lv_tableIn (tgt := 52) (off := 46) hx hb dX12_ends_6 (by rw [c_7]; decide) (by rw [c_7]; decide) (by rw [c_7]; decide) (by decide) ?_
          refine lv_bipush (v := 14) hx hb dX12_ends_52 (by decide) ?_
          refine lv_aload_n hx hb dX12_ends_54 rfl (lv_at hl 0 rfl) ?_
          refine lv_iload_n hx hb dX12_ends_55 rfl (lv_at hl 1 rfl) ?_
          refine lv_iconst (v := 2) hx hb dX12_ends_56 (by decide) ?_
          obtain ⟨r_10, σ_9, hc_8, h⟩ := bi_of h
          refine cg_ (rV_ (nn := 2) (As := [.int x1, .int (2 : Int32)]) (rest := [.int (14 : Int32)]) X xkM I (c_M_its hc_8 H.size) gX12_ends_X12_its rfl ⟨rfl, rfl⟩ (by decide +kernel) ⟨Nat.le_of_ble_eq_true rfl, Nat.le_of_ble_eq_true rfl⟩ (by decide) shM_0 rfl rfl hl.1 rfl (Nat.le_of_ble_eq_true rfl) dX12_ends_57) I (fun H locs I => ?_)
          refine lv_iadd hx hb dX12_ends_60 ?_
          obtain ⟨rfl, rfl⟩ := re_s h
          exact rti_ X I dX12_ends_61
        · have h := if_f h c_7
          refine lv_tableOut (tgt := 62) hx hb dX12_ends_6 (by have q0 := lv_neT (a := 1) c_4 rfl; have q1 := lv_neT (a := 2) c_5 rfl; have q2 := lv_neT (a := 3) c_6 rfl; have q3 := lv_neT (a := 4) c_7 rfl; omega) (by decide) ?_
          refine lv_bipush (v := 21) hx hb dX12_ends_62 (by decide) ?_
          obtain ⟨rfl, rfl⟩ := re_s h
          exact rti_ X I dX12_ends_64
theorem c_M_ends {l : Launch} {D : va_G} {cy : Nat → ClassId} {a : Nat → Nat} {σ : Sg} {x1 : Int32} {r0 : Int32} {σ' : Sg} (h : M_ends_0 σ x1 = some (r0, σ')) (sz : Nat) : Met l yX12_ends wsX12_ends ({ frames := 1, cells := 0, slots := 0, locals := 22 }) (va_Pc [.ref (a 0), .int x1] (pr_ 16 a D cy (shM cy a σ) xfM sz)) (qg_ 16 a D (shM cy a σ') (some (.int r0)) sz) 0 0 (fr_ 16 a sz) := by
  refine ent_ (by decide) rfl (Nat.le_of_ble_eq_true rfl) ?_
  intro p e s m below meth c ls hsz X I hl
  subst hsz
  exact kM_ends_0 X σ x1 s.heap [] ls h I hl

def M_moves_0  (σ : Sg) (x1 : Int32) : Option (Int32 × Sg) :=
  bi_ (M_its_0 σ x1 (2 : Int32)) fun r_3 σ_2 =>
  bi_ (M_its_0 σ_2 x1 (0 : Int32)) fun r_6 σ_5 =>
  if r_6 = 1 then (some ((r_3 / (2 : Int32)), σ_5))
  else (if r_6 = 2 then (some ((r_3 + (rd_ σ_5 1 4)), σ_5))
  else (if r_6 = 3 then (some (((r_3 / (2 : Int32)) + (rd_ σ_5 1 3)), σ_5))
  else (if r_6 = 4 then (some (((2 : Int32) * (r_3 + (rd_ σ_5 1 4))), σ_5))
  else (if r_6 = 5 then (if ((rd_ σ_5 1 1) - (rd_ σ_5 1 1) / (2 : Int32) * (2 : Int32)) = 0 then (some (r_3, σ_5))
  else (some ((0 : Int32), σ_5)))
  else (some (r_3, σ_5))))))
set_option maxRecDepth 100000 in
theorem kM_moves_0 {p : Program} {l : Launch} {e : Env} {s : State} {m : MethodId} {args : Array Value} {below : List Frame} {meth : Method} {c : Code} {D : va_G} {cy : Nat → ClassId} {a : Nat → Nat} (X : cx_ cX12_moves RX12 wsX12_moves 3 (some .int) 16 a D cy xfM p s m args meth c)  {r0 : Int32} {σ' : Sg}  : ∀ (σ : Sg) (x1 : Int32) (H : Heap) (locs : List Loc) (ls : Array Slot), M_moves_0 σ x1 = some (r0, σ') → iv_ 16 a D (shM cy a σ) s H locs → lv_has ls 3 [(0, .ref (a 0)), (1, .int x1)] → W p l e ({ frames := 1, cells := 0, slots := 0, locals := 22 }) s m args below meth c H locs 0 0 (MQ below (qg_ 16 a D (shM cy a σ') (some (.int r0)) s.heap.size) args s 0 0 (fr_ 16 a s.heap.size)) (F0 m 0 ls []) := by
  obtain ⟨hx, hb, hr, hml, hown, hts, hlk, hK, hA, hXf⟩ := id X
  intro σ x1 H locs ls h I hl
  unfold M_moves_0 at h
  refine lv_aload_n hx hb dX12_moves_0 rfl (lv_at hl 0 rfl) ?_
  refine lv_iload_n hx hb dX12_moves_1 rfl (lv_at hl 1 rfl) ?_
  refine lv_iconst (v := 2) hx hb dX12_moves_2 (by decide) ?_
  obtain ⟨r_3, σ_2, hc_1, h⟩ := bi_of h
  refine cg_ (rV_ (nn := 2) (As := [.int x1, .int (2 : Int32)]) (rest := []) X xkM I (c_M_its hc_1 H.size) gX12_moves_X12_its rfl ⟨rfl, rfl⟩ (by decide +kernel) ⟨Nat.le_of_ble_eq_true rfl, Nat.le_of_ble_eq_true rfl⟩ (by decide) shM_0 rfl rfl hl.1 rfl (Nat.le_of_ble_eq_true rfl) dX12_moves_3) I (fun H locs I => ?_)
  refine lv_istore_n (lv' := [(2, .int r_3), (0, .ref (a 0)), (1, .int x1)]) hx hb dX12_moves_6 rfl hl (by decide) rfl (fun ls hl => ?_)
  refine lv_aload_n hx hb dX12_moves_7 rfl (lv_at hl 1 rfl) ?_
  refine lv_iload_n hx hb dX12_moves_8 rfl (lv_at hl 2 rfl) ?_
  refine lv_iconst (v := 0) hx hb dX12_moves_9 (by decide) ?_
  obtain ⟨r_6, σ_5, hc_4, h⟩ := bi_of h
  refine cg_ (rV_ (nn := 2) (As := [.int x1, .int (0 : Int32)]) (rest := []) X xkM I (c_M_its hc_4 H.size) gX12_moves_X12_its rfl ⟨rfl, rfl⟩ (by decide +kernel) ⟨Nat.le_of_ble_eq_true rfl, Nat.le_of_ble_eq_true rfl⟩ (by decide) shM_0 rfl rfl hl.1 rfl (Nat.le_of_ble_eq_true rfl) dX12_moves_10) I (fun H locs I => ?_)
  by_cases c_7 : r_6 = 1
  · have h := if_t h c_7
    refine lv_tableIn (tgt := 48) (off := 35) hx hb dX12_moves_13 (by rw [c_7]; decide) (by rw [c_7]; decide) (by rw [c_7]; decide) (by decide) ?_
    refine lv_iload_n hx hb dX12_moves_48 rfl (lv_at hl 0 rfl) ?_
    refine lv_iconst (v := 2) hx hb dX12_moves_49 (by decide) ?_
    refine lv_idiv hx hb dX12_moves_50 (by decide) ?_
    obtain ⟨rfl, rfl⟩ := re_s h
    exact rti_ X I dX12_moves_51
  · have h := if_f h c_7
    by_cases c_8 : r_6 = 2
    · have h := if_t h c_8
      refine lv_tableIn (tgt := 52) (off := 39) hx hb dX12_moves_13 (by rw [c_8]; decide) (by rw [c_8]; decide) (by rw [c_8]; decide) (by decide) ?_
      refine lv_iload_n hx hb dX12_moves_52 rfl (lv_at hl 0 rfl) ?_
      refine lv_aload_n hx hb dX12_moves_53 rfl (lv_at hl 1 rfl) ?_
      refine ig_ (index := 7) X I (fun _ q => List.mem_cons_of_mem _ (List.mem_append_right _ q)) 0 (by decide) shM_0 rfl 0 (by decide) (by decide +kernel) rfl (v := .ref (a 1)) rfl dX12_moves_54 ?_
      refine lv_iconst (v := 4) hx hb dX12_moves_57 (by decide) ?_
      refine ia_ X I 1 (by decide) shM_1 (in_of (by decide)) (v0 := rd_ σ_5 1 4) rfl dX12_moves_58 ?_
      refine lv_iadd hx hb dX12_moves_59 ?_
      obtain ⟨rfl, rfl⟩ := re_s h
      exact rti_ X I dX12_moves_60
    · have h := if_f h c_8
      by_cases c_9 : r_6 = 3
      · have h := if_t h c_9
        refine lv_tableIn (tgt := 61) (off := 48) hx hb dX12_moves_13 (by rw [c_9]; decide) (by rw [c_9]; decide) (by rw [c_9]; decide) (by decide) ?_
        refine lv_iload_n hx hb dX12_moves_61 rfl (lv_at hl 0 rfl) ?_
        refine lv_iconst (v := 2) hx hb dX12_moves_62 (by decide) ?_
        refine lv_idiv hx hb dX12_moves_63 (by decide) ?_
        refine lv_aload_n hx hb dX12_moves_64 rfl (lv_at hl 1 rfl) ?_
        refine ig_ (index := 7) X I (fun _ q => List.mem_cons_of_mem _ (List.mem_append_right _ q)) 0 (by decide) shM_0 rfl 0 (by decide) (by decide +kernel) rfl (v := .ref (a 1)) rfl dX12_moves_65 ?_
        refine lv_iconst (v := 3) hx hb dX12_moves_68 (by decide) ?_
        refine ia_ X I 1 (by decide) shM_1 (in_of (by decide)) (v0 := rd_ σ_5 1 3) rfl dX12_moves_69 ?_
        refine lv_iadd hx hb dX12_moves_70 ?_
        obtain ⟨rfl, rfl⟩ := re_s h
        exact rti_ X I dX12_moves_71
      · have h := if_f h c_9
        by_cases c_10 : r_6 = 4
        · have h := if_t h c_10
          refine lv_tableIn (tgt := 72) (off := 59) hx hb dX12_moves_13 (by rw [c_10]; decide) (by rw [c_10]; decide) (by rw [c_10]; decide) (by decide) ?_
          refine lv_iconst (v := 2) hx hb dX12_moves_72 (by decide) ?_
          refine lv_iload_n hx hb dX12_moves_73 rfl (lv_at hl 0 rfl) ?_
          refine lv_aload_n hx hb dX12_moves_74 rfl (lv_at hl 1 rfl) ?_
          refine ig_ (index := 7) X I (fun _ q => List.mem_cons_of_mem _ (List.mem_append_right _ q)) 0 (by decide) shM_0 rfl 0 (by decide) (by decide +kernel) rfl (v := .ref (a 1)) rfl dX12_moves_75 ?_
          refine lv_iconst (v := 4) hx hb dX12_moves_78 (by decide) ?_
          refine ia_ X I 1 (by decide) shM_1 (in_of (by decide)) (v0 := rd_ σ_5 1 4) rfl dX12_moves_79 ?_
          refine lv_iadd hx hb dX12_moves_80 ?_
          refine lv_imul hx hb dX12_moves_81 ?_
          obtain ⟨rfl, rfl⟩ := re_s h
          exact rti_ X I dX12_moves_82
        · have h := if_f h c_10
          by_cases c_11 : r_6 = 5
          · have h := if_t h c_11
            refine lv_tableIn (tgt := 83) (off := 70) hx hb dX12_moves_13 (by rw [c_11]; decide) (by rw [c_11]; decide) (by rw [c_11]; decide) (by decide) ?_
            refine lv_aload_n hx hb dX12_moves_83 rfl (lv_at hl 1 rfl) ?_
            refine ig_ (index := 7) X I (fun _ q => List.mem_cons_of_mem _ (List.mem_append_right _ q)) 0 (by decide) shM_0 rfl 0 (by decide) (by decide +kernel) rfl (v := .ref (a 1)) rfl dX12_moves_84 ?_
            refine lv_iconst (v := 1) hx hb dX12_moves_87 (by decide) ?_
            refine ia_ X I 1 (by decide) shM_1 (in_of (by decide)) (v0 := rd_ σ_5 1 1) rfl dX12_moves_88 ?_
            refine lv_iconst (v := 2) hx hb dX12_moves_89 (by decide) ?_
            refine lv_irem hx hb dX12_moves_90 (by decide) ?_
            refine lv_if_ne (tgt := 98) hx hb dX12_moves_91 (by decide) (fun c_12 => ?_) (fun c_12 => ?_)
            · have h := if_f h c_12
              refine lv_iconst (v := 0) hx hb dX12_moves_98 (by decide) ?_
              obtain ⟨rfl, rfl⟩ := re_s h
              exact rti_ X I dX12_moves_99
            · have h := if_t h c_12
              refine lv_iload_n hx hb dX12_moves_94 rfl (lv_at hl 0 rfl) ?_
              refine lv_goto (tgt := 99) hx hb dX12_moves_95 (by decide) ?_
              obtain ⟨rfl, rfl⟩ := re_s h
              exact rti_ X I dX12_moves_99
          · have h := if_f h c_11
            refine lv_tableOut (tgt := 100) hx hb dX12_moves_13 (by have q0 := lv_neT (a := 1) c_7 rfl; have q1 := lv_neT (a := 2) c_8 rfl; have q2 := lv_neT (a := 3) c_9 rfl; have q3 := lv_neT (a := 4) c_10 rfl; have q4 := lv_neT (a := 5) c_11 rfl; omega) (by decide) ?_
            refine lv_iload_n hx hb dX12_moves_100 rfl (lv_at hl 0 rfl) ?_
            obtain ⟨rfl, rfl⟩ := re_s h
            exact rti_ X I dX12_moves_101
theorem c_M_moves {l : Launch} {D : va_G} {cy : Nat → ClassId} {a : Nat → Nat} {σ : Sg} {x1 : Int32} {r0 : Int32} {σ' : Sg} (h : M_moves_0 σ x1 = some (r0, σ')) (sz : Nat) : Met l yX12_moves wsX12_moves ({ frames := 1, cells := 0, slots := 0, locals := 22 }) (va_Pc [.ref (a 0), .int x1] (pr_ 16 a D cy (shM cy a σ) xfM sz)) (qg_ 16 a D (shM cy a σ') (some (.int r0)) sz) 0 0 (fr_ 16 a sz) := by
  refine ent_ (by decide) rfl (Nat.le_of_ble_eq_true rfl) ?_
  intro p e s m below meth c ls hsz X I hl
  subst hsz
  exact kM_moves_0 X σ x1 s.heap [] ls h I hl
