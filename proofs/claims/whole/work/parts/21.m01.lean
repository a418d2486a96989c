def M_kindHere_151  (σ : Sg)  : Option (Int32 × Sg) :=
  bi_ (M_isFour_0 σ (116 : Int32) (119 : Int32) (105 : Int32) (110 : Int32)) fun r_3 σ_2 =>
  if r_3 = 0 then (some ((-1 : Int32), σ_2))
  else (some ((5 : Int32), σ_2))
set_option maxRecDepth 100000 in
theorem kM_kindHere_151 {p : Program} {l : Launch} {e : Env} {s : State} {m : MethodId} {args : Array Value} {below : List Frame} {meth : Method} {c : Code} {D : va_G} {cy : Nat → ClassId} {a : Nat → Nat} (X : cx_ cX12_kindHere RX12 wsX12_kindHere 1 (some .int) 16 a D cy xfM p s m args meth c)  {r0 : Int32} {σ' : Sg}  : ∀ (σ : Sg)  (H : Heap) (locs : List Loc) (ls : Array Slot), M_kindHere_151 σ = some (r0, σ') → iv_ 16 a D (shM cy a σ) s H locs → lv_has ls 1 [(0, .ref (a 0))] → W p l e ({ frames := 3, cells := 0, slots := 0, locals := 71 }) s m args below meth c H locs 0 0 (MQ below (qg_ 16 a D (shM cy a σ') (some (.int r0)) s.heap.size) args s 0 0 (fr_ 16 a s.heap.size)) (F0 m 151 ls []) := by
  obtain ⟨hx, hb, hr, hml, hown, hts, hlk, hK, hA, hXf⟩ := id X
  intro σ  H locs ls h I hl
  unfold M_kindHere_151 at h
  refine lv_aload_n hx hb dX12_kindHere_151 rfl (lv_at hl 0 rfl) ?_
  refine lv_bipush (v := 116) hx hb dX12_kindHere_152 (by decide) ?_
  refine lv_bipush (v := 119) hx hb dX12_kindHere_154 (by decide) ?_
  refine lv_bipush (v := 105) hx hb dX12_kindHere_156 (by decide) ?_
  refine lv_bipush (v := 110) hx hb dX12_kindHere_158 (by decide) ?_
  obtain ⟨r_3, σ_2, hc_1, h⟩ := bi_of h
  refine cg_ (rV_ (nn := 4) (As := [.int (116 : Int32), .int (119 : Int32), .int (105 : Int32), .int (110 : Int32)]) (rest := []) X xkM I (c_M_isFour hc_1 H.size) gX12_kindHere_X12_isFour rfl ⟨rfl, rfl⟩ (by decide +kernel) ⟨Nat.le_of_ble_eq_true rfl, Nat.le_of_ble_eq_true rfl⟩ (by decide) shM_0 rfl rfl hl.1 rfl (Nat.le_of_ble_eq_true rfl) dX12_kindHere_160) I (fun H locs I => ?_)
  refine lv_if_eq (tgt := 170) hx hb dX12_kindHere_163 (by decide) (fun c_4 => ?_) (fun c_4 => ?_)
  · have h := if_t h c_4
    refine lv_iconst (v := (-1)) hx hb dX12_kindHere_170 (by decide) ?_
    obtain ⟨rfl, rfl⟩ := re_s h
    exact rti_ X I dX12_kindHere_171
  · have h := if_f h c_4
    refine lv_iconst (v := 5) hx hb dX12_kindHere_166 (by decide) ?_
    refine lv_goto (tgt := 171) hx hb dX12_kindHere_167 (by decide) ?_
    obtain ⟨rfl, rfl⟩ := re_s h
    exact rti_ X I dX12_kindHere_171
def M_kindHere_102  (σ : Sg)  : Option (Int32 × Sg) :=
  bi_ (M_isName_0 σ (8 : Int32) (114 : Int32) (101 : Int32) (102 : Int32) (114 : Int32)) fun r_3 σ_2 =>
  if r_3 = 0 then (M_kindHere_151 σ_2)
  else (bi_ (M_isSame_0 σ_2 (3 : Int32) (111 : Int32) (114 : Int32) (109 : Int32)) fun r_7 σ_6 =>
  if r_7 = 0 then (M_kindHere_151 σ_6)
  else (bi_ (M_byteAt_0 σ_6 ((rd_ σ_6 0 8) + (6 : Int32))) fun r_11 σ_10 =>
  if r_11 = (101 : Int32) then (some ((4 : Int32), σ_10))
  else (M_kindHere_151 σ_10)))
set_option maxRecDepth 100000 in
theorem kM_kindHere_102 {p : Program} {l : Launch} {e : Env} {s : State} {m : MethodId} {args : Array Value} {below : List Frame} {meth : Method} {c : Code} {D : va_G} {cy : Nat → ClassId} {a : Nat → Nat} (X : cx_ cX12_kindHere RX12 wsX12_kindHere 1 (some .int) 16 a D cy xfM p s m args meth c)  {r0 : Int32} {σ' : Sg}  : ∀ (σ : Sg)  (H : Heap) (locs : List Loc) (ls : Array Slot), M_kindHere_102 σ = some (r0, σ') → iv_ 16 a D (shM cy a σ) s H locs → lv_has ls 1 [(0, .ref (a 0))] → W p l e ({ frames := 3, cells := 0, slots := 0, locals := 71 }) s m args below meth c H locs 0 0 (MQ below (qg_ 16 a D (shM cy a σ') (some (.int r0)) s.heap.size) args s 0 0 (fr_ 16 a s.heap.size)) (F0 m 102 ls []) := by
  obtain ⟨hx, hb, hr, hml, hown, hts, hlk, hK, hA, hXf⟩ := id X
  intro σ  H locs ls h I hl
  unfold M_kindHere_102 at h
  refine lv_aload_n hx hb dX12_kindHere_102 rfl (lv_at hl 0 rfl) ?_
  refine lv_bipush (v := 8) hx hb dX12_kindHere_103 (by decide) ?_
  refine lv_bipush (v := 114) hx hb dX12_kindHere_105 (by decide) ?_
  refine lv_bipush (v := 101) hx hb dX12_kindHere_107 (by decide) ?_
  refine lv_bipush (v := 102) hx hb dX12_kindHere_109 (by decide) ?_
  refine lv_bipush (v := 114) hx hb dX12_kindHere_111 (by decide) ?_
  obtain ⟨r_3, σ_2, hc_1, h⟩ := bi_of h
  refine cg_ (rV_ (nn := 5) (As := [.int (8 : Int32), .int (114 : Int32), .int (101 : Int32), .int (102 : Int32), .int (114 : Int32)]) (rest := []) X xkM I (c_M_isName hc_1 H.size) gX12_kindHere_X12_isName rfl ⟨rfl, rfl⟩ (by decide +kernel) ⟨Nat.le_of_ble_eq_true rfl, Nat.le_of_ble_eq_true rfl⟩ (by decide) shM_0 rfl rfl hl.1 rfl (Nat.le_of_ble_eq_true rfl) dX12_kindHere_113) I (fun H locs I => ?_)
  refine lv_if_eq (tgt := 151) hx hb dX12_kindHere_116 (by decide) (fun c_4 => ?_) (fun c_4 => ?_)
  · have h := if_t h c_4
    exact kM_kindHere_151 X  σ_2 H locs ls h I (lv_sub hl [0] rfl)
  · have h := if_f h c_4
    refine lv_aload_n hx hb dX12_kindHere_119 rfl (lv_at hl 0 rfl) ?_
    refine lv_iconst (v := 3) hx hb dX12_kindHere_120 (by decide) ?_
    refine lv_bipush (v := 111) hx hb dX12_kindHere_121 (by decide) ?_
    refine lv_bipush (v := 114) hx hb dX12_kindHere_123 (by decide) ?_
    refine lv_bipush (v := 109) hx hb dX12_kindHere_125 (by decide) ?_
    obtain ⟨r_7, σ_6, hc_5, h⟩ := bi_of h
    refine cg_ (rV_ (nn := 4) (As := [.int (3 : Int32), .int (111 : Int32), .int (114 : Int32), .int (109 : Int32)]) (rest := []) X xkM I (c_M_isSame hc_5 H.size) gX12_kindHere_X12_isSame rfl ⟨rfl, rfl⟩ (by decide +kernel) ⟨Nat.le_of_ble_eq_true rfl, Nat.le_of_ble_eq_true rfl⟩ (by decide) shM_0 rfl rfl hl.1 rfl (Nat.le_of_ble_eq_true rfl) dX12_kindHere_127) I (fun H locs I => ?_)
    refine lv_if_eq (tgt := 151) hx hb dX12_kindHere_130 (by decide) (fun c_8 => ?_) (fun c_8 => ?_)
    · have h := if_t h c_8
      exact kM_kindHere_151 X  σ_6 H locs ls h I (lv_sub hl [0] rfl)
    · have h := if_f h c_8
      refine lv_aload_n hx hb dX12_kindHere_133 rfl (lv_at hl 0 rfl) ?_
      refine lv_aload_n hx hb dX12_kindHere_134 rfl (lv_at hl 0 rfl) ?_
      refine ig_ (index := 73) X I (fun _ q => List.mem_cons_of_mem _ (List.mem_append_right _ q)) 0 (by decide) shM_0 rfl 8 (by decide) (by decide +kernel) rfl (v := .int (rd_ σ_6 0 8)) rfl dX12_kindHere_135 ?_
      refine lv_bipush (v := 6) hx hb dX12_kindHere_138 (by decide) ?_
      refine lv_iadd hx hb dX12_kindHere_140 ?_
      obtain ⟨r_11, σ_10, hc_9, h⟩ := bi_of h
      refine cg_ (rV_ (nn := 1) (As := [.int ((rd_ σ_6 0 8) + (6 : Int32))]) (rest := []) X xkM I (c_M_byteAt hc_9 H.size) gX12_kindHere_X12_byteAt rfl ⟨rfl, rfl⟩ (by decide +kernel) ⟨Nat.le_of_ble_eq_true rfl, Nat.le_of_ble_eq_true rfl⟩ (by decide) shM_0 rfl rfl hl.1 rfl (Nat.le_of_ble_eq_true rfl) dX12_kindHere_141) I (fun H locs I => ?_)
      refine lv_bipush (v := 101) hx hb dX12_kindHere_144 (by decide) ?_
      refine lv_icmp_ne (tgt := 151) hx hb dX12_kindHere_146 (by decide) (fun c_12 => ?_) (fun c_12 => ?_)
      · have h := if_f h c_12
        exact kM_kindHere_151 X  σ_10 H locs ls h I (lv_sub hl [0] rfl)
      · have h := if_t h c_12
        refine lv_iconst (v := 4) hx hb dX12_kindHere_149 (by decide) ?_
        obtain ⟨rfl, rfl⟩ := re_s h
        exact rti_ X I dX12_kindHere_150
def M_kindHere_69  (σ : Sg)  : Option (Int32 × Sg) :=
  bi_ (M_isName_0 σ (6 : Int32) (99 : Int32) (117 : Int32) (114 : Int32) (101 : Int32)) fun r_3 σ_2 =>
  if r_3 = 0 then (M_kindHere_102 σ_2)
  else (bi_ (M_isSame_0 σ_2 (2 : Int32) (114 : Int32) (97 : Int32) (116 : Int32)) fun r_7 σ_6 =>
  if r_7 = 0 then (M_kindHere_102 σ_6)
  else (some ((3 : Int32), σ_6)))
set_option maxRecDepth 100000 in
theorem kM_kindHere_69 {p : Program} {l : Launch} {e : Env} {s : State} {m : MethodId} {args : Array Value} {below : List Frame} {meth : Method} {c : Code} {D : va_G} {cy : Nat → ClassId} {a : Nat → Nat} (X : cx_ cX12_kindHere RX12 wsX12_kindHere 1 (some .int) 16 a D cy xfM p s m args meth c)  {r0 : Int32} {σ' : Sg}  : ∀ (σ : Sg)  (H : Heap) (locs : List Loc) (ls : Array Slot), M_kindHere_69 σ = some (r0, σ') → iv_ 16 a D (shM cy a σ) s H locs → lv_has ls 1 [(0, .ref (a 0))] → W p l e ({ frames := 3, cells := 0, slots := 0, locals := 71 }) s m args below meth c H locs 0 0 (MQ below (qg_ 16 a D (shM cy a σ') (some (.int r0)) s.heap.size) args s 0 0 (fr_ 16 a s.heap.size)) (F0 m 69 ls []) := by
  obtain ⟨hx, hb, hr, hml, hown, hts, hlk, hK, hA, hXf⟩ := id X
  intro σ  H locs ls h I hl
  unfold M_kindHere_69 at h
  refine lv_aload_n hx hb dX12_kindHere_69 rfl (lv_at hl 0 rfl) ?_
  refine lv_bipush (v := 6) hx hb dX12_kindHere_70 (by decide) ?_
  refine lv_bipush (v := 99) hx hb dX12_kindHere_72 (by decide) ?_
  refine lv_bipush (v := 117) hx hb dX12_kindHere_74 (by decide) ?_
  refine lv_bipush (v := 114) hx hb dX12_kindHere_76 (by decide) ?_
  refine lv_bipush (v := 101) hx hb dX12_kindHere_78 (by decide) ?_
  obtain ⟨r_3, σ_2, hc_1, h⟩ := bi_of h
  refine cg_ (rV_ (nn := 5) (As := [.int (6 : Int32), .int (99 : Int32), .int (117 : Int32), .int (114 : Int32), .int (101 : Int32)]) (rest := []) X xkM I (c_M_isName hc_1 H.size) gX12_kindHere_X12_isName rfl ⟨rfl, rfl⟩ (by decide +kernel) ⟨Nat.le_of_ble_eq_true rfl, Nat.le_of_ble_eq_true rfl⟩ (by decide) shM_0 rfl rfl hl.1 rfl (Nat.le_of_ble_eq_true rfl) dX12_kindHere_80) I (fun H locs I => ?_)
  refine lv_if_eq (tgt := 102) hx hb dX12_kindHere_83 (by decide) (fun c_4 => ?_) (fun c_4 => ?_)
  · have h := if_t h c_4
    exact kM_kindHere_102 X  σ_2 H locs ls h I (lv_sub hl [0] rfl)
  · have h := if_f h c_4
    refine lv_aload_n hx hb dX12_kindHere_86 rfl (lv_at hl 0 rfl) ?_
    refine lv_iconst (v := 2) hx hb dX12_kindHere_87 (by decide) ?_
    refine lv_bipush (v := 114) hx hb dX12_kindHere_88 (by decide) ?_
    refine lv_bipush (v := 97) hx hb dX12_kindHere_90 (by decide) ?_
    refine lv_bipush (v := 116) hx hb dX12_kindHere_92 (by decide) ?_
    obtain ⟨r_7, σ_6, hc_5, h⟩ := bi_of h
    refine cg_ (rV_ (nn := 4) (As := [.int (2 : Int32), .int (114 : Int32), .int (97 : Int32), .int (116 : Int32)]) (rest := []) X xkM I (c_M_isSame hc_5 H.size) gX12_kindHere_X12_isSame rfl ⟨rfl, rfl⟩ (by decide +kernel) ⟨Nat.le_of_ble_eq_true rfl, Nat.le_of_ble_eq_true rfl⟩ (by decide) shM_0 rfl rfl hl.1 rfl (Nat.le_of_ble_eq_true rfl) dX12_kindHere_94) I (fun H locs I => ?_)
    refine lv_if_eq (tgt := 102) hx hb dX12_kindHere_97 (by decide) (fun c_8 => ?_) (fun c_8 => ?_)
    · have h := if_t h c_8
      exact kM_kindHere_102 X  σ_6 H locs ls h I (lv_sub hl [0] rfl)
    · have h := if_f h c_8
      refine lv_iconst (v := 3) hx hb dX12_kindHere_100 (by decide) ?_
      obtain ⟨rfl, rfl⟩ := re_s h
      exact rti_ X I dX12_kindHere_101
def M_kindHere_0  (σ : Sg)  : Option (Int32 × Sg) :=
  bi_ (M_isFive_0 σ (99 : Int32) (104 : Int32) (105 : Int32) (108 : Int32) (100 : Int32)) fun r_3 σ_2 =>
  if r_3 = 0 then (bi_ (M_isFour_0 σ_2 (104 : Int32) (101 : Int32) (105 : Int32) (114 : Int32)) fun r_7 σ_6 =>
  if r_7 = 0 then (bi_ (M_isName_0 σ_6 (6 : Int32) (117 : Int32) (114 : Int32) (99 : Int32) (110 : Int32)) fun r_11 σ_10 =>
  if r_11 = 0 then (M_kindHere_69 σ_10)
  else (bi_ (M_isSame_0 σ_10 (2 : Int32) (99 : Int32) (104 : Int32) (105 : Int32)) fun r_15 σ_14 =>
  if r_15 = 0 then (M_kindHere_69 σ_14)
  else (some ((2 : Int32), σ_14))))
  else (some ((1 : Int32), σ_6)))
  else (some ((0 : Int32), σ_2))
set_option maxRecDepth 100000 in
theorem kM_kindHere_0 {p : Program} {l : Launch} {e : Env} {s : State} {m : MethodId} {args : Array Value} {below : List Frame} {meth : Method} {c : Code} {D : va_G} {cy : Nat → ClassId} {a : Nat → Nat} (X : cx_ cX12_kindHere RX12 wsX12_kindHere 1 (some .int) 16 a D cy xfM p s m args meth c)  {r0 : Int32} {σ' : Sg}  : ∀ (σ : Sg)  (H : Heap) (locs : List Loc) (ls : Array Slot), M_kindHere_0 σ = some (r0, σ') → iv_ 16 a D (shM cy a σ) s H locs → lv_has ls 1 [(0, .ref (a 0))] → W p l e ({ frames := 3, cells := 0, slots := 0, locals := 71 }) s m args below meth c H locs 0 0 (MQ below (qg_ 16 a D (shM cy a σ') (some (.int r0)) s.heap.size) args s 0 0 (fr_ 16 a s.heap.size)) (F0 m 0 ls []) := by
  obtain ⟨hx, hb, hr, hml, hown, hts, hlk, hK, hA, hXf⟩ := id X
  intro σ  H locs ls h I hl
  unfold M_kindHere_0 at h
  refine lv_aload_n hx hb dX12_kindHere_0 rfl (lv_at hl 0 rfl) ?_
  refine lv_bipush (v := 99) hx hb dX12_kindHere_1 (by decide) ?_
  refine lv_bipush (v := 104) hx hb dX12_kindHere_3 (by decide) ?_
  refine lv_bipush (v := 105) hx hb dX12_kindHere_5 (by decide) ?_
  refine lv_bipush (v := 108) hx hb dX12_kindHere_7 (by decide) ?_
  refine lv_bipush (v := 100) hx hb dX12_kindHere_9 (by decide) ?_
  obtain ⟨r_3, σ_2, hc_1, h⟩ := bi_of h
  refine cg_ (rV_ (nn := 5) (As := [.int (99 : Int32), .int (104 : Int32), .int (105 : Int32), .int (108 : Int32), .int (100 : Int32)]) (rest := []) X xkM I (c_M_isFive hc_1 H.size) gX12_kindHere_X12_isFive rfl ⟨rfl, rfl⟩ (by decide +kernel) ⟨Nat.le_of_ble_eq_true rfl, Nat.le_of_ble_eq_true rfl⟩ (by decide) shM_0 rfl rfl hl.1 rfl (Nat.le_of_ble_eq_true rfl) dX12_kindHere_11) I (fun H locs I => ?_)
  refine lv_if_eq (tgt := 19) hx hb dX12_kindHere_14 (by decide) (fun c_4 => ?_) (fun c_4 => ?_)
  · have h := if_t h c_4
    refine lv_aload_n hx hb dX12_kindHere_19 rfl (lv_at hl 0 rfl) ?_
    refine lv_bipush (v := 104) hx hb dX12_kindHere_20 (by decide) ?_
    refine lv_bipush (v := 101) hx hb dX12_kindHere_22 (by decide) ?_
    refine lv_bipush (v := 105) hx hb dX12_kindHere_24 (by decide) ?_
    refine lv_bipush (v := 114) hx hb dX12_kindHere_26 (by decide) ?_
    obtain ⟨r_7, σ_6, hc_5, h⟩ := bi_of h
    refine cg_ (rV_ (nn := 4) (As := [.int (104 : Int32), .int (101 : Int32), .int (105 : Int32), .int (114 : Int32)]) (rest := []) X xkM I (c_M_isFour hc_5 H.size) gX12_kindHere_X12_isFour rfl ⟨rfl, rfl⟩ (by decide +kernel) ⟨Nat.le_of_ble_eq_true rfl, Nat.le_of_ble_eq_true rfl⟩ (by decide) shM_0 rfl rfl hl.1 rfl (Nat.le_of_ble_eq_true rfl) dX12_kindHere_28) I (fun H locs I => ?_)
    refine lv_if_eq (tgt := 36) hx hb dX12_kindHere_31 (by decide) (fun c_8 => ?_) (fun c_8 => ?_)
    · have h := if_t h c_8
      refine lv_aload_n hx hb dX12_kindHere_36 rfl (lv_at hl 0 rfl) ?_
      refine lv_bipush (v := 6) hx hb dX12_kindHere_37 (by decide) ?_
      refine lv_bipush (v := 117) hx hb dX12_kindHere_39 (by decide) ?_
      refine lv_bipush (v := 114) hx hb dX12_kindHere_41 (by decide) ?_
      refine lv_bipush (v := 99) hx hb dX12_kindHere_43 (by decide) ?_
      refine lv_bipush (v := 110) hx hb dX12_kindHere_45 (by decide) ?_
      obtain ⟨r_11, σ_10, hc_9, h⟩ := bi_of h
      refine cg_ (rV_ (nn := 5) (As := [.int (6 : Int32), .int (117 : Int32), .int (114 : Int32), .int (99 : Int32), .int (110 : Int32)]) (rest := []) X xkM I (c_M_isName hc_9 H.size) gX12_kindHere_X12_isName rfl ⟨rfl, rfl⟩ (by decide +kernel) ⟨Nat.le_of_ble_eq_true rfl, Nat.le_of_ble_eq_true rfl⟩ (by decide) shM_0 rfl rfl hl.1 rfl (Nat.le_of_ble_eq_true rfl) dX12_kindHere_47) I (fun H locs I => ?_)
      refine lv_if_eq (tgt := 69) hx hb dX12_kindHere_50 (by decide) (fun c_12 => ?_) (fun c_12 => ?_)
      · have h := if_t h c_12
        exact kM_kindHere_69 X  σ_10 H locs ls h I (lv_sub hl [0] rfl)
      · have h := if_f h c_12
        refine lv_aload_n hx hb dX12_kindHere_53 rfl (lv_at hl 0 rfl) ?_
        refine lv_iconst (v := 2) hx hb dX12_kindHere_54 (by decide) ?_
        refine lv_bipush (v := 99) hx hb dX12_kindHere_55 (by decide) ?_
        refine lv_bipush (v := 104) hx hb dX12_kindHere_57 (by decide) ?_
        refine lv_bipush (v := 105) hx hb dX12_kindHere_59 (by decide) ?_
        obtain ⟨r_15, σ_14, hc_13, h⟩ := bi_of h
        refine cg_ (rV_ (nn := 4) (As := [.int (2 : Int32), .int (99 : Int32), .int (104 : Int32), .int (105 : Int32)]) (rest := []) X xkM I (c_M_isSame hc_13 H.size) gX12_kindHere_X12_isSame rfl ⟨rfl, rfl⟩ (by decide +kernel) ⟨Nat.le_of_ble_eq_true rfl, Nat.le_of_ble_eq_true rfl⟩ (by decide) shM_0 rfl rfl hl.1 rfl (Nat.le_of_ble_eq_true rfl) dX12_kindHere_61) I (fun H locs I => ?_)
        refine lv_if_eq (tgt := 69) hx hb dX12_kindHere_64 (by decide) (fun c_16 => ?_) (fun c_16 => ?_)
        · have h := if_t h c_16
          exact kM_kindHere_69 X  σ_14 H locs ls h I (lv_sub hl [0] rfl)
        · have h := if_f h c_16
          refine lv_iconst (v := 2) hx hb dX12_kindHere_67 (by decide) ?_
          obtain ⟨rfl, rfl⟩ := re_s h
          exact rti_ X I dX12_kindHere_68
    · have h := if_f h c_8
      refine lv_iconst (v := 1) hx hb dX12_kindHere_34 (by decide) ?_
      obtain ⟨rfl, rfl⟩ := re_s h
      exact rti_ X I dX12_kindHere_35
  · have h := if_f h c_4
    refine lv_iconst (v := 0) hx hb dX12_kindHere_17 (by decide) ?_
    obtain ⟨rfl, rfl⟩ := re_s h
    exact rti_ X I dX12_kindHere_18
theorem c_M_kindHere {l : Launch} {D : va_G} {cy : Nat → ClassId} {a : Nat → Nat} {σ : Sg}  {r0 : Int32} {σ' : Sg} (h : M_kindHere_0 σ  = some (r0, σ')) (sz : Nat) : Met l yX12_kindHere wsX12_kindHere ({ frames := 3, cells := 0, slots := 0, locals := 71 }) (va_Pc [.ref (a 0)] (pr_ 16 a D cy (shM cy a σ) xfM sz)) (qg_ 16 a D (shM cy a σ') (some (.int r0)) sz) 0 0 (fr_ 16 a sz) := by
  refine ent_ (by decide) rfl (Nat.le_of_ble_eq_true rfl) ?_
  intro p e s m below meth c ls hsz X I hl
  subst hsz
  exact kM_kindHere_0 X σ  s.heap [] ls h I hl

def M_lawHere_0  (σ : Sg)  : Option (Int32 × Sg) :=
  bi_ (M_isFive_0 σ (112 : Int32) (105 : Int32) (101 : Int32) (116 : Int32) (121 : Int32)) fun r_3 σ_2 =>
  if r_3 = 0 then (bi_ (M_isFour_0 σ_2 (115 : Int32) (108 : Int32) (117 : Int32) (109 : Int32)) fun r_7 σ_6 =>
  if r_7 = 0 then (bi_ (M_isFour_0 σ_6 (114 : Int32) (111 : Int32) (111 : Int32) (109 : Int32)) fun r_11 σ_10 =>
  if r_11 = 0 then (bi_ (M_isFour_0 σ_10 (115 : Int32) (108 : Int32) (105 : Int32) (112 : Int32)) fun r_15 σ_14 =>
  if r_15 = 0 then (some ((-1 : Int32), σ_14))
  else (some ((6 : Int32), σ_14)))
  else (some ((5 : Int32), σ_10)))
  else (some ((4 : Int32), σ_6)))
  else (some ((3 : Int32), σ_2))
set_option maxRecDepth 100000 in
theorem kM_lawHere_0 {p : Program} {l : Launch} {e : Env} {s : State} {m : MethodId} {args : Array Value} {below : List Frame} {meth : Method} {c : Code} {D : va_G} {cy : Nat → ClassId} {a : Nat → Nat} (X : cx_ cX12_lawHere RX12 wsX12_lawHere 1 (some .int) 16 a D cy xfM p s m args meth c)  {r0 : Int32} {σ' : Sg}  : ∀ (σ : Sg)  (H : Heap) (locs : List Loc) (ls : Array Slot), M_lawHere_0 σ = some (r0, σ') → iv_ 16 a D (shM cy a σ) s H locs → lv_has ls 1 [(0, .ref (a 0))] → W p l e ({ frames := 3, cells := 0, slots := 0, locals := 71 }) s m args below meth c H locs 0 0 (MQ below (qg_ 16 a D (shM cy a σ') (some (.int r0)) s.heap.size) args s 0 0 (fr_ 16 a s.heap.size)) (F0 m 0 ls []) := by
  obtain ⟨hx, hb, hr, hml, hown, hts, hlk, hK, hA, hXf⟩ := id X
  intro σ  H locs ls h I hl
  unfold M_lawHere_0 at h
  refine lv_aload_n hx hb dX12_lawHere_0 rfl (lv_at hl 0 rfl) ?_
  refine lv_bipush (v := 112) hx hb dX12_lawHere_1 (by decide) ?_
  refine lv_bipush (v := 105) hx hb dX12_lawHere_3 (by decide) ?_
  refine lv_bipush (v := 101) hx hb dX12_lawHere_5 (by decide) ?_
  refine lv_bipush (v := 116) hx hb dX12_lawHere_7 (by decide) ?_
  refine lv_bipush (v := 121) hx hb dX12_lawHere_9 (by decide) ?_
  obtain ⟨r_3, σ_2, hc_1, h⟩ := bi_of h
  refine cg_ (rV_ (nn := 5) (As := [.int (112 : Int32), .int (105 : Int32), .int (101 : Int32), .int (116 : Int32), .int (121 : Int32)]) (rest := []) X xkM I (c_M_isFive hc_1 H.size) gX12_lawHere_X12_isFive rfl ⟨rfl, rfl⟩ (by decide +kernel) ⟨Nat.le_of_ble_eq_true rfl, Nat.le_of_ble_eq_true rfl⟩ (by decide) shM_0 rfl rfl hl.1 rfl (Nat.le_of_ble_eq_true rfl) dX12_lawHere_11) I (fun H locs I => ?_)
  refine lv_if_eq (tgt := 19) hx hb dX12_lawHere_14 (by decide) (fun c_4 => ?_) (fun c_4 => ?_)
  · have h := if_t h c_4
    refine lv_aload_n hx hb dX12_lawHere_19 rfl (lv_at hl 0 rfl) ?_
    refine lv_bipush (v := 115) hx hb dX12_lawHere_20 (by decide) ?_
    refine lv_bipush (v := 108) hx hb dX12_lawHere_22 (by decide) ?_
    refine lv_bipush (v := 117) hx hb dX12_lawHere_24 (by decide) ?_
    refine lv_bipush (v := 109) hx hb dX12_lawHere_26 (by decide) ?_
    obtain ⟨r_7, σ_6, hc_5, h⟩ := bi_of h
    refine cg_ (rV_ (nn := 4) (As := [.int (115 : Int32), .int (108 : Int32), .int (117 : Int32), .int (109 : Int32)]) (rest := []) X xkM I (c_M_isFour hc_5 H.size) gX12_lawHere_X12_isFour rfl ⟨rfl, rfl⟩ (by decide +kernel) ⟨Nat.le_of_ble_eq_true rfl, Nat.le_of_ble_eq_true rfl⟩ (by decide) shM_0 rfl rfl hl.1 rfl (Nat.le_of_ble_eq_true rfl) dX12_lawHere_28) I (fun H locs I => ?_)
    refine lv_if_eq (tgt := 36) hx hb dX12_lawHere_31 (by decide) (fun c_8 => ?_) (fun c_8 => ?_)
    · have h := if_t h c_8
      refine lv_aload_n hx hb dX12_lawHere_36 rfl (lv_at hl 0 rfl) ?_
      refine lv_bipush (v := 114) hx hb dX12_lawHere_37 (by decide) ?_
      refine lv_bipush (v := 111) hx hb dX12_lawHere_39 (by decide) ?_
      refine lv_bipush (v := 111) hx hb dX12_lawHere_41 (by decide) ?_
      refine lv_bipush (v := 109) hx hb dX12_lawHere_43 (by decide) ?_
      obtain ⟨r_11, σ_10, hc_9, h⟩ := bi_of h
      refine cg_ (rV_ (nn := 4) (As := [.int (114 : Int32), .int (111 : Int32), .int (111 : Int32), .int (109 : Int32)]) (rest := []) X xkM I (c_M_isFour hc_9 H.size) gX12_lawHere_X12_isFour rfl ⟨rfl, rfl⟩ (by decide +kernel) ⟨Nat.le_of_ble_eq_true rfl, Nat.le_of_ble_eq_true rfl⟩ (by decide) shM_0 rfl rfl hl.1 rfl (Nat.le_of_ble_eq_true rfl) dX12_lawHere_45) I (fun H locs I => ?_)
      refine lv_if_eq (tgt := 53) hx hb dX12_lawHere_48 (by decide) (fun c_12 => ?_) (fun c_12 => ?_)
      · have h := if_t h c_12
        refine lv_aload_n hx hb dX12_lawHere_53 rfl (lv_at hl 0 rfl) ?_
        refine lv_bipush (v := 115) hx hb dX12_lawHere_54 (by decide) ?_
        refine lv_bipush (v := 108) hx hb dX12_lawHere_56 (by decide) ?_
        refine lv_bipush (v := 105) hx hb dX12_lawHere_58 (by decide) ?_
        refine lv_bipush (v := 112) hx hb dX12_lawHere_60 (by decide) ?_
        obtain ⟨r_15, σ_14, hc_13, h⟩ := bi_of h
        refine cg_ (rV_ (nn := 4) (As := [.int (115 : Int32), .int (108 : Int32), .int (105 : Int32), .int (112 : Int32)]) (rest := []) X xkM I (c_M_isFour hc_13 H.size) gX12_lawHere_X12_isFour rfl ⟨rfl, rfl⟩ (by decide +kernel) ⟨Nat.le_of_ble_eq_true rfl, Nat.le_of_ble_eq_true rfl⟩ (by decide) shM_0 rfl rfl hl.1 rfl (Nat.le_of_ble_eq_true rfl) dX12_lawHere_62) I (fun H locs I => ?_)
        refine lv_if_eq (tgt := 73) hx hb dX12_lawHere_65 (by decide) (fun c_16 => ?_) (fun c_16 => ?_)
        · have h := if_t h c_16
          refine lv_iconst (v := (-1)) hx hb dX12_lawHere_73 (by decide) ?_
          obtain ⟨rfl, rfl⟩ := re_s h
          exact rti_ X I dX12_lawHere_74
        · have h := if_f h c_16
          refine lv_bipush (v := 6) hx hb dX12_lawHere_68 (by decide) ?_
          refine lv_goto (tgt := 74) hx hb dX12_lawHere_70 (by decide) ?_
          obtain ⟨rfl, rfl⟩ := re_s h
          exact rti_ X I dX12_lawHere_74
      · have h := if_f h c_12
        refine lv_iconst (v := 5) hx hb dX12_lawHere_51 (by decide) ?_
        obtain ⟨rfl, rfl⟩ := re_s h
        exact rti_ X I dX12_lawHere_52
    · have h := if_f h c_8
      refine lv_iconst (v := 4) hx hb dX12_lawHere_34 (by decide) ?_
      obtain ⟨rfl, rfl⟩ := re_s h
      exact rti_ X I dX12_lawHere_35
  · have h := if_f h c_4
    refine lv_iconst (v := 3) hx hb dX12_lawHere_17 (by decide) ?_
    obtain ⟨rfl, rfl⟩ := re_s h
    exact rti_ X I dX12_lawHere_18
theorem c_M_lawHere {l : Launch} {D : va_G} {cy : Nat → ClassId} {a : Nat → Nat} {σ : Sg}  {r0 : Int32} {σ' : Sg} (h : M_lawHere_0 σ  = some (r0, σ')) (sz : Nat) : Met l yX12_lawHere wsX12_lawHere ({ frames := 3, cells := 0, slots := 0, locals := 71 }) (va_Pc [.ref (a 0)] (pr_ 16 a D cy (shM cy a σ) xfM sz)) (qg_ 16 a D (shM cy a σ') (some (.int r0)) sz) 0 0 (fr_ 16 a sz) := by
  refine ent_ (by decide) rfl (Nat.le_of_ble_eq_true rfl) ?_
  intro p e s m below meth c ls hsz X I hl
  subst hsz
  exact kM_lawHere_0 X σ  s.heap [] ls h I hl

def M_needs_17  (σ : Sg) (t1 : Int32) : Option (Unit × Sg) :=
  gd_ (bo_ t1) (
  lt_ (wr_ σ 0 11 t1) fun σ_2 =>
  if (rd_ σ_2 0 11) = 0 then (bi_ (M_nextToken_0 σ_2) fun _ σ_6 =>
  some ((), σ_6))
  else (some ((), σ_2)))
set_option maxRecDepth 100000 in
theorem kM_needs_17 {p : Program} {l : Launch} {e : Env} {s : State} {m : MethodId} {args : Array Value} {below : List Frame} {meth : Method} {c : Code} {D : va_G} {cy : Nat → ClassId} {a : Nat → Nat} (X : cx_ cX12_needs RX12 wsX12_needs 2 none 16 a D cy xfM p s m args meth c)   {σ' : Sg}  : ∀ (σ : Sg) (t1 : Int32) (H : Heap) (locs : List Loc) (ls : Array Slot), M_needs_17 σ t1 = some ((), σ') → iv_ 16 a D (shM cy a σ) s H locs → lv_has ls 2 [(0, .ref (a 0))] → W p l e ({ frames := 2, cells := 0, slots := 0, locals := 42 }) s m args below meth c H locs 0 0 (MQ below (qg_ 16 a D (shM cy a σ') none s.heap.size) args s 0 0 (fr_ 16 a s.heap.size)) (F0 m 17 ls [.int t1, .ref (a 0)]) := by
  obtain ⟨hx, hb, hr, hml, hown, hts, hlk, hK, hA, hXf⟩ := id X
  intro σ t1 H locs ls h I hl
  unfold M_needs_17 at h
  obtain ⟨g_1, h⟩ := gd_of h
  refine ip_ (index := 93) (ty := .boolean) X I (fun _ q => List.mem_cons_of_mem _ (List.mem_append_right _ q)) tyX12 tyX12_ok nmX12 0 (by decide) shM_0 rfl 11 (by decide) (by decide +kernel) rfl rfl (by decide +kernel) (bo_of g_1).1 (bo_of g_1).2 (Nat.le_of_ble_eq_true rfl) shM_pt_11 dX12_needs_17 (fun σ_2 H locs e_3 I => ?_)
  have h := lt_at h e_3
  refine lv_aload_n hx hb dX12_needs_20 rfl (lv_at hl 0 rfl) ?_
  refine ig_ (index := 93) X I (fun _ q => List.mem_cons_of_mem _ (List.mem_append_right _ q)) 0 (by decide) shM_0 rfl 11 (by decide) (by decide +kernel) rfl (v := .int (rd_ σ_2 0 11)) rfl dX12_needs_21 ?_
  refine lv_if_ne (tgt := 31) hx hb dX12_needs_24 (by decide) (fun c_4 => ?_) (fun c_4 => ?_)
  · have h := if_f h c_4
    obtain rfl := re_v h
    exact rtv_ X I dX12_needs_31
  · have h := if_t h c_4
    refine lv_aload_n hx hb dX12_needs_27 rfl (lv_at hl 0 rfl) ?_
    obtain ⟨_, σ_6, hc_5, h⟩ := bi_of h
    refine cv_ (rV_ (nn := 0) (As := []) (rest := []) X xkM I (c_M_nextToken hc_5 H.size) gX12_needs_X12_nextToken rfl ⟨rfl, rfl⟩ (by decide +kernel) ⟨Nat.le_of_ble_eq_true rfl, Nat.le_of_ble_eq_true rfl⟩ (by decide) shM_0 rfl rfl hl.1 rfl (Nat.le_of_ble_eq_true rfl) dX12_needs_28) I (fun H locs I => ?_)
    obtain rfl := re_v h
    exact rtv_ X I dX12_needs_31
def M_needs_12  (σ : Sg)  : Option (Unit × Sg) :=
  M_needs_17 σ (1 : Int32)
set_option maxRecDepth 100000 in
theorem kM_needs_12 {p : Program} {l : Launch} {e : Env} {s : State} {m : MethodId} {args : Array Value} {below : List Frame} {meth : Method} {c : Code} {D : va_G} {cy : Nat → ClassId} {a : Nat → Nat} (X : cx_ cX12_needs RX12 wsX12_needs 2 none 16 a D cy xfM p s m args meth c)   {σ' : Sg}  : ∀ (σ : Sg)  (H : Heap) (locs : List Loc) (ls : Array Slot), M_needs_12 σ = some ((), σ') → iv_ 16 a D (shM cy a σ) s H locs → lv_has ls 2 [(0, .ref (a 0))] → W p l e ({ frames := 2, cells := 0, slots := 0, locals := 42 }) s m args below meth c H locs 0 0 (MQ below (qg_ 16 a D (shM cy a σ') none s.heap.size) args s 0 0 (fr_ 16 a s.heap.size)) (F0 m 12 ls [.ref (a 0)]) := by
  obtain ⟨hx, hb, hr, hml, hown, hts, hlk, hK, hA, hXf⟩ := id X
  intro σ  H locs ls h I hl
  unfold M_needs_12 at h
  refine lv_iconst (v := 1) hx hb dX12_needs_12 (by decide) ?_
  refine lv_goto (tgt := 17) hx hb dX12_needs_13 (by decide) ?_
  exact kM_needs_17 X  σ (1 : Int32) H locs ls h I (lv_sub hl [0] rfl)
def M_needs_0  (σ : Sg) (x1 : Int32) : Option (Unit × Sg) :=
  if (rd_ σ 0 11) = 0 then (if x1 = 0 then (M_needs_12 σ)
  else (M_needs_17 σ (0 : Int32)))
  else (M_needs_12 σ)
set_option maxRecDepth 100000 in
theorem kM_needs_0 {p : Program} {l : Launch} {e : Env} {s : State} {m : MethodId} {args : Array Value} {below : List Frame} {meth : Method} {c : Code} {D : va_G} {cy : Nat → ClassId} {a : Nat → Nat} (X : cx_ cX12_needs RX12 wsX12_needs 2 none 16 a D cy xfM p s m args meth c)   {σ' : Sg}  : ∀ (σ : Sg) (x1 : Int32) (H : Heap) (locs : List Loc) (ls : Array Slot), M_needs_0 σ x1 = some ((), σ') → iv_ 16 a D (shM cy a σ) s H locs → lv_has ls 2 [(0, .ref (a 0)), (1, .int x1)] → W p l e ({ frames := 2, cells := 0, slots := 0, locals := 42 }) s m args below meth c H locs 0 0 (MQ below (qg_ 16 a D (shM cy a σ') none s.heap.size) args s 0 0 (fr_ 16 a s.heap.size)) (F0 m 0 ls []) := by
  obtain ⟨hx, hb, hr, hml, hown, hts, hlk, hK, hA, hXf⟩ := id X
  intro σ x1 H locs ls h I hl
  unfold M_needs_0 at h
  refine lv_aload_n hx hb dX12_needs_0 rfl (lv_at hl 0 rfl) ?_
  refine lv_aload_n hx hb dX12_needs_1 rfl (lv_at hl 0 rfl) ?_
  refine ig_ (index := 93) X I (fun _ q => List.mem_cons_of_mem _ (List.mem_append_right _ q)) 0 (by decide) shM_0 rfl 11 (by decide) (by decide +kernel) rfl (v := .int (rd_ σ 0 11)) rfl dX12_needs_2 ?_
  refine lv_if_ne (tgt := 12) hx hb dX12_needs_5 (by decide) (fun c_1 => ?_) (fun c_1 => ?_)
  · have h := if_f h c_1
    exact kM_needs_12 X  σ H locs ls h I (lv_sub hl [0] rfl)
  · have h := if_t h c_1
    refine lv_iload_n hx hb dX12_needs_8 rfl (lv_at hl 1 rfl) ?_
    refine lv_if_ne (tgt := 16) hx hb dX12_needs_9 (by decide) (fun c_2 => ?_) (fun c_2 => ?_)
    · have h := if_f h c_2
      refine lv_iconst (v := 0) hx hb dX12_needs_16 (by decide) ?_
      exact kM_needs_17 X  σ (0 : Int32) H locs ls h I (lv_sub hl [0] rfl)
    · have h := if_t h c_2
      exact kM_needs_12 X  σ H locs ls h I (lv_sub hl [0] rfl)
theorem c_M_needs {l : Launch} {D : va_G} {cy : Nat → ClassId} {a : Nat → Nat} {σ : Sg} {x1 : Int32}  {σ' : Sg} (h : M_needs_0 σ x1 = some ((), σ')) (sz : Nat) : Met l yX12_needs wsX12_needs ({ frames := 2, cells := 0, slots := 0, locals := 42 }) (va_Pc [.ref (a 0), .int x1] (pr_ 16 a D cy (shM cy a σ) xfM sz)) (qg_ 16 a D (shM cy a σ') none sz) 0 0 (fr_ 16 a sz) := by
  refine ent_ (by decide) rfl (Nat.le_of_ble_eq_true rfl) ?_
  intro p e s m below meth c ls hsz X I hl
  subst hsz
  exact kM_needs_0 X σ x1 s.heap [] ls h I hl

def M_easyHere_70  (σ : Sg) (t3 : Int32) (t2 : Int32) (t1 : Int32) : Option (Unit × Sg) :=
  gd_ (in_ t1 64) (
  lt_ (wr_ σ 1 t1.toNatClampNeg (t2 ||| t3)) fun σ_2 =>
  some ((), σ_2))
set_option maxRecDepth 100000 in
theorem kM_easyHere_70 {p : Program} {l : Launch} {e : Env} {s : State} {m : MethodId} {args : Array Value} {below : List Frame} {meth : Method} {c : Code} {D : va_G} {cy : Nat → ClassId} {a : Nat → Nat} (X : cx_ cX12_easyHere RX12 wsX12_easyHere 2 none 16 a D cy xfM p s m args meth c)   {σ' : Sg}  : ∀ (σ : Sg) (t3 : Int32) (t2 : Int32) (t1 : Int32) (H : Heap) (locs : List Loc) (ls : Array Slot), M_easyHere_70 σ t3 t2 t1 = some ((), σ') → iv_ 16 a D (shM cy a σ) s H locs → lv_has ls 2 [] → W p l e ({ frames := 3, cells := 0, slots := 0, locals := 63 }) s m args below meth c H locs 0 0 (MQ below (qg_ 16 a D (shM cy a σ') none s.heap.size) args s 0 0 (fr_ 16 a s.heap.size)) (F0 m 70 ls [.int t3, .int t2, .int t1, .ref (a 1)]) := by
  obtain ⟨hx, hb, hr, hml, hown, hts, hlk, hK, hA, hXf⟩ := id X
  intro σ t3 t2 t1 H locs ls h I hl
  unfold M_easyHere_70 at h
  refine lv_ior hx hb dX12_easyHere_70 ?_
  obtain ⟨g_1, h⟩ := gd_of h
  refine is_ (σ2 := wr_ σ 1 t1.toNatClampNeg (t2 ||| t3)) X I 1 (by decide) shM_1 (in_of g_1) shM_st_1 dX12_easyHere_71 (fun σ_2 H locs e_3 I => ?_)
  have h := lt_at h e_3
  obtain rfl := re_v h
  exact rtv_ X I dX12_easyHere_72
def M_easyHere_45  (σ : Sg) (x1 : Int32) (t1 : Int32) : Option (Unit × Sg) :=
  bi_ (M_needs_0 σ t1) fun _ σ_2 =>
  if (rd_ σ_2 0 11) = 0 then (M_easyHere_70 σ_2 ((1 : Int32) <<< (x1 &&& 31)) (rd_ σ_2 1 7) (7 : Int32))
  else (M_easyHere_70 σ_2 (0 : Int32) (rd_ σ_2 1 7) (7 : Int32))
set_option maxRecDepth 100000 in
theorem kM_easyHere_45 {p : Program} {l : Launch} {e : Env} {s : State} {m : MethodId} {args : Array Value} {below : List Frame} {meth : Method} {c : Code} {D : va_G} {cy : Nat → ClassId} {a : Nat → Nat} (X : cx_ cX12_easyHere RX12 wsX12_easyHere 2 none 16 a D cy xfM p s m args meth c)   {σ' : Sg}  : ∀ (σ : Sg) (x1 : Int32) (t1 : Int32) (H : Heap) (locs : List Loc) (ls : Array Slot), M_easyHere_45 σ x1 t1 = some ((), σ') → iv_ 16 a D (shM cy a σ) s H locs → lv_has ls 2 [(0, .ref (a 0)), (1, .int x1)] → W p l e ({ frames := 3, cells := 0, slots := 0, locals := 63 }) s m args below meth c H locs 0 0 (MQ below (qg_ 16 a D (shM cy a σ') none s.heap.size) args s 0 0 (fr_ 16 a s.heap.size)) (F0 m 45 ls [.int t1, .ref (a 0)]) := by
  obtain ⟨hx, hb, hr, hml, hown, hts, hlk, hK, hA, hXf⟩ := id X
  intro σ x1 t1 H locs ls h I hl
  unfold M_easyHere_45 at h
  obtain ⟨_, σ_2, hc_1, h⟩ := bi_of h
  refine cv_ (rV_ (nn := 1) (As := [.int t1]) (rest := []) X xkM I (c_M_needs hc_1 H.size) gX12_easyHere_X12_needs rfl ⟨rfl, rfl⟩ (by decide +kernel) ⟨Nat.le_of_ble_eq_true rfl, Nat.le_of_ble_eq_true rfl⟩ (by decide) shM_0 rfl rfl hl.1 rfl (Nat.le_of_ble_eq_true rfl) dX12_easyHere_45) I (fun H locs I => ?_)
  refine lv_aload_n hx hb dX12_easyHere_48 rfl (lv_at hl 0 rfl) ?_
  refine ig_ (index := 7) X I (fun _ q => List.mem_cons_of_mem _ (List.mem_append_right _ q)) 0 (by decide) shM_0 rfl 0 (by decide) (by decide +kernel) rfl (v := .ref (a 1)) rfl dX12_easyHere_49 ?_
  refine lv_bipush (v := 7) hx hb dX12_easyHere_52 (by decide) ?_
  refine lv_dup2_11 hx hb dX12_easyHere_54 rfl rfl ?_
  refine ia_ X I 1 (by decide) shM_1 (in_of (by decide)) (v0 := rd_ σ_2 1 7) rfl dX12_easyHere_55 ?_
  refine lv_aload_n hx hb dX12_easyHere_56 rfl (lv_at hl 0 rfl) ?_
  refine ig_ (index := 93) X I (fun _ q => List.mem_cons_of_mem _ (List.mem_append_right _ q)) 0 (by decide) shM_0 rfl 11 (by decide) (by decide +kernel) rfl (v := .int (rd_ σ_2 0 11)) rfl dX12_easyHere_57 ?_
  refine lv_if_eq (tgt := 67) hx hb dX12_easyHere_60 (by decide) (fun c_3 => ?_) (fun c_3 => ?_)
  · have h := if_t h c_3
    refine lv_iconst (v := 1) hx hb dX12_easyHere_67 (by decide) ?_
    refine lv_iload_n hx hb dX12_easyHere_68 rfl (lv_at hl 1 rfl) ?_
    refine lv_ishl hx hb dX12_easyHere_69 ?_
    exact kM_easyHere_70 X  σ_2 ((1 : Int32) <<< (x1 &&& 31)) (rd_ σ_2 1 7) (7 : Int32) H locs ls h I (lv_sub hl [] rfl)
  · have h := if_f h c_3
    refine lv_iconst (v := 0) hx hb dX12_easyHere_63 (by decide) ?_
    refine lv_goto (tgt := 70) hx hb dX12_easyHere_64 (by decide) ?_
    exact kM_easyHere_70 X  σ_2 (0 : Int32) (rd_ σ_2 1 7) (7 : Int32) H locs ls h I (lv_sub hl [] rfl)
def M_easyHere_44  (σ : Sg) (x1 : Int32) : Option (Unit × Sg) :=
  M_easyHere_45 σ x1 (0 : Int32)
set_option maxRecDepth 100000 in
theorem kM_easyHere_44 {p : Program} {l : Launch} {e : Env} {s : State} {m : MethodId} {args : Array Value} {below : List Frame} {meth : Method} {c : Code} {D : va_G} {cy : Nat → ClassId} {a : Nat → Nat} (X : cx_ cX12_easyHere RX12 wsX12_easyHere 2 none 16 a D cy xfM p s m args meth c)   {σ' : Sg}  : ∀ (σ : Sg) (x1 : Int32) (H : Heap) (locs : List Loc) (ls : Array Slot), M_easyHere_44 σ x1 = some ((), σ') → iv_ 16 a D (shM cy a σ) s H locs → lv_has ls 2 [(0, .ref (a 0)), (1, .int x1)] → W p l e ({ frames := 3, cells := 0, slots := 0, locals := 63 }) s m args below meth c H locs 0 0 (MQ below (qg_ 16 a D (shM cy a σ') none s.heap.size) args s 0 0 (fr_ 16 a s.heap.size)) (F0 m 44 ls [.ref (a 0)]) := by
  obtain ⟨hx, hb, hr, hml, hown, hts, hlk, hK, hA, hXf⟩ := id X
  intro σ x1 H locs ls h I hl
  unfold M_easyHere_44 at h
  refine lv_iconst (v := 0) hx hb dX12_easyHere_44 (by decide) ?_
  exact kM_easyHere_45 X  σ x1 (0 : Int32) H locs ls h I (lv_sub hl [0, 1] rfl)
def M_easyHere_0  (σ : Sg)  : Option (Unit × Sg) :=
  bi_ (M_nextToken_0 σ) fun _ σ_2 =>
  lt_ ((rd_ σ_2 0 10)) fun y_3 =>
  if (rd_ σ_2 0 7) = (2 : Int32) then (if (3 : Int32) < ((rd_ σ_2 0 9) - (rd_ σ_2 0 8)) then (M_easyHere_44 σ_2 y_3)
  else (if (8 : Int32) ≤ (rd_ σ_2 0 10) then (M_easyHere_44 σ_2 y_3)
  else (M_easyHere_45 σ_2 y_3 (1 : Int32))))
  else (M_easyHere_44 σ_2 y_3)
set_option maxRecDepth 100000 in
theorem kM_easyHere_0 {p : Program} {l : Launch} {e : Env} {s : State} {m : MethodId} {args : Array Value} {below : List Frame} {meth : Method} {c : Code} {D : va_G} {cy : Nat → ClassId} {a : Nat → Nat} (X : cx_ cX12_easyHere RX12 wsX12_easyHere 2 none 16 a D cy xfM p s m args meth c)   {σ' : Sg}  : ∀ (σ : Sg)  (H : Heap) (locs : List Loc) (ls : Array Slot), M_easyHere_0 σ = some ((), σ') → iv_ 16 a D (shM cy a σ) s H locs → lv_has ls 2 [(0, .ref (a 0))] → W p l e ({ frames := 3, cells := 0, slots := 0, locals := 63 }) s m args below meth c H locs 0 0 (MQ below (qg_ 16 a D (shM cy a σ') none s.heap.size) args s 0 0 (fr_ 16 a s.heap.size)) (F0 m 0 ls []) := by
  obtain ⟨hx, hb, hr, hml, hown, hts, hlk, hK, hA, hXf⟩ := id X
  intro σ  H locs ls h I hl
  unfold M_easyHere_0 at h
  refine lv_aload_n hx hb dX12_easyHere_0 rfl (lv_at hl 0 rfl) ?_
  obtain ⟨_, σ_2, hc_1, h⟩ := bi_of h
  refine cv_ (rV_ (nn := 0) (As := []) (rest := []) X xkM I (c_M_nextToken hc_1 H.size) gX12_easyHere_X12_nextToken rfl ⟨rfl, rfl⟩ (by decide +kernel) ⟨Nat.le_of_ble_eq_true rfl, Nat.le_of_ble_eq_true rfl⟩ (by decide) shM_0 rfl rfl hl.1 rfl (Nat.le_of_ble_eq_true rfl) dX12_easyHere_1) I (fun H locs I => ?_)
  refine lv_aload_n hx hb dX12_easyHere_4 rfl (lv_at hl 0 rfl) ?_
  refine ig_ (index := 90) X I (fun _ q => List.mem_cons_of_mem _ (List.mem_append_right _ q)) 0 (by decide) shM_0 rfl 10 (by decide) (by decide +kernel) rfl (v := .int (rd_ σ_2 0 10)) rfl dX12_easyHere_5 ?_
  refine lv_topi (fun y_3 e_4 => ?_)
  have h := lt_at h e_4
  refine lv_istore_n (lv' := [(1, .int y_3), (0, .ref (a 0))]) hx hb dX12_easyHere_8 rfl hl (by decide) rfl (fun ls hl => ?_)
  refine lv_aload_n hx hb dX12_easyHere_9 rfl (lv_at hl 1 rfl) ?_
  refine lv_aload_n hx hb dX12_easyHere_10 rfl (lv_at hl 1 rfl) ?_
  refine ig_ (index := 87) X I (fun _ q => List.mem_cons_of_mem _ (List.mem_append_right _ q)) 0 (by decide) shM_0 rfl 7 (by decide) (by decide +kernel) rfl (v := .int (rd_ σ_2 0 7)) rfl dX12_easyHere_11 ?_
  refine lv_iconst (v := 2) hx hb dX12_easyHere_14 (by decide) ?_
  refine lv_icmp_ne (tgt := 44) hx hb dX12_easyHere_15 (by decide) (fun c_5 => ?_) (fun c_5 => ?_)
  · have h := if_f h c_5
    exact kM_easyHere_44 X  σ_2 y_3 H locs ls h I (lv_sub hl [1, 0] rfl)
  · have h := if_t h c_5
    refine lv_aload_n hx hb dX12_easyHere_18 rfl (lv_at hl 1 rfl) ?_
    refine ig_ (index := 70) X I (fun _ q => List.mem_cons_of_mem _ (List.mem_append_right _ q)) 0 (by decide) shM_0 rfl 9 (by decide) (by decide +kernel) rfl (v := .int (rd_ σ_2 0 9)) rfl dX12_easyHere_19 ?_
    refine lv_aload_n hx hb dX12_easyHere_22 rfl (lv_at hl 1 rfl) ?_
    refine ig_ (index := 73) X I (fun _ q => List.mem_cons_of_mem _ (List.mem_append_right _ q)) 0 (by decide) shM_0 rfl 8 (by decide) (by decide +kernel) rfl (v := .int (rd_ σ_2 0 8)) rfl dX12_easyHere_23 ?_
    refine lv_isub hx hb dX12_easyHere_26 ?_
    refine lv_iconst (v := 3) hx hb dX12_easyHere_27 (by decide) ?_
    refine lv_icmp_gt (tgt := 44) hx hb dX12_easyHere_28 (by decide) (fun c_6 => ?_) (fun c_6 => ?_)
    · have h := if_t h c_6
      exact kM_easyHere_44 X  σ_2 y_3 H locs ls h I (lv_sub hl [1, 0] rfl)
    · have h := if_f h c_6
      refine lv_aload_n hx hb dX12_easyHere_31 rfl (lv_at hl 1 rfl) ?_
      refine ig_ (index := 90) X I (fun _ q => List.mem_cons_of_mem _ (List.mem_append_right _ q)) 0 (by decide) shM_0 rfl 10 (by decide) (by decide +kernel) rfl (v := .int (rd_ σ_2 0 10)) rfl dX12_easyHere_32 ?_
      refine lv_bipush (v := 8) hx hb dX12_easyHere_35 (by decide) ?_
      refine lv_icmp_ge (tgt := 44) hx hb dX12_easyHere_37 (by decide) (fun c_7 => ?_) (fun c_7 => ?_)
      · have h := if_t h c_7
        exact kM_easyHere_44 X  σ_2 y_3 H locs ls h I (lv_sub hl [1, 0] rfl)
      · have h := if_f h c_7
        refine lv_iconst (v := 1) hx hb dX12_easyHere_40 (by decide) ?_
        refine lv_goto (tgt := 45) hx hb dX12_easyHere_41 (by decide) ?_
        exact kM_easyHere_45 X  σ_2 y_3 (1 : Int32) H locs ls h I (lv_sub hl [1, 0] rfl)
theorem c_M_easyHere {l : Launch} {D : va_G} {cy : Nat → ClassId} {a : Nat → Nat} {σ : Sg}   {σ' : Sg} (h : M_easyHere_0 σ  = some ((), σ')) (sz : Nat) : Met l yX12_easyHere wsX12_easyHere ({ frames := 3, cells := 0, slots := 0, locals := 63 }) (va_Pc [.ref (a 0)] (pr_ 16 a D cy (shM cy a σ) xfM sz)) (qg_ 16 a D (shM cy a σ') none sz) 0 0 (fr_ 16 a sz) := by
  refine ent_ (by decide) rfl (Nat.le_of_ble_eq_true rfl) ?_
  intro p e s m below meth c ls hsz X I hl
  subst hsz
  exact kM_easyHere_0 X σ  s.heap [] ls h I hl

def M_isTwo_0  (σ : Sg) (x1 : Int32) (x2 : Int32) : Option (Int32 × Sg) :=
  if (rd_ σ 0 7) = (1 : Int32) then (if ((rd_ σ 0 9) - (rd_ σ 0 8)) = (2 : Int32) then (bi_ (M_byteAt_0 σ (rd_ σ 0 8)) fun r_5 σ_4 =>
  if r_5 = x1 then (bi_ (M_byteAt_0 σ_4 ((rd_ σ_4 0 8) + (1 : Int32))) fun r_9 σ_8 =>
  if r_9 = x2 then (some ((1 : Int32), σ_8))
  else (some ((0 : Int32), σ_8)))
  else (some ((0 : Int32), σ_4)))
  else (some ((0 : Int32), σ)))
  else (some ((0 : Int32), σ))
set_option maxRecDepth 100000 in
theorem kM_isTwo_0 {p : Program} {l : Launch} {e : Env} {s : State} {m : MethodId} {args : Array Value} {below : List Frame} {meth : Method} {c : Code} {D : va_G} {cy : Nat → ClassId} {a : Nat → Nat} (X : cx_ cX12_isTwo RX12 wsX12_isTwo 3 (some .boolean) 16 a D cy xfM p s m args meth c)  {r0 : Int32} {σ' : Sg}  : ∀ (σ : Sg) (x1 : Int32) (x2 : Int32) (H : Heap) (locs : List Loc) (ls : Array Slot), M_isTwo_0 σ x1 x2 = some (r0, σ') → iv_ 16 a D (shM cy a σ) s H locs → lv_has ls 3 [(0, .ref (a 0)), (1, .int x1), (2, .int x2)] → W p l e ({ frames := 1, cells := 0, slots := 0, locals := 21 }) s m args below meth c H locs 0 0 (MQ below (qg_ 16 a D (shM cy a σ') (some (.int r0)) s.heap.size) args s 0 0 (fr_ 16 a s.heap.size)) (F0 m 0 ls []) := by
  obtain ⟨hx, hb, hr, hml, hown, hts, hlk, hK, hA, hXf⟩ := id X
  intro σ x1 x2 H locs ls h I hl
  unfold M_isTwo_0 at h
  refine lv_aload_n hx hb dX12_isTwo_0 rfl (lv_at hl 0 rfl) ?_
  refine ig_ (index := 87) X I (fun _ q => List.mem_cons_of_mem _ (List.mem_append_right _ q)) 0 (by decide) shM_0 rfl 7 (by decide) (by decide +kernel) rfl (v := .int (rd_ σ 0 7)) rfl dX12_isTwo_1 ?_
  refine lv_iconst (v := 1) hx hb dX12_isTwo_4 (by decide) ?_
  refine lv_icmp_ne (tgt := 51) hx hb dX12_isTwo_5 (by decide) (fun c_1 => ?_) (fun c_1 => ?_)
  · have h := if_f h c_1
    refine lv_iconst (v := 0) hx hb dX12_isTwo_51 (by decide) ?_
    obtain ⟨rfl, rfl⟩ := re_s h
    exact rtz_ X I (by decide) dX12_isTwo_52
  · have h := if_t h c_1
    refine lv_aload_n hx hb dX12_isTwo_8 rfl (lv_at hl 0 rfl) ?_
    refine ig_ (index := 70) X I (fun _ q => List.mem_cons_of_mem _ (List.mem_append_right _ q)) 0 (by decide) shM_0 rfl 9 (by decide) (by decide +kernel) rfl (v := .int (rd_ σ 0 9)) rfl dX12_isTwo_9 ?_
    refine lv_aload_n hx hb dX12_isTwo_12 rfl (lv_at hl 0 rfl) ?_
    refine ig_ (index := 73) X I (fun _ q => List.mem_cons_of_mem _ (List.mem_append_right _ q)) 0 (by decide) shM_0 rfl 8 (by decide) (by decide +kernel) rfl (v := .int (rd_ σ 0 8)) rfl dX12_isTwo_13 ?_
    refine lv_isub hx hb dX12_isTwo_16 ?_
    refine lv_iconst (v := 2) hx hb dX12_isTwo_17 (by decide) ?_
    refine lv_icmp_ne (tgt := 51) hx hb dX12_isTwo_18 (by decide) (fun c_2 => ?_) (fun c_2 => ?_)
    · have h := if_f h c_2
      refine lv_iconst (v := 0) hx hb dX12_isTwo_51 (by decide) ?_
      obtain ⟨rfl, rfl⟩ := re_s h
      exact rtz_ X I (by decide) dX12_isTwo_52
    · have h := if_t h c_2
      refine lv_aload_n hx hb dX12_isTwo_21 rfl (lv_at hl 0 rfl) ?_
      refine lv_aload_n hx hb dX12_isTwo_22 rfl (lv_at hl 0 rfl) ?_
      refine ig_ (index := 73) X I (fun _ q => List.mem_cons_of_mem _ (List.mem_append_right _ q)) 0 (by decide) shM_0 rfl 8 (by decide) (by decide +kernel) rfl (v := .int (rd_ σ 0 8)) rfl dX12_isTwo_23 ?_
      obtain ⟨r_5, σ_4, hc_3, h⟩ := bi_of h
      refine cg_ (rV_ (nn := 1) (As := [.int (rd_ σ 0 8)]) (rest := []) X xkM I (c_M_byteAt hc_3 H.size) gX12_isTwo_X12_byteAt rfl ⟨rfl, rfl⟩ (by decide +kernel) ⟨Nat.le_of_ble_eq_true rfl, Nat.le_of_ble_eq_true rfl⟩ (by decide) shM_0 rfl rfl hl.1 rfl (Nat.le_of_ble_eq_true rfl) dX12_isTwo_26) I (fun H locs I => ?_)
      refine lv_iload_n hx hb dX12_isTwo_29 rfl (lv_at hl 1 rfl) ?_
      refine lv_icmp_ne (tgt := 51) hx hb dX12_isTwo_30 (by decide) (fun c_6 => ?_) (fun c_6 => ?_)
      · have h := if_f h c_6
        refine lv_iconst (v := 0) hx hb dX12_isTwo_51 (by decide) ?_
        obtain ⟨rfl, rfl⟩ := re_s h
        exact rtz_ X I (by decide) dX12_isTwo_52
      · have h := if_t h c_6
        refine lv_aload_n hx hb dX12_isTwo_33 rfl (lv_at hl 0 rfl) ?_
        refine lv_aload_n hx hb dX12_isTwo_34 rfl (lv_at hl 0 rfl) ?_
        refine ig_ (index := 73) X I (fun _ q => List.mem_cons_of_mem _ (List.mem_append_right _ q)) 0 (by decide) shM_0 rfl 8 (by decide) (by decide +kernel) rfl (v := .int (rd_ σ_4 0 8)) rfl dX12_isTwo_35 ?_
        refine lv_iconst (v := 1) hx hb dX12_isTwo_38 (by decide) ?_
        refine lv_iadd hx hb dX12_isTwo_39 ?_
        obtain ⟨r_9, σ_8, hc_7, h⟩ := bi_of h
        refine cg_ (rV_ (nn := 1) (As := [.int ((rd_ σ_4 0 8) + (1 : Int32))]) (rest := []) X xkM I (c_M_byteAt hc_7 H.size) gX12_isTwo_X12_byteAt rfl ⟨rfl, rfl⟩ (by decide +kernel) ⟨Nat.le_of_ble_eq_true rfl, Nat.le_of_ble_eq_true rfl⟩ (by decide) shM_0 rfl rfl hl.1 rfl (Nat.le_of_ble_eq_true rfl) dX12_isTwo_40) I (fun H locs I => ?_)
        refine lv_iload_n hx hb dX12_isTwo_43 rfl (lv_at hl 2 rfl) ?_
        refine lv_icmp_ne (tgt := 51) hx hb dX12_isTwo_44 (by decide) (fun c_10 => ?_) (fun c_10 => ?_)
        · have h := if_f h c_10
          refine lv_iconst (v := 0) hx hb dX12_isTwo_51 (by decide) ?_
          obtain ⟨rfl, rfl⟩ := re_s h
          exact rtz_ X I (by decide) dX12_isTwo_52
        · have h := if_t h c_10
          refine lv_iconst (v := 1) hx hb dX12_isTwo_47 (by decide) ?_
          refine lv_goto (tgt := 52) hx hb dX12_isTwo_48 (by decide) ?_
          obtain ⟨rfl, rfl⟩ := re_s h
          exact rtz_ X I (by decide) dX12_isTwo_52
theorem c_M_isTwo {l : Launch} {D : va_G} {cy : Nat → ClassId} {a : Nat → Nat} {σ : Sg} {x1 : Int32} {x2 : Int32} {r0 : Int32} {σ' : Sg} (h : M_isTwo_0 σ x1 x2 = some (r0, σ')) (sz : Nat) : Met l yX12_isTwo wsX12_isTwo ({ frames := 1, cells := 0, slots := 0, locals := 21 }) (va_Pc [.ref (a 0), .int x1, .int x2] (pr_ 16 a D cy (shM cy a σ) xfM sz)) (qg_ 16 a D (shM cy a σ') (some (.int r0)) sz) 0 0 (fr_ 16 a sz) := by
  refine ent_ (by decide) rfl (Nat.le_of_ble_eq_true rfl) ?_
  intro p e s m below meth c ls hsz X I hl
  subst hsz
  exact kM_isTwo_0 X σ x1 x2 s.heap [] ls h I hl

def M_numberTo_56  (σ : Sg) (x3 : Int32) : Option (Unit × Sg) :=
  bi_ (M_needs_0 σ x3) fun _ σ_2 =>
  some ((), σ_2)
set_option maxRecDepth 100000 in
theorem kM_numberTo_56 {p : Program} {l : Launch} {e : Env} {s : State} {m : MethodId} {args : Array Value} {below : List Frame} {meth : Method} {c : Code} {D : va_G} {cy : Nat → ClassId} {a : Nat → Nat} (X : cx_ cX12_numberTo RX12 wsX12_numberTo 4 none 16 a D cy xfM p s m args meth c)   {σ' : Sg}  : ∀ (σ : Sg) (x3 : Int32) (H : Heap) (locs : List Loc) (ls : Array Slot), M_numberTo_56 σ x3 = some ((), σ') → iv_ 16 a D (shM cy a σ) s H locs → lv_has ls 4 [(0, .ref (a 0)), (3, .int x3)] → W p l e ({ frames := 3, cells := 0, slots := 0, locals := 63 }) s m args below meth c H locs 0 0 (MQ below (qg_ 16 a D (shM cy a σ') none s.heap.size) args s 0 0 (fr_ 16 a s.heap.size)) (F0 m 56 ls []) := by
  obtain ⟨hx, hb, hr, hml, hown, hts, hlk, hK, hA, hXf⟩ := id X
  intro σ x3 H locs ls h I hl
  unfold M_numberTo_56 at h
  refine lv_aload_n hx hb dX12_numberTo_56 rfl (lv_at hl 0 rfl) ?_
  refine lv_iload_n hx hb dX12_numberTo_57 rfl (lv_at hl 1 rfl) ?_
  obtain ⟨_, σ_2, hc_1, h⟩ := bi_of h
  refine cv_ (rV_ (nn := 1) (As := [.int x3]) (rest := []) X xkM I (c_M_needs hc_1 H.size) gX12_numberTo_X12_needs rfl ⟨rfl, rfl⟩ (by decide +kernel) ⟨Nat.le_of_ble_eq_true rfl, Nat.le_of_ble_eq_true rfl⟩ (by decide) shM_0 rfl rfl hl.1 rfl (Nat.le_of_ble_eq_true rfl) dX12_numberTo_58) I (fun H locs I => ?_)
  obtain rfl := re_v h
  exact rtv_ X I dX12_numberTo_61
def M_numberTo_34  (σ : Sg) (x1 : Int32) (t0 : Int32) : Option (Unit × Sg) :=
  if t0 = 0 then (M_numberTo_56 σ t0)
  else (if (rd_ σ 0 11) = 0 then (gd_ (in_ x1 64) (
  lt_ (wr_ σ 1 x1.toNatClampNeg (rd_ σ 0 10)) fun σ_4 =>
  M_numberTo_56 σ_4 t0))
  else (M_numberTo_56 σ t0))
set_option maxRecDepth 100000 in
theorem kM_numberTo_34 {p : Program} {l : Launch} {e : Env} {s : State} {m : MethodId} {args : Array Value} {below : List Frame} {meth : Method} {c : Code} {D : va_G} {cy : Nat → ClassId} {a : Nat → Nat} (X : cx_ cX12_numberTo RX12 wsX12_numberTo 4 none 16 a D cy xfM p s m args meth c)   {σ' : Sg}  : ∀ (σ : Sg) (x1 : Int32) (t0 : Int32) (H : Heap) (locs : List Loc) (ls : Array Slot), M_numberTo_34 σ x1 t0 = some ((), σ') → iv_ 16 a D (shM cy a σ) s H locs → lv_has ls 4 [(0, .ref (a 0)), (1, .int x1)] → W p l e ({ frames := 3, cells := 0, slots := 0, locals := 63 }) s m args below meth c H locs 0 0 (MQ below (qg_ 16 a D (shM cy a σ') none s.heap.size) args s 0 0 (fr_ 16 a s.heap.size)) (F0 m 34 ls [.int t0]) := by
  obtain ⟨hx, hb, hr, hml, hown, hts, hlk, hK, hA, hXf⟩ := id X
  intro σ x1 t0 H locs ls h I hl
  unfold M_numberTo_34 at h
  refine lv_istore_n (lv' := [(3, .int t0), (0, .ref (a 0)), (1, .int x1)]) hx hb dX12_numberTo_34 rfl hl (by decide) rfl (fun ls hl => ?_)
  refine lv_iload_n hx hb dX12_numberTo_35 rfl (lv_at hl 0 rfl) ?_
  refine lv_if_eq (tgt := 56) hx hb dX12_numberTo_36 (by decide) (fun c_1 => ?_) (fun c_1 => ?_)
  · have h := if_t h c_1
    exact kM_numberTo_56 X  σ t0 H locs ls h I (lv_sub hl [1, 0] rfl)
  · have h := if_f h c_1
    refine lv_aload_n hx hb dX12_numberTo_39 rfl (lv_at hl 1 rfl) ?_
    refine ig_ (index := 93) X I (fun _ q => List.mem_cons_of_mem _ (List.mem_append_right _ q)) 0 (by decide) shM_0 rfl 11 (by decide) (by decide +kernel) rfl (v := .int (rd_ σ 0 11)) rfl dX12_numberTo_40 ?_
    refine lv_if_ne (tgt := 56) hx hb dX12_numberTo_43 (by decide) (fun c_2 => ?_) (fun c_2 => ?_)
    · have h := if_f h c_2
      exact kM_numberTo_56 X  σ t0 H locs ls h I (lv_sub hl [1, 0] rfl)
    · have h := if_t h c_2
      refine lv_aload_n hx hb dX12_numberTo_46 rfl (lv_at hl 1 rfl) ?_
      refine ig_ (index := 7) X I (fun _ q => List.mem_cons_of_mem _ (List.mem_append_right _ q)) 0 (by decide) shM_0 rfl 0 (by decide) (by decide +kernel) rfl (v := .ref (a 1)) rfl dX12_numberTo_47 ?_
      refine lv_iload_n hx hb dX12_numberTo_50 rfl (lv_at hl 2 rfl) ?_
      refine lv_aload_n hx hb dX12_numberTo_51 rfl (lv_at hl 1 rfl) ?_
      refine ig_ (index := 90) X I (fun _ q => List.mem_cons_of_mem _ (List.mem_append_right _ q)) 0 (by decide) shM_0 rfl 10 (by decide) (by decide +kernel) rfl (v := .int (rd_ σ 0 10)) rfl dX12_numberTo_52 ?_
      obtain ⟨g_3, h⟩ := gd_of h
      refine is_ (σ2 := wr_ σ 1 x1.toNatClampNeg (rd_ σ 0 10)) X I 1 (by decide) shM_1 (in_of g_3) shM_st_1 dX12_numberTo_55 (fun σ_4 H locs e_5 I => ?_)
      have h := lt_at h e_5
      exact kM_numberTo_56 X  σ_4 t0 H locs ls h I (lv_sub hl [1, 0] rfl)
def M_numberTo_33  (σ : Sg) (x1 : Int32) : Option (Unit × Sg) :=
  M_numberTo_34 σ x1 (0 : Int32)
set_option maxRecDepth 100000 in
theorem kM_numberTo_33 {p : Program} {l : Launch} {e : Env} {s : State} {m : MethodId} {args : Array Value} {below : List Frame} {meth : Method} {c : Code} {D : va_G} {cy : Nat → ClassId} {a : Nat → Nat} (X : cx_ cX12_numberTo RX12 wsX12_numberTo 4 none 16 a D cy xfM p s m args meth c)   {σ' : Sg}  : ∀ (σ : Sg) (x1 : Int32) (H : Heap) (locs : List Loc) (ls : Array Slot), M_numberTo_33 σ x1 = some ((), σ') → iv_ 16 a D (shM cy a σ) s H locs → lv_has ls 4 [(0, .ref (a 0)), (1, .int x1)] → W p l e ({ frames := 3, cells := 0, slots := 0, locals := 63 }) s m args below meth c H locs 0 0 (MQ below (qg_ 16 a D (shM cy a σ') none s.heap.size) args s 0 0 (fr_ 16 a s.heap.size)) (F0 m 33 ls []) := by
  obtain ⟨hx, hb, hr, hml, hown, hts, hlk, hK, hA, hXf⟩ := id X
  intro σ x1 H locs ls h I hl
  unfold M_numberTo_33 at h
  refine lv_iconst (v := 0) hx hb dX12_numberTo_33 (by decide) ?_
  exact kM_numberTo_34 X  σ x1 (0 : Int32) H locs ls h I (lv_sub hl [0, 1] rfl)
def M_numberTo_0  (σ : Sg) (x1 : Int32) (x2 : Int32) : Option (Unit × Sg) :=
  if (rd_ σ 0 7) = (2 : Int32) then (if (3 : Int32) < ((rd_ σ 0 9) - (rd_ σ 0 8)) then (M_numberTo_33 σ x1)
  else (if x2 < (rd_ σ 0 10) then (M_numberTo_33 σ x1)
  else (M_numberTo_34 σ x1 (1 : Int32))))
  else (M_numberTo_33 σ x1)
set_option maxRecDepth 100000 in
theorem kM_numberTo_0 {p : Program} {l : Launch} {e : Env} {s : State} {m : MethodId} {args : Array Value} {below : List Frame} {meth : Method} {c : Code} {D : va_G} {cy : Nat → ClassId} {a : Nat → Nat} (X : cx_ cX12_numberTo RX12 wsX12_numberTo 4 none 16 a D cy xfM p s m args meth c)   {σ' : Sg}  : ∀ (σ : Sg) (x1 : Int32) (x2 : Int32) (H : Heap) (locs : List Loc) (ls : Array Slot), M_numberTo_0 σ x1 x2 = some ((), σ') → iv_ 16 a D (shM cy a σ) s H locs → lv_has ls 4 [(0, .ref (a 0)), (1, .int x1), (2, .int x2)] → W p l e ({ frames := 3, cells := 0, slots := 0, locals := 63 }) s m args below meth c H locs 0 0 (MQ below (qg_ 16 a D (shM cy a σ') none s.heap.size) args s 0 0 (fr_ 16 a s.heap.size)) (F0 m 0 ls []) := by
  obtain ⟨hx, hb, hr, hml, hown, hts, hlk, hK, hA, hXf⟩ := id X
  intro σ x1 x2 H locs ls h I hl
  unfold M_numberTo_0 at h
  refine lv_aload_n hx hb dX12_numberTo_0 rfl (lv_at hl 0 rfl) ?_
  refine ig_ (index := 87) X I (fun _ q => List.mem_cons_of_mem _ (List.mem_append_right _ q)) 0 (by decide) shM_0 rfl 7 (by decide) (by decide +kernel) rfl (v := .int (rd_ σ 0 7)) rfl dX12_numberTo_1 ?_
  refine lv_iconst (v := 2) hx hb dX12_numberTo_4 (by decide) ?_
  refine lv_icmp_ne (tgt := 33) hx hb dX12_numberTo_5 (by decide) (fun c_1 => ?_) (fun c_1 => ?_)
  · have h := if_f h c_1
    exact kM_numberTo_33 X  σ x1 H locs ls h I (lv_sub hl [0, 1] rfl)
  · have h := if_t h c_1
    refine lv_aload_n hx hb dX12_numberTo_8 rfl (lv_at hl 0 rfl) ?_
    refine ig_ (index := 70) X I (fun _ q => List.mem_cons_of_mem _ (List.mem_append_right _ q)) 0 (by decide) shM_0 rfl 9 (by decide) (by decide +kernel) rfl (v := .int (rd_ σ 0 9)) rfl dX12_numberTo_9 ?_
    refine lv_aload_n hx hb dX12_numberTo_12 rfl (lv_at hl 0 rfl) ?_
    refine ig_ (index := 73) X I (fun _ q => List.mem_cons_of_mem _ (List.mem_append_right _ q)) 0 (by decide) shM_0 rfl 8 (by decide) (by decide +kernel) rfl (v := .int (rd_ σ 0 8)) rfl dX12_numberTo_13 ?_
    refine lv_isub hx hb dX12_numberTo_16 ?_
    refine lv_iconst (v := 3) hx hb dX12_numberTo_17 (by decide) ?_
    refine lv_icmp_gt (tgt := 33) hx hb dX12_numberTo_18 (by decide) (fun c_2 => ?_) (fun c_2 => ?_)
    · have h := if_t h c_2
      exact kM_numberTo_33 X  σ x1 H locs ls h I (lv_sub hl [0, 1] rfl)
    · have h := if_f h c_2
      refine lv_aload_n hx hb dX12_numberTo_21 rfl (lv_at hl 0 rfl) ?_
      refine ig_ (index := 90) X I (fun _ q => List.mem_cons_of_mem _ (List.mem_append_right _ q)) 0 (by decide) shM_0 rfl 10 (by decide) (by decide +kernel) rfl (v := .int (rd_ σ 0 10)) rfl dX12_numberTo_22 ?_
      refine lv_iload_n hx hb dX12_numberTo_25 rfl (lv_at hl 2 rfl) ?_
      refine lv_icmp_gt (tgt := 33) hx hb dX12_numberTo_26 (by decide) (fun c_3 => ?_) (fun c_3 => ?_)
      · have h := if_t h c_3
        exact kM_numberTo_33 X  σ x1 H locs ls h I (lv_sub hl [0, 1] rfl)
      · have h := if_f h c_3
        refine lv_iconst (v := 1) hx hb dX12_numberTo_29 (by decide) ?_
        refine lv_goto (tgt := 34) hx hb dX12_numberTo_30 (by decide) ?_
        exact kM_numberTo_34 X  σ x1 (1 : Int32) H locs ls h I (lv_sub hl [0, 1] rfl)
theorem c_M_numberTo {l : Launch} {D : va_G} {cy : Nat → ClassId} {a : Nat → Nat} {σ : Sg} {x1 : Int32} {x2 : Int32}  {σ' : Sg} (h : M_numberTo_0 σ x1 x2 = some ((), σ')) (sz : Nat) : Met l yX12_numberTo wsX12_numberTo ({ frames := 3, cells := 0, slots := 0, locals := 63 }) (va_Pc [.ref (a 0), .int x1, .int x2] (pr_ 16 a D cy (shM cy a σ) xfM sz)) (qg_ 16 a D (shM cy a σ') none sz) 0 0 (fr_ 16 a sz) := by
  refine ent_ (by decide) rfl (Nat.le_of_ble_eq_true rfl) ?_
  intro p e s m below meth c ls hsz X I hl
  subst hsz
  exact kM_numberTo_0 X σ x1 x2 s.heap [] ls h I hl

def M_viceHere_76  (σ : Sg) (t1 : Int32) : Option (Unit × Sg) :=
  bi_ (M_numberTo_0 σ t1 (99 : Int32)) fun _ σ_2 =>
  some ((), σ_2)
set_option maxRecDepth 100000 in
theorem kM_viceHere_76 {p : Program} {l : Launch} {e : Env} {s : State} {m : MethodId} {args : Array Value} {below : List Frame} {meth : Method} {c : Code} {D : va_G} {cy : Nat → ClassId} {a : Nat → Nat} (X : cx_ cX12_viceHere RX12 wsX12_viceHere 2 none 16 a D cy xfM p s m args meth c)   {σ' : Sg}  : ∀ (σ : Sg) (t1 : Int32) (H : Heap) (locs : List Loc) (ls : Array Slot), M_viceHere_76 σ t1 = some ((), σ') → iv_ 16 a D (shM cy a σ) s H locs → lv_has ls 2 [] → W p l e ({ frames := 4, cells := 0, slots := 0, locals := 86 }) s m args below meth c H locs 0 0 (MQ below (qg_ 16 a D (shM cy a σ') none s.heap.size) args s 0 0 (fr_ 16 a s.heap.size)) (F0 m 76 ls [.int t1, .ref (a 0)]) := by
  obtain ⟨hx, hb, hr, hml, hown, hts, hlk, hK, hA, hXf⟩ := id X
  intro σ t1 H locs ls h I hl
  unfold M_viceHere_76 at h
  refine lv_bipush (v := 99) hx hb dX12_viceHere_76 (by decide) ?_
  obtain ⟨_, σ_2, hc_1, h⟩ := bi_of h
  refine cv_ (rV_ (nn := 2) (As := [.int t1, .int (99 : Int32)]) (rest := []) X xkM I (c_M_numberTo hc_1 H.size) gX12_viceHere_X12_numberTo rfl ⟨rfl, rfl⟩ (by decide +kernel) ⟨Nat.le_of_ble_eq_true rfl, Nat.le_of_ble_eq_true rfl⟩ (by decide) shM_0 rfl rfl hl.1 rfl (Nat.le_of_ble_eq_true rfl) dX12_viceHere_78) I (fun H locs I => ?_)
  obtain rfl := re_v h
  exact rtv_ X I dX12_viceHere_81
def M_viceHere_45  (σ : Sg) (x1 : Int32) (t1 : Int32) : Option (Unit × Sg) :=
  bi_ (M_needs_0 σ t1) fun _ σ_2 =>
  bi_ (M_isTwo_0 σ_2 (105 : Int32) (115 : Int32)) fun r_5 σ_4 =>
  bi_ (M_needs_0 σ_4 r_5) fun _ σ_7 =>
  if (rd_ σ_7 0 11) = 0 then (M_viceHere_76 σ_7 ((8 : Int32) + x1))
  else (M_viceHere_76 σ_7 (0 : Int32))
set_option maxRecDepth 100000 in
theorem kM_viceHere_45 {p : Program} {l : Launch} {e : Env} {s : State} {m : MethodId} {args : Array Value} {below : List Frame} {meth : Method} {c : Code} {D : va_G} {cy : Nat → ClassId} {a : Nat → Nat} (X : cx_ cX12_viceHere RX12 wsX12_viceHere 2 none 16 a D cy xfM p s m args meth c)   {σ' : Sg}  : ∀ (σ : Sg) (x1 : Int32) (t1 : Int32) (H : Heap) (locs : List Loc) (ls : Array Slot), M_viceHere_45 σ x1 t1 = some ((), σ') → iv_ 16 a D (shM cy a σ) s H locs → lv_has ls 2 [(0, .ref (a 0)), (1, .int x1)] → W p l e ({ frames := 4, cells := 0, slots := 0, locals := 86 }) s m args below meth c H locs 0 0 (MQ below (qg_ 16 a D (shM cy a σ') none s.heap.size) args s 0 0 (fr_ 16 a s.heap.size)) (F0 m 45 ls [.int t1, .ref (a 0)]) := by
  obtain ⟨hx, hb, hr, hml, hown, hts, hlk, hK, hA, hXf⟩ := id X
  intro σ x1 t1 H locs ls h I hl
  unfold M_viceHere_45 at h
  obtain ⟨_, σ_2, hc_1, h⟩ := bi_of h
  refine cv_ (rV_ (nn := 1) (As := [.int t1]) (rest := []) X xkM I (c_M_needs hc_1 H.size) gX12_viceHere_X12_needs rfl ⟨rfl, rfl⟩ (by decide +kernel) ⟨Nat.le_of_ble_eq_true rfl, Nat.le_of_ble_eq_true rfl⟩ (by decide) shM_0 rfl rfl hl.1 rfl (Nat.le_of_ble_eq_true rfl) dX12_viceHere_45) I (fun H locs I => ?_)
  refine lv_aload_n hx hb dX12_viceHere_48 rfl (lv_at hl 0 rfl) ?_
  refine lv_aload_n hx hb dX12_viceHere_49 rfl (lv_at hl 0 rfl) ?_
  refine lv_bipush (v := 105) hx hb dX12_viceHere_50 (by decide) ?_
  refine lv_bipush (v := 115) hx hb dX12_viceHere_52 (by decide) ?_
  obtain ⟨r_5, σ_4, hc_3, h⟩ := bi_of h
  refine cg_ (rV_ (nn := 2) (As := [.int (105 : Int32), .int (115 : Int32)]) (rest := [.ref (a 0)]) X xkM I (c_M_isTwo hc_3 H.size) gX12_viceHere_X12_isTwo rfl ⟨rfl, rfl⟩ (by decide +kernel) ⟨Nat.le_of_ble_eq_true rfl, Nat.le_of_ble_eq_true rfl⟩ (by decide) shM_0 rfl rfl hl.1 rfl (Nat.le_of_ble_eq_true rfl) dX12_viceHere_54) I (fun H locs I => ?_)
  obtain ⟨_, σ_7, hc_6, h⟩ := bi_of h
  refine cv_ (rV_ (nn := 1) (As := [.int r_5]) (rest := []) X xkM I (c_M_needs hc_6 H.size) gX12_viceHere_X12_needs rfl ⟨rfl, rfl⟩ (by decide +kernel) ⟨Nat.le_of_ble_eq_true rfl, Nat.le_of_ble_eq_true rfl⟩ (by decide) shM_0 rfl rfl hl.1 rfl (Nat.le_of_ble_eq_true rfl) dX12_viceHere_57) I (fun H locs I => ?_)
  refine lv_aload_n hx hb dX12_viceHere_60 rfl (lv_at hl 0 rfl) ?_
  refine lv_aload_n hx hb dX12_viceHere_61 rfl (lv_at hl 0 rfl) ?_
  refine ig_ (index := 93) X I (fun _ q => List.mem_cons_of_mem _ (List.mem_append_right _ q)) 0 (by decide) shM_0 rfl 11 (by decide) (by decide +kernel) rfl (v := .int (rd_ σ_7 0 11)) rfl dX12_viceHere_62 ?_
  refine lv_if_eq (tgt := 72) hx hb dX12_viceHere_65 (by decide) (fun c_8 => ?_) (fun c_8 => ?_)
  · have h := if_t h c_8
    refine lv_bipush (v := 8) hx hb dX12_viceHere_72 (by decide) ?_
    refine lv_iload_n hx hb dX12_viceHere_74 rfl (lv_at hl 1 rfl) ?_
    refine lv_iadd hx hb dX12_viceHere_75 ?_
    exact kM_viceHere_76 X  σ_7 ((8 : Int32) + x1) H locs ls h I (lv_sub hl [] rfl)
  · have h := if_f h c_8
    refine lv_iconst (v := 0) hx hb dX12_viceHere_68 (by decide) ?_
    refine lv_goto (tgt := 76) hx hb dX12_viceHere_69 (by decide) ?_
    exact kM_viceHere_76 X  σ_7 (0 : Int32) H locs ls h I (lv_sub hl [] rfl)
def M_viceHere_44  (σ : Sg) (x1 : Int32) : Option (Unit × Sg) :=
  M_viceHere_45 σ x1 (0 : Int32)
set_option maxRecDepth 100000 in
theorem kM_viceHere_44 {p : Program} {l : Launch} {e : Env} {s : State} {m : MethodId} {args : Array Value} {below : List Frame} {meth : Method} {c : Code} {D : va_G} {cy : Nat → ClassId} {a : Nat → Nat} (X : cx_ cX12_viceHere RX12 wsX12_viceHere 2 none 16 a D cy xfM p s m args meth c)   {σ' : Sg}  : ∀ (σ : Sg) (x1 : Int32) (H : Heap) (locs : List Loc) (ls : Array Slot), M_viceHere_44 σ x1 = some ((), σ') → iv_ 16 a D (shM cy a σ) s H locs → lv_has ls 2 [(0, .ref (a 0)), (1, .int x1)] → W p l e ({ frames := 4, cells := 0, slots := 0, locals := 86 }) s m args below meth c H locs 0 0 (MQ below (qg_ 16 a D (shM cy a σ') none s.heap.size) args s 0 0 (fr_ 16 a s.heap.size)) (F0 m 44 ls [.ref (a 0)]) := by
  obtain ⟨hx, hb, hr, hml, hown, hts, hlk, hK, hA, hXf⟩ := id X
  intro σ x1 H locs ls h I hl
  unfold M_viceHere_44 at h
  refine lv_iconst (v := 0) hx hb dX12_viceHere_44 (by decide) ?_
  exact kM_viceHere_45 X  σ x1 (0 : Int32) H locs ls h I (lv_sub hl [0, 1] rfl)
def M_viceHere_0  (σ : Sg)  : Option (Unit × Sg) :=
  bi_ (M_nextToken_0 σ) fun _ σ_2 =>
  lt_ ((rd_ σ_2 0 10)) fun y_3 =>
  if (rd_ σ_2 0 7) = (2 : Int32) then (if (3 : Int32) < ((rd_ σ_2 0 9) - (rd_ σ_2 0 8)) then (M_viceHere_44 σ_2 y_3)
  else (if (8 : Int32) ≤ (rd_ σ_2 0 10) then (M_viceHere_44 σ_2 y_3)
  else (M_viceHere_45 σ_2 y_3 (1 : Int32))))
  else (M_viceHere_44 σ_2 y_3)
set_option maxRecDepth 100000 in
theorem kM_viceHere_0 {p : Program} {l : Launch} {e : Env} {s : State} {m : MethodId} {args : Array Value} {below : List Frame} {meth : Method} {c : Code} {D : va_G} {cy : Nat → ClassId} {a : Nat → Nat} (X : cx_ cX12_viceHere RX12 wsX12_viceHere 2 none 16 a D cy xfM p s m args meth c)   {σ' : Sg}  : ∀ (σ : Sg)  (H : Heap) (locs : List Loc) (ls : Array Slot), M_viceHere_0 σ = some ((), σ') → iv_ 16 a D (shM cy a σ) s H locs → lv_has ls 2 [(0, .ref (a 0))] → W p l e ({ frames := 4, cells := 0, slots := 0, locals := 86 }) s m args below meth c H locs 0 0 (MQ below (qg_ 16 a D (shM cy a σ') none s.heap.size) args s 0 0 (fr_ 16 a s.heap.size)) (F0 m 0 ls []) := by
  obtain ⟨hx, hb, hr, hml, hown, hts, hlk, hK, hA, hXf⟩ := id X
  intro σ  H locs ls h I hl
  unfold M_viceHere_0 at h
  refine lv_aload_n hx hb dX12_viceHere_0 rfl (lv_at hl 0 rfl) ?_
  obtain ⟨_, σ_2, hc_1, h⟩ := bi_of h
  refine cv_ (rV_ (nn := 0) (As := []) (rest := []) X xkM I (c_M_nextToken hc_1 H.size) gX12_viceHere_X12_nextToken rfl ⟨rfl, rfl⟩ (by decide +kernel) ⟨Nat.le_of_ble_eq_true rfl, Nat.le_of_ble_eq_true rfl⟩ (by decide) shM_0 rfl rfl hl.1 rfl (Nat.le_of_ble_eq_true rfl) dX12_viceHere_1) I (fun H locs I => ?_)
  refine lv_aload_n hx hb dX12_viceHere_4 rfl (lv_at hl 0 rfl) ?_
  refine ig_ (index := 90) X I (fun _ q => List.mem_cons_of_mem _ (List.mem_append_right _ q)) 0 (by decide) shM_0 rfl 10 (by decide) (by decide +kernel) rfl (v := .int (rd_ σ_2 0 10)) rfl dX12_viceHere_5 ?_
  refine lv_topi (fun y_3 e_4 => ?_)
  have h := lt_at h e_4
  refine lv_istore_n (lv' := [(1, .int y_3), (0, .ref (a 0))]) hx hb dX12_viceHere_8 rfl hl (by decide) rfl (fun ls hl => ?_)
  refine lv_aload_n hx hb dX12_viceHere_9 rfl (lv_at hl 1 rfl) ?_
  refine lv_aload_n hx hb dX12_viceHere_10 rfl (lv_at hl 1 rfl) ?_
  refine ig_ (index := 87) X I (fun _ q => List.mem_cons_of_mem _ (List.mem_append_right _ q)) 0 (by decide) shM_0 rfl 7 (by decide) (by decide +kernel) rfl (v := .int (rd_ σ_2 0 7)) rfl dX12_viceHere_11 ?_
  refine lv_iconst (v := 2) hx hb dX12_viceHere_14 (by decide) ?_
  refine lv_icmp_ne (tgt := 44) hx hb dX12_viceHere_15 (by decide) (fun c_5 => ?_) (fun c_5 => ?_)
  · have h := if_f h c_5
    exact kM_viceHere_44 X  σ_2 y_3 H locs ls h I (lv_sub hl [1, 0] rfl)
  · have h := if_t h c_5
    refine lv_aload_n hx hb dX12_viceHere_18 rfl (lv_at hl 1 rfl) ?_
    refine ig_ (index := 70) X I (fun _ q => List.mem_cons_of_mem _ (List.mem_append_right _ q)) 0 (by decide) shM_0 rfl 9 (by decide) (by decide +kernel) rfl (v := .int (rd_ σ_2 0 9)) rfl dX12_viceHere_19 ?_
    refine lv_aload_n hx hb dX12_viceHere_22 rfl (lv_at hl 1 rfl) ?_
    refine ig_ (index := 73) X I (fun _ q => List.mem_cons_of_mem _ (List.mem_append_right _ q)) 0 (by decide) shM_0 rfl 8 (by decide) (by decide +kernel) rfl (v := .int (rd_ σ_2 0 8)) rfl dX12_viceHere_23 ?_
    refine lv_isub hx hb dX12_viceHere_26 ?_
    refine lv_iconst (v := 3) hx hb dX12_viceHere_27 (by decide) ?_
    refine lv_icmp_gt (tgt := 44) hx hb dX12_viceHere_28 (by decide) (fun c_6 => ?_) (fun c_6 => ?_)
    · have h := if_t h c_6
      exact kM_viceHere_44 X  σ_2 y_3 H locs ls h I (lv_sub hl [1, 0] rfl)
    · have h := if_f h c_6
      refine lv_aload_n hx hb dX12_viceHere_31 rfl (lv_at hl 1 rfl) ?_
      refine ig_ (index := 90) X I (fun _ q => List.mem_cons_of_mem _ (List.mem_append_right _ q)) 0 (by decide) shM_0 rfl 10 (by decide) (by decide +kernel) rfl (v := .int (rd_ σ_2 0 10)) rfl dX12_viceHere_32 ?_
      refine lv_bipush (v := 8) hx hb dX12_viceHere_35 (by decide) ?_
      refine lv_icmp_ge (tgt := 44) hx hb dX12_viceHere_37 (by decide) (fun c_7 => ?_) (fun c_7 => ?_)
      · have h := if_t h c_7
        exact kM_viceHere_44 X  σ_2 y_3 H locs ls h I (lv_sub hl [1, 0] rfl)
      · have h := if_f h c_7
        refine lv_iconst (v := 1) hx hb dX12_viceHere_40 (by decide) ?_
        refine lv_goto (tgt := 45) hx hb dX12_viceHere_41 (by decide) ?_
        exact kM_viceHere_45 X  σ_2 y_3 (1 : Int32) H locs ls h I (lv_sub hl [1, 0] rfl)
theorem c_M_viceHere {l : Launch} {D : va_G} {cy : Nat → ClassId} {a : Nat → Nat} {σ : Sg}   {σ' : Sg} (h : M_viceHere_0 σ  = some ((), σ')) (sz : Nat) : Met l yX12_viceHere wsX12_viceHere ({ frames := 4, cells := 0, slots := 0, locals := 86 }) (va_Pc [.ref (a 0)] (pr_ 16 a D cy (shM cy a σ) xfM sz)) (qg_ 16 a D (shM cy a σ') none sz) 0 0 (fr_ 16 a sz) := by
  refine ent_ (by decide) rfl (Nat.le_of_ble_eq_true rfl) ?_
  intro p e s m below meth c ls hsz X I hl
  subst hsz
  exact kM_viceHere_0 X σ  s.heap [] ls h I hl

def M_comes_0  (σ : Sg) (x1 : Int32) (x2 : Int32) (x3 : Int32) (x4 : Int32) : Option (Unit × Sg) :=
  lt_ (((16 : Int32) + ((6 : Int32) * (rd_ σ 1 0)))) fun y_1 =>
  gd_ (in_ y_1 64) (
  lt_ (wr_ σ 1 y_1.toNatClampNeg x1) fun σ_4 =>
  gd_ (in_ (y_1 + (1 : Int32)) 64) (
  lt_ (wr_ σ_4 1 (y_1 + (1 : Int32)).toNatClampNeg x2) fun σ_7 =>
  gd_ (in_ (y_1 + (2 : Int32)) 64) (
  lt_ (wr_ σ_7 1 (y_1 + (2 : Int32)).toNatClampNeg x3) fun σ_10 =>
  gd_ (in_ (y_1 + (3 : Int32)) 64) (
  lt_ (wr_ σ_10 1 (y_1 + (3 : Int32)).toNatClampNeg (50 : Int32)) fun σ_13 =>
  gd_ (in_ (y_1 + (4 : Int32)) 64) (
  lt_ (wr_ σ_13 1 (y_1 + (4 : Int32)).toNatClampNeg (0 : Int32)) fun σ_16 =>
  gd_ (in_ (y_1 + (5 : Int32)) 64) (
  lt_ (wr_ σ_16 1 (y_1 + (5 : Int32)).toNatClampNeg x4) fun σ_19 =>
  lt_ (wr_ σ_19 1 0 ((rd_ σ_19 1 0) + (1 : Int32))) fun σ_21 =>
  some ((), σ_21)))))))
set_option maxRecDepth 100000 in
theorem kM_comes_0 {p : Program} {l : Launch} {e : Env} {s : State} {m : MethodId} {args : Array Value} {below : List Frame} {meth : Method} {c : Code} {D : va_G} {cy : Nat → ClassId} {a : Nat → Nat} (X : cx_ cX12_comes RX12 wsX12_comes 6 none 16 a D cy xfM p s m args meth c)   {σ' : Sg}  : ∀ (σ : Sg) (x1 : Int32) (x2 : Int32) (x3 : Int32) (x4 : Int32) (H : Heap) (locs : List Loc) (ls : Array Slot), M_comes_0 σ x1 x2 x3 x4 = some ((), σ') → iv_ 16 a D (shM cy a σ) s H locs → lv_has ls 6 [(0, .ref (a 0)), (1, .int x1), (2, .int x2), (3, .int x3), (4, .int x4)] → W p l e ({ frames := 0, cells := 0, slots := 0, locals := 0 }) s m args below meth c H locs 0 0 (MQ below (qg_ 16 a D (shM cy a σ') none s.heap.size) args s 0 0 (fr_ 16 a s.heap.size)) (F0 m 0 ls []) := by
  obtain ⟨hx, hb, hr, hml, hown, hts, hlk, hK, hA, hXf⟩ := id X
  intro σ x1 x2 x3 x4 H locs ls h I hl
  unfold M_comes_0 at h
  refine lv_bipush (v := 16) hx hb dX12_comes_0 (by decide) ?_
  refine lv_bipush (v := 6) hx hb dX12_comes_2 (by decide) ?_
  refine lv_aload_n hx hb dX12_comes_4 rfl (lv_at hl 0 rfl) ?_
  refine ig_ (index := 7) X I (fun _ q => List.mem_cons_of_mem _ (List.mem_append_right _ q)) 0 (by decide) shM_0 rfl 0 (by decide) (by decide +kernel) rfl (v := .ref (a 1)) rfl dX12_comes_5 ?_
  refine lv_iconst (v := 0) hx hb dX12_comes_8 (by decide) ?_
  refine ia_ X I 1 (by decide) shM_1 (in_of (by decide)) (v0 := rd_ σ 1 0) rfl dX12_comes_9 ?_
  refine lv_imul hx hb dX12_comes_10 ?_
  refine lv_iadd hx hb dX12_comes_11 ?_
  refine lv_topi (fun y_1 e_2 => ?_)
  have h := lt_at h e_2
  refine lv_istore (lv' := [(5, .int y_1), (0, .ref (a 0)), (1, .int x1), (2, .int x2), (3, .int x3), (4, .int x4)]) hx hb dX12_comes_12 hl (by decide) rfl (fun ls hl => ?_)
  refine lv_aload_n hx hb dX12_comes_14 rfl (lv_at hl 1 rfl) ?_
  refine ig_ (index := 7) X I (fun _ q => List.mem_cons_of_mem _ (List.mem_append_right _ q)) 0 (by decide) shM_0 rfl 0 (by decide) (by decide +kernel) rfl (v := .ref (a 1)) rfl dX12_comes_15 ?_
  refine lv_iload hx hb dX12_comes_18 (lv_at hl 0 rfl) ?_
  refine lv_iload_n hx hb dX12_comes_20 rfl (lv_at hl 2 rfl) ?_
  obtain ⟨g_3, h⟩ := gd_of h
  refine is_ (σ2 := wr_ σ 1 y_1.toNatClampNeg x1) X I 1 (by decide) shM_1 (in_of g_3) shM_st_1 dX12_comes_21 (fun σ_4 H locs e_5 I => ?_)
  have h := lt_at h e_5
  refine lv_aload_n hx hb dX12_comes_22 rfl (lv_at hl 1 rfl) ?_
  refine ig_ (index := 7) X I (fun _ q => List.mem_cons_of_mem _ (List.mem_append_right _ q)) 0 (by decide) shM_0 rfl 0 (by decide) (by decide +kernel) rfl (v := .ref (a 1)) rfl dX12_comes_23 ?_
  refine lv_iload hx hb dX12_comes_26 (lv_at hl 0 rfl) ?_
  refine lv_iconst (v := 1) hx hb dX12_comes_28 (by decide) ?_
  refine lv_iadd hx hb dX12_comes_29 ?_
  refine lv_iload_n hx hb dX12_comes_30 rfl (lv_at hl 3 rfl) ?_
  obtain ⟨g_6, h⟩ := gd_of h
  refine is_ (σ2 := wr_ σ_4 1 (y_1 + (1 : Int32)).toNatClampNeg x2) X I 1 (by decide) shM_1 (in_of g_6) shM_st_1 dX12_comes_31 (fun σ_7 H locs e_8 I => ?_)
  have h := lt_at h e_8
  refine lv_aload_n hx hb dX12_comes_32 rfl (lv_at hl 1 rfl) ?_
  refine ig_ (index := 7) X I (fun _ q => List.mem_cons_of_mem _ (List.mem_append_right _ q)) 0 (by decide) shM_0 rfl 0 (by decide) (by decide +kernel) rfl (v := .ref (a 1)) rfl dX12_comes_33 ?_
  refine lv_iload hx hb dX12_comes_36 (lv_at hl 0 rfl) ?_
  refine lv_iconst (v := 2) hx hb dX12_comes_38 (by decide) ?_
  refine lv_iadd hx hb dX12_comes_39 ?_
  refine lv_iload_n hx hb dX12_comes_40 rfl (lv_at hl 4 rfl) ?_
  obtain ⟨g_9, h⟩ := gd_of h
  refine is_ (σ2 := wr_ σ_7 1 (y_1 + (2 : Int32)).toNatClampNeg x3) X I 1 (by decide) shM_1 (in_of g_9) shM_st_1 dX12_comes_41 (fun σ_10 H locs e_11 I => ?_)
  have h := lt_at h e_11
  refine lv_aload_n hx hb dX12_comes_42 rfl (lv_at hl 1 rfl) ?_
  refine ig_ (index := 7) X I (fun _ q => List.mem_cons_of_mem _ (List.mem_append_right _ q)) 0 (by decide) shM_0 rfl 0 (by decide) (by decide +kernel) rfl (v := .ref (a 1)) rfl dX12_comes_43 ?_
  refine lv_iload hx hb dX12_comes_46 (lv_at hl 0 rfl) ?_
  refine lv_iconst (v := 3) hx hb dX12_comes_48 (by decide) ?_
  refine lv_iadd hx hb dX12_comes_49 ?_
  refine lv_bipush (v := 50) hx hb dX12_comes_50 (by decide) ?_
  obtain ⟨g_12, h⟩ := gd_of h
  refine is_ (σ2 := wr_ σ_10 1 (y_1 + (3 : Int32)).toNatClampNeg (50 : Int32)) X I 1 (by decide) shM_1 (in_of g_12) shM_st_1 dX12_comes_52 (fun σ_13 H locs e_14 I => ?_)
  have h := lt_at h e_14
  refine lv_aload_n hx hb dX12_comes_53 rfl (lv_at hl 1 rfl) ?_
  refine ig_ (index := 7) X I (fun _ q => List.mem_cons_of_mem _ (List.mem_append_right _ q)) 0 (by decide) shM_0 rfl 0 (by decide) (by decide +kernel) rfl (v := .ref (a 1)) rfl dX12_comes_54 ?_
  refine lv_iload hx hb dX12_comes_57 (lv_at hl 0 rfl) ?_
  refine lv_iconst (v := 4) hx hb dX12_comes_59 (by decide) ?_
  refine lv_iadd hx hb dX12_comes_60 ?_
  refine lv_iconst (v := 0) hx hb dX12_comes_61 (by decide) ?_
  obtain ⟨g_15, h⟩ := gd_of h
  refine is_ (σ2 := wr_ σ_13 1 (y_1 + (4 : Int32)).toNatClampNeg (0 : Int32)) X I 1 (by decide) shM_1 (in_of g_15) shM_st_1 dX12_comes_62 (fun σ_16 H locs e_17 I => ?_)
  have h := lt_at h e_17
  refine lv_aload_n hx hb dX12_comes_63 rfl (lv_at hl 1 rfl) ?_
  refine ig_ (index := 7) X I (fun _ q => List.mem_cons_of_mem _ (List.mem_append_right _ q)) 0 (by decide) shM_0 rfl 0 (by decide) (by decide +kernel) rfl (v := .ref (a 1)) rfl dX12_comes_64 ?_
  refine lv_iload hx hb dX12_comes_67 (lv_at hl 0 rfl) ?_
  refine lv_iconst (v := 5) hx hb dX12_comes_69 (by decide) ?_
  refine lv_iadd hx hb dX12_comes_70 ?_
  refine lv_iload hx hb dX12_comes_71 (lv_at hl 5 rfl) ?_
  obtain ⟨g_18, h⟩ := gd_of h
  refine is_ (σ2 := wr_ σ_16 1 (y_1 + (5 : Int32)).toNatClampNeg x4) X I 1 (by decide) shM_1 (in_of g_18) shM_st_1 dX12_comes_73 (fun σ_19 H locs e_20 I => ?_)
  have h := lt_at h e_20
  refine lv_aload_n hx hb dX12_comes_74 rfl (lv_at hl 1 rfl) ?_
  refine ig_ (index := 7) X I (fun _ q => List.mem_cons_of_mem _ (List.mem_append_right _ q)) 0 (by decide) shM_0 rfl 0 (by decide) (by decide +kernel) rfl (v := .ref (a 1)) rfl dX12_comes_75 ?_
  refine lv_iconst (v := 0) hx hb dX12_comes_78 (by decide) ?_
  refine lv_dup2_11 hx hb dX12_comes_79 rfl rfl ?_
  refine ia_ X I 1 (by decide) shM_1 (in_of (by decide)) (v0 := rd_ σ_19 1 0) rfl dX12_comes_80 ?_
  refine lv_iconst (v := 1) hx hb dX12_comes_81 (by decide) ?_
  refine lv_iadd hx hb dX12_comes_82 ?_
  refine is_ (σ2 := wr_ σ_19 1 0 ((rd_ σ_19 1 0) + (1 : Int32))) X I 1 (by decide) shM_1 (in_of (by decide)) shM_st_1 dX12_comes_83 (fun σ_21 H locs e_22 I => ?_)
  have h := lt_at h e_22
  obtain rfl := re_v h
  exact rtv_ X I dX12_comes_84
theorem c_M_comes {l : Launch} {D : va_G} {cy : Nat → ClassId} {a : Nat → Nat} {σ : Sg} {x1 : Int32} {x2 : Int32} {x3 : Int32} {x4 : Int32}  {σ' : Sg} (h : M_comes_0 σ x1 x2 x3 x4 = some ((), σ')) (sz : Nat) : Met l yX12_comes wsX12_comes ({ frames := 0, cells := 0, slots := 0, locals := 0 }) (va_Pc [.ref (a 0), .int x1, .int x2, .int x3, .int x4] (pr_ 16 a D cy (shM cy a σ) xfM sz)) (qg_ 16 a D (shM cy a σ') none sz) 0 0 (fr_ 16 a sz) := by
  refine ent_ (by decide) rfl (Nat.le_of_ble_eq_true rfl) ?_
  intro p e s m below meth c ls hsz X I hl
  subst hsz
  exact kM_comes_0 X σ x1 x2 x3 x4 s.heap [] ls h I hl

def M_perhaps_0  (σ : Sg) (x1 : Int32) (x2 : Int32) (x3 : Int32) : Option (Unit × Sg) :=
  if (rd_ σ 0 11) = 0 then (if x1 = 0 then (some ((), σ))
  else (bi_ (M_nextToken_0 σ) fun _ σ_4 =>
  bi_ (M_numberTo_0 σ_4 x2 x3) fun _ σ_6 =>
  some ((), σ_6)))
  else (some ((), σ))
set_option maxRecDepth 100000 in
theorem kM_perhaps_0 {p : Program} {l : Launch} {e : Env} {s : State} {m : MethodId} {args : Array Value} {below : List Frame} {meth : Method} {c : Code} {D : va_G} {cy : Nat → ClassId} {a : Nat → Nat} (X : cx_ cX12_perhaps RX12 wsX12_perhaps 4 none 16 a D cy xfM p s m args meth c)   {σ' : Sg}  : ∀ (σ : Sg) (x1 : Int32) (x2 : Int32) (x3 : Int32) (H : Heap) (locs : List Loc) (ls : Array Slot), M_perhaps_0 σ x1 x2 x3 = some ((), σ') → iv_ 16 a D (shM cy a σ) s H locs → lv_has ls 4 [(0, .ref (a 0)), (1, .int x1), (2, .int x2), (3, .int x3)] → W p l e ({ frames := 4, cells := 0, slots := 0, locals := 86 }) s m args below meth c H locs 0 0 (MQ below (qg_ 16 a D (shM cy a σ') none s.heap.size) args s 0 0 (fr_ 16 a s.heap.size)) (F0 m 0 ls []) := by
  obtain ⟨hx, hb, hr, hml, hown, hts, hlk, hK, hA, hXf⟩ := id X
  intro σ x1 x2 x3 H locs ls h I hl
  unfold M_perhaps_0 at h
  refine lv_aload_n hx hb dX12_perhaps_0 rfl (lv_at hl 0 rfl) ?_
  refine ig_ (index := 93) X I (fun _ q => List.mem_cons_of_mem _ (List.mem_append_right _ q)) 0 (by decide) shM_0 rfl 11 (by decide) (by decide +kernel) rfl (v := .int (rd_ σ 0 11)) rfl dX12_perhaps_1 ?_
  refine lv_if_ne (tgt := 21) hx hb dX12_perhaps_4 (by decide) (fun c_1 => ?_) (fun c_1 => ?_)
  · have h := if_f h c_1
    obtain rfl := re_v h
    exact rtv_ X I dX12_perhaps_21
  · have h := if_t h c_1
    refine lv_iload_n hx hb dX12_perhaps_7 rfl (lv_at hl 1 rfl) ?_
    refine lv_if_eq (tgt := 21) hx hb dX12_perhaps_8 (by decide) (fun c_2 => ?_) (fun c_2 => ?_)
    · have h := if_t h c_2
      obtain rfl := re_v h
      exact rtv_ X I dX12_perhaps_21
    · have h := if_f h c_2
      refine lv_aload_n hx hb dX12_perhaps_11 rfl (lv_at hl 0 rfl) ?_
      obtain ⟨_, σ_4, hc_3, h⟩ := bi_of h
      refine cv_ (rV_ (nn := 0) (As := []) (rest := []) X xkM I (c_M_nextToken hc_3 H.size) gX12_perhaps_X12_nextToken rfl ⟨rfl, rfl⟩ (by decide +kernel) ⟨Nat.le_of_ble_eq_true rfl, Nat.le_of_ble_eq_true rfl⟩ (by decide) shM_0 rfl rfl hl.1 rfl (Nat.le_of_ble_eq_true rfl) dX12_perhaps_12) I (fun H locs I => ?_)
      refine lv_aload_n hx hb dX12_perhaps_15 rfl (lv_at hl 0 rfl) ?_
      refine lv_iload_n hx hb dX12_perhaps_16 rfl (lv_at hl 2 rfl) ?_
      refine lv_iload_n hx hb dX12_perhaps_17 rfl (lv_at hl 3 rfl) ?_
      obtain ⟨_, σ_6, hc_5, h⟩ := bi_of h
      refine cv_ (rV_ (nn := 2) (As := [.int x2, .int x3]) (rest := []) X xkM I (c_M_numberTo hc_5 H.size) gX12_perhaps_X12_numberTo rfl ⟨rfl, rfl⟩ (by decide +kernel) ⟨Nat.le_of_ble_eq_true rfl, Nat.le_of_ble_eq_true rfl⟩ (by decide) shM_0 rfl rfl hl.1 rfl (Nat.le_of_ble_eq_true rfl) dX12_perhaps_18) I (fun H locs I => ?_)
      obtain rfl := re_v h
      exact rtv_ X I dX12_perhaps_21
theorem c_M_perhaps {l : Launch} {D : va_G} {cy : Nat → ClassId} {a : Nat → Nat} {σ : Sg} {x1 : Int32} {x2 : Int32} {x3 : Int32}  {σ' : Sg} (h : M_perhaps_0 σ x1 x2 x3 = some ((), σ')) (sz : Nat) : Met l yX12_perhaps wsX12_perhaps ({ frames := 4, cells := 0, slots := 0, locals := 86 }) (va_Pc [.ref (a 0), .int x1, .int x2, .int x3] (pr_ 16 a D cy (shM cy a σ) xfM sz)) (qg_ 16 a D (shM cy a σ') none sz) 0 0 (fr_ 16 a sz) := by
  refine ent_ (by decide) rfl (Nat.le_of_ble_eq_true rfl) ?_
  intro p e s m below meth c ls hsz X I hl
  subst hsz
  exact kM_perhaps_0 X σ x1 x2 x3 s.heap [] ls h I hl
