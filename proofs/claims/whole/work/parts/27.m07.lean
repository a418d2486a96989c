def M_minds_98 (k98 : Sg → Int32 → Int32 → Int32 → Int32 → Int32 → Option (Int32 × Sg)) (σ : Sg) (x1 : Int32) (x2 : Int32) (x3 : Int32) (x4 : Int32) (x5 : Int32) : Option (Int32 × Sg) :=
  if x4 ≤ x5 then (some (x4, σ))
  else (lt_ (((((40 : Int32) * x1) + x2) + x5)) fun y_2 =>
  gd_ (in_ y_2 160) (
  bp_ (M_within_0 (rd_ σ 11 y_2.toNatClampNeg)) fun r_6 =>
  gd_ (in_ (((16 : Int32) + ((6 : Int32) * (x3 + x5))) + (1 : Int32)) 64) (
  lt_ (wr_ σ 1 (((16 : Int32) + ((6 : Int32) * (x3 + x5))) + (1 : Int32)).toNatClampNeg r_6) fun σ_8 =>
  lt_ (x5 + (1 : Int32)) fun y_10 =>
  k98 σ_8 x1 x2 x3 x4 y_10)))
set_option maxRecDepth 100000 in
theorem kM_minds_98 {p : Program} {l : Launch} {e : Env} {s : State} {m : MethodId} {args : Array Value} {below : List Frame} {meth : Method} {c : Code} {D : va_G} {cy : Nat → ClassId} {a : Nat → Nat} (X : cx_ cX12_minds RX12 wsX12_minds 6 (some .int) 16 a D cy xfM p s m args meth c) {k98 : Sg → Int32 → Int32 → Int32 → Int32 → Int32 → Option (Int32 × Sg)} {r0 : Int32} {σ' : Sg} (hk98 : ∀ (σ : Sg) (x1 : Int32) (x2 : Int32) (x3 : Int32) (x4 : Int32) (x5 : Int32) (H : Heap) (locs : List Loc) (ls : Array Slot), k98 σ x1 x2 x3 x4 x5 = some (r0, σ') → iv_ 16 a D (shM cy a σ) s H locs → lv_has ls 6 [(0, .ref (a 0)), (1, .int x1), (2, .int x2), (3, .int x3), (4, .int x4), (5, .int x5)] → W p l e ({ frames := 2, cells := 0, slots := 0, locals := 45 }) s m args below meth c H locs 0 0 (MQ below (qg_ 16 a D (shM cy a σ') (some (.int r0)) s.heap.size) args s 0 0 (fr_ 16 a s.heap.size)) (F0 m 98 ls [])) : ∀ (σ : Sg) (x1 : Int32) (x2 : Int32) (x3 : Int32) (x4 : Int32) (x5 : Int32) (H : Heap) (locs : List Loc) (ls : Array Slot), M_minds_98 k98 σ x1 x2 x3 x4 x5 = some (r0, σ') → iv_ 16 a D (shM cy a σ) s H locs → lv_has ls 6 [(0, .ref (a 0)), (1, .int x1), (2, .int x2), (3, .int x3), (4, .int x4), (5, .int x5)] → W p l e ({ frames := 2, cells := 0, slots := 0, locals := 45 }) s m args below meth c H locs 0 0 (MQ below (qg_ 16 a D (shM cy a σ') (some (.int r0)) s.heap.size) args s 0 0 (fr_ 16 a s.heap.size)) (F0 m 98 ls []) := by
  obtain ⟨hx, hb, hr, hml, hown, hts, hlk, hK, hA, hXf⟩ := id X
  intro σ x1 x2 x3 x4 x5 H locs ls h I hl
  unfold M_minds_98 at h
  refine lv_iload hx hb dX12_minds_98 (lv_at hl 5 rfl) ?_
  refine lv_iload hx hb dX12_minds_100 (lv_at hl 4 rfl) ?_
  refine lv_icmp_ge (tgt := 145) hx hb dX12_minds_102 (by decide) (fun c_1 => ?_) (fun c_1 => ?_)
  · have h := if_t h c_1
    refine lv_iload hx hb dX12_minds_145 (lv_at hl 4 rfl) ?_
    obtain ⟨rfl, rfl⟩ := re_s h
    exact rti_ X I dX12_minds_147
  · have h := if_f h c_1
    refine lv_aload_n hx hb dX12_minds_105 rfl (lv_at hl 0 rfl) ?_
    refine ig_ (index := 7) X I (fun _ q => List.mem_cons_of_mem _ (List.mem_append_right _ q)) 0 (by decide) shM_0 rfl 0 (by decide) (by decide +kernel) rfl (v := .ref (a 1)) rfl dX12_minds_106 ?_
    refine lv_bipush (v := 16) hx hb dX12_minds_109 (by decide) ?_
    refine lv_bipush (v := 6) hx hb dX12_minds_111 (by decide) ?_
    refine lv_iload_n hx hb dX12_minds_113 rfl (lv_at hl 3 rfl) ?_
    refine lv_iload hx hb dX12_minds_114 (lv_at hl 5 rfl) ?_
    refine lv_iadd hx hb dX12_minds_116 ?_
    refine lv_imul hx hb dX12_minds_117 ?_
    refine lv_iadd hx hb dX12_minds_118 ?_
    refine lv_iconst (v := 1) hx hb dX12_minds_119 (by decide) ?_
    refine lv_iadd hx hb dX12_minds_120 ?_
    refine lv_aload_n hx hb dX12_minds_121 rfl (lv_at hl 0 rfl) ?_
    refine ig_ (index := 40) X I (fun _ q => List.mem_cons_of_mem _ (List.mem_append_right _ q)) 0 (by decide) shM_0 rfl 18 (by decide) (by decide +kernel) rfl (v := .ref (a 11)) rfl dX12_minds_122 ?_
    refine lv_bipush (v := 40) hx hb dX12_minds_125 (by decide) ?_
    refine lv_iload_n hx hb dX12_minds_127 rfl (lv_at hl 1 rfl) ?_
    refine lv_imul hx hb dX12_minds_128 ?_
    refine lv_iload_n hx hb dX12_minds_129 rfl (lv_at hl 2 rfl) ?_
    refine lv_iadd hx hb dX12_minds_130 ?_
    refine lv_iload hx hb dX12_minds_131 (lv_at hl 5 rfl) ?_
    refine lv_iadd hx hb dX12_minds_133 ?_
    refine lv_topi (fun y_2 e_3 => ?_)
    have h := lt_at h e_3
    obtain ⟨g_4, h⟩ := gd_of h
    refine ia_ X I 11 (by decide) shM_11 (in_of g_4) (v0 := rd_ σ 11 y_2.toNatClampNeg) rfl dX12_minds_134 ?_
    obtain ⟨r_6, hc_5, h⟩ := bp_of h
    refine cp_ (rP_ (nn := 1) (As := [.int (rd_ σ 11 y_2.toNatClampNeg)]) (rest := [.int (((16 : Int32) + ((6 : Int32) * (x3 + x5))) + (1 : Int32)), .ref (a 1)]) ⟨hx, hb, hml, hown, hts⟩ (c_M_within hc_5) gX12_minds_X12_within rfl ⟨rfl, rfl⟩ (by decide +kernel) ⟨Nat.le_of_ble_eq_true rfl, Nat.le_of_ble_eq_true rfl⟩ rfl hl.1 rfl (Nat.le_of_ble_eq_true rfl) dX12_minds_135 ⟨Nat.zero_le _, Nat.zero_le _⟩) ?_
    obtain ⟨g_7, h⟩ := gd_of h
    refine is_ (σ2 := wr_ σ 1 (((16 : Int32) + ((6 : Int32) * (x3 + x5))) + (1 : Int32)).toNatClampNeg r_6) X I 1 (by decide) shM_1 (in_of g_7) shM_st_1 dX12_minds_138 (fun σ_8 H locs e_9 I => ?_)
    have h := lt_at h e_9
    obtain ⟨y_10, e_11⟩ : ∃ q : Int32, q = x5 + (1 : Int32) := ⟨_, rfl⟩
    have h := lt_at h e_11
    refine lv_iinc (v := y_10) (lv' := [(5, .int y_10), (0, .ref (a 0)), (1, .int x1), (2, .int x2), (3, .int x3), (4, .int x4)]) hx hb dX12_minds_139 hl (k := 5) rfl (by rw [e_11]; rfl) (by decide) rfl (fun ls hl => ?_)
    refine lv_goto (tgt := 98) hx hb dX12_minds_142 (by decide) ?_
    exact hk98 σ_8 x1 x2 x3 x4 y_10 H locs ls h I (lv_sub hl [1, 2, 3, 4, 5, 0] rfl)
set_option maxRecDepth 100000 in
theorem kM_minds_98L {p : Program} {l : Launch} {e : Env} {s : State} {m : MethodId} {args : Array Value} {below : List Frame} {meth : Method} {c : Code} {D : va_G} {cy : Nat → ClassId} {a : Nat → Nat} (X : cx_ cX12_minds RX12 wsX12_minds 6 (some .int) 16 a D cy xfM p s m args meth c)  {r0 : Int32} {σ' : Sg}  : ∀ (n : Nat), ∀ (σ : Sg) (x1 : Int32) (x2 : Int32) (x3 : Int32) (x4 : Int32) (x5 : Int32) (H : Heap) (locs : List Loc) (ls : Array Slot), lp_ (M_minds_98) (fun _ _ _ _ _ _ => none) n σ x1 x2 x3 x4 x5 = some (r0, σ') → iv_ 16 a D (shM cy a σ) s H locs → lv_has ls 6 [(0, .ref (a 0)), (1, .int x1), (2, .int x2), (3, .int x3), (4, .int x4), (5, .int x5)] → W p l e ({ frames := 2, cells := 0, slots := 0, locals := 45 }) s m args below meth c H locs 0 0 (MQ below (qg_ 16 a D (shM cy a σ') (some (.int r0)) s.heap.size) args s 0 0 (fr_ 16 a s.heap.size)) (F0 m 98 ls []) := by
  intro n
  induction n with
  | zero =>
    intro _ _ _ _ _ _ _ _ _ h
    exact absurd h (fun q => by cases (show (none : Option _) = some _ from q))
  | succ n ih => exact kM_minds_98 X ih

def M_minds_0  (σ : Sg) (x1 : Int32) (x2 : Int32) (x3 : Int32) (x4 : Int32) : Option (Int32 × Sg) :=
  bp_ (M_isSheet_0 x1) fun r_2 =>
  if r_2 = 0 then (some ((-1 : Int32), σ))
  else (bi_ (M_isOne_0 σ x3) fun r_6 σ_5 =>
  if r_6 = 0 then (some ((-1 : Int32), σ_5))
  else (bp_ (M_isIn_0 (x4).toInt64 (0 : Int64) (8 : Int64)) fun r_9 =>
  if r_9 = 0 then (some ((-1 : Int32), σ_5))
  else (if (x3 + x4) ≤ (rd_ σ_5 1 0) then (bi_ (M_lacks_0 σ_5 x1 (0 : Int32)) fun r_14 σ_13 =>
  if r_14 = 0 then (gd_ (in_ x1 4) (
  bp_ (M_isIn_0 (x2).toInt64 (0 : Int64) (rd_ σ_13 10 x1.toNatClampNeg).toInt64) fun r_18 =>
  if r_18 = 0 then (some ((-12 : Int32), σ_13))
  else (gd_ (in_ x1 4) (
  if (lg_cmp ((x2).toInt64 + (x4).toInt64) (rd_ σ_13 10 x1.toNatClampNeg).toInt64) ≤ 0 then (lp_ M_minds_98 (fun _ _ _ _ _ _ => none) FU σ_13 x1 x2 x3 x4 (0 : Int32))
  else (some ((-12 : Int32), σ_13))))))
  else (bi_ (M_lacks_0 σ_13 x1 (0 : Int32)) fun r_24 σ_23 =>
  some (r_24, σ_23)))
  else (some ((-1 : Int32), σ_5)))))
set_option maxRecDepth 100000 in
theorem kM_minds_0 {p : Program} {l : Launch} {e : Env} {s : State} {m : MethodId} {args : Array Value} {below : List Frame} {meth : Method} {c : Code} {D : va_G} {cy : Nat → ClassId} {a : Nat → Nat} (X : cx_ cX12_minds RX12 wsX12_minds 6 (some .int) 16 a D cy xfM p s m args meth c)  {r0 : Int32} {σ' : Sg}  : ∀ (σ : Sg) (x1 : Int32) (x2 : Int32) (x3 : Int32) (x4 : Int32) (H : Heap) (locs : List Loc) (ls : Array Slot), M_minds_0 σ x1 x2 x3 x4 = some (r0, σ') → iv_ 16 a D (shM cy a σ) s H locs → lv_has ls 6 [(0, .ref (a 0)), (1, .int x1), (2, .int x2), (3, .int x3), (4, .int x4)] → W p l e ({ frames := 2, cells := 0, slots := 0, locals := 45 }) s m args below meth c H locs 0 0 (MQ below (qg_ 16 a D (shM cy a σ') (some (.int r0)) s.heap.size) args s 0 0 (fr_ 16 a s.heap.size)) (F0 m 0 ls []) := by
  obtain ⟨hx, hb, hr, hml, hown, hts, hlk, hK, hA, hXf⟩ := id X
  intro σ x1 x2 x3 x4 H locs ls h I hl
  unfold M_minds_0 at h
  refine lv_iload_n hx hb dX12_minds_0 rfl (lv_at hl 1 rfl) ?_
  obtain ⟨r_2, hc_1, h⟩ := bp_of h
  refine cp_ (rP_ (nn := 1) (As := [.int x1]) (rest := []) ⟨hx, hb, hml, hown, hts⟩ (c_M_isSheet hc_1) gX12_minds_X12_isSheet rfl ⟨rfl, rfl⟩ (by decide +kernel) ⟨Nat.le_of_ble_eq_true rfl, Nat.le_of_ble_eq_true rfl⟩ rfl hl.1 rfl (Nat.le_of_ble_eq_true rfl) dX12_minds_1 ⟨Nat.zero_le _, Nat.zero_le _⟩) ?_
  refine lv_if_eq (tgt := 41) hx hb dX12_minds_4 (by decide) (fun c_3 => ?_) (fun c_3 => ?_)
  · have h := if_t h c_3
    refine lv_iconst (v := (-1)) hx hb dX12_minds_41 (by decide) ?_
    obtain ⟨rfl, rfl⟩ := re_s h
    exact rti_ X I dX12_minds_42
  · have h := if_f h c_3
    refine lv_aload_n hx hb dX12_minds_7 rfl (lv_at hl 0 rfl) ?_
    refine lv_iload_n hx hb dX12_minds_8 rfl (lv_at hl 3 rfl) ?_
    obtain ⟨r_6, σ_5, hc_4, h⟩ := bi_of h
    refine cg_ (rV_ (nn := 1) (As := [.int x3]) (rest := []) X xkM I (c_M_isOne hc_4 H.size) gX12_minds_X12_isOne rfl ⟨rfl, rfl⟩ (by decide +kernel) ⟨Nat.le_of_ble_eq_true rfl, Nat.le_of_ble_eq_true rfl⟩ (by decide) shM_0 rfl rfl hl.1 rfl (Nat.le_of_ble_eq_true rfl) dX12_minds_9) I (fun H locs I => ?_)
    refine lv_if_eq (tgt := 41) hx hb dX12_minds_12 (by decide) (fun c_7 => ?_) (fun c_7 => ?_)
    · have h := if_t h c_7
      refine lv_iconst (v := (-1)) hx hb dX12_minds_41 (by decide) ?_
      obtain ⟨rfl, rfl⟩ := re_s h
      exact rti_ X I dX12_minds_42
    · have h := if_f h c_7
      refine lv_iload hx hb dX12_minds_15 (lv_at hl 4 rfl) ?_
      refine lv_i2l hx hb dX12_minds_17 rfl ?_
      refine lv_lconst (v := 0) hx hb dX12_minds_18 (by decide) ?_
      refine lv_ldc2 (v := 8) hx hb hown (hts (.constantLong RX12 58 (8)) (by decide +kernel)) dX12_minds_19 ?_
      obtain ⟨r_9, hc_8, h⟩ := bp_of h
      refine cp_ (rP_ (nn := 3) (As := [.long (x4).toInt64, .long (0 : Int64), .long (8 : Int64)]) (rest := []) ⟨hx, hb, hml, hown, hts⟩ (c_M_isIn hc_8) gX12_minds_X12_isIn rfl ⟨rfl, rfl⟩ (by decide +kernel) ⟨Nat.le_of_ble_eq_true rfl, Nat.le_of_ble_eq_true rfl⟩ rfl hl.1 rfl (Nat.le_of_ble_eq_true rfl) dX12_minds_22 ⟨Nat.zero_le _, Nat.zero_le _⟩) ?_
      refine lv_if_eq (tgt := 41) hx hb dX12_minds_25 (by decide) (fun c_10 => ?_) (fun c_10 => ?_)
      · have h := if_t h c_10
        refine lv_iconst (v := (-1)) hx hb dX12_minds_41 (by decide) ?_
        obtain ⟨rfl, rfl⟩ := re_s h
        exact rti_ X I dX12_minds_42
      · have h := if_f h c_10
        refine lv_iload_n hx hb dX12_minds_28 rfl (lv_at hl 3 rfl) ?_
        refine lv_iload hx hb dX12_minds_29 (lv_at hl 4 rfl) ?_
        refine lv_iadd hx hb dX12_minds_31 ?_
        refine lv_aload_n hx hb dX12_minds_32 rfl (lv_at hl 0 rfl) ?_
        refine ig_ (index := 7) X I (fun _ q => List.mem_cons_of_mem _ (List.mem_append_right _ q)) 0 (by decide) shM_0 rfl 0 (by decide) (by decide +kernel) rfl (v := .ref (a 1)) rfl dX12_minds_33 ?_
        refine lv_iconst (v := 0) hx hb dX12_minds_36 (by decide) ?_
        refine ia_ X I 1 (by decide) shM_1 (in_of (by decide)) (v0 := rd_ σ_5 1 0) rfl dX12_minds_37 ?_
        refine lv_icmp_le (tgt := 43) hx hb dX12_minds_38 (by decide) (fun c_11 => ?_) (fun c_11 => ?_)
        · have h := if_t h c_11
          refine lv_aload_n hx hb dX12_minds_43 rfl (lv_at hl 0 rfl) ?_
          refine lv_iload_n hx hb dX12_minds_44 rfl (lv_at hl 1 rfl) ?_
          refine lv_iconst (v := 0) hx hb dX12_minds_45 (by decide) ?_
          obtain ⟨r_14, σ_13, hc_12, h⟩ := bi_of h
          refine cg_ (rV_ (nn := 2) (As := [.int x1, .int (0 : Int32)]) (rest := []) X xkM I (c_M_lacks hc_12 H.size) gX12_minds_X12_lacks rfl ⟨rfl, rfl⟩ (by decide +kernel) ⟨Nat.le_of_ble_eq_true rfl, Nat.le_of_ble_eq_true rfl⟩ (by decide) shM_0 rfl rfl hl.1 rfl (Nat.le_of_ble_eq_true rfl) dX12_minds_46) I (fun H locs I => ?_)
          refine lv_if_eq (tgt := 59) hx hb dX12_minds_49 (by decide) (fun c_15 => ?_) (fun c_15 => ?_)
          · have h := if_t h c_15
            refine lv_iload_n hx hb dX12_minds_59 rfl (lv_at hl 2 rfl) ?_
            refine lv_i2l hx hb dX12_minds_60 rfl ?_
            refine lv_lconst (v := 0) hx hb dX12_minds_61 (by decide) ?_
            refine lv_aload_n hx hb dX12_minds_62 rfl (lv_at hl 0 rfl) ?_
            refine ig_ (index := 37) X I (fun _ q => List.mem_cons_of_mem _ (List.mem_append_right _ q)) 0 (by decide) shM_0 rfl 17 (by decide) (by decide +kernel) rfl (v := .ref (a 10)) rfl dX12_minds_63 ?_
            refine lv_iload_n hx hb dX12_minds_66 rfl (lv_at hl 1 rfl) ?_
            obtain ⟨g_16, h⟩ := gd_of h
            refine ia_ X I 10 (by decide) shM_10 (in_of g_16) (v0 := rd_ σ_13 10 x1.toNatClampNeg) rfl dX12_minds_67 ?_
            refine lv_i2l hx hb dX12_minds_68 rfl ?_
            obtain ⟨r_18, hc_17, h⟩ := bp_of h
            refine cp_ (rP_ (nn := 3) (As := [.long (x2).toInt64, .long (0 : Int64), .long (rd_ σ_13 10 x1.toNatClampNeg).toInt64]) (rest := []) ⟨hx, hb, hml, hown, hts⟩ (c_M_isIn hc_17) gX12_minds_X12_isIn rfl ⟨rfl, rfl⟩ (by decide +kernel) ⟨Nat.le_of_ble_eq_true rfl, Nat.le_of_ble_eq_true rfl⟩ rfl hl.1 rfl (Nat.le_of_ble_eq_true rfl) dX12_minds_69 ⟨Nat.zero_le _, Nat.zero_le _⟩) ?_
            refine lv_if_eq (tgt := 92) hx hb dX12_minds_72 (by decide) (fun c_19 => ?_) (fun c_19 => ?_)
            · have h := if_t h c_19
              refine lv_bipush (v := (-12)) hx hb dX12_minds_92 (by decide) ?_
              obtain ⟨rfl, rfl⟩ := re_s h
              exact rti_ X I dX12_minds_94
            · have h := if_f h c_19
              refine lv_iload_n hx hb dX12_minds_75 rfl (lv_at hl 2 rfl) ?_
              refine lv_i2l hx hb dX12_minds_76 rfl ?_
              refine lv_iload hx hb dX12_minds_77 (lv_at hl 4 rfl) ?_
              refine lv_i2l hx hb dX12_minds_79 rfl ?_
              refine lv_ladd hx hb dX12_minds_80 ?_
              refine lv_aload_n hx hb dX12_minds_81 rfl (lv_at hl 0 rfl) ?_
              refine ig_ (index := 37) X I (fun _ q => List.mem_cons_of_mem _ (List.mem_append_right _ q)) 0 (by decide) shM_0 rfl 17 (by decide) (by decide +kernel) rfl (v := .ref (a 10)) rfl dX12_minds_82 ?_
              refine lv_iload_n hx hb dX12_minds_85 rfl (lv_at hl 1 rfl) ?_
              obtain ⟨g_20, h⟩ := gd_of h
              refine ia_ X I 10 (by decide) shM_10 (in_of g_20) (v0 := rd_ σ_13 10 x1.toNatClampNeg) rfl dX12_minds_86 ?_
              refine lv_i2l hx hb dX12_minds_87 rfl ?_
              refine W.lcmp hx hb dX12_minds_88 ?_
              refine lv_if_le (tgt := 95) hx hb dX12_minds_89 (by decide) (fun c_21 => ?_) (fun c_21 => ?_)
              · have h := if_t h c_21
                refine lv_iconst (v := 0) hx hb dX12_minds_95 (by decide) ?_
                refine lv_istore (lv' := [(5, .int (0 : Int32)), (0, .ref (a 0)), (1, .int x1), (2, .int x2), (3, .int x3), (4, .int x4)]) hx hb dX12_minds_96 hl (by decide) rfl (fun ls hl => ?_)
                exact kM_minds_98L X  FU σ_13 x1 x2 x3 x4 (0 : Int32) H locs ls h I (lv_sub hl [1, 2, 3, 4, 5, 0] rfl)
              · have h := if_f h c_21
                refine lv_bipush (v := (-12)) hx hb dX12_minds_92 (by decide) ?_
                obtain ⟨rfl, rfl⟩ := re_s h
                exact rti_ X I dX12_minds_94
          · have h := if_f h c_15
            refine lv_aload_n hx hb dX12_minds_52 rfl (lv_at hl 0 rfl) ?_
            refine lv_iload_n hx hb dX12_minds_53 rfl (lv_at hl 1 rfl) ?_
            refine lv_iconst (v := 0) hx hb dX12_minds_54 (by decide) ?_
            obtain ⟨r_24, σ_23, hc_22, h⟩ := bi_of h
            refine cg_ (rV_ (nn := 2) (As := [.int x1, .int (0 : Int32)]) (rest := []) X xkM I (c_M_lacks hc_22 H.size) gX12_minds_X12_lacks rfl ⟨rfl, rfl⟩ (by decide +kernel) ⟨Nat.le_of_ble_eq_true rfl, Nat.le_of_ble_eq_true rfl⟩ (by decide) shM_0 rfl rfl hl.1 rfl (Nat.le_of_ble_eq_true rfl) dX12_minds_55) I (fun H locs I => ?_)
            obtain ⟨rfl, rfl⟩ := re_s h
            exact rti_ X I dX12_minds_58
        · have h := if_f h c_11
          refine lv_iconst (v := (-1)) hx hb dX12_minds_41 (by decide) ?_
          obtain ⟨rfl, rfl⟩ := re_s h
          exact rti_ X I dX12_minds_42
theorem c_M_minds {l : Launch} {D : va_G} {cy : Nat → ClassId} {a : Nat → Nat} {σ : Sg} {x1 : Int32} {x2 : Int32} {x3 : Int32} {x4 : Int32} {r0 : Int32} {σ' : Sg} (h : M_minds_0 σ x1 x2 x3 x4 = some (r0, σ')) (sz : Nat) : Met l yX12_minds wsX12_minds ({ frames := 2, cells := 0, slots := 0, locals := 45 }) (va_Pc [.ref (a 0), .int x1, .int x2, .int x3, .int x4] (pr_ 16 a D cy (shM cy a σ) xfM sz)) (qg_ 16 a D (shM cy a σ') (some (.int r0)) sz) 0 0 (fr_ 16 a sz) := by
  refine ent_ (by decide) rfl (Nat.le_of_ble_eq_true rfl) ?_
  intro p e s m below meth c ls hsz X I hl
  subst hsz
  exact kM_minds_0 X σ x1 x2 x3 x4 s.heap [] ls h I hl

def M_sheet_69 (k69 : Sg → Int32 → Int32 → Option (Int32 × Sg)) (σ : Sg) (x1 : Int32) (x4 : Int32) : Option (Int32 × Sg) :=
  if (40 : Int32) ≤ x4 then (some ((1 : Int32), σ))
  else (gd_ (in_ (((40 : Int32) * x1) + x4) 160) (
  lt_ (wr_ σ 11 (((40 : Int32) * x1) + x4).toNatClampNeg (0 : Int32)) fun σ_3 =>
  lt_ (x4 + (1 : Int32)) fun y_5 =>
  k69 σ_3 x1 y_5))
set_option maxRecDepth 100000 in
theorem kM_sheet_69 {p : Program} {l : Launch} {e : Env} {s : State} {m : MethodId} {args : Array Value} {below : List Frame} {meth : Method} {c : Code} {D : va_G} {cy : Nat → ClassId} {a : Nat → Nat} (X : cx_ cX12_sheet RX12 wsX12_sheet 5 (some .int) 16 a D cy xfM p s m args meth c) {k69 : Sg → Int32 → Int32 → Option (Int32 × Sg)} {r0 : Int32} {σ' : Sg} (hk69 : ∀ (σ : Sg) (x1 : Int32) (x4 : Int32) (H : Heap) (locs : List Loc) (ls : Array Slot), k69 σ x1 x4 = some (r0, σ') → iv_ 16 a D (shM cy a σ) s H locs → lv_has ls 5 [(0, .ref (a 0)), (1, .int x1), (4, .int x4)] → W p l e ({ frames := 2, cells := 0, slots := 0, locals := 45 }) s m args below meth c H locs 0 0 (MQ below (qg_ 16 a D (shM cy a σ') (some (.int r0)) s.heap.size) args s 0 0 (fr_ 16 a s.heap.size)) (F0 m 69 ls [])) : ∀ (σ : Sg) (x1 : Int32) (x4 : Int32) (H : Heap) (locs : List Loc) (ls : Array Slot), M_sheet_69 k69 σ x1 x4 = some (r0, σ') → iv_ 16 a D (shM cy a σ) s H locs → lv_has ls 5 [(0, .ref (a 0)), (1, .int x1), (4, .int x4)] → W p l e ({ frames := 2, cells := 0, slots := 0, locals := 45 }) s m args below meth c H locs 0 0 (MQ below (qg_ 16 a D (shM cy a σ') (some (.int r0)) s.heap.size) args s 0 0 (fr_ 16 a s.heap.size)) (F0 m 69 ls []) := by
  obtain ⟨hx, hb, hr, hml, hown, hts, hlk, hK, hA, hXf⟩ := id X
  intro σ x1 x4 H locs ls h I hl
  unfold M_sheet_69 at h
  refine lv_iload hx hb dX12_sheet_69 (lv_at hl 2 rfl) ?_
  refine lv_bipush (v := 40) hx hb dX12_sheet_71 (by decide) ?_
  refine lv_icmp_ge (tgt := 95) hx hb dX12_sheet_73 (by decide) (fun c_1 => ?_) (fun c_1 => ?_)
  · have h := if_t h c_1
    refine lv_iconst (v := 1) hx hb dX12_sheet_95 (by decide) ?_
    obtain ⟨rfl, rfl⟩ := re_s h
    exact rti_ X I dX12_sheet_96
  · have h := if_f h c_1
    refine lv_aload_n hx hb dX12_sheet_76 rfl (lv_at hl 0 rfl) ?_
    refine ig_ (index := 40) X I (fun _ q => List.mem_cons_of_mem _ (List.mem_append_right _ q)) 0 (by decide) shM_0 rfl 18 (by decide) (by decide +kernel) rfl (v := .ref (a 11)) rfl dX12_sheet_77 ?_
    refine lv_bipush (v := 40) hx hb dX12_sheet_80 (by decide) ?_
    refine lv_iload_n hx hb dX12_sheet_82 rfl (lv_at hl 1 rfl) ?_
    refine lv_imul hx hb dX12_sheet_83 ?_
    refine lv_iload hx hb dX12_sheet_84 (lv_at hl 2 rfl) ?_
    refine lv_iadd hx hb dX12_sheet_86 ?_
    refine lv_iconst (v := 0) hx hb dX12_sheet_87 (by decide) ?_
    obtain ⟨g_2, h⟩ := gd_of h
    refine is_ (σ2 := wr_ σ 11 (((40 : Int32) * x1) + x4).toNatClampNeg (0 : Int32)) X I 11 (by decide) shM_11 (in_of g_2) shM_st_11 dX12_sheet_88 (fun σ_3 H locs e_4 I => ?_)
    have h := lt_at h e_4
    obtain ⟨y_5, e_6⟩ : ∃ q : Int32, q = x4 + (1 : Int32) := ⟨_, rfl⟩
    have h := lt_at h e_6
    refine lv_iinc (v := y_5) (lv' := [(4, .int y_5), (0, .ref (a 0)), (1, .int x1)]) hx hb dX12_sheet_89 hl (k := 2) rfl (by rw [e_6]; rfl) (by decide) rfl (fun ls hl => ?_)
    refine lv_goto (tgt := 69) hx hb dX12_sheet_92 (by decide) ?_
    exact hk69 σ_3 x1 y_5 H locs ls h I (lv_sub hl [1, 2, 0] rfl)
set_option maxRecDepth 100000 in
theorem kM_sheet_69L {p : Program} {l : Launch} {e : Env} {s : State} {m : MethodId} {args : Array Value} {below : List Frame} {meth : Method} {c : Code} {D : va_G} {cy : Nat → ClassId} {a : Nat → Nat} (X : cx_ cX12_sheet RX12 wsX12_sheet 5 (some .int) 16 a D cy xfM p s m args meth c)  {r0 : Int32} {σ' : Sg}  : ∀ (n : Nat), ∀ (σ : Sg) (x1 : Int32) (x4 : Int32) (H : Heap) (locs : List Loc) (ls : Array Slot), lp_ (M_sheet_69) (fun _ _ _ => none) n σ x1 x4 = some (r0, σ') → iv_ 16 a D (shM cy a σ) s H locs → lv_has ls 5 [(0, .ref (a 0)), (1, .int x1), (4, .int x4)] → W p l e ({ frames := 2, cells := 0, slots := 0, locals := 45 }) s m args below meth c H locs 0 0 (MQ below (qg_ 16 a D (shM cy a σ') (some (.int r0)) s.heap.size) args s 0 0 (fr_ 16 a s.heap.size)) (F0 m 69 ls []) := by
  intro n
  induction n with
  | zero =>
    intro _ _ _ _ _ _ h
    exact absurd h (fun q => by cases (show (none : Option _) = some _ from q))
  | succ n ih => exact kM_sheet_69 X ih

def M_sheet_65  (σ : Sg) (x1 : Int32) (t2 : Int32) (t1 : Int32) : Option (Int32 × Sg) :=
  gd_ (in_ t1 4) (
  lt_ (wr_ σ 10 t1.toNatClampNeg t2) fun σ_2 =>
  lp_ M_sheet_69 (fun _ _ _ => none) FU σ_2 x1 (0 : Int32))
set_option maxRecDepth 100000 in
theorem kM_sheet_65 {p : Program} {l : Launch} {e : Env} {s : State} {m : MethodId} {args : Array Value} {below : List Frame} {meth : Method} {c : Code} {D : va_G} {cy : Nat → ClassId} {a : Nat → Nat} (X : cx_ cX12_sheet RX12 wsX12_sheet 5 (some .int) 16 a D cy xfM p s m args meth c)  {r0 : Int32} {σ' : Sg}  : ∀ (σ : Sg) (x1 : Int32) (t2 : Int32) (t1 : Int32) (H : Heap) (locs : List Loc) (ls : Array Slot), M_sheet_65 σ x1 t2 t1 = some (r0, σ') → iv_ 16 a D (shM cy a σ) s H locs → lv_has ls 5 [(0, .ref (a 0)), (1, .int x1)] → W p l e ({ frames := 2, cells := 0, slots := 0, locals := 45 }) s m args below meth c H locs 0 0 (MQ below (qg_ 16 a D (shM cy a σ') (some (.int r0)) s.heap.size) args s 0 0 (fr_ 16 a s.heap.size)) (F0 m 65 ls [.int t2, .int t1, .ref (a 10)]) := by
  obtain ⟨hx, hb, hr, hml, hown, hts, hlk, hK, hA, hXf⟩ := id X
  intro σ x1 t2 t1 H locs ls h I hl
  unfold M_sheet_65 at h
  obtain ⟨g_1, h⟩ := gd_of h
  refine is_ (σ2 := wr_ σ 10 t1.toNatClampNeg t2) X I 10 (by decide) shM_10 (in_of g_1) shM_st_10 dX12_sheet_65 (fun σ_2 H locs e_3 I => ?_)
  have h := lt_at h e_3
  refine lv_iconst (v := 0) hx hb dX12_sheet_66 (by decide) ?_
  refine lv_istore (lv' := [(4, .int (0 : Int32)), (0, .ref (a 0)), (1, .int x1)]) hx hb dX12_sheet_67 hl (by decide) rfl (fun ls hl => ?_)
  exact kM_sheet_69L X  FU σ_2 x1 (0 : Int32) H locs ls h I (lv_sub hl [1, 2, 0] rfl)
def M_sheet_44  (σ : Sg) (x1 : Int32) (x2 : Int32) (x3 : Int32) : Option (Int32 × Sg) :=
  gd_ (in_ x1 4) (
  lt_ (wr_ σ 9 x1.toNatClampNeg x2) fun σ_2 =>
  if 0 ≤ x2 then (M_sheet_65 σ_2 x1 x3 x1)
  else (M_sheet_65 σ_2 x1 (0 : Int32) x1))
set_option maxRecDepth 100000 in
theorem kM_sheet_44 {p : Program} {l : Launch} {e : Env} {s : State} {m : MethodId} {args : Array Value} {below : List Frame} {meth : Method} {c : Code} {D : va_G} {cy : Nat → ClassId} {a : Nat → Nat} (X : cx_ cX12_sheet RX12 wsX12_sheet 5 (some .int) 16 a D cy xfM p s m args meth c)  {r0 : Int32} {σ' : Sg}  : ∀ (σ : Sg) (x1 : Int32) (x2 : Int32) (x3 : Int32) (H : Heap) (locs : List Loc) (ls : Array Slot), M_sheet_44 σ x1 x2 x3 = some (r0, σ') → iv_ 16 a D (shM cy a σ) s H locs → lv_has ls 5 [(0, .ref (a 0)), (1, .int x1), (2, .int x2), (3, .int x3)] → W p l e ({ frames := 2, cells := 0, slots := 0, locals := 45 }) s m args below meth c H locs 0 0 (MQ below (qg_ 16 a D (shM cy a σ') (some (.int r0)) s.heap.size) args s 0 0 (fr_ 16 a s.heap.size)) (F0 m 44 ls []) := by
  obtain ⟨hx, hb, hr, hml, hown, hts, hlk, hK, hA, hXf⟩ := id X
  intro σ x1 x2 x3 H locs ls h I hl
  unfold M_sheet_44 at h
  refine lv_aload_n hx hb dX12_sheet_44 rfl (lv_at hl 0 rfl) ?_
  refine ig_ (index := 34) X I (fun _ q => List.mem_cons_of_mem _ (List.mem_append_right _ q)) 0 (by decide) shM_0 rfl 16 (by decide) (by decide +kernel) rfl (v := .ref (a 9)) rfl dX12_sheet_45 ?_
  refine lv_iload_n hx hb dX12_sheet_48 rfl (lv_at hl 1 rfl) ?_
  refine lv_iload_n hx hb dX12_sheet_49 rfl (lv_at hl 2 rfl) ?_
  obtain ⟨g_1, h⟩ := gd_of h
  refine is_ (σ2 := wr_ σ 9 x1.toNatClampNeg x2) X I 9 (by decide) shM_9 (in_of g_1) shM_st_9 dX12_sheet_50 (fun σ_2 H locs e_3 I => ?_)
  have h := lt_at h e_3
  refine lv_aload_n hx hb dX12_sheet_51 rfl (lv_at hl 0 rfl) ?_
  refine ig_ (index := 37) X I (fun _ q => List.mem_cons_of_mem _ (List.mem_append_right _ q)) 0 (by decide) shM_0 rfl 17 (by decide) (by decide +kernel) rfl (v := .ref (a 10)) rfl dX12_sheet_52 ?_
  refine lv_iload_n hx hb dX12_sheet_55 rfl (lv_at hl 1 rfl) ?_
  refine lv_iload_n hx hb dX12_sheet_56 rfl (lv_at hl 2 rfl) ?_
  refine lv_if_ge (tgt := 64) hx hb dX12_sheet_57 (by decide) (fun c_4 => ?_) (fun c_4 => ?_)
  · have h := if_t h c_4
    refine lv_iload_n hx hb dX12_sheet_64 rfl (lv_at hl 3 rfl) ?_
    exact kM_sheet_65 X  σ_2 x1 x3 x1 H locs ls h I (lv_sub hl [0, 1] rfl)
  · have h := if_f h c_4
    refine lv_iconst (v := 0) hx hb dX12_sheet_60 (by decide) ?_
    refine lv_goto (tgt := 65) hx hb dX12_sheet_61 (by decide) ?_
    exact kM_sheet_65 X  σ_2 x1 (0 : Int32) x1 H locs ls h I (lv_sub hl [0, 1] rfl)
def M_sheet_33  (σ : Sg) (x1 : Int32) (x2 : Int32) (x3 : Int32) : Option (Int32 × Sg) :=
  if x2 < 0 then (M_sheet_44 σ x1 x2 x3)
  else (if 0 ≤ x3 then (M_sheet_44 σ x1 x2 x3)
  else (some ((-14 : Int32), σ)))
set_option maxRecDepth 100000 in
theorem kM_sheet_33 {p : Program} {l : Launch} {e : Env} {s : State} {m : MethodId} {args : Array Value} {below : List Frame} {meth : Method} {c : Code} {D : va_G} {cy : Nat → ClassId} {a : Nat → Nat} (X : cx_ cX12_sheet RX12 wsX12_sheet 5 (some .int) 16 a D cy xfM p s m args meth c)  {r0 : Int32} {σ' : Sg}  : ∀ (σ : Sg) (x1 : Int32) (x2 : Int32) (x3 : Int32) (H : Heap) (locs : List Loc) (ls : Array Slot), M_sheet_33 σ x1 x2 x3 = some (r0, σ') → iv_ 16 a D (shM cy a σ) s H locs → lv_has ls 5 [(0, .ref (a 0)), (1, .int x1), (2, .int x2), (3, .int x3)] → W p l e ({ frames := 2, cells := 0, slots := 0, locals := 45 }) s m args below meth c H locs 0 0 (MQ below (qg_ 16 a D (shM cy a σ') (some (.int r0)) s.heap.size) args s 0 0 (fr_ 16 a s.heap.size)) (F0 m 33 ls []) := by
  obtain ⟨hx, hb, hr, hml, hown, hts, hlk, hK, hA, hXf⟩ := id X
  intro σ x1 x2 x3 H locs ls h I hl
  unfold M_sheet_33 at h
  refine lv_iload_n hx hb dX12_sheet_33 rfl (lv_at hl 2 rfl) ?_
  refine lv_if_lt (tgt := 44) hx hb dX12_sheet_34 (by decide) (fun c_1 => ?_) (fun c_1 => ?_)
  · have h := if_t h c_1
    exact kM_sheet_44 X  σ x1 x2 x3 H locs ls h I (lv_sub hl [0, 1, 2, 3] rfl)
  · have h := if_f h c_1
    refine lv_iload_n hx hb dX12_sheet_37 rfl (lv_at hl 3 rfl) ?_
    refine lv_if_ge (tgt := 44) hx hb dX12_sheet_38 (by decide) (fun c_2 => ?_) (fun c_2 => ?_)
    · have h := if_t h c_2
      exact kM_sheet_44 X  σ x1 x2 x3 H locs ls h I (lv_sub hl [0, 1, 2, 3] rfl)
    · have h := if_f h c_2
      refine lv_bipush (v := (-14)) hx hb dX12_sheet_41 (by decide) ?_
      obtain ⟨rfl, rfl⟩ := re_s h
      exact rti_ X I dX12_sheet_43
def M_sheet_0  (σ : Sg) (x1 : Int32) (x2 : Int32) (x3 : Int32) : Option (Int32 × Sg) :=
  bp_ (M_isSheet_0 x1) fun r_2 =>
  if r_2 = 0 then (some ((-1 : Int32), σ))
  else (bp_ (M_isIn_0 (x2).toInt64 (-1 : Int64) (3 : Int64)) fun r_5 =>
  if r_5 = 0 then (some ((-1 : Int32), σ))
  else (if x2 < 0 then (M_sheet_33 σ x1 x2 x3)
  else (if x3 ≤ (40 : Int32) then (M_sheet_33 σ x1 x2 x3)
  else (some ((-1 : Int32), σ)))))
set_option maxRecDepth 100000 in
theorem kM_sheet_0 {p : Program} {l : Launch} {e : Env} {s : State} {m : MethodId} {args : Array Value} {below : List Frame} {meth : Method} {c : Code} {D : va_G} {cy : Nat → ClassId} {a : Nat → Nat} (X : cx_ cX12_sheet RX12 wsX12_sheet 5 (some .int) 16 a D cy xfM p s m args meth c)  {r0 : Int32} {σ' : Sg}  : ∀ (σ : Sg) (x1 : Int32) (x2 : Int32) (x3 : Int32) (H : Heap) (locs : List Loc) (ls : Array Slot), M_sheet_0 σ x1 x2 x3 = some (r0, σ') → iv_ 16 a D (shM cy a σ) s H locs → lv_has ls 5 [(0, .ref (a 0)), (1, .int x1), (2, .int x2), (3, .int x3)] → W p l e ({ frames := 2, cells := 0, slots := 0, locals := 45 }) s m args below meth c H locs 0 0 (MQ below (qg_ 16 a D (shM cy a σ') (some (.int r0)) s.heap.size) args s 0 0 (fr_ 16 a s.heap.size)) (F0 m 0 ls []) := by
  obtain ⟨hx, hb, hr, hml, hown, hts, hlk, hK, hA, hXf⟩ := id X
  intro σ x1 x2 x3 H locs ls h I hl
  unfold M_sheet_0 at h
  refine lv_iload_n hx hb dX12_sheet_0 rfl (lv_at hl 1 rfl) ?_
  obtain ⟨r_2, hc_1, h⟩ := bp_of h
  refine cp_ (rP_ (nn := 1) (As := [.int x1]) (rest := []) ⟨hx, hb, hml, hown, hts⟩ (c_M_isSheet hc_1) gX12_sheet_X12_isSheet rfl ⟨rfl, rfl⟩ (by decide +kernel) ⟨Nat.le_of_ble_eq_true rfl, Nat.le_of_ble_eq_true rfl⟩ rfl hl.1 rfl (Nat.le_of_ble_eq_true rfl) dX12_sheet_1 ⟨Nat.zero_le _, Nat.zero_le _⟩) ?_
  refine lv_if_eq (tgt := 31) hx hb dX12_sheet_4 (by decide) (fun c_3 => ?_) (fun c_3 => ?_)
  · have h := if_t h c_3
    refine lv_iconst (v := (-1)) hx hb dX12_sheet_31 (by decide) ?_
    obtain ⟨rfl, rfl⟩ := re_s h
    exact rti_ X I dX12_sheet_32
  · have h := if_f h c_3
    refine lv_iload_n hx hb dX12_sheet_7 rfl (lv_at hl 2 rfl) ?_
    refine lv_i2l hx hb dX12_sheet_8 rfl ?_
    refine lv_ldc2 (v := -1) hx hb hown (hts (.constantLong RX12 269 (-1)) (by decide +kernel)) dX12_sheet_9 ?_
    refine lv_ldc2 (v := 3) hx hb hown (hts (.constantLong RX12 161 (3)) (by decide +kernel)) dX12_sheet_12 ?_
    obtain ⟨r_5, hc_4, h⟩ := bp_of h
    refine cp_ (rP_ (nn := 3) (As := [.long (x2).toInt64, .long (-1 : Int64), .long (3 : Int64)]) (rest := []) ⟨hx, hb, hml, hown, hts⟩ (c_M_isIn hc_4) gX12_sheet_X12_isIn rfl ⟨rfl, rfl⟩ (by decide +kernel) ⟨Nat.le_of_ble_eq_true rfl, Nat.le_of_ble_eq_true rfl⟩ rfl hl.1 rfl (Nat.le_of_ble_eq_true rfl) dX12_sheet_15 ⟨Nat.zero_le _, Nat.zero_le _⟩) ?_
    refine lv_if_eq (tgt := 31) hx hb dX12_sheet_18 (by decide) (fun c_6 => ?_) (fun c_6 => ?_)
    · have h := if_t h c_6
      refine lv_iconst (v := (-1)) hx hb dX12_sheet_31 (by decide) ?_
      obtain ⟨rfl, rfl⟩ := re_s h
      exact rti_ X I dX12_sheet_32
    · have h := if_f h c_6
      refine lv_iload_n hx hb dX12_sheet_21 rfl (lv_at hl 2 rfl) ?_
      refine lv_if_lt (tgt := 33) hx hb dX12_sheet_22 (by decide) (fun c_7 => ?_) (fun c_7 => ?_)
      · have h := if_t h c_7
        exact kM_sheet_33 X  σ x1 x2 x3 H locs ls h I (lv_sub hl [0, 1, 2, 3] rfl)
      · have h := if_f h c_7
        refine lv_iload_n hx hb dX12_sheet_25 rfl (lv_at hl 3 rfl) ?_
        refine lv_bipush (v := 40) hx hb dX12_sheet_26 (by decide) ?_
        refine lv_icmp_le (tgt := 33) hx hb dX12_sheet_28 (by decide) (fun c_8 => ?_) (fun c_8 => ?_)
        · have h := if_t h c_8
          exact kM_sheet_33 X  σ x1 x2 x3 H locs ls h I (lv_sub hl [0, 1, 2, 3] rfl)
        · have h := if_f h c_8
          refine lv_iconst (v := (-1)) hx hb dX12_sheet_31 (by decide) ?_
          obtain ⟨rfl, rfl⟩ := re_s h
          exact rti_ X I dX12_sheet_32
theorem c_M_sheet {l : Launch} {D : va_G} {cy : Nat → ClassId} {a : Nat → Nat} {σ : Sg} {x1 : Int32} {x2 : Int32} {x3 : Int32} {r0 : Int32} {σ' : Sg} (h : M_sheet_0 σ x1 x2 x3 = some (r0, σ')) (sz : Nat) : Met l yX12_sheet wsX12_sheet ({ frames := 2, cells := 0, slots := 0, locals := 45 }) (va_Pc [.ref (a 0), .int x1, .int x2, .int x3] (pr_ 16 a D cy (shM cy a σ) xfM sz)) (qg_ 16 a D (shM cy a σ') (some (.int r0)) sz) 0 0 (fr_ 16 a sz) := by
  refine ent_ (by decide) rfl (Nat.le_of_ble_eq_true rfl) ?_
  intro p e s m below meth c ls hsz X I hl
  subst hsz
  exact kM_sheet_0 X σ x1 x2 x3 s.heap [] ls h I hl

def M_put_82  (σ : Sg) (t2 : Int32) (t1 : Int32) : Option (Int32 × Sg) :=
  gd_ (in_ t1 160) (
  lt_ (wr_ σ 11 t1.toNatClampNeg t2) fun σ_2 =>
  some ((1 : Int32), σ_2))
set_option maxRecDepth 100000 in
theorem kM_put_82 {p : Program} {l : Launch} {e : Env} {s : State} {m : MethodId} {args : Array Value} {below : List Frame} {meth : Method} {c : Code} {D : va_G} {cy : Nat → ClassId} {a : Nat → Nat} (X : cx_ cX12_put RX12 wsX12_put 4 (some .int) 16 a D cy xfM p s m args meth c)  {r0 : Int32} {σ' : Sg}  : ∀ (σ : Sg) (t2 : Int32) (t1 : Int32) (H : Heap) (locs : List Loc) (ls : Array Slot), M_put_82 σ t2 t1 = some (r0, σ') → iv_ 16 a D (shM cy a σ) s H locs → lv_has ls 4 [] → W p l e ({ frames := 2, cells := 0, slots := 0, locals := 45 }) s m args below meth c H locs 0 0 (MQ below (qg_ 16 a D (shM cy a σ') (some (.int r0)) s.heap.size) args s 0 0 (fr_ 16 a s.heap.size)) (F0 m 82 ls [.int t2, .int t1, .ref (a 11)]) := by
  obtain ⟨hx, hb, hr, hml, hown, hts, hlk, hK, hA, hXf⟩ := id X
  intro σ t2 t1 H locs ls h I hl
  unfold M_put_82 at h
  obtain ⟨g_1, h⟩ := gd_of h
  refine is_ (σ2 := wr_ σ 11 t1.toNatClampNeg t2) X I 11 (by decide) shM_11 (in_of g_1) shM_st_11 dX12_put_82 (fun σ_2 H locs e_3 I => ?_)
  have h := lt_at h e_3
  refine lv_iconst (v := 1) hx hb dX12_put_83 (by decide) ?_
  obtain ⟨rfl, rfl⟩ := re_s h
  exact rti_ X I dX12_put_84
def M_put_0  (σ : Sg) (x1 : Int32) (x2 : Int32) (x3 : Int32) : Option (Int32 × Sg) :=
  bp_ (M_isSheet_0 x1) fun r_2 =>
  if r_2 = 0 then (some ((-1 : Int32), σ))
  else (gd_ (in_ x1 4) (
  if 0 ≤ (rd_ σ 9 x1.toNatClampNeg) then (gd_ (in_ x1 4) (
  bp_ (M_isIn_0 (x2).toInt64 (0 : Int64) ((rd_ σ 10 x1.toNatClampNeg) - (1 : Int32)).toInt64) fun r_8 =>
  if r_8 = 0 then (some ((-12 : Int32), σ))
  else (gd_ (in_ x1 4) (
  if (rd_ σ 9 x1.toNatClampNeg) = 0 then (M_put_82 σ x3.toInt8.toInt32 (((40 : Int32) * x1) + x2))
  else (gd_ (in_ x1 4) (
  if (rd_ σ 9 x1.toNatClampNeg) = (1 : Int32) then (M_put_82 σ x3.toInt16.toInt32 (((40 : Int32) * x1) + x2))
  else (M_put_82 σ x3 (((40 : Int32) * x1) + x2))))))))
  else (some ((-11 : Int32), σ))))
set_option maxRecDepth 100000 in
theorem kM_put_0 {p : Program} {l : Launch} {e : Env} {s : State} {m : MethodId} {args : Array Value} {below : List Frame} {meth : Method} {c : Code} {D : va_G} {cy : Nat → ClassId} {a : Nat → Nat} (X : cx_ cX12_put RX12 wsX12_put 4 (some .int) 16 a D cy xfM p s m args meth c)  {r0 : Int32} {σ' : Sg}  : ∀ (σ : Sg) (x1 : Int32) (x2 : Int32) (x3 : Int32) (H : Heap) (locs : List Loc) (ls : Array Slot), M_put_0 σ x1 x2 x3 = some (r0, σ') → iv_ 16 a D (shM cy a σ) s H locs → lv_has ls 4 [(0, .ref (a 0)), (1, .int x1), (2, .int x2), (3, .int x3)] → W p l e ({ frames := 2, cells := 0, slots := 0, locals := 45 }) s m args below meth c H locs 0 0 (MQ below (qg_ 16 a D (shM cy a σ') (some (.int r0)) s.heap.size) args s 0 0 (fr_ 16 a s.heap.size)) (F0 m 0 ls []) := by
  obtain ⟨hx, hb, hr, hml, hown, hts, hlk, hK, hA, hXf⟩ := id X
  intro σ x1 x2 x3 H locs ls h I hl
  unfold M_put_0 at h
  refine lv_iload_n hx hb dX12_put_0 rfl (lv_at hl 1 rfl) ?_
  obtain ⟨r_2, hc_1, h⟩ := bp_of h
  refine cp_ (rP_ (nn := 1) (As := [.int x1]) (rest := []) ⟨hx, hb, hml, hown, hts⟩ (c_M_isSheet hc_1) gX12_put_X12_isSheet rfl ⟨rfl, rfl⟩ (by decide +kernel) ⟨Nat.le_of_ble_eq_true rfl, Nat.le_of_ble_eq_true rfl⟩ rfl hl.1 rfl (Nat.le_of_ble_eq_true rfl) dX12_put_1 ⟨Nat.zero_le _, Nat.zero_le _⟩) ?_
  refine lv_if_ne (tgt := 9) hx hb dX12_put_4 (by decide) (fun c_3 => ?_) (fun c_3 => ?_)
  · have h := if_f h c_3
    refine lv_aload_n hx hb dX12_put_9 rfl (lv_at hl 0 rfl) ?_
    refine ig_ (index := 34) X I (fun _ q => List.mem_cons_of_mem _ (List.mem_append_right _ q)) 0 (by decide) shM_0 rfl 16 (by decide) (by decide +kernel) rfl (v := .ref (a 9)) rfl dX12_put_10 ?_
    refine lv_iload_n hx hb dX12_put_13 rfl (lv_at hl 1 rfl) ?_
    obtain ⟨g_4, h⟩ := gd_of h
    refine ia_ X I 9 (by decide) shM_9 (in_of g_4) (v0 := rd_ σ 9 x1.toNatClampNeg) rfl dX12_put_14 ?_
    refine lv_if_ge (tgt := 21) hx hb dX12_put_15 (by decide) (fun c_5 => ?_) (fun c_5 => ?_)
    · have h := if_t h c_5
      refine lv_iload_n hx hb dX12_put_21 rfl (lv_at hl 2 rfl) ?_
      refine lv_i2l hx hb dX12_put_22 rfl ?_
      refine lv_lconst (v := 0) hx hb dX12_put_23 (by decide) ?_
      refine lv_aload_n hx hb dX12_put_24 rfl (lv_at hl 0 rfl) ?_
      refine ig_ (index := 37) X I (fun _ q => List.mem_cons_of_mem _ (List.mem_append_right _ q)) 0 (by decide) shM_0 rfl 17 (by decide) (by decide +kernel) rfl (v := .ref (a 10)) rfl dX12_put_25 ?_
      refine lv_iload_n hx hb dX12_put_28 rfl (lv_at hl 1 rfl) ?_
      obtain ⟨g_6, h⟩ := gd_of h
      refine ia_ X I 10 (by decide) shM_10 (in_of g_6) (v0 := rd_ σ 10 x1.toNatClampNeg) rfl dX12_put_29 ?_
      refine lv_iconst (v := 1) hx hb dX12_put_30 (by decide) ?_
      refine lv_isub hx hb dX12_put_31 ?_
      refine lv_i2l hx hb dX12_put_32 rfl ?_
      obtain ⟨r_8, hc_7, h⟩ := bp_of h
      refine cp_ (rP_ (nn := 3) (As := [.long (x2).toInt64, .long (0 : Int64), .long ((rd_ σ 10 x1.toNatClampNeg) - (1 : Int32)).toInt64]) (rest := []) ⟨hx, hb, hml, hown, hts⟩ (c_M_isIn hc_7) gX12_put_X12_isIn rfl ⟨rfl, rfl⟩ (by decide +kernel) ⟨Nat.le_of_ble_eq_true rfl, Nat.le_of_ble_eq_true rfl⟩ rfl hl.1 rfl (Nat.le_of_ble_eq_true rfl) dX12_put_33 ⟨Nat.zero_le _, Nat.zero_le _⟩) ?_
      refine lv_if_ne (tgt := 42) hx hb dX12_put_36 (by decide) (fun c_9 => ?_) (fun c_9 => ?_)
      · have h := if_f h c_9
        refine lv_aload_n hx hb dX12_put_42 rfl (lv_at hl 0 rfl) ?_
        refine ig_ (index := 40) X I (fun _ q => List.mem_cons_of_mem _ (List.mem_append_right _ q)) 0 (by decide) shM_0 rfl 18 (by decide) (by decide +kernel) rfl (v := .ref (a 11)) rfl dX12_put_43 ?_
        refine lv_bipush (v := 40) hx hb dX12_put_46 (by decide) ?_
        refine lv_iload_n hx hb dX12_put_48 rfl (lv_at hl 1 rfl) ?_
        refine lv_imul hx hb dX12_put_49 ?_
        refine lv_iload_n hx hb dX12_put_50 rfl (lv_at hl 2 rfl) ?_
        refine lv_iadd hx hb dX12_put_51 ?_
        refine lv_aload_n hx hb dX12_put_52 rfl (lv_at hl 0 rfl) ?_
        refine ig_ (index := 34) X I (fun _ q => List.mem_cons_of_mem _ (List.mem_append_right _ q)) 0 (by decide) shM_0 rfl 16 (by decide) (by decide +kernel) rfl (v := .ref (a 9)) rfl dX12_put_53 ?_
        refine lv_iload_n hx hb dX12_put_56 rfl (lv_at hl 1 rfl) ?_
        obtain ⟨g_10, h⟩ := gd_of h
        refine ia_ X I 9 (by decide) shM_9 (in_of g_10) (v0 := rd_ σ 9 x1.toNatClampNeg) rfl dX12_put_57 ?_
        refine lv_if_ne (tgt := 66) hx hb dX12_put_58 (by decide) (fun c_11 => ?_) (fun c_11 => ?_)
        · have h := if_f h c_11
          refine lv_aload_n hx hb dX12_put_66 rfl (lv_at hl 0 rfl) ?_
          refine ig_ (index := 34) X I (fun _ q => List.mem_cons_of_mem _ (List.mem_append_right _ q)) 0 (by decide) shM_0 rfl 16 (by decide) (by decide +kernel) rfl (v := .ref (a 9)) rfl dX12_put_67 ?_
          refine lv_iload_n hx hb dX12_put_70 rfl (lv_at hl 1 rfl) ?_
          obtain ⟨g_12, h⟩ := gd_of h
          refine ia_ X I 9 (by decide) shM_9 (in_of g_12) (v0 := rd_ σ 9 x1.toNatClampNeg) rfl dX12_put_71 ?_
          refine lv_iconst (v := 1) hx hb dX12_put_72 (by decide) ?_
          refine lv_icmp_ne (tgt := 81) hx hb dX12_put_73 (by decide) (fun c_13 => ?_) (fun c_13 => ?_)
          · have h := if_f h c_13
            refine lv_iload_n hx hb dX12_put_81 rfl (lv_at hl 3 rfl) ?_
            exact kM_put_82 X  σ x3 (((40 : Int32) * x1) + x2) H locs ls h I (lv_sub hl [] rfl)
          · have h := if_t h c_13
            refine lv_iload_n hx hb dX12_put_76 rfl (lv_at hl 3 rfl) ?_
            refine lv_i2s hx hb dX12_put_77 rfl ?_
            refine lv_goto (tgt := 82) hx hb dX12_put_78 (by decide) ?_
            exact kM_put_82 X  σ x3.toInt16.toInt32 (((40 : Int32) * x1) + x2) H locs ls h I (lv_sub hl [] rfl)
        · have h := if_t h c_11
          refine lv_iload_n hx hb dX12_put_61 rfl (lv_at hl 3 rfl) ?_
          refine lv_i2b hx hb dX12_put_62 rfl ?_
          refine lv_goto (tgt := 82) hx hb dX12_put_63 (by decide) ?_
          exact kM_put_82 X  σ x3.toInt8.toInt32 (((40 : Int32) * x1) + x2) H locs ls h I (lv_sub hl [] rfl)
      · have h := if_t h c_9
        refine lv_bipush (v := (-12)) hx hb dX12_put_39 (by decide) ?_
        obtain ⟨rfl, rfl⟩ := re_s h
        exact rti_ X I dX12_put_41
    · have h := if_f h c_5
      refine lv_bipush (v := (-11)) hx hb dX12_put_18 (by decide) ?_
      obtain ⟨rfl, rfl⟩ := re_s h
      exact rti_ X I dX12_put_20
  · have h := if_t h c_3
    refine lv_iconst (v := (-1)) hx hb dX12_put_7 (by decide) ?_
    obtain ⟨rfl, rfl⟩ := re_s h
    exact rti_ X I dX12_put_8
theorem c_M_put {l : Launch} {D : va_G} {cy : Nat → ClassId} {a : Nat → Nat} {σ : Sg} {x1 : Int32} {x2 : Int32} {x3 : Int32} {r0 : Int32} {σ' : Sg} (h : M_put_0 σ x1 x2 x3 = some (r0, σ')) (sz : Nat) : Met l yX12_put wsX12_put ({ frames := 2, cells := 0, slots := 0, locals := 45 }) (va_Pc [.ref (a 0), .int x1, .int x2, .int x3] (pr_ 16 a D cy (shM cy a σ) xfM sz)) (qg_ 16 a D (shM cy a σ') (some (.int r0)) sz) 0 0 (fr_ 16 a sz) := by
  refine ent_ (by decide) rfl (Nat.le_of_ble_eq_true rfl) ?_
  intro p e s m below meth c ls hsz X I hl
  subst hsz
  exact kM_put_0 X σ x1 x2 x3 s.heap [] ls h I hl

def M_item_0  (σ : Sg) (x1 : Int32) (x2 : Int32) (x3 : Int32) : Option (Int32 × Sg) :=
  bp_ (M_isSheet_0 x1) fun r_2 =>
  if r_2 = 0 then (some ((-1 : Int32), σ))
  else (bp_ (M_isIn_0 (x2).toInt64 (0 : Int64) (3 : Int64)) fun r_5 =>
  if r_5 = 0 then (some ((-1 : Int32), σ))
  else (bi_ (M_lacks_0 σ x1 x2) fun r_9 σ_8 =>
  if r_9 = 0 then (gd_ (in_ x1 4) (
  bp_ (M_isIn_0 (x3).toInt64 (0 : Int64) ((rd_ σ_8 10 x1.toNatClampNeg) - (1 : Int32)).toInt64) fun r_13 =>
  if r_13 = 0 then (some ((-12 : Int32), σ_8))
  else (lt_ ((((40 : Int32) * x1) + x3)) fun y_15 =>
  gd_ (in_ y_15 160) (
  some ((rd_ σ_8 11 y_15.toNatClampNeg), σ_8)))))
  else (bi_ (M_lacks_0 σ_8 x1 x2) fun r_20 σ_19 =>
  some (r_20, σ_19))))
set_option maxRecDepth 100000 in
theorem kM_item_0 {p : Program} {l : Launch} {e : Env} {s : State} {m : MethodId} {args : Array Value} {below : List Frame} {meth : Method} {c : Code} {D : va_G} {cy : Nat → ClassId} {a : Nat → Nat} (X : cx_ cX12_item RX12 wsX12_item 4 (some .int) 16 a D cy xfM p s m args meth c)  {r0 : Int32} {σ' : Sg}  : ∀ (σ : Sg) (x1 : Int32) (x2 : Int32) (x3 : Int32) (H : Heap) (locs : List Loc) (ls : Array Slot), M_item_0 σ x1 x2 x3 = some (r0, σ') → iv_ 16 a D (shM cy a σ) s H locs → lv_has ls 4 [(0, .ref (a 0)), (1, .int x1), (2, .int x2), (3, .int x3)] → W p l e ({ frames := 2, cells := 0, slots := 0, locals := 45 }) s m args below meth c H locs 0 0 (MQ below (qg_ 16 a D (shM cy a σ') (some (.int r0)) s.heap.size) args s 0 0 (fr_ 16 a s.heap.size)) (F0 m 0 ls []) := by
  obtain ⟨hx, hb, hr, hml, hown, hts, hlk, hK, hA, hXf⟩ := id X
  intro σ x1 x2 x3 H locs ls h I hl
  unfold M_item_0 at h
  refine lv_iload_n hx hb dX12_item_0 rfl (lv_at hl 1 rfl) ?_
  obtain ⟨r_2, hc_1, h⟩ := bp_of h
  refine cp_ (rP_ (nn := 1) (As := [.int x1]) (rest := []) ⟨hx, hb, hml, hown, hts⟩ (c_M_isSheet hc_1) gX12_item_X12_isSheet rfl ⟨rfl, rfl⟩ (by decide +kernel) ⟨Nat.le_of_ble_eq_true rfl, Nat.le_of_ble_eq_true rfl⟩ rfl hl.1 rfl (Nat.le_of_ble_eq_true rfl) dX12_item_1 ⟨Nat.zero_le _, Nat.zero_le _⟩) ?_
  refine lv_if_eq (tgt := 19) hx hb dX12_item_4 (by decide) (fun c_3 => ?_) (fun c_3 => ?_)
  · have h := if_t h c_3
    refine lv_iconst (v := (-1)) hx hb dX12_item_19 (by decide) ?_
    obtain ⟨rfl, rfl⟩ := re_s h
    exact rti_ X I dX12_item_20
  · have h := if_f h c_3
    refine lv_iload_n hx hb dX12_item_7 rfl (lv_at hl 2 rfl) ?_
    refine lv_i2l hx hb dX12_item_8 rfl ?_
    refine lv_lconst (v := 0) hx hb dX12_item_9 (by decide) ?_
    refine lv_ldc2 (v := 3) hx hb hown (hts (.constantLong RX12 161 (3)) (by decide +kernel)) dX12_item_10 ?_
    obtain ⟨r_5, hc_4, h⟩ := bp_of h
    refine cp_ (rP_ (nn := 3) (As := [.long (x2).toInt64, .long (0 : Int64), .long (3 : Int64)]) (rest := []) ⟨hx, hb, hml, hown, hts⟩ (c_M_isIn hc_4) gX12_item_X12_isIn rfl ⟨rfl, rfl⟩ (by decide +kernel) ⟨Nat.le_of_ble_eq_true rfl, Nat.le_of_ble_eq_true rfl⟩ rfl hl.1 rfl (Nat.le_of_ble_eq_true rfl) dX12_item_13 ⟨Nat.zero_le _, Nat.zero_le _⟩) ?_
    refine lv_if_ne (tgt := 21) hx hb dX12_item_16 (by decide) (fun c_6 => ?_) (fun c_6 => ?_)
    · have h := if_f h c_6
      refine lv_aload_n hx hb dX12_item_21 rfl (lv_at hl 0 rfl) ?_
      refine lv_iload_n hx hb dX12_item_22 rfl (lv_at hl 1 rfl) ?_
      refine lv_iload_n hx hb dX12_item_23 rfl (lv_at hl 2 rfl) ?_
      obtain ⟨r_9, σ_8, hc_7, h⟩ := bi_of h
      refine cg_ (rV_ (nn := 2) (As := [.int x1, .int x2]) (rest := []) X xkM I (c_M_lacks hc_7 H.size) gX12_item_X12_lacks rfl ⟨rfl, rfl⟩ (by decide +kernel) ⟨Nat.le_of_ble_eq_true rfl, Nat.le_of_ble_eq_true rfl⟩ (by decide) shM_0 rfl rfl hl.1 rfl (Nat.le_of_ble_eq_true rfl) dX12_item_24) I (fun H locs I => ?_)
      refine lv_if_eq (tgt := 37) hx hb dX12_item_27 (by decide) (fun c_10 => ?_) (fun c_10 => ?_)
      · have h := if_t h c_10
        refine lv_iload_n hx hb dX12_item_37 rfl (lv_at hl 3 rfl) ?_
        refine lv_i2l hx hb dX12_item_38 rfl ?_
        refine lv_lconst (v := 0) hx hb dX12_item_39 (by decide) ?_
        refine lv_aload_n hx hb dX12_item_40 rfl (lv_at hl 0 rfl) ?_
        refine ig_ (index := 37) X I (fun _ q => List.mem_cons_of_mem _ (List.mem_append_right _ q)) 0 (by decide) shM_0 rfl 17 (by decide) (by decide +kernel) rfl (v := .ref (a 10)) rfl dX12_item_41 ?_
        refine lv_iload_n hx hb dX12_item_44 rfl (lv_at hl 1 rfl) ?_
        obtain ⟨g_11, h⟩ := gd_of h
        refine ia_ X I 10 (by decide) shM_10 (in_of g_11) (v0 := rd_ σ_8 10 x1.toNatClampNeg) rfl dX12_item_45 ?_
        refine lv_iconst (v := 1) hx hb dX12_item_46 (by decide) ?_
        refine lv_isub hx hb dX12_item_47 ?_
        refine lv_i2l hx hb dX12_item_48 rfl ?_
        obtain ⟨r_13, hc_12, h⟩ := bp_of h
        refine cp_ (rP_ (nn := 3) (As := [.long (x3).toInt64, .long (0 : Int64), .long ((rd_ σ_8 10 x1.toNatClampNeg) - (1 : Int32)).toInt64]) (rest := []) ⟨hx, hb, hml, hown, hts⟩ (c_M_isIn hc_12) gX12_item_X12_isIn rfl ⟨rfl, rfl⟩ (by decide +kernel) ⟨Nat.le_of_ble_eq_true rfl, Nat.le_of_ble_eq_true rfl⟩ rfl hl.1 rfl (Nat.le_of_ble_eq_true rfl) dX12_item_49 ⟨Nat.zero_le _, Nat.zero_le _⟩) ?_
        refine lv_if_eq (tgt := 69) hx hb dX12_item_52 (by decide) (fun c_14 => ?_) (fun c_14 => ?_)
        · have h := if_t h c_14
          refine lv_bipush (v := (-12)) hx hb dX12_item_69 (by decide) ?_
          obtain ⟨rfl, rfl⟩ := re_s h
          exact rti_ X I dX12_item_71
        · have h := if_f h c_14
          refine lv_aload_n hx hb dX12_item_55 rfl (lv_at hl 0 rfl) ?_
          refine ig_ (index := 40) X I (fun _ q => List.mem_cons_of_mem _ (List.mem_append_right _ q)) 0 (by decide) shM_0 rfl 18 (by decide) (by decide +kernel) rfl (v := .ref (a 11)) rfl dX12_item_56 ?_
          refine lv_bipush (v := 40) hx hb dX12_item_59 (by decide) ?_
          refine lv_iload_n hx hb dX12_item_61 rfl (lv_at hl 1 rfl) ?_
          refine lv_imul hx hb dX12_item_62 ?_
          refine lv_iload_n hx hb dX12_item_63 rfl (lv_at hl 3 rfl) ?_
          refine lv_iadd hx hb dX12_item_64 ?_
          refine lv_topi (fun y_15 e_16 => ?_)
          have h := lt_at h e_16
          obtain ⟨g_17, h⟩ := gd_of h
          refine ia_ X I 11 (by decide) shM_11 (in_of g_17) (v0 := rd_ σ_8 11 y_15.toNatClampNeg) rfl dX12_item_65 ?_
          refine lv_goto (tgt := 71) hx hb dX12_item_66 (by decide) ?_
          obtain ⟨rfl, rfl⟩ := re_s h
          exact rti_ X I dX12_item_71
      · have h := if_f h c_10
        refine lv_aload_n hx hb dX12_item_30 rfl (lv_at hl 0 rfl) ?_
        refine lv_iload_n hx hb dX12_item_31 rfl (lv_at hl 1 rfl) ?_
        refine lv_iload_n hx hb dX12_item_32 rfl (lv_at hl 2 rfl) ?_
        obtain ⟨r_20, σ_19, hc_18, h⟩ := bi_of h
        refine cg_ (rV_ (nn := 2) (As := [.int x1, .int x2]) (rest := []) X xkM I (c_M_lacks hc_18 H.size) gX12_item_X12_lacks rfl ⟨rfl, rfl⟩ (by decide +kernel) ⟨Nat.le_of_ble_eq_true rfl, Nat.le_of_ble_eq_true rfl⟩ (by decide) shM_0 rfl rfl hl.1 rfl (Nat.le_of_ble_eq_true rfl) dX12_item_33) I (fun H locs I => ?_)
        obtain ⟨rfl, rfl⟩ := re_s h
        exact rti_ X I dX12_item_36
    · have h := if_t h c_6
      refine lv_iconst (v := (-1)) hx hb dX12_item_19 (by decide) ?_
      obtain ⟨rfl, rfl⟩ := re_s h
      exact rti_ X I dX12_item_20
theorem c_M_item {l : Launch} {D : va_G} {cy : Nat → ClassId} {a : Nat → Nat} {σ : Sg} {x1 : Int32} {x2 : Int32} {x3 : Int32} {r0 : Int32} {σ' : Sg} (h : M_item_0 σ x1 x2 x3 = some (r0, σ')) (sz : Nat) : Met l yX12_item wsX12_item ({ frames := 2, cells := 0, slots := 0, locals := 45 }) (va_Pc [.ref (a 0), .int x1, .int x2, .int x3] (pr_ 16 a D cy (shM cy a σ) xfM sz)) (qg_ 16 a D (shM cy a σ') (some (.int r0)) sz) 0 0 (fr_ 16 a sz) := by
  refine ent_ (by decide) rfl (Nat.le_of_ble_eq_true rfl) ?_
  intro p e s m below meth c ls hsz X I hl
  subst hsz
  exact kM_item_0 X σ x1 x2 x3 s.heap [] ls h I hl

def M_isShelf_0  (x0 : Int32) : Option Int32 :=
  bp_ (M_isIn_0 (x0).toInt64 (0 : Int64) (3 : Int64)) fun r_2 =>
  gd_ (bo_ r_2) (some (r_2))
set_option maxRecDepth 100000 in
theorem kM_isShelf_0 {p : Program} {l : Launch} {e : Env} {s : State} {m : MethodId} {args : Array Value} {below : List Frame} {meth : Method} {c : Code} (X : px_ cX12_isShelf RX12 wsX12_isShelf 1 (some .boolean) p s m args meth c)  {r0 : Int32}  : ∀ (x0 : Int32) (ls : Array Slot), M_isShelf_0 x0 = some r0 → lv_has ls 1 [(0, .int x0)] → W p l e ({ frames := 1, cells := 0, slots := 0, locals := 25 }) s m args below meth c s.heap [] 0 0 (MQ below (qp_ (some (.int r0))) args s 0 0 (fun _ => False)) (F0 m 0 ls []) := by
  obtain ⟨hx, hb, hr, hml, hown, hts, hlk⟩ := id X
  intro x0 ls h hl
  unfold M_isShelf_0 at h
  refine lv_iload_n hx hb dX12_isShelf_0 rfl (lv_at hl 0 rfl) ?_
  refine lv_i2l hx hb dX12_isShelf_1 rfl ?_
  refine lv_lconst (v := 0) hx hb dX12_isShelf_2 (by decide) ?_
  refine lv_ldc2 (v := 3) hx hb hown (hts (.constantLong RX12 161 (3)) (by decide +kernel)) dX12_isShelf_3 ?_
  obtain ⟨r_2, hc_1, h⟩ := bp_of h
  refine cp_ (rP_ (nn := 3) (As := [.long (x0).toInt64, .long (0 : Int64), .long (3 : Int64)]) (rest := []) ⟨hx, hb, hml, hown, hts⟩ (c_M_isIn hc_1) gX12_isShelf_X12_isIn rfl ⟨rfl, rfl⟩ (by decide +kernel) ⟨Nat.le_of_ble_eq_true rfl, Nat.le_of_ble_eq_true rfl⟩ rfl hl.1 rfl (Nat.le_of_ble_eq_true rfl) dX12_isShelf_6 ⟨Nat.zero_le _, Nat.zero_le _⟩) ?_
  obtain ⟨g_3, h⟩ := gd_of h
  obtain rfl := re_p h
  exact rpz_ X (bo_of g_3).1 dX12_isShelf_9
theorem c_M_isShelf {l : Launch} {x0 : Int32} {r0 : Int32} (h : M_isShelf_0 x0 = some r0) : Met l yX12_isShelf wsX12_isShelf ({ frames := 1, cells := 0, slots := 0, locals := 25 }) (pp_ [.int x0]) (qp_ (some (.int r0))) 0 0 (fun _ => False) := by
  refine enp_ (by decide) rfl (Nat.le_of_ble_eq_true rfl) ?_
  intro p e s m below meth c ls X hl
  exact kM_isShelf_0 X x0 ls h hl

def M_shelf_139  (σ : Sg) (t2 : Int32) (t1 : Int32) : Option (Int32 × Sg) :=
  gd_ (in_ t1 4) (
  lt_ (wr_ σ 14 t1.toNatClampNeg t2) fun σ_2 =>
  some ((1 : Int32), σ_2))
set_option maxRecDepth 100000 in
theorem kM_shelf_139 {p : Program} {l : Launch} {e : Env} {s : State} {m : MethodId} {args : Array Value} {below : List Frame} {meth : Method} {c : Code} {D : va_G} {cy : Nat → ClassId} {a : Nat → Nat} (X : cx_ cX12_shelf RX12 wsX12_shelf 5 (some .int) 16 a D cy xfM p s m args meth c)  {r0 : Int32} {σ' : Sg}  : ∀ (σ : Sg) (t2 : Int32) (t1 : Int32) (H : Heap) (locs : List Loc) (ls : Array Slot), M_shelf_139 σ t2 t1 = some (r0, σ') → iv_ 16 a D (shM cy a σ) s H locs → lv_has ls 5 [] → W p l e ({ frames := 2, cells := 0, slots := 0, locals := 45 }) s m args below meth c H locs 0 0 (MQ below (qg_ 16 a D (shM cy a σ') (some (.int r0)) s.heap.size) args s 0 0 (fr_ 16 a s.heap.size)) (F0 m 139 ls [.int t2, .int t1, .ref (a 14)]) := by
  obtain ⟨hx, hb, hr, hml, hown, hts, hlk, hK, hA, hXf⟩ := id X
  intro σ t2 t1 H locs ls h I hl
  unfold M_shelf_139 at h
  obtain ⟨g_1, h⟩ := gd_of h
  refine is_ (σ2 := wr_ σ 14 t1.toNatClampNeg t2) X I 14 (by decide) shM_14 (in_of g_1) shM_st_14 dX12_shelf_139 (fun σ_2 H locs e_3 I => ?_)
  have h := lt_at h e_3
  refine lv_iconst (v := 1) hx hb dX12_shelf_140 (by decide) ?_
  obtain ⟨rfl, rfl⟩ := re_s h
  exact rti_ X I dX12_shelf_141
def M_shelf_118  (σ : Sg) (x1 : Int32) (x3 : Int32) (x4 : Int32) (t2 : Int32) (t1 : Int32) : Option (Int32 × Sg) :=
  gd_ (in_ t1 4) (
  lt_ (wr_ σ 13 t1.toNatClampNeg t2) fun σ_2 =>
  if x4 = 0 then (M_shelf_139 σ_2 (0 : Int32) x1)
  else (gd_ (in_ x3 4) (
  M_shelf_139 σ_2 (rd_ σ_2 10 x3.toNatClampNeg) x1)))
set_option maxRecDepth 100000 in
theorem kM_shelf_118 {p : Program} {l : Launch} {e : Env} {s : State} {m : MethodId} {args : Array Value} {below : List Frame} {meth : Method} {c : Code} {D : va_G} {cy : Nat → ClassId} {a : Nat → Nat} (X : cx_ cX12_shelf RX12 wsX12_shelf 5 (some .int) 16 a D cy xfM p s m args meth c)  {r0 : Int32} {σ' : Sg}  : ∀ (σ : Sg) (x1 : Int32) (x3 : Int32) (x4 : Int32) (t2 : Int32) (t1 : Int32) (H : Heap) (locs : List Loc) (ls : Array Slot), M_shelf_118 σ x1 x3 x4 t2 t1 = some (r0, σ') → iv_ 16 a D (shM cy a σ) s H locs → lv_has ls 5 [(0, .ref (a 0)), (1, .int x1), (3, .int x3), (4, .int x4)] → W p l e ({ frames := 2, cells := 0, slots := 0, locals := 45 }) s m args below meth c H locs 0 0 (MQ below (qg_ 16 a D (shM cy a σ') (some (.int r0)) s.heap.size) args s 0 0 (fr_ 16 a s.heap.size)) (F0 m 118 ls [.int t2, .int t1, .ref (a 13)]) := by
  obtain ⟨hx, hb, hr, hml, hown, hts, hlk, hK, hA, hXf⟩ := id X
  intro σ x1 x3 x4 t2 t1 H locs ls h I hl
  unfold M_shelf_118 at h
  obtain ⟨g_1, h⟩ := gd_of h
  refine is_ (σ2 := wr_ σ 13 t1.toNatClampNeg t2) X I 13 (by decide) shM_13 (in_of g_1) shM_st_13 dX12_shelf_118 (fun σ_2 H locs e_3 I => ?_)
  have h := lt_at h e_3
  refine lv_aload_n hx hb dX12_shelf_119 rfl (lv_at hl 0 rfl) ?_
  refine ig_ (index := 49) X I (fun _ q => List.mem_cons_of_mem _ (List.mem_append_right _ q)) 0 (by decide) shM_0 rfl 21 (by decide) (by decide +kernel) rfl (v := .ref (a 14)) rfl dX12_shelf_120 ?_
  refine lv_iload_n hx hb dX12_shelf_123 rfl (lv_at hl 1 rfl) ?_
  refine lv_iload hx hb dX12_shelf_124 (lv_at hl 3 rfl) ?_
  refine lv_if_eq (tgt := 138) hx hb dX12_shelf_126 (by decide) (fun c_4 => ?_) (fun c_4 => ?_)
  · have h := if_t h c_4
    refine lv_iconst (v := 0) hx hb dX12_shelf_138 (by decide) ?_
    exact kM_shelf_139 X  σ_2 (0 : Int32) x1 H locs ls h I (lv_sub hl [] rfl)
  · have h := if_f h c_4
    refine lv_aload_n hx hb dX12_shelf_129 rfl (lv_at hl 0 rfl) ?_
    refine ig_ (index := 37) X I (fun _ q => List.mem_cons_of_mem _ (List.mem_append_right _ q)) 0 (by decide) shM_0 rfl 17 (by decide) (by decide +kernel) rfl (v := .ref (a 10)) rfl dX12_shelf_130 ?_
    refine lv_iload_n hx hb dX12_shelf_133 rfl (lv_at hl 2 rfl) ?_
    obtain ⟨g_5, h⟩ := gd_of h
    refine ia_ X I 10 (by decide) shM_10 (in_of g_5) (v0 := rd_ σ_2 10 x3.toNatClampNeg) rfl dX12_shelf_134 ?_
    refine lv_goto (tgt := 139) hx hb dX12_shelf_135 (by decide) ?_
    exact kM_shelf_139 X  σ_2 (rd_ σ_2 10 x3.toNatClampNeg) x1 H locs ls h I (lv_sub hl [] rfl)
def M_shelf_89  (σ : Sg) (x1 : Int32) (x2 : Int32) (x3 : Int32) (x4 : Int32) (t2 : Int32) (t1 : Int32) : Option (Int32 × Sg) :=
  gd_ (in_ t1 4) (
  lt_ (wr_ σ 12 t1.toNatClampNeg t2) fun σ_2 =>
  if x2 = 0 then (M_shelf_118 σ_2 x1 x3 x4 x3 x1)
  else (if x4 = 0 then (M_shelf_118 σ_2 x1 x3 x4 (0 : Int32) x1)
  else (gd_ (in_ x3 4) (
  M_shelf_118 σ_2 x1 x3 x4 (rd_ σ_2 9 x3.toNatClampNeg) x1))))
set_option maxRecDepth 100000 in
theorem kM_shelf_89 {p : Program} {l : Launch} {e : Env} {s : State} {m : MethodId} {args : Array Value} {below : List Frame} {meth : Method} {c : Code} {D : va_G} {cy : Nat → ClassId} {a : Nat → Nat} (X : cx_ cX12_shelf RX12 wsX12_shelf 5 (some .int) 16 a D cy xfM p s m args meth c)  {r0 : Int32} {σ' : Sg}  : ∀ (σ : Sg) (x1 : Int32) (x2 : Int32) (x3 : Int32) (x4 : Int32) (t2 : Int32) (t1 : Int32) (H : Heap) (locs : List Loc) (ls : Array Slot), M_shelf_89 σ x1 x2 x3 x4 t2 t1 = some (r0, σ') → iv_ 16 a D (shM cy a σ) s H locs → lv_has ls 5 [(0, .ref (a 0)), (1, .int x1), (2, .int x2), (3, .int x3), (4, .int x4)] → W p l e ({ frames := 2, cells := 0, slots := 0, locals := 45 }) s m args below meth c H locs 0 0 (MQ below (qg_ 16 a D (shM cy a σ') (some (.int r0)) s.heap.size) args s 0 0 (fr_ 16 a s.heap.size)) (F0 m 89 ls [.int t2, .int t1, .ref (a 12)]) := by
  obtain ⟨hx, hb, hr, hml, hown, hts, hlk, hK, hA, hXf⟩ := id X
  intro σ x1 x2 x3 x4 t2 t1 H locs ls h I hl
  unfold M_shelf_89 at h
  obtain ⟨g_1, h⟩ := gd_of h
  refine is_ (σ2 := wr_ σ 12 t1.toNatClampNeg t2) X I 12 (by decide) shM_12 (in_of g_1) shM_st_12 dX12_shelf_89 (fun σ_2 H locs e_3 I => ?_)
  have h := lt_at h e_3
  refine lv_aload_n hx hb dX12_shelf_90 rfl (lv_at hl 0 rfl) ?_
  refine ig_ (index := 46) X I (fun _ q => List.mem_cons_of_mem _ (List.mem_append_right _ q)) 0 (by decide) shM_0 rfl 20 (by decide) (by decide +kernel) rfl (v := .ref (a 13)) rfl dX12_shelf_91 ?_
  refine lv_iload_n hx hb dX12_shelf_94 rfl (lv_at hl 1 rfl) ?_
  refine lv_iload_n hx hb dX12_shelf_95 rfl (lv_at hl 2 rfl) ?_
  refine lv_if_ne (tgt := 103) hx hb dX12_shelf_96 (by decide) (fun c_4 => ?_) (fun c_4 => ?_)
  · have h := if_f h c_4
    refine lv_iload hx hb dX12_shelf_103 (lv_at hl 4 rfl) ?_
    refine lv_if_eq (tgt := 117) hx hb dX12_shelf_105 (by decide) (fun c_5 => ?_) (fun c_5 => ?_)
    · have h := if_t h c_5
      refine lv_iconst (v := 0) hx hb dX12_shelf_117 (by decide) ?_
      exact kM_shelf_118 X  σ_2 x1 x3 x4 (0 : Int32) x1 H locs ls h I (lv_sub hl [0, 1, 3, 4] rfl)
    · have h := if_f h c_5
      refine lv_aload_n hx hb dX12_shelf_108 rfl (lv_at hl 0 rfl) ?_
      refine ig_ (index := 34) X I (fun _ q => List.mem_cons_of_mem _ (List.mem_append_right _ q)) 0 (by decide) shM_0 rfl 16 (by decide) (by decide +kernel) rfl (v := .ref (a 9)) rfl dX12_shelf_109 ?_
      refine lv_iload_n hx hb dX12_shelf_112 rfl (lv_at hl 3 rfl) ?_
      obtain ⟨g_6, h⟩ := gd_of h
      refine ia_ X I 9 (by decide) shM_9 (in_of g_6) (v0 := rd_ σ_2 9 x3.toNatClampNeg) rfl dX12_shelf_113 ?_
      refine lv_goto (tgt := 118) hx hb dX12_shelf_114 (by decide) ?_
      exact kM_shelf_118 X  σ_2 x1 x3 x4 (rd_ σ_2 9 x3.toNatClampNeg) x1 H locs ls h I (lv_sub hl [0, 1, 3, 4] rfl)
  · have h := if_t h c_4
    refine lv_iload_n hx hb dX12_shelf_99 rfl (lv_at hl 3 rfl) ?_
    refine lv_goto (tgt := 118) hx hb dX12_shelf_100 (by decide) ?_
    exact kM_shelf_118 X  σ_2 x1 x3 x4 x3 x1 H locs ls h I (lv_sub hl [0, 1, 3, 4] rfl)
def M_shelf_64  (σ : Sg) (x1 : Int32) (x2 : Int32) (x3 : Int32) (t0 : Int32) : Option (Int32 × Sg) :=
  if x2 = 0 then (M_shelf_89 σ x1 x2 x3 t0 (1 : Int32) x1)
  else (if t0 = 0 then (M_shelf_89 σ x1 x2 x3 t0 (0 : Int32) x1)
  else (M_shelf_89 σ x1 x2 x3 t0 (2 : Int32) x1))
set_option maxRecDepth 100000 in
theorem kM_shelf_64 {p : Program} {l : Launch} {e : Env} {s : State} {m : MethodId} {args : Array Value} {below : List Frame} {meth : Method} {c : Code} {D : va_G} {cy : Nat → ClassId} {a : Nat → Nat} (X : cx_ cX12_shelf RX12 wsX12_shelf 5 (some .int) 16 a D cy xfM p s m args meth c)  {r0 : Int32} {σ' : Sg}  : ∀ (σ : Sg) (x1 : Int32) (x2 : Int32) (x3 : Int32) (t0 : Int32) (H : Heap) (locs : List Loc) (ls : Array Slot), M_shelf_64 σ x1 x2 x3 t0 = some (r0, σ') → iv_ 16 a D (shM cy a σ) s H locs → lv_has ls 5 [(0, .ref (a 0)), (1, .int x1), (2, .int x2), (3, .int x3)] → W p l e ({ frames := 2, cells := 0, slots := 0, locals := 45 }) s m args below meth c H locs 0 0 (MQ below (qg_ 16 a D (shM cy a σ') (some (.int r0)) s.heap.size) args s 0 0 (fr_ 16 a s.heap.size)) (F0 m 64 ls [.int t0]) := by
  obtain ⟨hx, hb, hr, hml, hown, hts, hlk, hK, hA, hXf⟩ := id X
  intro σ x1 x2 x3 t0 H locs ls h I hl
  unfold M_shelf_64 at h
  refine lv_istore (lv' := [(4, .int t0), (0, .ref (a 0)), (1, .int x1), (2, .int x2), (3, .int x3)]) hx hb dX12_shelf_64 hl (by decide) rfl (fun ls hl => ?_)
  refine lv_aload_n hx hb dX12_shelf_66 rfl (lv_at hl 1 rfl) ?_
  refine ig_ (index := 43) X I (fun _ q => List.mem_cons_of_mem _ (List.mem_append_right _ q)) 0 (by decide) shM_0 rfl 19 (by decide) (by decide +kernel) rfl (v := .ref (a 12)) rfl dX12_shelf_67 ?_
  refine lv_iload_n hx hb dX12_shelf_70 rfl (lv_at hl 2 rfl) ?_
  refine lv_iload_n hx hb dX12_shelf_71 rfl (lv_at hl 3 rfl) ?_
  refine lv_if_ne (tgt := 79) hx hb dX12_shelf_72 (by decide) (fun c_1 => ?_) (fun c_1 => ?_)
  · have h := if_f h c_1
    refine lv_iload hx hb dX12_shelf_79 (lv_at hl 0 rfl) ?_
    refine lv_if_eq (tgt := 88) hx hb dX12_shelf_81 (by decide) (fun c_2 => ?_) (fun c_2 => ?_)
    · have h := if_t h c_2
      refine lv_iconst (v := 0) hx hb dX12_shelf_88 (by decide) ?_
      exact kM_shelf_89 X  σ x1 x2 x3 t0 (0 : Int32) x1 H locs ls h I (lv_sub hl [1, 2, 3, 4, 0] rfl)
    · have h := if_f h c_2
      refine lv_iconst (v := 2) hx hb dX12_shelf_84 (by decide) ?_
      refine lv_goto (tgt := 89) hx hb dX12_shelf_85 (by decide) ?_
      exact kM_shelf_89 X  σ x1 x2 x3 t0 (2 : Int32) x1 H locs ls h I (lv_sub hl [1, 2, 3, 4, 0] rfl)
  · have h := if_t h c_1
    refine lv_iconst (v := 1) hx hb dX12_shelf_75 (by decide) ?_
    refine lv_goto (tgt := 89) hx hb dX12_shelf_76 (by decide) ?_
    exact kM_shelf_89 X  σ x1 x2 x3 t0 (1 : Int32) x1 H locs ls h I (lv_sub hl [1, 2, 3, 4, 0] rfl)
def M_shelf_63  (σ : Sg) (x1 : Int32) (x2 : Int32) (x3 : Int32) : Option (Int32 × Sg) :=
  M_shelf_64 σ x1 x2 x3 (0 : Int32)
set_option maxRecDepth 100000 in
theorem kM_shelf_63 {p : Program} {l : Launch} {e : Env} {s : State} {m : MethodId} {args : Array Value} {below : List Frame} {meth : Method} {c : Code} {D : va_G} {cy : Nat → ClassId} {a : Nat → Nat} (X : cx_ cX12_shelf RX12 wsX12_shelf 5 (some .int) 16 a D cy xfM p s m args meth c)  {r0 : Int32} {σ' : Sg}  : ∀ (σ : Sg) (x1 : Int32) (x2 : Int32) (x3 : Int32) (H : Heap) (locs : List Loc) (ls : Array Slot), M_shelf_63 σ x1 x2 x3 = some (r0, σ') → iv_ 16 a D (shM cy a σ) s H locs → lv_has ls 5 [(0, .ref (a 0)), (1, .int x1), (2, .int x2), (3, .int x3)] → W p l e ({ frames := 2, cells := 0, slots := 0, locals := 45 }) s m args below meth c H locs 0 0 (MQ below (qg_ 16 a D (shM cy a σ') (some (.int r0)) s.heap.size) args s 0 0 (fr_ 16 a s.heap.size)) (F0 m 63 ls []) := by
  obtain ⟨hx, hb, hr, hml, hown, hts, hlk, hK, hA, hXf⟩ := id X
  intro σ x1 x2 x3 H locs ls h I hl
  unfold M_shelf_63 at h
  refine lv_iconst (v := 0) hx hb dX12_shelf_63 (by decide) ?_
  exact kM_shelf_64 X  σ x1 x2 x3 (0 : Int32) H locs ls h I (lv_sub hl [0, 1, 2, 3] rfl)
def M_shelf_45  (σ : Sg) (x1 : Int32) (x2 : Int32) (x3 : Int32) : Option (Int32 × Sg) :=
  if x2 = (1 : Int32) then (gd_ (in_ x3 4) (
  if (rd_ σ 9 x3.toNatClampNeg) < 0 then (M_shelf_63 σ x1 x2 x3)
  else (M_shelf_64 σ x1 x2 x3 (1 : Int32))))
  else (M_shelf_63 σ x1 x2 x3)
set_option maxRecDepth 100000 in
theorem kM_shelf_45 {p : Program} {l : Launch} {e : Env} {s : State} {m : MethodId} {args : Array Value} {below : List Frame} {meth : Method} {c : Code} {D : va_G} {cy : Nat → ClassId} {a : Nat → Nat} (X : cx_ cX12_shelf RX12 wsX12_shelf 5 (some .int) 16 a D cy xfM p s m args meth c)  {r0 : Int32} {σ' : Sg}  : ∀ (σ : Sg) (x1 : Int32) (x2 : Int32) (x3 : Int32) (H : Heap) (locs : List Loc) (ls : Array Slot), M_shelf_45 σ x1 x2 x3 = some (r0, σ') → iv_ 16 a D (shM cy a σ) s H locs → lv_has ls 5 [(0, .ref (a 0)), (1, .int x1), (2, .int x2), (3, .int x3)] → W p l e ({ frames := 2, cells := 0, slots := 0, locals := 45 }) s m args below meth c H locs 0 0 (MQ below (qg_ 16 a D (shM cy a σ') (some (.int r0)) s.heap.size) args s 0 0 (fr_ 16 a s.heap.size)) (F0 m 45 ls []) := by
  obtain ⟨hx, hb, hr, hml, hown, hts, hlk, hK, hA, hXf⟩ := id X
  intro σ x1 x2 x3 H locs ls h I hl
  unfold M_shelf_45 at h
  refine lv_iload_n hx hb dX12_shelf_45 rfl (lv_at hl 2 rfl) ?_
  refine lv_iconst (v := 1) hx hb dX12_shelf_46 (by decide) ?_
  refine lv_icmp_ne (tgt := 63) hx hb dX12_shelf_47 (by decide) (fun c_1 => ?_) (fun c_1 => ?_)
  · have h := if_f h c_1
    exact kM_shelf_63 X  σ x1 x2 x3 H locs ls h I (lv_sub hl [0, 1, 2, 3] rfl)
  · have h := if_t h c_1
    refine lv_aload_n hx hb dX12_shelf_50 rfl (lv_at hl 0 rfl) ?_
    refine ig_ (index := 34) X I (fun _ q => List.mem_cons_of_mem _ (List.mem_append_right _ q)) 0 (by decide) shM_0 rfl 16 (by decide) (by decide +kernel) rfl (v := .ref (a 9)) rfl dX12_shelf_51 ?_
    refine lv_iload_n hx hb dX12_shelf_54 rfl (lv_at hl 3 rfl) ?_
    obtain ⟨g_2, h⟩ := gd_of h
    refine ia_ X I 9 (by decide) shM_9 (in_of g_2) (v0 := rd_ σ 9 x3.toNatClampNeg) rfl dX12_shelf_55 ?_
    refine lv_if_lt (tgt := 63) hx hb dX12_shelf_56 (by decide) (fun c_3 => ?_) (fun c_3 => ?_)
    · have h := if_t h c_3
      exact kM_shelf_63 X  σ x1 x2 x3 H locs ls h I (lv_sub hl [0, 1, 2, 3] rfl)
    · have h := if_f h c_3
      refine lv_iconst (v := 1) hx hb dX12_shelf_59 (by decide) ?_
      refine lv_goto (tgt := 64) hx hb dX12_shelf_60 (by decide) ?_
      exact kM_shelf_64 X  σ x1 x2 x3 (1 : Int32) H locs ls h I (lv_sub hl [0, 1, 2, 3] rfl)
def M_shelf_31  (σ : Sg) (x1 : Int32) (x2 : Int32) (x3 : Int32) : Option (Int32 × Sg) :=
  if x2 = (1 : Int32) then (bp_ (M_isSheet_0 x3) fun r_3 =>
  if r_3 = 0 then (some ((-1 : Int32), σ))
  else (M_shelf_45 σ x1 x2 x3))
  else (M_shelf_45 σ x1 x2 x3)
set_option maxRecDepth 100000 in
theorem kM_shelf_31 {p : Program} {l : Launch} {e : Env} {s : State} {m : MethodId} {args : Array Value} {below : List Frame} {meth : Method} {c : Code} {D : va_G} {cy : Nat → ClassId} {a : Nat → Nat} (X : cx_ cX12_shelf RX12 wsX12_shelf 5 (some .int) 16 a D cy xfM p s m args meth c)  {r0 : Int32} {σ' : Sg}  : ∀ (σ : Sg) (x1 : Int32) (x2 : Int32) (x3 : Int32) (H : Heap) (locs : List Loc) (ls : Array Slot), M_shelf_31 σ x1 x2 x3 = some (r0, σ') → iv_ 16 a D (shM cy a σ) s H locs → lv_has ls 5 [(0, .ref (a 0)), (1, .int x1), (2, .int x2), (3, .int x3)] → W p l e ({ frames := 2, cells := 0, slots := 0, locals := 45 }) s m args below meth c H locs 0 0 (MQ below (qg_ 16 a D (shM cy a σ') (some (.int r0)) s.heap.size) args s 0 0 (fr_ 16 a s.heap.size)) (F0 m 31 ls []) := by
  obtain ⟨hx, hb, hr, hml, hown, hts, hlk, hK, hA, hXf⟩ := id X
  intro σ x1 x2 x3 H locs ls h I hl
  unfold M_shelf_31 at h
  refine lv_iload_n hx hb dX12_shelf_31 rfl (lv_at hl 2 rfl) ?_
  refine lv_iconst (v := 1) hx hb dX12_shelf_32 (by decide) ?_
  refine lv_icmp_ne (tgt := 45) hx hb dX12_shelf_33 (by decide) (fun c_1 => ?_) (fun c_1 => ?_)
  · have h := if_f h c_1
    exact kM_shelf_45 X  σ x1 x2 x3 H locs ls h I (lv_sub hl [0, 1, 2, 3] rfl)
  · have h := if_t h c_1
    refine lv_iload_n hx hb dX12_shelf_36 rfl (lv_at hl 3 rfl) ?_
    obtain ⟨r_3, hc_2, h⟩ := bp_of h
    refine cp_ (rP_ (nn := 1) (As := [.int x3]) (rest := []) ⟨hx, hb, hml, hown, hts⟩ (c_M_isSheet hc_2) gX12_shelf_X12_isSheet rfl ⟨rfl, rfl⟩ (by decide +kernel) ⟨Nat.le_of_ble_eq_true rfl, Nat.le_of_ble_eq_true rfl⟩ rfl hl.1 rfl (Nat.le_of_ble_eq_true rfl) dX12_shelf_37 ⟨Nat.zero_le _, Nat.zero_le _⟩) ?_
    refine lv_if_ne (tgt := 45) hx hb dX12_shelf_40 (by decide) (fun c_4 => ?_) (fun c_4 => ?_)
    · have h := if_f h c_4
      exact kM_shelf_45 X  σ x1 x2 x3 H locs ls h I (lv_sub hl [0, 1, 2, 3] rfl)
    · have h := if_t h c_4
      refine lv_iconst (v := (-1)) hx hb dX12_shelf_43 (by decide) ?_
      obtain ⟨rfl, rfl⟩ := re_s h
      exact rti_ X I dX12_shelf_44
def M_shelf_0  (σ : Sg) (x1 : Int32) (x2 : Int32) (x3 : Int32) : Option (Int32 × Sg) :=
  bp_ (M_isShelf_0 x1) fun r_2 =>
  if r_2 = 0 then (some ((-1 : Int32), σ))
  else (bp_ (M_isIn_0 (x2).toInt64 (0 : Int64) (2 : Int64)) fun r_5 =>
  if r_5 = 0 then (some ((-1 : Int32), σ))
  else (if x2 = 0 then (bi_ (M_isOne_0 σ x3) fun r_10 σ_9 =>
  if r_10 = 0 then (some ((-1 : Int32), σ_9))
  else (M_shelf_31 σ_9 x1 x2 x3))
  else (M_shelf_31 σ x1 x2 x3)))
set_option maxRecDepth 100000 in
theorem kM_shelf_0 {p : Program} {l : Launch} {e : Env} {s : State} {m : MethodId} {args : Array Value} {below : List Frame} {meth : Method} {c : Code} {D : va_G} {cy : Nat → ClassId} {a : Nat → Nat} (X : cx_ cX12_shelf RX12 wsX12_shelf 5 (some .int) 16 a D cy xfM p s m args meth c)  {r0 : Int32} {σ' : Sg}  : ∀ (σ : Sg) (x1 : Int32) (x2 : Int32) (x3 : Int32) (H : Heap) (locs : List Loc) (ls : Array Slot), M_shelf_0 σ x1 x2 x3 = some (r0, σ') → iv_ 16 a D (shM cy a σ) s H locs → lv_has ls 5 [(0, .ref (a 0)), (1, .int x1), (2, .int x2), (3, .int x3)] → W p l e ({ frames := 2, cells := 0, slots := 0, locals := 45 }) s m args below meth c H locs 0 0 (MQ below (qg_ 16 a D (shM cy a σ') (some (.int r0)) s.heap.size) args s 0 0 (fr_ 16 a s.heap.size)) (F0 m 0 ls []) := by
  obtain ⟨hx, hb, hr, hml, hown, hts, hlk, hK, hA, hXf⟩ := id X
  intro σ x1 x2 x3 H locs ls h I hl
  unfold M_shelf_0 at h
  refine lv_iload_n hx hb dX12_shelf_0 rfl (lv_at hl 1 rfl) ?_
  obtain ⟨r_2, hc_1, h⟩ := bp_of h
  refine cp_ (rP_ (nn := 1) (As := [.int x1]) (rest := []) ⟨hx, hb, hml, hown, hts⟩ (c_M_isShelf hc_1) gX12_shelf_X12_isShelf rfl ⟨rfl, rfl⟩ (by decide +kernel) ⟨Nat.le_of_ble_eq_true rfl, Nat.le_of_ble_eq_true rfl⟩ rfl hl.1 rfl (Nat.le_of_ble_eq_true rfl) dX12_shelf_1 ⟨Nat.zero_le _, Nat.zero_le _⟩) ?_
  refine lv_if_eq (tgt := 43) hx hb dX12_shelf_4 (by decide) (fun c_3 => ?_) (fun c_3 => ?_)
  · have h := if_t h c_3
    refine lv_iconst (v := (-1)) hx hb dX12_shelf_43 (by decide) ?_
    obtain ⟨rfl, rfl⟩ := re_s h
    exact rti_ X I dX12_shelf_44
  · have h := if_f h c_3
    refine lv_iload_n hx hb dX12_shelf_7 rfl (lv_at hl 2 rfl) ?_
    refine lv_i2l hx hb dX12_shelf_8 rfl ?_
    refine lv_lconst (v := 0) hx hb dX12_shelf_9 (by decide) ?_
    refine lv_ldc2 (v := 2) hx hb hown (hts (.constantLong RX12 188 (2)) (by decide +kernel)) dX12_shelf_10 ?_
    obtain ⟨r_5, hc_4, h⟩ := bp_of h
    refine cp_ (rP_ (nn := 3) (As := [.long (x2).toInt64, .long (0 : Int64), .long (2 : Int64)]) (rest := []) ⟨hx, hb, hml, hown, hts⟩ (c_M_isIn hc_4) gX12_shelf_X12_isIn rfl ⟨rfl, rfl⟩ (by decide +kernel) ⟨Nat.le_of_ble_eq_true rfl, Nat.le_of_ble_eq_true rfl⟩ rfl hl.1 rfl (Nat.le_of_ble_eq_true rfl) dX12_shelf_13 ⟨Nat.zero_le _, Nat.zero_le _⟩) ?_
    refine lv_if_eq (tgt := 43) hx hb dX12_shelf_16 (by decide) (fun c_6 => ?_) (fun c_6 => ?_)
    · have h := if_t h c_6
      refine lv_iconst (v := (-1)) hx hb dX12_shelf_43 (by decide) ?_
      obtain ⟨rfl, rfl⟩ := re_s h
      exact rti_ X I dX12_shelf_44
    · have h := if_f h c_6
      refine lv_iload_n hx hb dX12_shelf_19 rfl (lv_at hl 2 rfl) ?_
      refine lv_if_ne (tgt := 31) hx hb dX12_shelf_20 (by decide) (fun c_7 => ?_) (fun c_7 => ?_)
      · have h := if_f h c_7
        exact kM_shelf_31 X  σ x1 x2 x3 H locs ls h I (lv_sub hl [0, 1, 2, 3] rfl)
      · have h := if_t h c_7
        refine lv_aload_n hx hb dX12_shelf_23 rfl (lv_at hl 0 rfl) ?_
        refine lv_iload_n hx hb dX12_shelf_24 rfl (lv_at hl 3 rfl) ?_
        obtain ⟨r_10, σ_9, hc_8, h⟩ := bi_of h
        refine cg_ (rV_ (nn := 1) (As := [.int x3]) (rest := []) X xkM I (c_M_isOne hc_8 H.size) gX12_shelf_X12_isOne rfl ⟨rfl, rfl⟩ (by decide +kernel) ⟨Nat.le_of_ble_eq_true rfl, Nat.le_of_ble_eq_true rfl⟩ (by decide) shM_0 rfl rfl hl.1 rfl (Nat.le_of_ble_eq_true rfl) dX12_shelf_25) I (fun H locs I => ?_)
        refine lv_if_eq (tgt := 43) hx hb dX12_shelf_28 (by decide) (fun c_11 => ?_) (fun c_11 => ?_)
        · have h := if_t h c_11
          refine lv_iconst (v := (-1)) hx hb dX12_shelf_43 (by decide) ?_
          obtain ⟨rfl, rfl⟩ := re_s h
          exact rti_ X I dX12_shelf_44
        · have h := if_f h c_11
          exact kM_shelf_31 X  σ_9 x1 x2 x3 H locs ls h I (lv_sub hl [0, 1, 2, 3] rfl)
theorem c_M_shelf {l : Launch} {D : va_G} {cy : Nat → ClassId} {a : Nat → Nat} {σ : Sg} {x1 : Int32} {x2 : Int32} {x3 : Int32} {r0 : Int32} {σ' : Sg} (h : M_shelf_0 σ x1 x2 x3 = some (r0, σ')) (sz : Nat) : Met l yX12_shelf wsX12_shelf ({ frames := 2, cells := 0, slots := 0, locals := 45 }) (va_Pc [.ref (a 0), .int x1, .int x2, .int x3] (pr_ 16 a D cy (shM cy a σ) xfM sz)) (qg_ 16 a D (shM cy a σ') (some (.int r0)) sz) 0 0 (fr_ 16 a sz) := by
  refine ent_ (by decide) rfl (Nat.le_of_ble_eq_true rfl) ?_
  intro p e s m below meth c ls hsz X I hl
  subst hsz
  exact kM_shelf_0 X σ x1 x2 x3 s.heap [] ls h I hl

def M_heldOn_27  (σ : Sg) (x1 : Int32) : Option (Int32 × Sg) :=
  gd_ (in_ x1 4) (
  some ((rd_ σ 12 x1.toNatClampNeg), σ))
set_option maxRecDepth 100000 in
theorem kM_heldOn_27 {p : Program} {l : Launch} {e : Env} {s : State} {m : MethodId} {args : Array Value} {below : List Frame} {meth : Method} {c : Code} {D : va_G} {cy : Nat → ClassId} {a : Nat → Nat} (X : cx_ cX12_heldOn RX12 wsX12_heldOn 2 (some .int) 16 a D cy xfM p s m args meth c)  {r0 : Int32} {σ' : Sg}  : ∀ (σ : Sg) (x1 : Int32) (H : Heap) (locs : List Loc) (ls : Array Slot), M_heldOn_27 σ x1 = some (r0, σ') → iv_ 16 a D (shM cy a σ) s H locs → lv_has ls 2 [(0, .ref (a 0)), (1, .int x1)] → W p l e ({ frames := 1, cells := 0, slots := 0, locals := 21 }) s m args below meth c H locs 0 0 (MQ below (qg_ 16 a D (shM cy a σ') (some (.int r0)) s.heap.size) args s 0 0 (fr_ 16 a s.heap.size)) (F0 m 27 ls []) := by
  obtain ⟨hx, hb, hr, hml, hown, hts, hlk, hK, hA, hXf⟩ := id X
  intro σ x1 H locs ls h I hl
  unfold M_heldOn_27 at h
  refine lv_aload_n hx hb dX12_heldOn_27 rfl (lv_at hl 0 rfl) ?_
  refine ig_ (index := 43) X I (fun _ q => List.mem_cons_of_mem _ (List.mem_append_right _ q)) 0 (by decide) shM_0 rfl 19 (by decide) (by decide +kernel) rfl (v := .ref (a 12)) rfl dX12_heldOn_28 ?_
  refine lv_iload_n hx hb dX12_heldOn_31 rfl (lv_at hl 1 rfl) ?_
  obtain ⟨g_1, h⟩ := gd_of h
  refine ia_ X I 12 (by decide) shM_12 (in_of g_1) (v0 := rd_ σ 12 x1.toNatClampNeg) rfl dX12_heldOn_32 ?_
  obtain ⟨rfl, rfl⟩ := re_s h
  exact rti_ X I dX12_heldOn_33
def M_heldOn_0  (σ : Sg) (x1 : Int32) : Option (Int32 × Sg) :=
  gd_ (in_ x1 4) (
  if (rd_ σ 12 x1.toNatClampNeg) = (1 : Int32) then (gd_ (in_ x1 4) (
  bi_ (M_isOne_0 σ (rd_ σ 13 x1.toNatClampNeg)) fun r_6 σ_5 =>
  if r_6 = 0 then (some ((0 : Int32), σ_5))
  else (M_heldOn_27 σ_5 x1)))
  else (M_heldOn_27 σ x1))
set_option maxRecDepth 100000 in
theorem kM_heldOn_0 {p : Program} {l : Launch} {e : Env} {s : State} {m : MethodId} {args : Array Value} {below : List Frame} {meth : Method} {c : Code} {D : va_G} {cy : Nat → ClassId} {a : Nat → Nat} (X : cx_ cX12_heldOn RX12 wsX12_heldOn 2 (some .int) 16 a D cy xfM p s m args meth c)  {r0 : Int32} {σ' : Sg}  : ∀ (σ : Sg) (x1 : Int32) (H : Heap) (locs : List Loc) (ls : Array Slot), M_heldOn_0 σ x1 = some (r0, σ') → iv_ 16 a D (shM cy a σ) s H locs → lv_has ls 2 [(0, .ref (a 0)), (1, .int x1)] → W p l e ({ frames := 1, cells := 0, slots := 0, locals := 21 }) s m args below meth c H locs 0 0 (MQ below (qg_ 16 a D (shM cy a σ') (some (.int r0)) s.heap.size) args s 0 0 (fr_ 16 a s.heap.size)) (F0 m 0 ls []) := by
  obtain ⟨hx, hb, hr, hml, hown, hts, hlk, hK, hA, hXf⟩ := id X
  intro σ x1 H locs ls h I hl
  unfold M_heldOn_0 at h
  refine lv_aload_n hx hb dX12_heldOn_0 rfl (lv_at hl 0 rfl) ?_
  refine ig_ (index := 43) X I (fun _ q => List.mem_cons_of_mem _ (List.mem_append_right _ q)) 0 (by decide) shM_0 rfl 19 (by decide) (by decide +kernel) rfl (v := .ref (a 12)) rfl dX12_heldOn_1 ?_
  refine lv_iload_n hx hb dX12_heldOn_4 rfl (lv_at hl 1 rfl) ?_
  obtain ⟨g_1, h⟩ := gd_of h
  refine ia_ X I 12 (by decide) shM_12 (in_of g_1) (v0 := rd_ σ 12 x1.toNatClampNeg) rfl dX12_heldOn_5 ?_
  refine lv_iconst (v := 1) hx hb dX12_heldOn_6 (by decide) ?_
  refine lv_icmp_ne (tgt := 27) hx hb dX12_heldOn_7 (by decide) (fun c_2 => ?_) (fun c_2 => ?_)
  · have h := if_f h c_2
    exact kM_heldOn_27 X  σ x1 H locs ls h I (lv_sub hl [0, 1] rfl)
  · have h := if_t h c_2
    refine lv_aload_n hx hb dX12_heldOn_10 rfl (lv_at hl 0 rfl) ?_
    refine lv_aload_n hx hb dX12_heldOn_11 rfl (lv_at hl 0 rfl) ?_
    refine ig_ (index := 46) X I (fun _ q => List.mem_cons_of_mem _ (List.mem_append_right _ q)) 0 (by decide) shM_0 rfl 20 (by decide) (by decide +kernel) rfl (v := .ref (a 13)) rfl dX12_heldOn_12 ?_
    refine lv_iload_n hx hb dX12_heldOn_15 rfl (lv_at hl 1 rfl) ?_
    obtain ⟨g_3, h⟩ := gd_of h
    refine ia_ X I 13 (by decide) shM_13 (in_of g_3) (v0 := rd_ σ 13 x1.toNatClampNeg) rfl dX12_heldOn_16 ?_
    obtain ⟨r_6, σ_5, hc_4, h⟩ := bi_of h
    refine cg_ (rV_ (nn := 1) (As := [.int (rd_ σ 13 x1.toNatClampNeg)]) (rest := []) X xkM I (c_M_isOne hc_4 H.size) gX12_heldOn_X12_isOne rfl ⟨rfl, rfl⟩ (by decide +kernel) ⟨Nat.le_of_ble_eq_true rfl, Nat.le_of_ble_eq_true rfl⟩ (by decide) shM_0 rfl rfl hl.1 rfl (Nat.le_of_ble_eq_true rfl) dX12_heldOn_17) I (fun H locs I => ?_)
    refine lv_if_ne (tgt := 27) hx hb dX12_heldOn_20 (by decide) (fun c_7 => ?_) (fun c_7 => ?_)
    · have h := if_f h c_7
      exact kM_heldOn_27 X  σ_5 x1 H locs ls h I (lv_sub hl [0, 1] rfl)
    · have h := if_t h c_7
      refine lv_iconst (v := 0) hx hb dX12_heldOn_23 (by decide) ?_
      refine lv_goto (tgt := 33) hx hb dX12_heldOn_24 (by decide) ?_
      obtain ⟨rfl, rfl⟩ := re_s h
      exact rti_ X I dX12_heldOn_33
theorem c_M_heldOn {l : Launch} {D : va_G} {cy : Nat → ClassId} {a : Nat → Nat} {σ : Sg} {x1 : Int32} {r0 : Int32} {σ' : Sg} (h : M_heldOn_0 σ x1 = some (r0, σ')) (sz : Nat) : Met l yX12_heldOn wsX12_heldOn ({ frames := 1, cells := 0, slots := 0, locals := 21 }) (va_Pc [.ref (a 0), .int x1] (pr_ 16 a D cy (shM cy a σ) xfM sz)) (qg_ 16 a D (shM cy a σ') (some (.int r0)) sz) 0 0 (fr_ 16 a sz) := by
  refine ent_ (by decide) rfl (Nat.le_of_ble_eq_true rfl) ?_
  intro p e s m below meth c ls hsz X I hl
  subst hsz
  exact kM_heldOn_0 X σ x1 s.heap [] ls h I hl

def M_isUnder_19  (x0 : Int32) (x1 : Int32) : Option Int32 :=
  if x1 = (2 : Int32) then (if x0 = (4 : Int32) then (some ((1 : Int32)))
  else (some ((0 : Int32))))
  else (some ((0 : Int32)))
set_option maxRecDepth 100000 in
theorem kM_isUnder_19 {p : Program} {l : Launch} {e : Env} {s : State} {m : MethodId} {args : Array Value} {below : List Frame} {meth : Method} {c : Code} (X : px_ cX12_isUnder RX12 wsX12_isUnder 2 (some .boolean) p s m args meth c)  {r0 : Int32}  : ∀ (x0 : Int32) (x1 : Int32) (ls : Array Slot), M_isUnder_19 x0 x1 = some r0 → lv_has ls 2 [(0, .int x0), (1, .int x1)] → W p l e ({ frames := 0, cells := 0, slots := 0, locals := 0 }) s m args below meth c s.heap [] 0 0 (MQ below (qp_ (some (.int r0))) args s 0 0 (fun _ => False)) (F0 m 19 ls []) := by
  obtain ⟨hx, hb, hr, hml, hown, hts, hlk⟩ := id X
  intro x0 x1 ls h hl
  unfold M_isUnder_19 at h
  refine lv_iload_n hx hb dX12_isUnder_19 rfl (lv_at hl 1 rfl) ?_
  refine lv_iconst (v := 2) hx hb dX12_isUnder_20 (by decide) ?_
  refine lv_icmp_ne (tgt := 33) hx hb dX12_isUnder_21 (by decide) (fun c_1 => ?_) (fun c_1 => ?_)
  · have h := if_f h c_1
    refine lv_iconst (v := 0) hx hb dX12_isUnder_33 (by decide) ?_
    obtain rfl := re_p h
    exact rpz_ X (by decide) dX12_isUnder_34
  · have h := if_t h c_1
    refine lv_iload_n hx hb dX12_isUnder_24 rfl (lv_at hl 0 rfl) ?_
    refine lv_iconst (v := 4) hx hb dX12_isUnder_25 (by decide) ?_
    refine lv_icmp_ne (tgt := 33) hx hb dX12_isUnder_26 (by decide) (fun c_2 => ?_) (fun c_2 => ?_)
    · have h := if_f h c_2
      refine lv_iconst (v := 0) hx hb dX12_isUnder_33 (by decide) ?_
      obtain rfl := re_p h
      exact rpz_ X (by decide) dX12_isUnder_34
    · have h := if_t h c_2
      refine lv_iconst (v := 1) hx hb dX12_isUnder_29 (by decide) ?_
      refine lv_goto (tgt := 34) hx hb dX12_isUnder_30 (by decide) ?_
      obtain rfl := re_p h
      exact rpz_ X (by decide) dX12_isUnder_34
def M_isUnder_0  (x0 : Int32) (x1 : Int32) : Option Int32 :=
  if x1 = 0 then (some ((1 : Int32)))
  else (if x0 = x1 then (some ((1 : Int32)))
  else (if x1 = (1 : Int32) then (if x0 = (3 : Int32) then (some ((1 : Int32)))
  else (M_isUnder_19 x0 x1))
  else (M_isUnder_19 x0 x1)))
set_option maxRecDepth 100000 in
theorem kM_isUnder_0 {p : Program} {l : Launch} {e : Env} {s : State} {m : MethodId} {args : Array Value} {below : List Frame} {meth : Method} {c : Code} (X : px_ cX12_isUnder RX12 wsX12_isUnder 2 (some .boolean) p s m args meth c)  {r0 : Int32}  : ∀ (x0 : Int32) (x1 : Int32) (ls : Array Slot), M_isUnder_0 x0 x1 = some r0 → lv_has ls 2 [(0, .int x0), (1, .int x1)] → W p l e ({ frames := 0, cells := 0, slots := 0, locals := 0 }) s m args below meth c s.heap [] 0 0 (MQ below (qp_ (some (.int r0))) args s 0 0 (fun _ => False)) (F0 m 0 ls []) := by
  obtain ⟨hx, hb, hr, hml, hown, hts, hlk⟩ := id X
  intro x0 x1 ls h hl
  unfold M_isUnder_0 at h
  refine lv_iload_n hx hb dX12_isUnder_0 rfl (lv_at hl 1 rfl) ?_
  refine lv_if_eq (tgt := 29) hx hb dX12_isUnder_1 (by decide) (fun c_1 => ?_) (fun c_1 => ?_)
  · have h := if_t h c_1
    refine lv_iconst (v := 1) hx hb dX12_isUnder_29 (by decide) ?_
    refine lv_goto (tgt := 34) hx hb dX12_isUnder_30 (by decide) ?_
    obtain rfl := re_p h
    exact rpz_ X (by decide) dX12_isUnder_34
  · have h := if_f h c_1
    refine lv_iload_n hx hb dX12_isUnder_4 rfl (lv_at hl 0 rfl) ?_
    refine lv_iload_n hx hb dX12_isUnder_5 rfl (lv_at hl 1 rfl) ?_
    refine lv_icmp_eq (tgt := 29) hx hb dX12_isUnder_6 (by decide) (fun c_2 => ?_) (fun c_2 => ?_)
    · have h := if_t h c_2
      refine lv_iconst (v := 1) hx hb dX12_isUnder_29 (by decide) ?_
      refine lv_goto (tgt := 34) hx hb dX12_isUnder_30 (by decide) ?_
      obtain rfl := re_p h
      exact rpz_ X (by decide) dX12_isUnder_34
    · have h := if_f h c_2
      refine lv_iload_n hx hb dX12_isUnder_9 rfl (lv_at hl 1 rfl) ?_
      refine lv_iconst (v := 1) hx hb dX12_isUnder_10 (by decide) ?_
      refine lv_icmp_ne (tgt := 19) hx hb dX12_isUnder_11 (by decide) (fun c_3 => ?_) (fun c_3 => ?_)
      · have h := if_f h c_3
        exact kM_isUnder_19 X  x0 x1 ls h (lv_sub hl [0, 1] rfl)
      · have h := if_t h c_3
        refine lv_iload_n hx hb dX12_isUnder_14 rfl (lv_at hl 0 rfl) ?_
        refine lv_iconst (v := 3) hx hb dX12_isUnder_15 (by decide) ?_
        refine lv_icmp_eq (tgt := 29) hx hb dX12_isUnder_16 (by decide) (fun c_4 => ?_) (fun c_4 => ?_)
        · have h := if_t h c_4
          refine lv_iconst (v := 1) hx hb dX12_isUnder_29 (by decide) ?_
          refine lv_goto (tgt := 34) hx hb dX12_isUnder_30 (by decide) ?_
          obtain rfl := re_p h
          exact rpz_ X (by decide) dX12_isUnder_34
        · have h := if_f h c_4
          exact kM_isUnder_19 X  x0 x1 ls h (lv_sub hl [0, 1] rfl)
theorem c_M_isUnder {l : Launch} {x0 : Int32} {x1 : Int32} {r0 : Int32} (h : M_isUnder_0 x0 x1 = some r0) : Met l yX12_isUnder wsX12_isUnder ({ frames := 0, cells := 0, slots := 0, locals := 0 }) (pp_ [.int x0, .int x1]) (qp_ (some (.int r0))) 0 0 (fun _ => False) := by
  refine enp_ (by decide) rfl (Nat.le_of_ble_eq_true rfl) ?_
  intro p e s m below meth c ls X hl
  exact kM_isUnder_0 X x0 x1 ls h hl

def M_taken_0  (σ : Sg) (x1 : Int32) (x2 : Int32) : Option (Int32 × Sg) :=
  bp_ (M_isShelf_0 x1) fun r_2 =>
  if r_2 = 0 then (some ((-1 : Int32), σ))
  else (bp_ (M_isIn_0 (x2).toInt64 (0 : Int64) (13 : Int64)) fun r_5 =>
  if r_5 = 0 then (some ((-1 : Int32), σ))
  else (bp_ (M_isIn_0 (x2).toInt64 (6 : Int64) (9 : Int64)) fun r_8 =>
  if r_8 = 0 then (bi_ (M_heldOn_0 σ x1) fun r_12 σ_11 =>
  if r_12 = 0 then (some ((-11 : Int32), σ_11))
  else (if (10 : Int32) ≤ x2 then (if r_12 = (2 : Int32) then (gd_ (in_ x1 4) (
  if (rd_ σ_11 13 x1.toNatClampNeg) = (x2 - (10 : Int32)) then (gd_ (in_ x1 4) (
  some ((rd_ σ_11 14 x1.toNatClampNeg), σ_11)))
  else (some ((-13 : Int32), σ_11))))
  else (some ((-13 : Int32), σ_11)))
  else (if r_12 = (1 : Int32) then (gd_ (in_ x1 4) (
  bi_ (M_its_0 σ_11 (rd_ σ_11 13 x1.toNatClampNeg) (0 : Int32)) fun r_23 σ_22 =>
  bp_ (M_isUnder_0 r_23 x2) fun r_25 =>
  if r_25 = 0 then (some ((-13 : Int32), σ_22))
  else (gd_ (in_ x1 4) (
  some ((rd_ σ_22 13 x1.toNatClampNeg), σ_22)))))
  else (some ((-13 : Int32), σ_11)))))
  else (some ((-1 : Int32), σ))))
set_option maxRecDepth 100000 in
theorem kM_taken_0 {p : Program} {l : Launch} {e : Env} {s : State} {m : MethodId} {args : Array Value} {below : List Frame} {meth : Method} {c : Code} {D : va_G} {cy : Nat → ClassId} {a : Nat → Nat} (X : cx_ cX12_taken RX12 wsX12_taken 4 (some .int) 16 a D cy xfM p s m args meth c)  {r0 : Int32} {σ' : Sg}  : ∀ (σ : Sg) (x1 : Int32) (x2 : Int32) (H : Heap) (locs : List Loc) (ls : Array Slot), M_taken_0 σ x1 x2 = some (r0, σ') → iv_ 16 a D (shM cy a σ) s H locs → lv_has ls 4 [(0, .ref (a 0)), (1, .int x1), (2, .int x2)] → W p l e ({ frames := 2, cells := 0, slots := 0, locals := 45 }) s m args below meth c H locs 0 0 (MQ below (qg_ 16 a D (shM cy a σ') (some (.int r0)) s.heap.size) args s 0 0 (fr_ 16 a s.heap.size)) (F0 m 0 ls []) := by
  obtain ⟨hx, hb, hr, hml, hown, hts, hlk, hK, hA, hXf⟩ := id X
  intro σ x1 x2 H locs ls h I hl
  unfold M_taken_0 at h
  refine lv_iload_n hx hb dX12_taken_0 rfl (lv_at hl 1 rfl) ?_
  obtain ⟨r_2, hc_1, h⟩ := bp_of h
  refine cp_ (rP_ (nn := 1) (As := [.int x1]) (rest := []) ⟨hx, hb, hml, hown, hts⟩ (c_M_isShelf hc_1) gX12_taken_X12_isShelf rfl ⟨rfl, rfl⟩ (by decide +kernel) ⟨Nat.le_of_ble_eq_true rfl, Nat.le_of_ble_eq_true rfl⟩ rfl hl.1 rfl (Nat.le_of_ble_eq_true rfl) dX12_taken_1 ⟨Nat.zero_le _, Nat.zero_le _⟩) ?_
  refine lv_if_eq (tgt := 33) hx hb dX12_taken_4 (by decide) (fun c_3 => ?_) (fun c_3 => ?_)
  · have h := if_t h c_3
    refine lv_iconst (v := (-1)) hx hb dX12_taken_33 (by decide) ?_
    obtain ⟨rfl, rfl⟩ := re_s h
    exact rti_ X I dX12_taken_34
  · have h := if_f h c_3
    refine lv_iload_n hx hb dX12_taken_7 rfl (lv_at hl 2 rfl) ?_
    refine lv_i2l hx hb dX12_taken_8 rfl ?_
    refine lv_lconst (v := 0) hx hb dX12_taken_9 (by decide) ?_
    refine lv_ldc2 (v := 13) hx hb hown (hts (.constantLong RX12 292 (13)) (by decide +kernel)) dX12_taken_10 ?_
    obtain ⟨r_5, hc_4, h⟩ := bp_of h
    refine cp_ (rP_ (nn := 3) (As := [.long (x2).toInt64, .long (0 : Int64), .long (13 : Int64)]) (rest := []) ⟨hx, hb, hml, hown, hts⟩ (c_M_isIn hc_4) gX12_taken_X12_isIn rfl ⟨rfl, rfl⟩ (by decide +kernel) ⟨Nat.le_of_ble_eq_true rfl, Nat.le_of_ble_eq_true rfl⟩ rfl hl.1 rfl (Nat.le_of_ble_eq_true rfl) dX12_taken_13 ⟨Nat.zero_le _, Nat.zero_le _⟩) ?_
    refine lv_if_eq (tgt := 33) hx hb dX12_taken_16 (by decide) (fun c_6 => ?_) (fun c_6 => ?_)
    · have h := if_t h c_6
      refine lv_iconst (v := (-1)) hx hb dX12_taken_33 (by decide) ?_
      obtain ⟨rfl, rfl⟩ := re_s h
      exact rti_ X I dX12_taken_34
    · have h := if_f h c_6
      refine lv_iload_n hx hb dX12_taken_19 rfl (lv_at hl 2 rfl) ?_
      refine lv_i2l hx hb dX12_taken_20 rfl ?_
      refine lv_ldc2 (v := 6) hx hb hown (hts (.constantLong RX12 294 (6)) (by decide +kernel)) dX12_taken_21 ?_
      refine lv_ldc2 (v := 9) hx hb hown (hts (.constantLong RX12 165 (9)) (by decide +kernel)) dX12_taken_24 ?_
      obtain ⟨r_8, hc_7, h⟩ := bp_of h
      refine cp_ (rP_ (nn := 3) (As := [.long (x2).toInt64, .long (6 : Int64), .long (9 : Int64)]) (rest := []) ⟨hx, hb, hml, hown, hts⟩ (c_M_isIn hc_7) gX12_taken_X12_isIn rfl ⟨rfl, rfl⟩ (by decide +kernel) ⟨Nat.le_of_ble_eq_true rfl, Nat.le_of_ble_eq_true rfl⟩ rfl hl.1 rfl (Nat.le_of_ble_eq_true rfl) dX12_taken_27 ⟨Nat.zero_le _, Nat.zero_le _⟩) ?_
      refine lv_if_eq (tgt := 35) hx hb dX12_taken_30 (by decide) (fun c_9 => ?_) (fun c_9 => ?_)
      · have h := if_t h c_9
        refine lv_aload_n hx hb dX12_taken_35 rfl (lv_at hl 0 rfl) ?_
        refine lv_iload_n hx hb dX12_taken_36 rfl (lv_at hl 1 rfl) ?_
        obtain ⟨r_12, σ_11, hc_10, h⟩ := bi_of h
        refine cg_ (rV_ (nn := 1) (As := [.int x1]) (rest := []) X xkM I (c_M_heldOn hc_10 H.size) gX12_taken_X12_heldOn rfl ⟨rfl, rfl⟩ (by decide +kernel) ⟨Nat.le_of_ble_eq_true rfl, Nat.le_of_ble_eq_true rfl⟩ (by decide) shM_0 rfl rfl hl.1 rfl (Nat.le_of_ble_eq_true rfl) dX12_taken_37) I (fun H locs I => ?_)
        refine lv_istore_n (lv' := [(3, .int r_12), (0, .ref (a 0)), (1, .int x1), (2, .int x2)]) hx hb dX12_taken_40 rfl hl (by decide) rfl (fun ls hl => ?_)
        refine lv_iload_n hx hb dX12_taken_41 rfl (lv_at hl 0 rfl) ?_
        refine lv_if_ne (tgt := 48) hx hb dX12_taken_42 (by decide) (fun c_13 => ?_) (fun c_13 => ?_)
        · have h := if_f h c_13
          refine lv_iload_n hx hb dX12_taken_48 rfl (lv_at hl 3 rfl) ?_
          refine lv_bipush (v := 10) hx hb dX12_taken_49 (by decide) ?_
          refine lv_icmp_ge (tgt := 89) hx hb dX12_taken_51 (by decide) (fun c_14 => ?_) (fun c_14 => ?_)
          · have h := if_t h c_14
            refine lv_iload_n hx hb dX12_taken_89 rfl (lv_at hl 0 rfl) ?_
            refine lv_iconst (v := 2) hx hb dX12_taken_90 (by decide) ?_
            refine lv_icmp_ne (tgt := 116) hx hb dX12_taken_91 (by decide) (fun c_15 => ?_) (fun c_15 => ?_)
            · have h := if_f h c_15
              refine lv_bipush (v := (-13)) hx hb dX12_taken_116 (by decide) ?_
              obtain ⟨rfl, rfl⟩ := re_s h
              exact rti_ X I dX12_taken_118
            · have h := if_t h c_15
              refine lv_aload_n hx hb dX12_taken_94 rfl (lv_at hl 1 rfl) ?_
              refine ig_ (index := 46) X I (fun _ q => List.mem_cons_of_mem _ (List.mem_append_right _ q)) 0 (by decide) shM_0 rfl 20 (by decide) (by decide +kernel) rfl (v := .ref (a 13)) rfl dX12_taken_95 ?_
              refine lv_iload_n hx hb dX12_taken_98 rfl (lv_at hl 2 rfl) ?_
              obtain ⟨g_16, h⟩ := gd_of h
              refine ia_ X I 13 (by decide) shM_13 (in_of g_16) (v0 := rd_ σ_11 13 x1.toNatClampNeg) rfl dX12_taken_99 ?_
              refine lv_iload_n hx hb dX12_taken_100 rfl (lv_at hl 3 rfl) ?_
              refine lv_bipush (v := 10) hx hb dX12_taken_101 (by decide) ?_
              refine lv_isub hx hb dX12_taken_103 ?_
              refine lv_icmp_ne (tgt := 116) hx hb dX12_taken_104 (by decide) (fun c_17 => ?_) (fun c_17 => ?_)
              · have h := if_f h c_17
                refine lv_bipush (v := (-13)) hx hb dX12_taken_116 (by decide) ?_
                obtain ⟨rfl, rfl⟩ := re_s h
                exact rti_ X I dX12_taken_118
              · have h := if_t h c_17
                refine lv_aload_n hx hb dX12_taken_107 rfl (lv_at hl 1 rfl) ?_
                refine ig_ (index := 49) X I (fun _ q => List.mem_cons_of_mem _ (List.mem_append_right _ q)) 0 (by decide) shM_0 rfl 21 (by decide) (by decide +kernel) rfl (v := .ref (a 14)) rfl dX12_taken_108 ?_
                refine lv_iload_n hx hb dX12_taken_111 rfl (lv_at hl 2 rfl) ?_
                obtain ⟨g_18, h⟩ := gd_of h
                refine ia_ X I 14 (by decide) shM_14 (in_of g_18) (v0 := rd_ σ_11 14 x1.toNatClampNeg) rfl dX12_taken_112 ?_
                refine lv_goto (tgt := 118) hx hb dX12_taken_113 (by decide) ?_
                obtain ⟨rfl, rfl⟩ := re_s h
                exact rti_ X I dX12_taken_118
          · have h := if_f h c_14
            refine lv_iload_n hx hb dX12_taken_54 rfl (lv_at hl 0 rfl) ?_
            refine lv_iconst (v := 1) hx hb dX12_taken_55 (by decide) ?_
            refine lv_icmp_ne (tgt := 86) hx hb dX12_taken_56 (by decide) (fun c_19 => ?_) (fun c_19 => ?_)
            · have h := if_f h c_19
              refine lv_bipush (v := (-13)) hx hb dX12_taken_86 (by decide) ?_
              obtain ⟨rfl, rfl⟩ := re_s h
              exact rti_ X I dX12_taken_88
            · have h := if_t h c_19
              refine lv_aload_n hx hb dX12_taken_59 rfl (lv_at hl 1 rfl) ?_
              refine lv_aload_n hx hb dX12_taken_60 rfl (lv_at hl 1 rfl) ?_
              refine ig_ (index := 46) X I (fun _ q => List.mem_cons_of_mem _ (List.mem_append_right _ q)) 0 (by decide) shM_0 rfl 20 (by decide) (by decide +kernel) rfl (v := .ref (a 13)) rfl dX12_taken_61 ?_
              refine lv_iload_n hx hb dX12_taken_64 rfl (lv_at hl 2 rfl) ?_
              obtain ⟨g_20, h⟩ := gd_of h
              refine ia_ X I 13 (by decide) shM_13 (in_of g_20) (v0 := rd_ σ_11 13 x1.toNatClampNeg) rfl dX12_taken_65 ?_
              refine lv_iconst (v := 0) hx hb dX12_taken_66 (by decide) ?_
              obtain ⟨r_23, σ_22, hc_21, h⟩ := bi_of h
              refine cg_ (rV_ (nn := 2) (As := [.int (rd_ σ_11 13 x1.toNatClampNeg), .int (0 : Int32)]) (rest := []) X xkM I (c_M_its hc_21 H.size) gX12_taken_X12_its rfl ⟨rfl, rfl⟩ (by decide +kernel) ⟨Nat.le_of_ble_eq_true rfl, Nat.le_of_ble_eq_true rfl⟩ (by decide) shM_0 rfl rfl hl.1 rfl (Nat.le_of_ble_eq_true rfl) dX12_taken_67) I (fun H locs I => ?_)
              refine lv_iload_n hx hb dX12_taken_70 rfl (lv_at hl 3 rfl) ?_
              obtain ⟨r_25, hc_24, h⟩ := bp_of h
              refine cp_ (rP_ (nn := 2) (As := [.int r_23, .int x2]) (rest := []) ⟨hx, hb, hml, hown, hts⟩ (c_M_isUnder hc_24) gX12_taken_X12_isUnder rfl ⟨rfl, rfl⟩ (by decide +kernel) ⟨Nat.le_of_ble_eq_true rfl, Nat.le_of_ble_eq_true rfl⟩ rfl hl.1 rfl (Nat.le_of_ble_eq_true rfl) dX12_taken_71 ⟨Nat.zero_le _, Nat.zero_le _⟩) ?_
              refine lv_if_eq (tgt := 86) hx hb dX12_taken_74 (by decide) (fun c_26 => ?_) (fun c_26 => ?_)
              · have h := if_t h c_26
                refine lv_bipush (v := (-13)) hx hb dX12_taken_86 (by decide) ?_
                obtain ⟨rfl, rfl⟩ := re_s h
                exact rti_ X I dX12_taken_88
              · have h := if_f h c_26
                refine lv_aload_n hx hb dX12_taken_77 rfl (lv_at hl 1 rfl) ?_
                refine ig_ (index := 46) X I (fun _ q => List.mem_cons_of_mem _ (List.mem_append_right _ q)) 0 (by decide) shM_0 rfl 20 (by decide) (by decide +kernel) rfl (v := .ref (a 13)) rfl dX12_taken_78 ?_
                refine lv_iload_n hx hb dX12_taken_81 rfl (lv_at hl 2 rfl) ?_
                obtain ⟨g_27, h⟩ := gd_of h
                refine ia_ X I 13 (by decide) shM_13 (in_of g_27) (v0 := rd_ σ_22 13 x1.toNatClampNeg) rfl dX12_taken_82 ?_
                refine lv_goto (tgt := 88) hx hb dX12_taken_83 (by decide) ?_
                obtain ⟨rfl, rfl⟩ := re_s h
                exact rti_ X I dX12_taken_88
        · have h := if_t h c_13
          refine lv_bipush (v := (-11)) hx hb dX12_taken_45 (by decide) ?_
          obtain ⟨rfl, rfl⟩ := re_s h
          exact rti_ X I dX12_taken_47
      · have h := if_f h c_9
        refine lv_iconst (v := (-1)) hx hb dX12_taken_33 (by decide) ?_
        obtain ⟨rfl, rfl⟩ := re_s h
        exact rti_ X I dX12_taken_34
theorem c_M_taken {l : Launch} {D : va_G} {cy : Nat → ClassId} {a : Nat → Nat} {σ : Sg} {x1 : Int32} {x2 : Int32} {r0 : Int32} {σ' : Sg} (h : M_taken_0 σ x1 x2 = some (r0, σ')) (sz : Nat) : Met l yX12_taken wsX12_taken ({ frames := 2, cells := 0, slots := 0, locals := 45 }) (va_Pc [.ref (a 0), .int x1, .int x2] (pr_ 16 a D cy (shM cy a σ) xfM sz)) (qg_ 16 a D (shM cy a σ') (some (.int r0)) sz) 0 0 (fr_ 16 a sz) := by
  refine ent_ (by decide) rfl (Nat.le_of_ble_eq_true rfl) ?_
  intro p e s m below meth c ls hsz X I hl
  subst hsz
  exact kM_taken_0 X σ x1 x2 s.heap [] ls h I hl

def M_runs_0  (σ : Sg) (x1 : Int32) : Option (Unit × Sg) :=
  if (30 : Int32) ≤ (rd_ σ 0 23) then (some ((), σ))
  else (gd_ (in_ (rd_ σ 0 23) 30) (
  lt_ (wr_ σ 15 (rd_ σ 0 23).toNatClampNeg x1) fun σ_3 =>
  lt_ (wr_ σ_3 0 23 ((rd_ σ_3 0 23) + (1 : Int32))) fun σ_5 =>
  some ((), σ_5)))
set_option maxRecDepth 100000 in
theorem kM_runs_0 {p : Program} {l : Launch} {e : Env} {s : State} {m : MethodId} {args : Array Value} {below : List Frame} {meth : Method} {c : Code} {D : va_G} {cy : Nat → ClassId} {a : Nat → Nat} (X : cx_ cX12_runs RX12 wsX12_runs 2 none 16 a D cy xfM p s m args meth c)   {σ' : Sg}  : ∀ (σ : Sg) (x1 : Int32) (H : Heap) (locs : List Loc) (ls : Array Slot), M_runs_0 σ x1 = some ((), σ') → iv_ 16 a D (shM cy a σ) s H locs → lv_has ls 2 [(0, .ref (a 0)), (1, .int x1)] → W p l e ({ frames := 0, cells := 0, slots := 0, locals := 0 }) s m args below meth c H locs 0 0 (MQ below (qg_ 16 a D (shM cy a σ') none s.heap.size) args s 0 0 (fr_ 16 a s.heap.size)) (F0 m 0 ls []) := by
  obtain ⟨hx, hb, hr, hml, hown, hts, hlk, hK, hA, hXf⟩ := id X
  intro σ x1 H locs ls h I hl
  unfold M_runs_0 at h
  refine lv_aload_n hx hb dX12_runs_0 rfl (lv_at hl 0 rfl) ?_
  refine ig_ (index := 302) X I (fun _ q => List.mem_cons_of_mem _ (List.mem_append_right _ q)) 0 (by decide) shM_0 rfl 23 (by decide) (by decide +kernel) rfl (v := .int (rd_ σ 0 23)) rfl dX12_runs_1 ?_
  refine lv_bipush (v := 30) hx hb dX12_runs_4 (by decide) ?_
  refine lv_icmp_ge (tgt := 29) hx hb dX12_runs_6 (by decide) (fun c_1 => ?_) (fun c_1 => ?_)
  · have h := if_t h c_1
    obtain rfl := re_v h
    exact rtv_ X I dX12_runs_29
  · have h := if_f h c_1
    refine lv_aload_n hx hb dX12_runs_9 rfl (lv_at hl 0 rfl) ?_
    refine ig_ (index := 52) X I (fun _ q => List.mem_cons_of_mem _ (List.mem_append_right _ q)) 0 (by decide) shM_0 rfl 22 (by decide) (by decide +kernel) rfl (v := .ref (a 15)) rfl dX12_runs_10 ?_
    refine lv_aload_n hx hb dX12_runs_13 rfl (lv_at hl 0 rfl) ?_
    refine ig_ (index := 302) X I (fun _ q => List.mem_cons_of_mem _ (List.mem_append_right _ q)) 0 (by decide) shM_0 rfl 23 (by decide) (by decide +kernel) rfl (v := .int (rd_ σ 0 23)) rfl dX12_runs_14 ?_
    refine lv_iload_n hx hb dX12_runs_17 rfl (lv_at hl 1 rfl) ?_
    obtain ⟨g_2, h⟩ := gd_of h
    refine is_ (σ2 := wr_ σ 15 (rd_ σ 0 23).toNatClampNeg x1) X I 15 (by decide) shM_15 (in_of g_2) shM_st_15 dX12_runs_18 (fun σ_3 H locs e_4 I => ?_)
    have h := lt_at h e_4
    refine lv_aload_n hx hb dX12_runs_19 rfl (lv_at hl 0 rfl) ?_
    refine lv_dup hx hb dX12_runs_20 rfl ?_
    refine ig_ (index := 302) X I (fun _ q => List.mem_cons_of_mem _ (List.mem_append_right _ q)) 0 (by decide) shM_0 rfl 23 (by decide) (by decide +kernel) rfl (v := .int (rd_ σ_3 0 23)) rfl dX12_runs_21 ?_
    refine lv_iconst (v := 1) hx hb dX12_runs_24 (by decide) ?_
    refine lv_iadd hx hb dX12_runs_25 ?_
    refine ip_ (index := 302) (ty := .int) X I (fun _ q => List.mem_cons_of_mem _ (List.mem_append_right _ q)) tyX12 tyX12_ok nmX12 0 (by decide) shM_0 rfl 23 (by decide) (by decide +kernel) rfl rfl (by decide +kernel) rfl rfl (Nat.le_of_ble_eq_true rfl) shM_pt_23 dX12_runs_26 (fun σ_5 H locs e_6 I => ?_)
    have h := lt_at h e_6
    obtain rfl := re_v h
    exact rtv_ X I dX12_runs_29
theorem c_M_runs {l : Launch} {D : va_G} {cy : Nat → ClassId} {a : Nat → Nat} {σ : Sg} {x1 : Int32}  {σ' : Sg} (h : M_runs_0 σ x1 = some ((), σ')) (sz : Nat) : Met l yX12_runs wsX12_runs ({ frames := 0, cells := 0, slots := 0, locals := 0 }) (va_Pc [.ref (a 0), .int x1] (pr_ 16 a D cy (shM cy a σ) xfM sz)) (qg_ 16 a D (shM cy a σ') none sz) 0 0 (fr_ 16 a sz) := by
  refine ent_ (by decide) rfl (Nat.le_of_ble_eq_true rfl) ?_
  intro p e s m below meth c ls hsz X I hl
  subst hsz
  exact kM_runs_0 X σ x1 s.heap [] ls h I hl
