def M_does_0  (σ : Sg) (x1 : Int32) (x2 : Int32) : Option (Int32 × Sg) :=
  bi_ (M_isOne_0 σ x1) fun r_3 σ_2 =>
  if r_3 = 0 then (some ((-1 : Int32), σ_2))
  else (bp_ (M_isIn_0 (x2).toInt64 (0 : Int64) (1 : Int64)) fun r_6 =>
  if r_6 = 0 then (some ((-1 : Int32), σ_2))
  else (if x2 = 0 then (bi_ (M_moves_0 σ_2 x1) fun r_14 σ_13 =>
  some (r_14, σ_13))
  else (bi_ (M_ends_0 σ_2 x1) fun r_11 σ_10 =>
  some (r_11, σ_10))))
set_option maxRecDepth 100000 in
theorem kM_does_0 {p : Program} {l : Launch} {e : Env} {s : State} {m : MethodId} {args : Array Value} {below : List Frame} {meth : Method} {c : Code} {D : va_G} {cy : Nat → ClassId} {a : Nat → Nat} (X : cx_ cX12_does RX12 wsX12_does 3 (some .int) 16 a D cy xfM p s m args meth c)  {r0 : Int32} {σ' : Sg}  : ∀ (σ : Sg) (x1 : Int32) (x2 : Int32) (H : Heap) (locs : List Loc) (ls : Array Slot), M_does_0 σ x1 x2 = some (r0, σ') → iv_ 16 a D (shM cy a σ) s H locs → lv_has ls 3 [(0, .ref (a 0)), (1, .int x1), (2, .int x2)] → W p l e ({ frames := 2, cells := 0, slots := 0, locals := 44 }) s m args below meth c H locs 0 0 (MQ below (qg_ 16 a D (shM cy a σ') (some (.int r0)) s.heap.size) args s 0 0 (fr_ 16 a s.heap.size)) (F0 m 0 ls []) := by
  obtain ⟨hx, hb, hr, hml, hown, hts, hlk, hK, hA, hXf⟩ := id X
  intro σ x1 x2 H locs ls h I hl
  unfold M_does_0 at h
  refine lv_aload_n hx hb dX12_does_0 rfl (lv_at hl 0 rfl) ?_
  refine lv_iload_n hx hb dX12_does_1 rfl (lv_at hl 1 rfl) ?_
  obtain ⟨r_3, σ_2, hc_1, h⟩ := bi_of h
  refine cg_ (rV_ (nn := 1) (As := [.int x1]) (rest := []) X xkM I (c_M_isOne hc_1 H.size) gX12_does_X12_isOne rfl ⟨rfl, rfl⟩ (by decide +kernel) ⟨Nat.le_of_ble_eq_true rfl, Nat.le_of_ble_eq_true rfl⟩ (by decide) shM_0 rfl rfl hl.1 rfl (Nat.le_of_ble_eq_true rfl) dX12_does_2) I (fun H locs I => ?_)
  refine lv_if_eq (tgt := 18) hx hb dX12_does_5 (by decide) (fun c_4 => ?_) (fun c_4 => ?_)
  · have h := if_t h c_4
    refine lv_iconst (v := (-1)) hx hb dX12_does_18 (by decide) ?_
    obtain ⟨rfl, rfl⟩ := re_s h
    exact rti_ X I dX12_does_19
  · have h := if_f h c_4
    refine lv_iload_n hx hb dX12_does_8 rfl (lv_at hl 2 rfl) ?_
    refine lv_i2l hx hb dX12_does_9 rfl ?_
    refine lv_lconst (v := 0) hx hb dX12_does_10 (by decide) ?_
    refine lv_lconst (v := 1) hx hb dX12_does_11 (by decide) ?_
    obtain ⟨r_6, hc_5, h⟩ := bp_of h
    refine cp_ (rP_ (nn := 3) (As := [.long (x2).toInt64, .long (0 : Int64), .long (1 : Int64)]) (rest := []) ⟨hx, hb, hml, hown, hts⟩ (c_M_isIn hc_5) gX12_does_X12_isIn rfl ⟨rfl, rfl⟩ (by decide +kernel) ⟨Nat.le_of_ble_eq_true rfl, Nat.le_of_ble_eq_true rfl⟩ rfl hl.1 rfl (Nat.le_of_ble_eq_true rfl) dX12_does_12 ⟨Nat.zero_le _, Nat.zero_le _⟩) ?_
    refine lv_if_ne (tgt := 20) hx hb dX12_does_15 (by decide) (fun c_7 => ?_) (fun c_7 => ?_)
    · have h := if_f h c_7
      refine lv_iload_n hx hb dX12_does_20 rfl (lv_at hl 2 rfl) ?_
      refine lv_if_ne (tgt := 32) hx hb dX12_does_21 (by decide) (fun c_8 => ?_) (fun c_8 => ?_)
      · have h := if_f h c_8
        refine lv_aload_n hx hb dX12_does_32 rfl (lv_at hl 0 rfl) ?_
        refine lv_iload_n hx hb dX12_does_33 rfl (lv_at hl 1 rfl) ?_
        obtain ⟨r_11, σ_10, hc_9, h⟩ := bi_of h
        refine cg_ (rV_ (nn := 1) (As := [.int x1]) (rest := []) X xkM I (c_M_ends hc_9 H.size) gX12_does_X12_ends rfl ⟨rfl, rfl⟩ (by decide +kernel) ⟨Nat.le_of_ble_eq_true rfl, Nat.le_of_ble_eq_true rfl⟩ (by decide) shM_0 rfl rfl hl.1 rfl (Nat.le_of_ble_eq_true rfl) dX12_does_34) I (fun H locs I => ?_)
        obtain ⟨rfl, rfl⟩ := re_s h
        exact rti_ X I dX12_does_37
      · have h := if_t h c_8
        refine lv_aload_n hx hb dX12_does_24 rfl (lv_at hl 0 rfl) ?_
        refine lv_iload_n hx hb dX12_does_25 rfl (lv_at hl 1 rfl) ?_
        obtain ⟨r_14, σ_13, hc_12, h⟩ := bi_of h
        refine cg_ (rV_ (nn := 1) (As := [.int x1]) (rest := []) X xkM I (c_M_moves hc_12 H.size) gX12_does_X12_moves rfl ⟨rfl, rfl⟩ (by decide +kernel) ⟨Nat.le_of_ble_eq_true rfl, Nat.le_of_ble_eq_true rfl⟩ (by decide) shM_0 rfl rfl hl.1 rfl (Nat.le_of_ble_eq_true rfl) dX12_does_26) I (fun H locs I => ?_)
        refine lv_goto (tgt := 37) hx hb dX12_does_29 (by decide) ?_
        obtain ⟨rfl, rfl⟩ := re_s h
        exact rti_ X I dX12_does_37
    · have h := if_t h c_7
      refine lv_iconst (v := (-1)) hx hb dX12_does_18 (by decide) ?_
      obtain ⟨rfl, rfl⟩ := re_s h
      exact rti_ X I dX12_does_19
theorem c_M_does {l : Launch} {D : va_G} {cy : Nat → ClassId} {a : Nat → Nat} {σ : Sg} {x1 : Int32} {x2 : Int32} {r0 : Int32} {σ' : Sg} (h : M_does_0 σ x1 x2 = some (r0, σ')) (sz : Nat) : Met l yX12_does wsX12_does ({ frames := 2, cells := 0, slots := 0, locals := 44 }) (va_Pc [.ref (a 0), .int x1, .int x2] (pr_ 16 a D cy (shM cy a σ) xfM sz)) (qg_ 16 a D (shM cy a σ') (some (.int r0)) sz) 0 0 (fr_ 16 a sz) := by
  refine ent_ (by decide) rfl (Nat.le_of_ble_eq_true rfl) ?_
  intro p e s m below meth c ls hsz X I hl
  subst hsz
  exact kM_does_0 X σ x1 x2 s.heap [] ls h I hl

def M_mind_0  (σ : Sg) (x1 : Int32) (x2 : Int32) (x3 : Int32) : Option (Int32 × Sg) :=
  bi_ (M_isOne_0 σ x1) fun r_3 σ_2 =>
  if r_3 = 0 then (some ((-1 : Int32), σ_2))
  else (bp_ (M_isIn_0 (x2).toInt64 (0 : Int64) (5 : Int64)) fun r_6 =>
  if r_6 = 0 then (some ((-1 : Int32), σ_2))
  else (bp_ (M_isIn_0 (x3).toInt64 (0 : Int64) (9 : Int64)) fun r_9 =>
  if r_9 = 0 then (some ((-1 : Int32), σ_2))
  else (gd_ (in_ (((16 : Int32) + ((6 : Int32) * x1)) + (2 : Int32)) 64) (
  lt_ (wr_ σ_2 1 (((16 : Int32) + ((6 : Int32) * x1)) + (2 : Int32)).toNatClampNeg x3) fun σ_12 =>
  bi_ (M_lets_0 σ_12 ((16 : Int32) + ((6 : Int32) * x1)) x2) fun r_16 σ_15 =>
  some (r_16, σ_15)))))
set_option maxRecDepth 100000 in
theorem kM_mind_0 {p : Program} {l : Launch} {e : Env} {s : State} {m : MethodId} {args : Array Value} {below : List Frame} {meth : Method} {c : Code} {D : va_G} {cy : Nat → ClassId} {a : Nat → Nat} (X : cx_ cX12_mind RX12 wsX12_mind 4 (some .int) 16 a D cy xfM p s m args meth c)  {r0 : Int32} {σ' : Sg}  : ∀ (σ : Sg) (x1 : Int32) (x2 : Int32) (x3 : Int32) (H : Heap) (locs : List Loc) (ls : Array Slot), M_mind_0 σ x1 x2 x3 = some (r0, σ') → iv_ 16 a D (shM cy a σ) s H locs → lv_has ls 4 [(0, .ref (a 0)), (1, .int x1), (2, .int x2), (3, .int x3)] → W p l e ({ frames := 1, cells := 0, slots := 0, locals := 25 }) s m args below meth c H locs 0 0 (MQ below (qg_ 16 a D (shM cy a σ') (some (.int r0)) s.heap.size) args s 0 0 (fr_ 16 a s.heap.size)) (F0 m 0 ls []) := by
  obtain ⟨hx, hb, hr, hml, hown, hts, hlk, hK, hA, hXf⟩ := id X
  intro σ x1 x2 x3 H locs ls h I hl
  unfold M_mind_0 at h
  refine lv_aload_n hx hb dX12_mind_0 rfl (lv_at hl 0 rfl) ?_
  refine lv_iload_n hx hb dX12_mind_1 rfl (lv_at hl 1 rfl) ?_
  obtain ⟨r_3, σ_2, hc_1, h⟩ := bi_of h
  refine cg_ (rV_ (nn := 1) (As := [.int x1]) (rest := []) X xkM I (c_M_isOne hc_1 H.size) gX12_mind_X12_isOne rfl ⟨rfl, rfl⟩ (by decide +kernel) ⟨Nat.le_of_ble_eq_true rfl, Nat.le_of_ble_eq_true rfl⟩ (by decide) shM_0 rfl rfl hl.1 rfl (Nat.le_of_ble_eq_true rfl) dX12_mind_2) I (fun H locs I => ?_)
  refine lv_if_eq (tgt := 32) hx hb dX12_mind_5 (by decide) (fun c_4 => ?_) (fun c_4 => ?_)
  · have h := if_t h c_4
    refine lv_iconst (v := (-1)) hx hb dX12_mind_32 (by decide) ?_
    obtain ⟨rfl, rfl⟩ := re_s h
    exact rti_ X I dX12_mind_33
  · have h := if_f h c_4
    refine lv_iload_n hx hb dX12_mind_8 rfl (lv_at hl 2 rfl) ?_
    refine lv_i2l hx hb dX12_mind_9 rfl ?_
    refine lv_lconst (v := 0) hx hb dX12_mind_10 (by decide) ?_
    refine lv_ldc2 (v := 5) hx hb hown (hts (.constantLong RX12 171 (5)) (by decide +kernel)) dX12_mind_11 ?_
    obtain ⟨r_6, hc_5, h⟩ := bp_of h
    refine cp_ (rP_ (nn := 3) (As := [.long (x2).toInt64, .long (0 : Int64), .long (5 : Int64)]) (rest := []) ⟨hx, hb, hml, hown, hts⟩ (c_M_isIn hc_5) gX12_mind_X12_isIn rfl ⟨rfl, rfl⟩ (by decide +kernel) ⟨Nat.le_of_ble_eq_true rfl, Nat.le_of_ble_eq_true rfl⟩ rfl hl.1 rfl (Nat.le_of_ble_eq_true rfl) dX12_mind_14 ⟨Nat.zero_le _, Nat.zero_le _⟩) ?_
    refine lv_if_eq (tgt := 32) hx hb dX12_mind_17 (by decide) (fun c_7 => ?_) (fun c_7 => ?_)
    · have h := if_t h c_7
      refine lv_iconst (v := (-1)) hx hb dX12_mind_32 (by decide) ?_
      obtain ⟨rfl, rfl⟩ := re_s h
      exact rti_ X I dX12_mind_33
    · have h := if_f h c_7
      refine lv_iload_n hx hb dX12_mind_20 rfl (lv_at hl 3 rfl) ?_
      refine lv_i2l hx hb dX12_mind_21 rfl ?_
      refine lv_lconst (v := 0) hx hb dX12_mind_22 (by decide) ?_
      refine lv_ldc2 (v := 9) hx hb hown (hts (.constantLong RX12 165 (9)) (by decide +kernel)) dX12_mind_23 ?_
      obtain ⟨r_9, hc_8, h⟩ := bp_of h
      refine cp_ (rP_ (nn := 3) (As := [.long (x3).toInt64, .long (0 : Int64), .long (9 : Int64)]) (rest := []) ⟨hx, hb, hml, hown, hts⟩ (c_M_isIn hc_8) gX12_mind_X12_isIn rfl ⟨rfl, rfl⟩ (by decide +kernel) ⟨Nat.le_of_ble_eq_true rfl, Nat.le_of_ble_eq_true rfl⟩ rfl hl.1 rfl (Nat.le_of_ble_eq_true rfl) dX12_mind_26 ⟨Nat.zero_le _, Nat.zero_le _⟩) ?_
      refine lv_if_ne (tgt := 34) hx hb dX12_mind_29 (by decide) (fun c_10 => ?_) (fun c_10 => ?_)
      · have h := if_f h c_10
        refine lv_aload_n hx hb dX12_mind_34 rfl (lv_at hl 0 rfl) ?_
        refine ig_ (index := 7) X I (fun _ q => List.mem_cons_of_mem _ (List.mem_append_right _ q)) 0 (by decide) shM_0 rfl 0 (by decide) (by decide +kernel) rfl (v := .ref (a 1)) rfl dX12_mind_35 ?_
        refine lv_bipush (v := 16) hx hb dX12_mind_38 (by decide) ?_
        refine lv_bipush (v := 6) hx hb dX12_mind_40 (by decide) ?_
        refine lv_iload_n hx hb dX12_mind_42 rfl (lv_at hl 1 rfl) ?_
        refine lv_imul hx hb dX12_mind_43 ?_
        refine lv_iadd hx hb dX12_mind_44 ?_
        refine lv_iconst (v := 2) hx hb dX12_mind_45 (by decide) ?_
        refine lv_iadd hx hb dX12_mind_46 ?_
        refine lv_iload_n hx hb dX12_mind_47 rfl (lv_at hl 3 rfl) ?_
        obtain ⟨g_11, h⟩ := gd_of h
        refine is_ (σ2 := wr_ σ_2 1 (((16 : Int32) + ((6 : Int32) * x1)) + (2 : Int32)).toNatClampNeg x3) X I 1 (by decide) shM_1 (in_of g_11) shM_st_1 dX12_mind_48 (fun σ_12 H locs e_13 I => ?_)
        have h := lt_at h e_13
        refine lv_aload_n hx hb dX12_mind_49 rfl (lv_at hl 0 rfl) ?_
        refine lv_bipush (v := 16) hx hb dX12_mind_50 (by decide) ?_
        refine lv_bipush (v := 6) hx hb dX12_mind_52 (by decide) ?_
        refine lv_iload_n hx hb dX12_mind_54 rfl (lv_at hl 1 rfl) ?_
        refine lv_imul hx hb dX12_mind_55 ?_
        refine lv_iadd hx hb dX12_mind_56 ?_
        refine lv_iload_n hx hb dX12_mind_57 rfl (lv_at hl 2 rfl) ?_
        obtain ⟨r_16, σ_15, hc_14, h⟩ := bi_of h
        refine cg_ (rV_ (nn := 2) (As := [.int ((16 : Int32) + ((6 : Int32) * x1)), .int x2]) (rest := []) X xkM I (c_M_lets hc_14 H.size) gX12_mind_X12_lets rfl ⟨rfl, rfl⟩ (by decide +kernel) ⟨Nat.le_of_ble_eq_true rfl, Nat.le_of_ble_eq_true rfl⟩ (by decide) shM_0 rfl rfl hl.1 rfl (Nat.le_of_ble_eq_true rfl) dX12_mind_58) I (fun H locs I => ?_)
        obtain ⟨rfl, rfl⟩ := re_s h
        exact rti_ X I dX12_mind_61
      · have h := if_t h c_10
        refine lv_iconst (v := (-1)) hx hb dX12_mind_32 (by decide) ?_
        obtain ⟨rfl, rfl⟩ := re_s h
        exact rti_ X I dX12_mind_33
theorem c_M_mind {l : Launch} {D : va_G} {cy : Nat → ClassId} {a : Nat → Nat} {σ : Sg} {x1 : Int32} {x2 : Int32} {x3 : Int32} {r0 : Int32} {σ' : Sg} (h : M_mind_0 σ x1 x2 x3 = some (r0, σ')) (sz : Nat) : Met l yX12_mind wsX12_mind ({ frames := 1, cells := 0, slots := 0, locals := 25 }) (va_Pc [.ref (a 0), .int x1, .int x2, .int x3] (pr_ 16 a D cy (shM cy a σ) xfM sz)) (qg_ 16 a D (shM cy a σ') (some (.int r0)) sz) 0 0 (fr_ 16 a sz) := by
  refine ent_ (by decide) rfl (Nat.le_of_ble_eq_true rfl) ?_
  intro p e s m below meth c ls hsz X I hl
  subst hsz
  exact kM_mind_0 X σ x1 x2 x3 s.heap [] ls h I hl

def M_change_40  (σ : Sg) (x1 : Int32) (x2 : Int32) (x3 : Int32) (t0 : Int32) : Option (Int32 × Sg) :=
  if t0 = 0 then (some ((-1 : Int32), σ))
  else (bi_ (M_lets_0 σ (((16 : Int32) + ((6 : Int32) * x1)) + x2) x3) fun r_4 σ_3 =>
  some (r_4, σ_3))
set_option maxRecDepth 100000 in
theorem kM_change_40 {p : Program} {l : Launch} {e : Env} {s : State} {m : MethodId} {args : Array Value} {below : List Frame} {meth : Method} {c : Code} {D : va_G} {cy : Nat → ClassId} {a : Nat → Nat} (X : cx_ cX12_change RX12 wsX12_change 5 (some .int) 16 a D cy xfM p s m args meth c)  {r0 : Int32} {σ' : Sg}  : ∀ (σ : Sg) (x1 : Int32) (x2 : Int32) (x3 : Int32) (t0 : Int32) (H : Heap) (locs : List Loc) (ls : Array Slot), M_change_40 σ x1 x2 x3 t0 = some (r0, σ') → iv_ 16 a D (shM cy a σ) s H locs → lv_has ls 5 [(0, .ref (a 0)), (1, .int x1), (2, .int x2), (3, .int x3)] → W p l e ({ frames := 1, cells := 0, slots := 0, locals := 25 }) s m args below meth c H locs 0 0 (MQ below (qg_ 16 a D (shM cy a σ') (some (.int r0)) s.heap.size) args s 0 0 (fr_ 16 a s.heap.size)) (F0 m 40 ls [.int t0]) := by
  obtain ⟨hx, hb, hr, hml, hown, hts, hlk, hK, hA, hXf⟩ := id X
  intro σ x1 x2 x3 t0 H locs ls h I hl
  unfold M_change_40 at h
  refine lv_istore (lv' := [(4, .int t0), (0, .ref (a 0)), (1, .int x1), (2, .int x2), (3, .int x3)]) hx hb dX12_change_40 hl (by decide) rfl (fun ls hl => ?_)
  refine lv_iload hx hb dX12_change_42 (lv_at hl 0 rfl) ?_
  refine lv_if_eq (tgt := 64) hx hb dX12_change_44 (by decide) (fun c_1 => ?_) (fun c_1 => ?_)
  · have h := if_t h c_1
    refine lv_iconst (v := (-1)) hx hb dX12_change_64 (by decide) ?_
    obtain ⟨rfl, rfl⟩ := re_s h
    exact rti_ X I dX12_change_65
  · have h := if_f h c_1
    refine lv_aload_n hx hb dX12_change_47 rfl (lv_at hl 1 rfl) ?_
    refine lv_bipush (v := 16) hx hb dX12_change_48 (by decide) ?_
    refine lv_bipush (v := 6) hx hb dX12_change_50 (by decide) ?_
    refine lv_iload_n hx hb dX12_change_52 rfl (lv_at hl 2 rfl) ?_
    refine lv_imul hx hb dX12_change_53 ?_
    refine lv_iadd hx hb dX12_change_54 ?_
    refine lv_iload_n hx hb dX12_change_55 rfl (lv_at hl 3 rfl) ?_
    refine lv_iadd hx hb dX12_change_56 ?_
    refine lv_iload_n hx hb dX12_change_57 rfl (lv_at hl 4 rfl) ?_
    obtain ⟨r_4, σ_3, hc_2, h⟩ := bi_of h
    refine cg_ (rV_ (nn := 2) (As := [.int (((16 : Int32) + ((6 : Int32) * x1)) + x2), .int x3]) (rest := []) X xkM I (c_M_lets hc_2 H.size) gX12_change_X12_lets rfl ⟨rfl, rfl⟩ (by decide +kernel) ⟨Nat.le_of_ble_eq_true rfl, Nat.le_of_ble_eq_true rfl⟩ (by decide) shM_0 rfl rfl hl.1 rfl (Nat.le_of_ble_eq_true rfl) dX12_change_58) I (fun H locs I => ?_)
    refine lv_goto (tgt := 65) hx hb dX12_change_61 (by decide) ?_
    obtain ⟨rfl, rfl⟩ := re_s h
    exact rti_ X I dX12_change_65
def M_change_39  (σ : Sg) (x1 : Int32) (x2 : Int32) (x3 : Int32) : Option (Int32 × Sg) :=
  M_change_40 σ x1 x2 x3 (0 : Int32)
set_option maxRecDepth 100000 in
theorem kM_change_39 {p : Program} {l : Launch} {e : Env} {s : State} {m : MethodId} {args : Array Value} {below : List Frame} {meth : Method} {c : Code} {D : va_G} {cy : Nat → ClassId} {a : Nat → Nat} (X : cx_ cX12_change RX12 wsX12_change 5 (some .int) 16 a D cy xfM p s m args meth c)  {r0 : Int32} {σ' : Sg}  : ∀ (σ : Sg) (x1 : Int32) (x2 : Int32) (x3 : Int32) (H : Heap) (locs : List Loc) (ls : Array Slot), M_change_39 σ x1 x2 x3 = some (r0, σ') → iv_ 16 a D (shM cy a σ) s H locs → lv_has ls 5 [(0, .ref (a 0)), (1, .int x1), (2, .int x2), (3, .int x3)] → W p l e ({ frames := 1, cells := 0, slots := 0, locals := 25 }) s m args below meth c H locs 0 0 (MQ below (qg_ 16 a D (shM cy a σ') (some (.int r0)) s.heap.size) args s 0 0 (fr_ 16 a s.heap.size)) (F0 m 39 ls []) := by
  obtain ⟨hx, hb, hr, hml, hown, hts, hlk, hK, hA, hXf⟩ := id X
  intro σ x1 x2 x3 H locs ls h I hl
  unfold M_change_39 at h
  refine lv_iconst (v := 0) hx hb dX12_change_39 (by decide) ?_
  exact kM_change_40 X  σ x1 x2 x3 (0 : Int32) H locs ls h I (lv_sub hl [0, 1, 2, 3] rfl)
def M_change_23  (σ : Sg) (x1 : Int32) (x2 : Int32) (x3 : Int32) : Option (Int32 × Sg) :=
  bp_ (M_isIn_0 (x3).toInt64 (0 : Int64) (99 : Int64)) fun r_2 =>
  if r_2 = 0 then (M_change_39 σ x1 x2 x3)
  else (M_change_40 σ x1 x2 x3 (1 : Int32))
set_option maxRecDepth 100000 in
theorem kM_change_23 {p : Program} {l : Launch} {e : Env} {s : State} {m : MethodId} {args : Array Value} {below : List Frame} {meth : Method} {c : Code} {D : va_G} {cy : Nat → ClassId} {a : Nat → Nat} (X : cx_ cX12_change RX12 wsX12_change 5 (some .int) 16 a D cy xfM p s m args meth c)  {r0 : Int32} {σ' : Sg}  : ∀ (σ : Sg) (x1 : Int32) (x2 : Int32) (x3 : Int32) (H : Heap) (locs : List Loc) (ls : Array Slot), M_change_23 σ x1 x2 x3 = some (r0, σ') → iv_ 16 a D (shM cy a σ) s H locs → lv_has ls 5 [(0, .ref (a 0)), (1, .int x1), (2, .int x2), (3, .int x3)] → W p l e ({ frames := 1, cells := 0, slots := 0, locals := 25 }) s m args below meth c H locs 0 0 (MQ below (qg_ 16 a D (shM cy a σ') (some (.int r0)) s.heap.size) args s 0 0 (fr_ 16 a s.heap.size)) (F0 m 23 ls []) := by
  obtain ⟨hx, hb, hr, hml, hown, hts, hlk, hK, hA, hXf⟩ := id X
  intro σ x1 x2 x3 H locs ls h I hl
  unfold M_change_23 at h
  refine lv_iload_n hx hb dX12_change_23 rfl (lv_at hl 3 rfl) ?_
  refine lv_i2l hx hb dX12_change_24 rfl ?_
  refine lv_lconst (v := 0) hx hb dX12_change_25 (by decide) ?_
  refine lv_ldc2 (v := 99) hx hb hown (hts (.constantLong RX12 163 (99)) (by decide +kernel)) dX12_change_26 ?_
  obtain ⟨r_2, hc_1, h⟩ := bp_of h
  refine cp_ (rP_ (nn := 3) (As := [.long (x3).toInt64, .long (0 : Int64), .long (99 : Int64)]) (rest := []) ⟨hx, hb, hml, hown, hts⟩ (c_M_isIn hc_1) gX12_change_X12_isIn rfl ⟨rfl, rfl⟩ (by decide +kernel) ⟨Nat.le_of_ble_eq_true rfl, Nat.le_of_ble_eq_true rfl⟩ rfl hl.1 rfl (Nat.le_of_ble_eq_true rfl) dX12_change_29 ⟨Nat.zero_le _, Nat.zero_le _⟩) ?_
  refine lv_if_eq (tgt := 39) hx hb dX12_change_32 (by decide) (fun c_3 => ?_) (fun c_3 => ?_)
  · have h := if_t h c_3
    exact kM_change_39 X  σ x1 x2 x3 H locs ls h I (lv_sub hl [0, 1, 2, 3] rfl)
  · have h := if_f h c_3
    refine lv_iconst (v := 1) hx hb dX12_change_35 (by decide) ?_
    refine lv_goto (tgt := 40) hx hb dX12_change_36 (by decide) ?_
    exact kM_change_40 X  σ x1 x2 x3 (1 : Int32) H locs ls h I (lv_sub hl [0, 1, 2, 3] rfl)
def M_change_0  (σ : Sg) (x1 : Int32) (x2 : Int32) (x3 : Int32) : Option (Int32 × Sg) :=
  bi_ (M_isOne_0 σ x1) fun r_3 σ_2 =>
  if r_3 = 0 then (M_change_39 σ_2 x1 x2 x3)
  else (if x2 = (1 : Int32) then (M_change_23 σ_2 x1 x2 x3)
  else (if x2 = (3 : Int32) then (M_change_23 σ_2 x1 x2 x3)
  else (if x2 = (4 : Int32) then (M_change_23 σ_2 x1 x2 x3)
  else (M_change_39 σ_2 x1 x2 x3))))
set_option maxRecDepth 100000 in
theorem kM_change_0 {p : Program} {l : Launch} {e : Env} {s : State} {m : MethodId} {args : Array Value} {below : List Frame} {meth : Method} {c : Code} {D : va_G} {cy : Nat → ClassId} {a : Nat → Nat} (X : cx_ cX12_change RX12 wsX12_change 5 (some .int) 16 a D cy xfM p s m args meth c)  {r0 : Int32} {σ' : Sg}  : ∀ (σ : Sg) (x1 : Int32) (x2 : Int32) (x3 : Int32) (H : Heap) (locs : List Loc) (ls : Array Slot), M_change_0 σ x1 x2 x3 = some (r0, σ') → iv_ 16 a D (shM cy a σ) s H locs → lv_has ls 5 [(0, .ref (a 0)), (1, .int x1), (2, .int x2), (3, .int x3)] → W p l e ({ frames := 1, cells := 0, slots := 0, locals := 25 }) s m args below meth c H locs 0 0 (MQ below (qg_ 16 a D (shM cy a σ') (some (.int r0)) s.heap.size) args s 0 0 (fr_ 16 a s.heap.size)) (F0 m 0 ls []) := by
  obtain ⟨hx, hb, hr, hml, hown, hts, hlk, hK, hA, hXf⟩ := id X
  intro σ x1 x2 x3 H locs ls h I hl
  unfold M_change_0 at h
  refine lv_aload_n hx hb dX12_change_0 rfl (lv_at hl 0 rfl) ?_
  refine lv_iload_n hx hb dX12_change_1 rfl (lv_at hl 1 rfl) ?_
  obtain ⟨r_3, σ_2, hc_1, h⟩ := bi_of h
  refine cg_ (rV_ (nn := 1) (As := [.int x1]) (rest := []) X xkM I (c_M_isOne hc_1 H.size) gX12_change_X12_isOne rfl ⟨rfl, rfl⟩ (by decide +kernel) ⟨Nat.le_of_ble_eq_true rfl, Nat.le_of_ble_eq_true rfl⟩ (by decide) shM_0 rfl rfl hl.1 rfl (Nat.le_of_ble_eq_true rfl) dX12_change_2) I (fun H locs I => ?_)
  refine lv_if_eq (tgt := 39) hx hb dX12_change_5 (by decide) (fun c_4 => ?_) (fun c_4 => ?_)
  · have h := if_t h c_4
    exact kM_change_39 X  σ_2 x1 x2 x3 H locs ls h I (lv_sub hl [0, 1, 2, 3] rfl)
  · have h := if_f h c_4
    refine lv_iload_n hx hb dX12_change_8 rfl (lv_at hl 2 rfl) ?_
    refine lv_iconst (v := 1) hx hb dX12_change_9 (by decide) ?_
    refine lv_icmp_eq (tgt := 23) hx hb dX12_change_10 (by decide) (fun c_5 => ?_) (fun c_5 => ?_)
    · have h := if_t h c_5
      exact kM_change_23 X  σ_2 x1 x2 x3 H locs ls h I (lv_sub hl [0, 1, 2, 3] rfl)
    · have h := if_f h c_5
      refine lv_iload_n hx hb dX12_change_13 rfl (lv_at hl 2 rfl) ?_
      refine lv_iconst (v := 3) hx hb dX12_change_14 (by decide) ?_
      refine lv_icmp_eq (tgt := 23) hx hb dX12_change_15 (by decide) (fun c_6 => ?_) (fun c_6 => ?_)
      · have h := if_t h c_6
        exact kM_change_23 X  σ_2 x1 x2 x3 H locs ls h I (lv_sub hl [0, 1, 2, 3] rfl)
      · have h := if_f h c_6
        refine lv_iload_n hx hb dX12_change_18 rfl (lv_at hl 2 rfl) ?_
        refine lv_iconst (v := 4) hx hb dX12_change_19 (by decide) ?_
        refine lv_icmp_ne (tgt := 39) hx hb dX12_change_20 (by decide) (fun c_7 => ?_) (fun c_7 => ?_)
        · have h := if_f h c_7
          exact kM_change_39 X  σ_2 x1 x2 x3 H locs ls h I (lv_sub hl [0, 1, 2, 3] rfl)
        · have h := if_t h c_7
          exact kM_change_23 X  σ_2 x1 x2 x3 H locs ls h I (lv_sub hl [0, 1, 2, 3] rfl)
theorem c_M_change {l : Launch} {D : va_G} {cy : Nat → ClassId} {a : Nat → Nat} {σ : Sg} {x1 : Int32} {x2 : Int32} {x3 : Int32} {r0 : Int32} {σ' : Sg} (h : M_change_0 σ x1 x2 x3 = some (r0, σ')) (sz : Nat) : Met l yX12_change wsX12_change ({ frames := 1, cells := 0, slots := 0, locals := 25 }) (va_Pc [.ref (a 0), .int x1, .int x2, .int x3] (pr_ 16 a D cy (shM cy a σ) xfM sz)) (qg_ 16 a D (shM cy a σ') (some (.int r0)) sz) 0 0 (fr_ 16 a sz) := by
  refine ent_ (by decide) rfl (Nat.le_of_ble_eq_true rfl) ?_
  intro p e s m below meth c ls hsz X I hl
  subst hsz
  exact kM_change_0 X σ x1 x2 x3 s.heap [] ls h I hl

def M_swear_0  (σ : Sg) (x1 : Int32) (x2 : Int32) : Option (Int32 × Sg) :=
  bi_ (M_isOne_0 σ x1) fun r_3 σ_2 =>
  if r_3 = 0 then (some ((-1 : Int32), σ_2))
  else (bp_ (M_isMother_0 x2) fun r_6 =>
  if r_6 = 0 then (some ((-1 : Int32), σ_2))
  else (bi_ (M_lets_0 σ_2 (((16 : Int32) + ((6 : Int32) * x1)) + (5 : Int32)) x2) fun r_10 σ_9 =>
  some (r_10, σ_9)))
set_option maxRecDepth 100000 in
theorem kM_swear_0 {p : Program} {l : Launch} {e : Env} {s : State} {m : MethodId} {args : Array Value} {below : List Frame} {meth : Method} {c : Code} {D : va_G} {cy : Nat → ClassId} {a : Nat → Nat} (X : cx_ cX12_swear RX12 wsX12_swear 3 (some .int) 16 a D cy xfM p s m args meth c)  {r0 : Int32} {σ' : Sg}  : ∀ (σ : Sg) (x1 : Int32) (x2 : Int32) (H : Heap) (locs : List Loc) (ls : Array Slot), M_swear_0 σ x1 x2 = some (r0, σ') → iv_ 16 a D (shM cy a σ) s H locs → lv_has ls 3 [(0, .ref (a 0)), (1, .int x1), (2, .int x2)] → W p l e ({ frames := 1, cells := 0, slots := 0, locals := 23 }) s m args below meth c H locs 0 0 (MQ below (qg_ 16 a D (shM cy a σ') (some (.int r0)) s.heap.size) args s 0 0 (fr_ 16 a s.heap.size)) (F0 m 0 ls []) := by
  obtain ⟨hx, hb, hr, hml, hown, hts, hlk, hK, hA, hXf⟩ := id X
  intro σ x1 x2 H locs ls h I hl
  unfold M_swear_0 at h
  refine lv_aload_n hx hb dX12_swear_0 rfl (lv_at hl 0 rfl) ?_
  refine lv_iload_n hx hb dX12_swear_1 rfl (lv_at hl 1 rfl) ?_
  obtain ⟨r_3, σ_2, hc_1, h⟩ := bi_of h
  refine cg_ (rV_ (nn := 1) (As := [.int x1]) (rest := []) X xkM I (c_M_isOne hc_1 H.size) gX12_swear_X12_isOne rfl ⟨rfl, rfl⟩ (by decide +kernel) ⟨Nat.le_of_ble_eq_true rfl, Nat.le_of_ble_eq_true rfl⟩ (by decide) shM_0 rfl rfl hl.1 rfl (Nat.le_of_ble_eq_true rfl) dX12_swear_2) I (fun H locs I => ?_)
  refine lv_if_eq (tgt := 32) hx hb dX12_swear_5 (by decide) (fun c_4 => ?_) (fun c_4 => ?_)
  · have h := if_t h c_4
    refine lv_iconst (v := (-1)) hx hb dX12_swear_32 (by decide) ?_
    obtain ⟨rfl, rfl⟩ := re_s h
    exact rti_ X I dX12_swear_33
  · have h := if_f h c_4
    refine lv_iload_n hx hb dX12_swear_8 rfl (lv_at hl 2 rfl) ?_
    obtain ⟨r_6, hc_5, h⟩ := bp_of h
    refine cp_ (rP_ (nn := 1) (As := [.int x2]) (rest := []) ⟨hx, hb, hml, hown, hts⟩ (c_M_isMother hc_5) gX12_swear_X12_isMother rfl ⟨rfl, rfl⟩ (by decide +kernel) ⟨Nat.le_of_ble_eq_true rfl, Nat.le_of_ble_eq_true rfl⟩ rfl hl.1 rfl (Nat.le_of_ble_eq_true rfl) dX12_swear_9 ⟨Nat.zero_le _, Nat.zero_le _⟩) ?_
    refine lv_if_eq (tgt := 32) hx hb dX12_swear_12 (by decide) (fun c_7 => ?_) (fun c_7 => ?_)
    · have h := if_t h c_7
      refine lv_iconst (v := (-1)) hx hb dX12_swear_32 (by decide) ?_
      obtain ⟨rfl, rfl⟩ := re_s h
      exact rti_ X I dX12_swear_33
    · have h := if_f h c_7
      refine lv_aload_n hx hb dX12_swear_15 rfl (lv_at hl 0 rfl) ?_
      refine lv_bipush (v := 16) hx hb dX12_swear_16 (by decide) ?_
      refine lv_bipush (v := 6) hx hb dX12_swear_18 (by decide) ?_
      refine lv_iload_n hx hb dX12_swear_20 rfl (lv_at hl 1 rfl) ?_
      refine lv_imul hx hb dX12_swear_21 ?_
      refine lv_iadd hx hb dX12_swear_22 ?_
      refine lv_iconst (v := 5) hx hb dX12_swear_23 (by decide) ?_
      refine lv_iadd hx hb dX12_swear_24 ?_
      refine lv_iload_n hx hb dX12_swear_25 rfl (lv_at hl 2 rfl) ?_
      obtain ⟨r_10, σ_9, hc_8, h⟩ := bi_of h
      refine cg_ (rV_ (nn := 2) (As := [.int (((16 : Int32) + ((6 : Int32) * x1)) + (5 : Int32)), .int x2]) (rest := []) X xkM I (c_M_lets hc_8 H.size) gX12_swear_X12_lets rfl ⟨rfl, rfl⟩ (by decide +kernel) ⟨Nat.le_of_ble_eq_true rfl, Nat.le_of_ble_eq_true rfl⟩ (by decide) shM_0 rfl rfl hl.1 rfl (Nat.le_of_ble_eq_true rfl) dX12_swear_26) I (fun H locs I => ?_)
      refine lv_goto (tgt := 33) hx hb dX12_swear_29 (by decide) ?_
      obtain ⟨rfl, rfl⟩ := re_s h
      exact rti_ X I dX12_swear_33
theorem c_M_swear {l : Launch} {D : va_G} {cy : Nat → ClassId} {a : Nat → Nat} {σ : Sg} {x1 : Int32} {x2 : Int32} {r0 : Int32} {σ' : Sg} (h : M_swear_0 σ x1 x2 = some (r0, σ')) (sz : Nat) : Met l yX12_swear wsX12_swear ({ frames := 1, cells := 0, slots := 0, locals := 23 }) (va_Pc [.ref (a 0), .int x1, .int x2] (pr_ 16 a D cy (shM cy a σ) xfM sz)) (qg_ 16 a D (shM cy a σ') (some (.int r0)) sz) 0 0 (fr_ 16 a sz) := by
  refine ent_ (by decide) rfl (Nat.le_of_ble_eq_true rfl) ?_
  intro p e s m below meth c ls hsz X I hl
  subst hsz
  exact kM_swear_0 X σ x1 x2 s.heap [] ls h I hl

def M_vice_0  (σ : Sg) (x1 : Int32) (x2 : Int32) : Option (Int32 × Sg) :=
  bp_ (M_isMother_0 x1) fun r_2 =>
  if r_2 = 0 then (some ((-1 : Int32), σ))
  else (bp_ (M_isIn_0 (x2).toInt64 (0 : Int64) (99 : Int64)) fun r_5 =>
  if r_5 = 0 then (some ((-1 : Int32), σ))
  else (bi_ (M_lets_0 σ ((8 : Int32) + x1) x2) fun r_9 σ_8 =>
  some (r_9, σ_8)))
set_option maxRecDepth 100000 in
theorem kM_vice_0 {p : Program} {l : Launch} {e : Env} {s : State} {m : MethodId} {args : Array Value} {below : List Frame} {meth : Method} {c : Code} {D : va_G} {cy : Nat → ClassId} {a : Nat → Nat} (X : cx_ cX12_vice RX12 wsX12_vice 3 (some .int) 16 a D cy xfM p s m args meth c)  {r0 : Int32} {σ' : Sg}  : ∀ (σ : Sg) (x1 : Int32) (x2 : Int32) (H : Heap) (locs : List Loc) (ls : Array Slot), M_vice_0 σ x1 x2 = some (r0, σ') → iv_ 16 a D (shM cy a σ) s H locs → lv_has ls 3 [(0, .ref (a 0)), (1, .int x1), (2, .int x2)] → W p l e ({ frames := 1, cells := 0, slots := 0, locals := 25 }) s m args below meth c H locs 0 0 (MQ below (qg_ 16 a D (shM cy a σ') (some (.int r0)) s.heap.size) args s 0 0 (fr_ 16 a s.heap.size)) (F0 m 0 ls []) := by
  obtain ⟨hx, hb, hr, hml, hown, hts, hlk, hK, hA, hXf⟩ := id X
  intro σ x1 x2 H locs ls h I hl
  unfold M_vice_0 at h
  refine lv_iload_n hx hb dX12_vice_0 rfl (lv_at hl 1 rfl) ?_
  obtain ⟨r_2, hc_1, h⟩ := bp_of h
  refine cp_ (rP_ (nn := 1) (As := [.int x1]) (rest := []) ⟨hx, hb, hml, hown, hts⟩ (c_M_isMother hc_1) gX12_vice_X12_isMother rfl ⟨rfl, rfl⟩ (by decide +kernel) ⟨Nat.le_of_ble_eq_true rfl, Nat.le_of_ble_eq_true rfl⟩ rfl hl.1 rfl (Nat.le_of_ble_eq_true rfl) dX12_vice_1 ⟨Nat.zero_le _, Nat.zero_le _⟩) ?_
  refine lv_if_eq (tgt := 31) hx hb dX12_vice_4 (by decide) (fun c_3 => ?_) (fun c_3 => ?_)
  · have h := if_t h c_3
    refine lv_iconst (v := (-1)) hx hb dX12_vice_31 (by decide) ?_
    obtain ⟨rfl, rfl⟩ := re_s h
    exact rti_ X I dX12_vice_32
  · have h := if_f h c_3
    refine lv_iload_n hx hb dX12_vice_7 rfl (lv_at hl 2 rfl) ?_
    refine lv_i2l hx hb dX12_vice_8 rfl ?_
    refine lv_lconst (v := 0) hx hb dX12_vice_9 (by decide) ?_
    refine lv_ldc2 (v := 99) hx hb hown (hts (.constantLong RX12 163 (99)) (by decide +kernel)) dX12_vice_10 ?_
    obtain ⟨r_5, hc_4, h⟩ := bp_of h
    refine cp_ (rP_ (nn := 3) (As := [.long (x2).toInt64, .long (0 : Int64), .long (99 : Int64)]) (rest := []) ⟨hx, hb, hml, hown, hts⟩ (c_M_isIn hc_4) gX12_vice_X12_isIn rfl ⟨rfl, rfl⟩ (by decide +kernel) ⟨Nat.le_of_ble_eq_true rfl, Nat.le_of_ble_eq_true rfl⟩ rfl hl.1 rfl (Nat.le_of_ble_eq_true rfl) dX12_vice_13 ⟨Nat.zero_le _, Nat.zero_le _⟩) ?_
    refine lv_if_eq (tgt := 31) hx hb dX12_vice_16 (by decide) (fun c_6 => ?_) (fun c_6 => ?_)
    · have h := if_t h c_6
      refine lv_iconst (v := (-1)) hx hb dX12_vice_31 (by decide) ?_
      obtain ⟨rfl, rfl⟩ := re_s h
      exact rti_ X I dX12_vice_32
    · have h := if_f h c_6
      refine lv_aload_n hx hb dX12_vice_19 rfl (lv_at hl 0 rfl) ?_
      refine lv_bipush (v := 8) hx hb dX12_vice_20 (by decide) ?_
      refine lv_iload_n hx hb dX12_vice_22 rfl (lv_at hl 1 rfl) ?_
      refine lv_iadd hx hb dX12_vice_23 ?_
      refine lv_iload_n hx hb dX12_vice_24 rfl (lv_at hl 2 rfl) ?_
      obtain ⟨r_9, σ_8, hc_7, h⟩ := bi_of h
      refine cg_ (rV_ (nn := 2) (As := [.int ((8 : Int32) + x1), .int x2]) (rest := []) X xkM I (c_M_lets hc_7 H.size) gX12_vice_X12_lets rfl ⟨rfl, rfl⟩ (by decide +kernel) ⟨Nat.le_of_ble_eq_true rfl, Nat.le_of_ble_eq_true rfl⟩ (by decide) shM_0 rfl rfl hl.1 rfl (Nat.le_of_ble_eq_true rfl) dX12_vice_25) I (fun H locs I => ?_)
      refine lv_goto (tgt := 32) hx hb dX12_vice_28 (by decide) ?_
      obtain ⟨rfl, rfl⟩ := re_s h
      exact rti_ X I dX12_vice_32
theorem c_M_vice {l : Launch} {D : va_G} {cy : Nat → ClassId} {a : Nat → Nat} {σ : Sg} {x1 : Int32} {x2 : Int32} {r0 : Int32} {σ' : Sg} (h : M_vice_0 σ x1 x2 = some (r0, σ')) (sz : Nat) : Met l yX12_vice wsX12_vice ({ frames := 1, cells := 0, slots := 0, locals := 25 }) (va_Pc [.ref (a 0), .int x1, .int x2] (pr_ 16 a D cy (shM cy a σ) xfM sz)) (qg_ 16 a D (shM cy a σ') (some (.int r0)) sz) 0 0 (fr_ 16 a sz) := by
  refine ent_ (by decide) rfl (Nat.le_of_ble_eq_true rfl) ?_
  intro p e s m below meth c ls hsz X I hl
  subst hsz
  exact kM_vice_0 X σ x1 x2 s.heap [] ls h I hl

def M_easy_0  (σ : Sg) (x1 : Int32) (x2 : Int32) : Option (Int32 × Sg) :=
  bp_ (M_isMother_0 x1) fun r_2 =>
  if r_2 = 0 then (some ((-1 : Int32), σ))
  else (bp_ (M_isIn_0 (x2).toInt64 (0 : Int64) (1 : Int64)) fun r_5 =>
  if r_5 = 0 then (some ((-1 : Int32), σ))
  else (lt_ ((((rd_ σ 1 7) >>> (x1 &&& 31)) &&& (1 : Int32))) fun y_7 =>
  lt_ (wr_ σ 1 7 (((rd_ σ 1 7) &&& (((1 : Int32) <<< (x1 &&& 31)) ^^^ (-1 : Int32))) ||| (x2 <<< (x1 &&& 31)))) fun σ_9 =>
  some (y_7, σ_9)))
set_option maxRecDepth 100000 in
theorem kM_easy_0 {p : Program} {l : Launch} {e : Env} {s : State} {m : MethodId} {args : Array Value} {below : List Frame} {meth : Method} {c : Code} {D : va_G} {cy : Nat → ClassId} {a : Nat → Nat} (X : cx_ cX12_easy RX12 wsX12_easy 4 (some .int) 16 a D cy xfM p s m args meth c)  {r0 : Int32} {σ' : Sg}  : ∀ (σ : Sg) (x1 : Int32) (x2 : Int32) (H : Heap) (locs : List Loc) (ls : Array Slot), M_easy_0 σ x1 x2 = some (r0, σ') → iv_ 16 a D (shM cy a σ) s H locs → lv_has ls 4 [(0, .ref (a 0)), (1, .int x1), (2, .int x2)] → W p l e ({ frames := 1, cells := 0, slots := 0, locals := 25 }) s m args below meth c H locs 0 0 (MQ below (qg_ 16 a D (shM cy a σ') (some (.int r0)) s.heap.size) args s 0 0 (fr_ 16 a s.heap.size)) (F0 m 0 ls []) := by
  obtain ⟨hx, hb, hr, hml, hown, hts, hlk, hK, hA, hXf⟩ := id X
  intro σ x1 x2 H locs ls h I hl
  unfold M_easy_0 at h
  refine lv_iload_n hx hb dX12_easy_0 rfl (lv_at hl 1 rfl) ?_
  obtain ⟨r_2, hc_1, h⟩ := bp_of h
  refine cp_ (rP_ (nn := 1) (As := [.int x1]) (rest := []) ⟨hx, hb, hml, hown, hts⟩ (c_M_isMother hc_1) gX12_easy_X12_isMother rfl ⟨rfl, rfl⟩ (by decide +kernel) ⟨Nat.le_of_ble_eq_true rfl, Nat.le_of_ble_eq_true rfl⟩ rfl hl.1 rfl (Nat.le_of_ble_eq_true rfl) dX12_easy_1 ⟨Nat.zero_le _, Nat.zero_le _⟩) ?_
  refine lv_if_eq (tgt := 17) hx hb dX12_easy_4 (by decide) (fun c_3 => ?_) (fun c_3 => ?_)
  · have h := if_t h c_3
    refine lv_iconst (v := (-1)) hx hb dX12_easy_17 (by decide) ?_
    obtain ⟨rfl, rfl⟩ := re_s h
    exact rti_ X I dX12_easy_18
  · have h := if_f h c_3
    refine lv_iload_n hx hb dX12_easy_7 rfl (lv_at hl 2 rfl) ?_
    refine lv_i2l hx hb dX12_easy_8 rfl ?_
    refine lv_lconst (v := 0) hx hb dX12_easy_9 (by decide) ?_
    refine lv_lconst (v := 1) hx hb dX12_easy_10 (by decide) ?_
    obtain ⟨r_5, hc_4, h⟩ := bp_of h
    refine cp_ (rP_ (nn := 3) (As := [.long (x2).toInt64, .long (0 : Int64), .long (1 : Int64)]) (rest := []) ⟨hx, hb, hml, hown, hts⟩ (c_M_isIn hc_4) gX12_easy_X12_isIn rfl ⟨rfl, rfl⟩ (by decide +kernel) ⟨Nat.le_of_ble_eq_true rfl, Nat.le_of_ble_eq_true rfl⟩ rfl hl.1 rfl (Nat.le_of_ble_eq_true rfl) dX12_easy_11 ⟨Nat.zero_le _, Nat.zero_le _⟩) ?_
    refine lv_if_ne (tgt := 19) hx hb dX12_easy_14 (by decide) (fun c_6 => ?_) (fun c_6 => ?_)
    · have h := if_f h c_6
      refine lv_aload_n hx hb dX12_easy_19 rfl (lv_at hl 0 rfl) ?_
      refine ig_ (index := 7) X I (fun _ q => List.mem_cons_of_mem _ (List.mem_append_right _ q)) 0 (by decide) shM_0 rfl 0 (by decide) (by decide +kernel) rfl (v := .ref (a 1)) rfl dX12_easy_20 ?_
      refine lv_bipush (v := 7) hx hb dX12_easy_23 (by decide) ?_
      refine ia_ X I 1 (by decide) shM_1 (in_of (by decide)) (v0 := rd_ σ 1 7) rfl dX12_easy_25 ?_
      refine lv_iload_n hx hb dX12_easy_26 rfl (lv_at hl 1 rfl) ?_
      refine lv_ishr hx hb dX12_easy_27 ?_
      refine lv_iconst (v := 1) hx hb dX12_easy_28 (by decide) ?_
      refine lv_iand hx hb dX12_easy_29 ?_
      refine lv_topi (fun y_7 e_8 => ?_)
      have h := lt_at h e_8
      refine lv_istore_n (lv' := [(3, .int y_7), (0, .ref (a 0)), (1, .int x1), (2, .int x2)]) hx hb dX12_easy_30 rfl hl (by decide) rfl (fun ls hl => ?_)
      refine lv_aload_n hx hb dX12_easy_31 rfl (lv_at hl 1 rfl) ?_
      refine ig_ (index := 7) X I (fun _ q => List.mem_cons_of_mem _ (List.mem_append_right _ q)) 0 (by decide) shM_0 rfl 0 (by decide) (by decide +kernel) rfl (v := .ref (a 1)) rfl dX12_easy_32 ?_
      refine lv_bipush (v := 7) hx hb dX12_easy_35 (by decide) ?_
      refine lv_aload_n hx hb dX12_easy_37 rfl (lv_at hl 1 rfl) ?_
      refine ig_ (index := 7) X I (fun _ q => List.mem_cons_of_mem _ (List.mem_append_right _ q)) 0 (by decide) shM_0 rfl 0 (by decide) (by decide +kernel) rfl (v := .ref (a 1)) rfl dX12_easy_38 ?_
      refine lv_bipush (v := 7) hx hb dX12_easy_41 (by decide) ?_
      refine ia_ X I 1 (by decide) shM_1 (in_of (by decide)) (v0 := rd_ σ 1 7) rfl dX12_easy_43 ?_
      refine lv_iconst (v := 1) hx hb dX12_easy_44 (by decide) ?_
      refine lv_iload_n hx hb dX12_easy_45 rfl (lv_at hl 2 rfl) ?_
      refine lv_ishl hx hb dX12_easy_46 ?_
      refine lv_iconst (v := (-1)) hx hb dX12_easy_47 (by decide) ?_
      refine lv_ixor hx hb dX12_easy_48 ?_
      refine lv_iand hx hb dX12_easy_49 ?_
      refine lv_iload_n hx hb dX12_easy_50 rfl (lv_at hl 3 rfl) ?_
      refine lv_iload_n hx hb dX12_easy_51 rfl (lv_at hl 2 rfl) ?_
      refine lv_ishl hx hb dX12_easy_52 ?_
      refine lv_ior hx hb dX12_easy_53 ?_
      refine is_ (σ2 := wr_ σ 1 7 (((rd_ σ 1 7) &&& (((1 : Int32) <<< (x1 &&& 31)) ^^^ (-1 : Int32))) ||| (x2 <<< (x1 &&& 31)))) X I 1 (by decide) shM_1 (in_of (by decide)) shM_st_1 dX12_easy_54 (fun σ_9 H locs e_10 I => ?_)
      have h := lt_at h e_10
      refine lv_iload_n hx hb dX12_easy_55 rfl (lv_at hl 0 rfl) ?_
      obtain ⟨rfl, rfl⟩ := re_s h
      exact rti_ X I dX12_easy_56
    · have h := if_t h c_6
      refine lv_iconst (v := (-1)) hx hb dX12_easy_17 (by decide) ?_
      obtain ⟨rfl, rfl⟩ := re_s h
      exact rti_ X I dX12_easy_18
theorem c_M_easy {l : Launch} {D : va_G} {cy : Nat → ClassId} {a : Nat → Nat} {σ : Sg} {x1 : Int32} {x2 : Int32} {r0 : Int32} {σ' : Sg} (h : M_easy_0 σ x1 x2 = some (r0, σ')) (sz : Nat) : Met l yX12_easy wsX12_easy ({ frames := 1, cells := 0, slots := 0, locals := 25 }) (va_Pc [.ref (a 0), .int x1, .int x2] (pr_ 16 a D cy (shM cy a σ) xfM sz)) (qg_ 16 a D (shM cy a σ') (some (.int r0)) sz) 0 0 (fr_ 16 a sz) := by
  refine ent_ (by decide) rfl (Nat.le_of_ble_eq_true rfl) ?_
  intro p e s m below meth c ls hsz X I hl
  subst hsz
  exact kM_easy_0 X σ x1 x2 s.heap [] ls h I hl

def M_swornTo_32 (k4 : Sg → Int32 → Int32 → Int32 → Option (Int32 × Sg)) (σ : Sg) (x1 : Int32) (x3 : Int32) (t1 : Int32) (t0 : Int32) : Option (Int32 × Sg) :=
  lt_ ((t0 ||| t1)) fun y_1 =>
  lt_ (x3 + (1 : Int32)) fun y_3 =>
  k4 σ x1 y_1 y_3
set_option maxRecDepth 100000 in
theorem kM_swornTo_32 {p : Program} {l : Launch} {e : Env} {s : State} {m : MethodId} {args : Array Value} {below : List Frame} {meth : Method} {c : Code} {D : va_G} {cy : Nat → ClassId} {a : Nat → Nat} (X : cx_ cX12_swornTo RX12 wsX12_swornTo 4 (some .int) 16 a D cy xfM p s m args meth c) {k4 : Sg → Int32 → Int32 → Int32 → Option (Int32 × Sg)} {r0 : Int32} {σ' : Sg} (hk4 : ∀ (σ : Sg) (x1 : Int32) (x2 : Int32) (x3 : Int32) (H : Heap) (locs : List Loc) (ls : Array Slot), k4 σ x1 x2 x3 = some (r0, σ') → iv_ 16 a D (shM cy a σ) s H locs → lv_has ls 4 [(0, .ref (a 0)), (1, .int x1), (2, .int x2), (3, .int x3)] → W p l e ({ frames := 1, cells := 0, slots := 0, locals := 22 }) s m args below meth c H locs 0 0 (MQ below (qg_ 16 a D (shM cy a σ') (some (.int r0)) s.heap.size) args s 0 0 (fr_ 16 a s.heap.size)) (F0 m 4 ls [])) : ∀ (σ : Sg) (x1 : Int32) (x3 : Int32) (t1 : Int32) (t0 : Int32) (H : Heap) (locs : List Loc) (ls : Array Slot), M_swornTo_32 k4 σ x1 x3 t1 t0 = some (r0, σ') → iv_ 16 a D (shM cy a σ) s H locs → lv_has ls 4 [(0, .ref (a 0)), (1, .int x1), (3, .int x3)] → W p l e ({ frames := 1, cells := 0, slots := 0, locals := 22 }) s m args below meth c H locs 0 0 (MQ below (qg_ 16 a D (shM cy a σ') (some (.int r0)) s.heap.size) args s 0 0 (fr_ 16 a s.heap.size)) (F0 m 32 ls [.int t1, .int t0]) := by
  obtain ⟨hx, hb, hr, hml, hown, hts, hlk, hK, hA, hXf⟩ := id X
  intro σ x1 x3 t1 t0 H locs ls h I hl
  unfold M_swornTo_32 at h
  refine lv_ior hx hb dX12_swornTo_32 ?_
  refine lv_topi (fun y_1 e_2 => ?_)
  have h := lt_at h e_2
  refine lv_istore_n (lv' := [(2, .int y_1), (0, .ref (a 0)), (1, .int x1), (3, .int x3)]) hx hb dX12_swornTo_33 rfl hl (by decide) rfl (fun ls hl => ?_)
  obtain ⟨y_3, e_4⟩ : ∃ q : Int32, q = x3 + (1 : Int32) := ⟨_, rfl⟩
  have h := lt_at h e_4
  refine lv_iinc (v := y_3) (lv' := [(3, .int y_3), (2, .int y_1), (0, .ref (a 0)), (1, .int x1)]) hx hb dX12_swornTo_34 hl (k := 3) rfl (by rw [e_4]; rfl) (by decide) rfl (fun ls hl => ?_)
  refine lv_goto (tgt := 4) hx hb dX12_swornTo_37 (by decide) ?_
  exact hk4 σ x1 y_1 y_3 H locs ls h I (lv_sub hl [2, 3, 1, 0] rfl)
def M_swornTo_4 (k4 : Sg → Int32 → Int32 → Int32 → Option (Int32 × Sg)) (σ : Sg) (x1 : Int32) (x2 : Int32) (x3 : Int32) : Option (Int32 × Sg) :=
  if (rd_ σ 1 0) ≤ x3 then (some (x2, σ))
  else (bi_ (M_its_0 σ x3 (5 : Int32)) fun r_4 σ_3 =>
  if r_4 = x1 then (M_swornTo_32 k4 σ_3 x1 x3 ((1 : Int32) <<< (x3 &&& 31)) x2)
  else (M_swornTo_32 k4 σ_3 x1 x3 (0 : Int32) x2))
set_option maxRecDepth 100000 in
theorem kM_swornTo_4 {p : Program} {l : Launch} {e : Env} {s : State} {m : MethodId} {args : Array Value} {below : List Frame} {meth : Method} {c : Code} {D : va_G} {cy : Nat → ClassId} {a : Nat → Nat} (X : cx_ cX12_swornTo RX12 wsX12_swornTo 4 (some .int) 16 a D cy xfM p s m args meth c) {k4 : Sg → Int32 → Int32 → Int32 → Option (Int32 × Sg)} {r0 : Int32} {σ' : Sg} (hk4 : ∀ (σ : Sg) (x1 : Int32) (x2 : Int32) (x3 : Int32) (H : Heap) (locs : List Loc) (ls : Array Slot), k4 σ x1 x2 x3 = some (r0, σ') → iv_ 16 a D (shM cy a σ) s H locs → lv_has ls 4 [(0, .ref (a 0)), (1, .int x1), (2, .int x2), (3, .int x3)] → W p l e ({ frames := 1, cells := 0, slots := 0, locals := 22 }) s m args below meth c H locs 0 0 (MQ below (qg_ 16 a D (shM cy a σ') (some (.int r0)) s.heap.size) args s 0 0 (fr_ 16 a s.heap.size)) (F0 m 4 ls [])) : ∀ (σ : Sg) (x1 : Int32) (x2 : Int32) (x3 : Int32) (H : Heap) (locs : List Loc) (ls : Array Slot), M_swornTo_4 k4 σ x1 x2 x3 = some (r0, σ') → iv_ 16 a D (shM cy a σ) s H locs → lv_has ls 4 [(0, .ref (a 0)), (1, .int x1), (2, .int x2), (3, .int x3)] → W p l e ({ frames := 1, cells := 0, slots := 0, locals := 22 }) s m args below meth c H locs 0 0 (MQ below (qg_ 16 a D (shM cy a σ') (some (.int r0)) s.heap.size) args s 0 0 (fr_ 16 a s.heap.size)) (F0 m 4 ls []) := by
  obtain ⟨hx, hb, hr, hml, hown, hts, hlk, hK, hA, hXf⟩ := id X
  intro σ x1 x2 x3 H locs ls h I hl
  unfold M_swornTo_4 at h
  refine lv_iload_n hx hb dX12_swornTo_4 rfl (lv_at hl 3 rfl) ?_
  refine lv_aload_n hx hb dX12_swornTo_5 rfl (lv_at hl 0 rfl) ?_
  refine ig_ (index := 7) X I (fun _ q => List.mem_cons_of_mem _ (List.mem_append_right _ q)) 0 (by decide) shM_0 rfl 0 (by decide) (by decide +kernel) rfl (v := .ref (a 1)) rfl dX12_swornTo_6 ?_
  refine lv_iconst (v := 0) hx hb dX12_swornTo_9 (by decide) ?_
  refine ia_ X I 1 (by decide) shM_1 (in_of (by decide)) (v0 := rd_ σ 1 0) rfl dX12_swornTo_10 ?_
  refine lv_icmp_ge (tgt := 40) hx hb dX12_swornTo_11 (by decide) (fun c_1 => ?_) (fun c_1 => ?_)
  · have h := if_t h c_1
    refine lv_iload_n hx hb dX12_swornTo_40 rfl (lv_at hl 2 rfl) ?_
    obtain ⟨rfl, rfl⟩ := re_s h
    exact rti_ X I dX12_swornTo_41
  · have h := if_f h c_1
    refine lv_iload_n hx hb dX12_swornTo_14 rfl (lv_at hl 2 rfl) ?_
    refine lv_aload_n hx hb dX12_swornTo_15 rfl (lv_at hl 0 rfl) ?_
    refine lv_iload_n hx hb dX12_swornTo_16 rfl (lv_at hl 3 rfl) ?_
    refine lv_iconst (v := 5) hx hb dX12_swornTo_17 (by decide) ?_
    obtain ⟨r_4, σ_3, hc_2, h⟩ := bi_of h
    refine cg_ (rV_ (nn := 2) (As := [.int x3, .int (5 : Int32)]) (rest := [.int x2]) X xkM I (c_M_its hc_2 H.size) gX12_swornTo_X12_its rfl ⟨rfl, rfl⟩ (by decide +kernel) ⟨Nat.le_of_ble_eq_true rfl, Nat.le_of_ble_eq_true rfl⟩ (by decide) shM_0 rfl rfl hl.1 rfl (Nat.le_of_ble_eq_true rfl) dX12_swornTo_18) I (fun H locs I => ?_)
    refine lv_iload_n hx hb dX12_swornTo_21 rfl (lv_at hl 1 rfl) ?_
    refine lv_icmp_ne (tgt := 31) hx hb dX12_swornTo_22 (by decide) (fun c_5 => ?_) (fun c_5 => ?_)
    · have h := if_f h c_5
      refine lv_iconst (v := 0) hx hb dX12_swornTo_31 (by decide) ?_
      exact kM_swornTo_32 X hk4 σ_3 x1 x3 (0 : Int32) x2 H locs ls h I (lv_sub hl [0, 1, 3] rfl)
    · have h := if_t h c_5
      refine lv_iconst (v := 1) hx hb dX12_swornTo_25 (by decide) ?_
      refine lv_iload_n hx hb dX12_swornTo_26 rfl (lv_at hl 3 rfl) ?_
      refine lv_ishl hx hb dX12_swornTo_27 ?_
      refine lv_goto (tgt := 32) hx hb dX12_swornTo_28 (by decide) ?_
      exact kM_swornTo_32 X hk4 σ_3 x1 x3 ((1 : Int32) <<< (x3 &&& 31)) x2 H locs ls h I (lv_sub hl [0, 1, 3] rfl)
set_option maxRecDepth 100000 in
theorem kM_swornTo_4L {p : Program} {l : Launch} {e : Env} {s : State} {m : MethodId} {args : Array Value} {below : List Frame} {meth : Method} {c : Code} {D : va_G} {cy : Nat → ClassId} {a : Nat → Nat} (X : cx_ cX12_swornTo RX12 wsX12_swornTo 4 (some .int) 16 a D cy xfM p s m args meth c)  {r0 : Int32} {σ' : Sg}  : ∀ (n : Nat), ∀ (σ : Sg) (x1 : Int32) (x2 : Int32) (x3 : Int32) (H : Heap) (locs : List Loc) (ls : Array Slot), lp_ (M_swornTo_4) (fun _ _ _ _ => none) n σ x1 x2 x3 = some (r0, σ') → iv_ 16 a D (shM cy a σ) s H locs → lv_has ls 4 [(0, .ref (a 0)), (1, .int x1), (2, .int x2), (3, .int x3)] → W p l e ({ frames := 1, cells := 0, slots := 0, locals := 22 }) s m args below meth c H locs 0 0 (MQ below (qg_ 16 a D (shM cy a σ') (some (.int r0)) s.heap.size) args s 0 0 (fr_ 16 a s.heap.size)) (F0 m 4 ls []) := by
  intro n
  induction n with
  | zero =>
    intro _ _ _ _ _ _ _ h
    exact absurd h (fun q => by cases (show (none : Option _) = some _ from q))
  | succ n ih => exact kM_swornTo_4 X ih

def M_swornTo_0  (σ : Sg) (x1 : Int32) : Option (Int32 × Sg) :=
  lp_ M_swornTo_4 (fun _ _ _ _ => none) FU σ x1 (0 : Int32) (0 : Int32)
set_option maxRecDepth 100000 in
theorem kM_swornTo_0 {p : Program} {l : Launch} {e : Env} {s : State} {m : MethodId} {args : Array Value} {below : List Frame} {meth : Method} {c : Code} {D : va_G} {cy : Nat → ClassId} {a : Nat → Nat} (X : cx_ cX12_swornTo RX12 wsX12_swornTo 4 (some .int) 16 a D cy xfM p s m args meth c)  {r0 : Int32} {σ' : Sg}  : ∀ (σ : Sg) (x1 : Int32) (H : Heap) (locs : List Loc) (ls : Array Slot), M_swornTo_0 σ x1 = some (r0, σ') → iv_ 16 a D (shM cy a σ) s H locs → lv_has ls 4 [(0, .ref (a 0)), (1, .int x1)] → W p l e ({ frames := 1, cells := 0, slots := 0, locals := 22 }) s m args below meth c H locs 0 0 (MQ below (qg_ 16 a D (shM cy a σ') (some (.int r0)) s.heap.size) args s 0 0 (fr_ 16 a s.heap.size)) (F0 m 0 ls []) := by
  obtain ⟨hx, hb, hr, hml, hown, hts, hlk, hK, hA, hXf⟩ := id X
  intro σ x1 H locs ls h I hl
  unfold M_swornTo_0 at h
  refine lv_iconst (v := 0) hx hb dX12_swornTo_0 (by decide) ?_
  refine lv_istore_n (lv' := [(2, .int (0 : Int32)), (0, .ref (a 0)), (1, .int x1)]) hx hb dX12_swornTo_1 rfl hl (by decide) rfl (fun ls hl => ?_)
  refine lv_iconst (v := 0) hx hb dX12_swornTo_2 (by decide) ?_
  refine lv_istore_n (lv' := [(3, .int (0 : Int32)), (2, .int (0 : Int32)), (0, .ref (a 0)), (1, .int x1)]) hx hb dX12_swornTo_3 rfl hl (by decide) rfl (fun ls hl => ?_)
  exact kM_swornTo_4L X  FU σ x1 (0 : Int32) (0 : Int32) H locs ls h I (lv_sub hl [2, 3, 1, 0] rfl)
theorem c_M_swornTo {l : Launch} {D : va_G} {cy : Nat → ClassId} {a : Nat → Nat} {σ : Sg} {x1 : Int32} {r0 : Int32} {σ' : Sg} (h : M_swornTo_0 σ x1 = some (r0, σ')) (sz : Nat) : Met l yX12_swornTo wsX12_swornTo ({ frames := 1, cells := 0, slots := 0, locals := 22 }) (va_Pc [.ref (a 0), .int x1] (pr_ 16 a D cy (shM cy a σ) xfM sz)) (qg_ 16 a D (shM cy a σ') (some (.int r0)) sz) 0 0 (fr_ 16 a sz) := by
  refine ent_ (by decide) rfl (Nat.le_of_ble_eq_true rfl) ?_
  intro p e s m below meth c ls hsz X I hl
  subst hsz
  exact kM_swornTo_0 X σ x1 s.heap [] ls h I hl

def M_godmother_0  (σ : Sg) (x1 : Int32) (x2 : Int32) : Option (Int32 × Sg) :=
  bp_ (M_isMother_0 x1) fun r_2 =>
  if r_2 = 0 then (some ((-1 : Int32), σ))
  else (bp_ (M_isIn_0 (x2).toInt64 (0 : Int64) (2 : Int64)) fun r_5 =>
  if r_5 = 0 then (some ((-1 : Int32), σ))
  else (if x2 = 0 then (lt_ (((8 : Int32) + x1)) fun y_12 =>
  gd_ (in_ y_12 64) (
  some ((rd_ σ 1 y_12.toNatClampNeg), σ)))
  else (if x2 = (1 : Int32) then (some ((((rd_ σ 1 7) >>> (x1 &&& 31)) &&& (1 : Int32)), σ))
  else (bi_ (M_swornTo_0 σ x1) fun r_11 σ_10 =>
  some (r_11, σ_10)))))
set_option maxRecDepth 100000 in
theorem kM_godmother_0 {p : Program} {l : Launch} {e : Env} {s : State} {m : MethodId} {args : Array Value} {below : List Frame} {meth : Method} {c : Code} {D : va_G} {cy : Nat → ClassId} {a : Nat → Nat} (X : cx_ cX12_godmother RX12 wsX12_godmother 3 (some .int) 16 a D cy xfM p s m args meth c)  {r0 : Int32} {σ' : Sg}  : ∀ (σ : Sg) (x1 : Int32) (x2 : Int32) (H : Heap) (locs : List Loc) (ls : Array Slot), M_godmother_0 σ x1 x2 = some (r0, σ') → iv_ 16 a D (shM cy a σ) s H locs → lv_has ls 3 [(0, .ref (a 0)), (1, .int x1), (2, .int x2)] → W p l e ({ frames := 2, cells := 0, slots := 0, locals := 45 }) s m args below meth c H locs 0 0 (MQ below (qg_ 16 a D (shM cy a σ') (some (.int r0)) s.heap.size) args s 0 0 (fr_ 16 a s.heap.size)) (F0 m 0 ls []) := by
  obtain ⟨hx, hb, hr, hml, hown, hts, hlk, hK, hA, hXf⟩ := id X
  intro σ x1 x2 H locs ls h I hl
  unfold M_godmother_0 at h
  refine lv_iload_n hx hb dX12_godmother_0 rfl (lv_at hl 1 rfl) ?_
  obtain ⟨r_2, hc_1, h⟩ := bp_of h
  refine cp_ (rP_ (nn := 1) (As := [.int x1]) (rest := []) ⟨hx, hb, hml, hown, hts⟩ (c_M_isMother hc_1) gX12_godmother_X12_isMother rfl ⟨rfl, rfl⟩ (by decide +kernel) ⟨Nat.le_of_ble_eq_true rfl, Nat.le_of_ble_eq_true rfl⟩ rfl hl.1 rfl (Nat.le_of_ble_eq_true rfl) dX12_godmother_1 ⟨Nat.zero_le _, Nat.zero_le _⟩) ?_
  refine lv_if_eq (tgt := 19) hx hb dX12_godmother_4 (by decide) (fun c_3 => ?_) (fun c_3 => ?_)
  · have h := if_t h c_3
    refine lv_iconst (v := (-1)) hx hb dX12_godmother_19 (by decide) ?_
    obtain ⟨rfl, rfl⟩ := re_s h
    exact rti_ X I dX12_godmother_20
  · have h := if_f h c_3
    refine lv_iload_n hx hb dX12_godmother_7 rfl (lv_at hl 2 rfl) ?_
    refine lv_i2l hx hb dX12_godmother_8 rfl ?_
    refine lv_lconst (v := 0) hx hb dX12_godmother_9 (by decide) ?_
    refine lv_ldc2 (v := 2) hx hb hown (hts (.constantLong RX12 188 (2)) (by decide +kernel)) dX12_godmother_10 ?_
    obtain ⟨r_5, hc_4, h⟩ := bp_of h
    refine cp_ (rP_ (nn := 3) (As := [.long (x2).toInt64, .long (0 : Int64), .long (2 : Int64)]) (rest := []) ⟨hx, hb, hml, hown, hts⟩ (c_M_isIn hc_4) gX12_godmother_X12_isIn rfl ⟨rfl, rfl⟩ (by decide +kernel) ⟨Nat.le_of_ble_eq_true rfl, Nat.le_of_ble_eq_true rfl⟩ rfl hl.1 rfl (Nat.le_of_ble_eq_true rfl) dX12_godmother_13 ⟨Nat.zero_le _, Nat.zero_le _⟩) ?_
    refine lv_if_ne (tgt := 21) hx hb dX12_godmother_16 (by decide) (fun c_6 => ?_) (fun c_6 => ?_)
    · have h := if_f h c_6
      refine lv_iload_n hx hb dX12_godmother_21 rfl (lv_at hl 2 rfl) ?_
      refine lv_if_ne (tgt := 37) hx hb dX12_godmother_22 (by decide) (fun c_7 => ?_) (fun c_7 => ?_)
      · have h := if_f h c_7
        refine lv_iload_n hx hb dX12_godmother_37 rfl (lv_at hl 2 rfl) ?_
        refine lv_iconst (v := 1) hx hb dX12_godmother_38 (by decide) ?_
        refine lv_icmp_ne (tgt := 56) hx hb dX12_godmother_39 (by decide) (fun c_8 => ?_) (fun c_8 => ?_)
        · have h := if_f h c_8
          refine lv_aload_n hx hb dX12_godmother_56 rfl (lv_at hl 0 rfl) ?_
          refine lv_iload_n hx hb dX12_godmother_57 rfl (lv_at hl 1 rfl) ?_
          obtain ⟨r_11, σ_10, hc_9, h⟩ := bi_of h
          refine cg_ (rV_ (nn := 1) (As := [.int x1]) (rest := []) X xkM I (c_M_swornTo hc_9 H.size) gX12_godmother_X12_swornTo rfl ⟨rfl, rfl⟩ (by decide +kernel) ⟨Nat.le_of_ble_eq_true rfl, Nat.le_of_ble_eq_true rfl⟩ (by decide) shM_0 rfl rfl hl.1 rfl (Nat.le_of_ble_eq_true rfl) dX12_godmother_58) I (fun H locs I => ?_)
          obtain ⟨rfl, rfl⟩ := re_s h
          exact rti_ X I dX12_godmother_61
        · have h := if_t h c_8
          refine lv_aload_n hx hb dX12_godmother_42 rfl (lv_at hl 0 rfl) ?_
          refine ig_ (index := 7) X I (fun _ q => List.mem_cons_of_mem _ (List.mem_append_right _ q)) 0 (by decide) shM_0 rfl 0 (by decide) (by decide +kernel) rfl (v := .ref (a 1)) rfl dX12_godmother_43 ?_
          refine lv_bipush (v := 7) hx hb dX12_godmother_46 (by decide) ?_
          refine ia_ X I 1 (by decide) shM_1 (in_of (by decide)) (v0 := rd_ σ 1 7) rfl dX12_godmother_48 ?_
          refine lv_iload_n hx hb dX12_godmother_49 rfl (lv_at hl 1 rfl) ?_
          refine lv_ishr hx hb dX12_godmother_50 ?_
          refine lv_iconst (v := 1) hx hb dX12_godmother_51 (by decide) ?_
          refine lv_iand hx hb dX12_godmother_52 ?_
          refine lv_goto (tgt := 61) hx hb dX12_godmother_53 (by decide) ?_
          obtain ⟨rfl, rfl⟩ := re_s h
          exact rti_ X I dX12_godmother_61
      · have h := if_t h c_7
        refine lv_aload_n hx hb dX12_godmother_25 rfl (lv_at hl 0 rfl) ?_
        refine ig_ (index := 7) X I (fun _ q => List.mem_cons_of_mem _ (List.mem_append_right _ q)) 0 (by decide) shM_0 rfl 0 (by decide) (by decide +kernel) rfl (v := .ref (a 1)) rfl dX12_godmother_26 ?_
        refine lv_bipush (v := 8) hx hb dX12_godmother_29 (by decide) ?_
        refine lv_iload_n hx hb dX12_godmother_31 rfl (lv_at hl 1 rfl) ?_
        refine lv_iadd hx hb dX12_godmother_32 ?_
        refine lv_topi (fun y_12 e_13 => ?_)
        have h := lt_at h e_13
        obtain ⟨g_14, h⟩ := gd_of h
        refine ia_ X I 1 (by decide) shM_1 (in_of g_14) (v0 := rd_ σ 1 y_12.toNatClampNeg) rfl dX12_godmother_33 ?_
        refine lv_goto (tgt := 61) hx hb dX12_godmother_34 (by decide) ?_
        obtain ⟨rfl, rfl⟩ := re_s h
        exact rti_ X I dX12_godmother_61
    · have h := if_t h c_6
      refine lv_iconst (v := (-1)) hx hb dX12_godmother_19 (by decide) ?_
      obtain ⟨rfl, rfl⟩ := re_s h
      exact rti_ X I dX12_godmother_20
theorem c_M_godmother {l : Launch} {D : va_G} {cy : Nat → ClassId} {a : Nat → Nat} {σ : Sg} {x1 : Int32} {x2 : Int32} {r0 : Int32} {σ' : Sg} (h : M_godmother_0 σ x1 x2 = some (r0, σ')) (sz : Nat) : Met l yX12_godmother wsX12_godmother ({ frames := 2, cells := 0, slots := 0, locals := 45 }) (va_Pc [.ref (a 0), .int x1, .int x2] (pr_ 16 a D cy (shM cy a σ) xfM sz)) (qg_ 16 a D (shM cy a σ') (some (.int r0)) sz) 0 0 (fr_ 16 a sz) := by
  refine ent_ (by decide) rfl (Nat.le_of_ble_eq_true rfl) ?_
  intro p e s m below meth c ls hsz X I hl
  subst hsz
  exact kM_godmother_0 X σ x1 x2 s.heap [] ls h I hl

def M_isYoung_0  (σ : Sg) (x1 : Int32) : Option (Int32 × Sg) :=
  bi_ (M_its_0 σ x1 (4 : Int32)) fun r_3 σ_2 =>
  bi_ (M_ends_0 σ_2 x1) fun r_6 σ_5 =>
  if r_6 ≤ r_3 then (some ((0 : Int32), σ_5))
  else (some ((1 : Int32), σ_5))
set_option maxRecDepth 100000 in
theorem kM_isYoung_0 {p : Program} {l : Launch} {e : Env} {s : State} {m : MethodId} {args : Array Value} {below : List Frame} {meth : Method} {c : Code} {D : va_G} {cy : Nat → ClassId} {a : Nat → Nat} (X : cx_ cX12_isYoung RX12 wsX12_isYoung 2 (some .boolean) 16 a D cy xfM p s m args meth c)  {r0 : Int32} {σ' : Sg}  : ∀ (σ : Sg) (x1 : Int32) (H : Heap) (locs : List Loc) (ls : Array Slot), M_isYoung_0 σ x1 = some (r0, σ') → iv_ 16 a D (shM cy a σ) s H locs → lv_has ls 2 [(0, .ref (a 0)), (1, .int x1)] → W p l e ({ frames := 2, cells := 0, slots := 0, locals := 43 }) s m args below meth c H locs 0 0 (MQ below (qg_ 16 a D (shM cy a σ') (some (.int r0)) s.heap.size) args s 0 0 (fr_ 16 a s.heap.size)) (F0 m 0 ls []) := by
  obtain ⟨hx, hb, hr, hml, hown, hts, hlk, hK, hA, hXf⟩ := id X
  intro σ x1 H locs ls h I hl
  unfold M_isYoung_0 at h
  refine lv_aload_n hx hb dX12_isYoung_0 rfl (lv_at hl 0 rfl) ?_
  refine lv_iload_n hx hb dX12_isYoung_1 rfl (lv_at hl 1 rfl) ?_
  refine lv_iconst (v := 4) hx hb dX12_isYoung_2 (by decide) ?_
  obtain ⟨r_3, σ_2, hc_1, h⟩ := bi_of h
  refine cg_ (rV_ (nn := 2) (As := [.int x1, .int (4 : Int32)]) (rest := []) X xkM I (c_M_its hc_1 H.size) gX12_isYoung_X12_its rfl ⟨rfl, rfl⟩ (by decide +kernel) ⟨Nat.le_of_ble_eq_true rfl, Nat.le_of_ble_eq_true rfl⟩ (by decide) shM_0 rfl rfl hl.1 rfl (Nat.le_of_ble_eq_true rfl) dX12_isYoung_3) I (fun H locs I => ?_)
  refine lv_aload_n hx hb dX12_isYoung_6 rfl (lv_at hl 0 rfl) ?_
  refine lv_iload_n hx hb dX12_isYoung_7 rfl (lv_at hl 1 rfl) ?_
  obtain ⟨r_6, σ_5, hc_4, h⟩ := bi_of h
  refine cg_ (rV_ (nn := 1) (As := [.int x1]) (rest := [.int r_3]) X xkM I (c_M_ends hc_4 H.size) gX12_isYoung_X12_ends rfl ⟨rfl, rfl⟩ (by decide +kernel) ⟨Nat.le_of_ble_eq_true rfl, Nat.le_of_ble_eq_true rfl⟩ (by decide) shM_0 rfl rfl hl.1 rfl (Nat.le_of_ble_eq_true rfl) dX12_isYoung_8) I (fun H locs I => ?_)
  refine lv_icmp_ge (tgt := 18) hx hb dX12_isYoung_11 (by decide) (fun c_7 => ?_) (fun c_7 => ?_)
  · have h := if_t h c_7
    refine lv_iconst (v := 0) hx hb dX12_isYoung_18 (by decide) ?_
    obtain ⟨rfl, rfl⟩ := re_s h
    exact rtz_ X I (by decide) dX12_isYoung_19
  · have h := if_f h c_7
    refine lv_iconst (v := 1) hx hb dX12_isYoung_14 (by decide) ?_
    refine lv_goto (tgt := 19) hx hb dX12_isYoung_15 (by decide) ?_
    obtain ⟨rfl, rfl⟩ := re_s h
    exact rtz_ X I (by decide) dX12_isYoung_19
theorem c_M_isYoung {l : Launch} {D : va_G} {cy : Nat → ClassId} {a : Nat → Nat} {σ : Sg} {x1 : Int32} {r0 : Int32} {σ' : Sg} (h : M_isYoung_0 σ x1 = some (r0, σ')) (sz : Nat) : Met l yX12_isYoung wsX12_isYoung ({ frames := 2, cells := 0, slots := 0, locals := 43 }) (va_Pc [.ref (a 0), .int x1] (pr_ 16 a D cy (shM cy a σ) xfM sz)) (qg_ 16 a D (shM cy a σ') (some (.int r0)) sz) 0 0 (fr_ 16 a sz) := by
  refine ent_ (by decide) rfl (Nat.le_of_ble_eq_true rfl) ?_
  intro p e s m below meth c ls hsz X I hl
  subst hsz
  exact kM_isYoung_0 X σ x1 s.heap [] ls h I hl

def M_greatest_0  (x0 : Int32) (x1 : Int32) : Option Int32 :=
  if x0 ≤ x1 then (some (x1))
  else (some (x0))
set_option maxRecDepth 100000 in
theorem kM_greatest_0 {p : Program} {l : Launch} {e : Env} {s : State} {m : MethodId} {args : Array Value} {below : List Frame} {meth : Method} {c : Code} (X : px_ cX12_greatest RX12 wsX12_greatest 2 (some .int) p s m args meth c)  {r0 : Int32}  : ∀ (x0 : Int32) (x1 : Int32) (ls : Array Slot), M_greatest_0 x0 x1 = some r0 → lv_has ls 2 [(0, .int x0), (1, .int x1)] → W p l e ({ frames := 0, cells := 0, slots := 0, locals := 0 }) s m args below meth c s.heap [] 0 0 (MQ below (qp_ (some (.int r0))) args s 0 0 (fun _ => False)) (F0 m 0 ls []) := by
  obtain ⟨hx, hb, hr, hml, hown, hts, hlk⟩ := id X
  intro x0 x1 ls h hl
  unfold M_greatest_0 at h
  refine lv_iload_n hx hb dX12_greatest_0 rfl (lv_at hl 0 rfl) ?_
  refine lv_iload_n hx hb dX12_greatest_1 rfl (lv_at hl 1 rfl) ?_
  refine lv_icmp_le (tgt := 9) hx hb dX12_greatest_2 (by decide) (fun c_1 => ?_) (fun c_1 => ?_)
  · have h := if_t h c_1
    refine lv_iload_n hx hb dX12_greatest_9 rfl (lv_at hl 1 rfl) ?_
    obtain rfl := re_p h
    exact rpi_ X dX12_greatest_10
  · have h := if_f h c_1
    refine lv_iload_n hx hb dX12_greatest_5 rfl (lv_at hl 0 rfl) ?_
    refine lv_goto (tgt := 10) hx hb dX12_greatest_6 (by decide) ?_
    obtain rfl := re_p h
    exact rpi_ X dX12_greatest_10
theorem c_M_greatest {l : Launch} {x0 : Int32} {x1 : Int32} {r0 : Int32} (h : M_greatest_0 x0 x1 = some r0) : Met l yX12_greatest wsX12_greatest ({ frames := 0, cells := 0, slots := 0, locals := 0 }) (pp_ [.int x0, .int x1]) (qp_ (some (.int r0))) 0 0 (fun _ => False) := by
  refine enp_ (by decide) rfl (Nat.le_of_ble_eq_true rfl) ?_
  intro p e s m below meth c ls X hl
  exact kM_greatest_0 X x0 x1 ls h hl

def M_least_0  (x0 : Int32) (x1 : Int32) : Option Int32 :=
  if x1 ≤ x0 then (some (x1))
  else (some (x0))
set_option maxRecDepth 100000 in
theorem kM_least_0 {p : Program} {l : Launch} {e : Env} {s : State} {m : MethodId} {args : Array Value} {below : List Frame} {meth : Method} {c : Code} (X : px_ cX12_least RX12 wsX12_least 2 (some .int) p s m args meth c)  {r0 : Int32}  : ∀ (x0 : Int32) (x1 : Int32) (ls : Array Slot), M_least_0 x0 x1 = some r0 → lv_has ls 2 [(0, .int x0), (1, .int x1)] → W p l e ({ frames := 0, cells := 0, slots := 0, locals := 0 }) s m args below meth c s.heap [] 0 0 (MQ below (qp_ (some (.int r0))) args s 0 0 (fun _ => False)) (F0 m 0 ls []) := by
  obtain ⟨hx, hb, hr, hml, hown, hts, hlk⟩ := id X
  intro x0 x1 ls h hl
  unfold M_least_0 at h
  refine lv_iload_n hx hb dX12_least_0 rfl (lv_at hl 0 rfl) ?_
  refine lv_iload_n hx hb dX12_least_1 rfl (lv_at hl 1 rfl) ?_
  refine lv_icmp_ge (tgt := 9) hx hb dX12_least_2 (by decide) (fun c_1 => ?_) (fun c_1 => ?_)
  · have h := if_t h c_1
    refine lv_iload_n hx hb dX12_least_9 rfl (lv_at hl 1 rfl) ?_
    obtain rfl := re_p h
    exact rpi_ X dX12_least_10
  · have h := if_f h c_1
    refine lv_iload_n hx hb dX12_least_5 rfl (lv_at hl 0 rfl) ?_
    refine lv_goto (tgt := 10) hx hb dX12_least_6 (by decide) ?_
    obtain rfl := re_p h
    exact rpi_ X dX12_least_10
theorem c_M_least {l : Launch} {x0 : Int32} {x1 : Int32} {r0 : Int32} (h : M_least_0 x0 x1 = some r0) : Met l yX12_least wsX12_least ({ frames := 0, cells := 0, slots := 0, locals := 0 }) (pp_ [.int x0, .int x1]) (qp_ (some (.int r0))) 0 0 (fun _ => False) := by
  refine enp_ (by decide) rfl (Nat.le_of_ble_eq_true rfl) ?_
  intro p e s m below meth c ls X hl
  exact kM_least_0 X x0 x1 ls h hl

def M_within_0  (x0 : Int32) : Option Int32 :=
  if 0 ≤ x0 then (if x0 ≤ (99 : Int32) then (some (x0))
  else (some ((99 : Int32))))
  else (some ((0 : Int32)))
set_option maxRecDepth 100000 in
theorem kM_within_0 {p : Program} {l : Launch} {e : Env} {s : State} {m : MethodId} {args : Array Value} {below : List Frame} {meth : Method} {c : Code} (X : px_ cX12_within RX12 wsX12_within 1 (some .int) p s m args meth c)  {r0 : Int32}  : ∀ (x0 : Int32) (ls : Array Slot), M_within_0 x0 = some r0 → lv_has ls 1 [(0, .int x0)] → W p l e ({ frames := 0, cells := 0, slots := 0, locals := 0 }) s m args below meth c s.heap [] 0 0 (MQ below (qp_ (some (.int r0))) args s 0 0 (fun _ => False)) (F0 m 0 ls []) := by
  obtain ⟨hx, hb, hr, hml, hown, hts, hlk⟩ := id X
  intro x0 ls h hl
  unfold M_within_0 at h
  refine lv_iload_n hx hb dX12_within_0 rfl (lv_at hl 0 rfl) ?_
  refine lv_if_ge (tgt := 8) hx hb dX12_within_1 (by decide) (fun c_1 => ?_) (fun c_1 => ?_)
  · have h := if_t h c_1
    refine lv_iload_n hx hb dX12_within_8 rfl (lv_at hl 0 rfl) ?_
    refine lv_bipush (v := 99) hx hb dX12_within_9 (by decide) ?_
    refine lv_icmp_le (tgt := 19) hx hb dX12_within_11 (by decide) (fun c_2 => ?_) (fun c_2 => ?_)
    · have h := if_t h c_2
      refine lv_iload_n hx hb dX12_within_19 rfl (lv_at hl 0 rfl) ?_
      obtain rfl := re_p h
      exact rpi_ X dX12_within_20
    · have h := if_f h c_2
      refine lv_bipush (v := 99) hx hb dX12_within_14 (by decide) ?_
      refine lv_goto (tgt := 20) hx hb dX12_within_16 (by decide) ?_
      obtain rfl := re_p h
      exact rpi_ X dX12_within_20
  · have h := if_f h c_1
    refine lv_iconst (v := 0) hx hb dX12_within_4 (by decide) ?_
    refine lv_goto (tgt := 20) hx hb dX12_within_5 (by decide) ?_
    obtain rfl := re_p h
    exact rpi_ X dX12_within_20
theorem c_M_within {l : Launch} {x0 : Int32} {r0 : Int32} (h : M_within_0 x0 = some r0) : Met l yX12_within wsX12_within ({ frames := 0, cells := 0, slots := 0, locals := 0 }) (pp_ [.int x0]) (qp_ (some (.int r0))) 0 0 (fun _ => False) := by
  refine enp_ (by decide) rfl (Nat.le_of_ble_eq_true rfl) ?_
  intro p e s m below meth c ls X hl
  exact kM_within_0 X x0 ls h hl

def M_moved_90  (σ : Sg) (t0 : Int32) : Option (Int32 × Sg) :=
  bp_ (M_within_0 t0) fun r_2 =>
  some (r_2, σ)
set_option maxRecDepth 100000 in
theorem kM_moved_90 {p : Program} {l : Launch} {e : Env} {s : State} {m : MethodId} {args : Array Value} {below : List Frame} {meth : Method} {c : Code} {D : va_G} {cy : Nat → ClassId} {a : Nat → Nat} (X : cx_ cX12_moved RX12 wsX12_moved 5 (some .int) 16 a D cy xfM p s m args meth c)  {r0 : Int32} {σ' : Sg}  : ∀ (σ : Sg) (t0 : Int32) (H : Heap) (locs : List Loc) (ls : Array Slot), M_moved_90 σ t0 = some (r0, σ') → iv_ 16 a D (shM cy a σ) s H locs → lv_has ls 5 [] → W p l e ({ frames := 2, cells := 0, slots := 0, locals := 44 }) s m args below meth c H locs 0 0 (MQ below (qg_ 16 a D (shM cy a σ') (some (.int r0)) s.heap.size) args s 0 0 (fr_ 16 a s.heap.size)) (F0 m 90 ls [.int t0]) := by
  obtain ⟨hx, hb, hr, hml, hown, hts, hlk, hK, hA, hXf⟩ := id X
  intro σ t0 H locs ls h I hl
  unfold M_moved_90 at h
  obtain ⟨r_2, hc_1, h⟩ := bp_of h
  refine cp_ (rP_ (nn := 1) (As := [.int t0]) (rest := []) ⟨hx, hb, hml, hown, hts⟩ (c_M_within hc_1) gX12_moved_X12_within rfl ⟨rfl, rfl⟩ (by decide +kernel) ⟨Nat.le_of_ble_eq_true rfl, Nat.le_of_ble_eq_true rfl⟩ rfl hl.1 rfl (Nat.le_of_ble_eq_true rfl) dX12_moved_90 ⟨Nat.zero_le _, Nat.zero_le _⟩) ?_
  obtain ⟨rfl, rfl⟩ := re_s h
  exact rti_ X I dX12_moved_93
def M_moved_0  (σ : Sg) (x1 : Int32) : Option (Int32 × Sg) :=
  bi_ (M_its_0 σ x1 (1 : Int32)) fun r_3 σ_2 =>
  bi_ (M_its_0 σ_2 x1 (5 : Int32)) fun r_6 σ_5 =>
  lt_ (((8 : Int32) + r_6)) fun y_7 =>
  gd_ (in_ y_7 64) (
  lt_ ((rd_ σ_5 1 y_7.toNatClampNeg)) fun y_10 =>
  bi_ (M_moves_0 σ_5 x1) fun r_14 σ_13 =>
  bi_ (M_its_0 σ_13 x1 (5 : Int32)) fun r_17 σ_16 =>
  if (((rd_ σ_13 1 7) >>> (r_17 &&& 31)) &&& (1 : Int32)) = (1 : Int32) then (if y_10 ≤ r_3 then (bp_ (M_greatest_0 y_10 (r_3 - r_14)) fun r_22 =>
  some (r_22, σ_16))
  else (bp_ (M_least_0 y_10 (r_3 + r_14)) fun r_24 =>
  some (r_24, σ_16)))
  else (if r_3 < y_10 then (M_moved_90 σ_16 (r_3 - r_14))
  else (M_moved_90 σ_16 (r_3 + r_14))))
set_option maxRecDepth 100000 in
theorem kM_moved_0 {p : Program} {l : Launch} {e : Env} {s : State} {m : MethodId} {args : Array Value} {below : List Frame} {meth : Method} {c : Code} {D : va_G} {cy : Nat → ClassId} {a : Nat → Nat} (X : cx_ cX12_moved RX12 wsX12_moved 5 (some .int) 16 a D cy xfM p s m args meth c)  {r0 : Int32} {σ' : Sg}  : ∀ (σ : Sg) (x1 : Int32) (H : Heap) (locs : List Loc) (ls : Array Slot), M_moved_0 σ x1 = some (r0, σ') → iv_ 16 a D (shM cy a σ) s H locs → lv_has ls 5 [(0, .ref (a 0)), (1, .int x1)] → W p l e ({ frames := 2, cells := 0, slots := 0, locals := 44 }) s m args below meth c H locs 0 0 (MQ below (qg_ 16 a D (shM cy a σ') (some (.int r0)) s.heap.size) args s 0 0 (fr_ 16 a s.heap.size)) (F0 m 0 ls []) := by
  obtain ⟨hx, hb, hr, hml, hown, hts, hlk, hK, hA, hXf⟩ := id X
  intro σ x1 H locs ls h I hl
  unfold M_moved_0 at h
  refine lv_aload_n hx hb dX12_moved_0 rfl (lv_at hl 0 rfl) ?_
  refine lv_iload_n hx hb dX12_moved_1 rfl (lv_at hl 1 rfl) ?_
  refine lv_iconst (v := 1) hx hb dX12_moved_2 (by decide) ?_
  obtain ⟨r_3, σ_2, hc_1, h⟩ := bi_of h
  refine cg_ (rV_ (nn := 2) (As := [.int x1, .int (1 : Int32)]) (rest := []) X xkM I (c_M_its hc_1 H.size) gX12_moved_X12_its rfl ⟨rfl, rfl⟩ (by decide +kernel) ⟨Nat.le_of_ble_eq_true rfl, Nat.le_of_ble_eq_true rfl⟩ (by decide) shM_0 rfl rfl hl.1 rfl (Nat.le_of_ble_eq_true rfl) dX12_moved_3) I (fun H locs I => ?_)
  refine lv_istore_n (lv' := [(2, .int r_3), (0, .ref (a 0)), (1, .int x1)]) hx hb dX12_moved_6 rfl hl (by decide) rfl (fun ls hl => ?_)
  refine lv_aload_n hx hb dX12_moved_7 rfl (lv_at hl 1 rfl) ?_
  refine ig_ (index := 7) X I (fun _ q => List.mem_cons_of_mem _ (List.mem_append_right _ q)) 0 (by decide) shM_0 rfl 0 (by decide) (by decide +kernel) rfl (v := .ref (a 1)) rfl dX12_moved_8 ?_
  refine lv_bipush (v := 8) hx hb dX12_moved_11 (by decide) ?_
  refine lv_aload_n hx hb dX12_moved_13 rfl (lv_at hl 1 rfl) ?_
  refine lv_iload_n hx hb dX12_moved_14 rfl (lv_at hl 2 rfl) ?_
  refine lv_iconst (v := 5) hx hb dX12_moved_15 (by decide) ?_
  obtain ⟨r_6, σ_5, hc_4, h⟩ := bi_of h
  refine cg_ (rV_ (nn := 2) (As := [.int x1, .int (5 : Int32)]) (rest := [.int (8 : Int32), .ref (a 1)]) X xkM I (c_M_its hc_4 H.size) gX12_moved_X12_its rfl ⟨rfl, rfl⟩ (by decide +kernel) ⟨Nat.le_of_ble_eq_true rfl, Nat.le_of_ble_eq_true rfl⟩ (by decide) shM_0 rfl rfl hl.1 rfl (Nat.le_of_ble_eq_true rfl) dX12_moved_16) I (fun H locs I => ?_)
  refine lv_iadd hx hb dX12_moved_19 ?_
  refine lv_topi (fun y_7 e_8 => ?_)
  have h := lt_at h e_8
  obtain ⟨g_9, h⟩ := gd_of h
  refine ia_ X I 1 (by decide) shM_1 (in_of g_9) (v0 := rd_ σ_5 1 y_7.toNatClampNeg) rfl dX12_moved_20 ?_
  refine lv_topi (fun y_10 e_11 => ?_)
  have h := lt_at h e_11
  refine lv_istore_n (lv' := [(3, .int y_10), (2, .int r_3), (0, .ref (a 0)), (1, .int x1)]) hx hb dX12_moved_21 rfl hl (by decide) rfl (fun ls hl => ?_)
  refine lv_aload_n hx hb dX12_moved_22 rfl (lv_at hl 2 rfl) ?_
  refine lv_iload_n hx hb dX12_moved_23 rfl (lv_at hl 3 rfl) ?_
  obtain ⟨r_14, σ_13, hc_12, h⟩ := bi_of h
  refine cg_ (rV_ (nn := 1) (As := [.int x1]) (rest := []) X xkM I (c_M_moves hc_12 H.size) gX12_moved_X12_moves rfl ⟨rfl, rfl⟩ (by decide +kernel) ⟨Nat.le_of_ble_eq_true rfl, Nat.le_of_ble_eq_true rfl⟩ (by decide) shM_0 rfl rfl hl.1 rfl (Nat.le_of_ble_eq_true rfl) dX12_moved_24) I (fun H locs I => ?_)
  refine lv_istore (lv' := [(4, .int r_14), (3, .int y_10), (2, .int r_3), (0, .ref (a 0)), (1, .int x1)]) hx hb dX12_moved_27 hl (by decide) rfl (fun ls hl => ?_)
  refine lv_aload_n hx hb dX12_moved_29 rfl (lv_at hl 3 rfl) ?_
  refine ig_ (index := 7) X I (fun _ q => List.mem_cons_of_mem _ (List.mem_append_right _ q)) 0 (by decide) shM_0 rfl 0 (by decide) (by decide +kernel) rfl (v := .ref (a 1)) rfl dX12_moved_30 ?_
  refine lv_bipush (v := 7) hx hb dX12_moved_33 (by decide) ?_
  refine ia_ X I 1 (by decide) shM_1 (in_of (by decide)) (v0 := rd_ σ_13 1 7) rfl dX12_moved_35 ?_
  refine lv_aload_n hx hb dX12_moved_36 rfl (lv_at hl 3 rfl) ?_
  refine lv_iload_n hx hb dX12_moved_37 rfl (lv_at hl 4 rfl) ?_
  refine lv_iconst (v := 5) hx hb dX12_moved_38 (by decide) ?_
  obtain ⟨r_17, σ_16, hc_15, h⟩ := bi_of h
  refine cg_ (rV_ (nn := 2) (As := [.int x1, .int (5 : Int32)]) (rest := [.int (rd_ σ_13 1 7)]) X xkM I (c_M_its hc_15 H.size) gX12_moved_X12_its rfl ⟨rfl, rfl⟩ (by decide +kernel) ⟨Nat.le_of_ble_eq_true rfl, Nat.le_of_ble_eq_true rfl⟩ (by decide) shM_0 rfl rfl hl.1 rfl (Nat.le_of_ble_eq_true rfl) dX12_moved_39) I (fun H locs I => ?_)
  refine lv_ishr hx hb dX12_moved_42 ?_
  refine lv_iconst (v := 1) hx hb dX12_moved_43 (by decide) ?_
  refine lv_iand hx hb dX12_moved_44 ?_
  refine lv_iconst (v := 1) hx hb dX12_moved_45 (by decide) ?_
  refine lv_icmp_ne (tgt := 74) hx hb dX12_moved_46 (by decide) (fun c_18 => ?_) (fun c_18 => ?_)
  · have h := if_f h c_18
    refine lv_iload_n hx hb dX12_moved_74 rfl (lv_at hl 2 rfl) ?_
    refine lv_iload_n hx hb dX12_moved_75 rfl (lv_at hl 1 rfl) ?_
    refine lv_icmp_lt (tgt := 86) hx hb dX12_moved_76 (by decide) (fun c_19 => ?_) (fun c_19 => ?_)
    · have h := if_t h c_19
      refine lv_iload_n hx hb dX12_moved_86 rfl (lv_at hl 2 rfl) ?_
      refine lv_iload hx hb dX12_moved_87 (lv_at hl 0 rfl) ?_
      refine lv_isub hx hb dX12_moved_89 ?_
      exact kM_moved_90 X  σ_16 (r_3 - r_14) H locs ls h I (lv_sub hl [] rfl)
    · have h := if_f h c_19
      refine lv_iload_n hx hb dX12_moved_79 rfl (lv_at hl 2 rfl) ?_
      refine lv_iload hx hb dX12_moved_80 (lv_at hl 0 rfl) ?_
      refine lv_iadd hx hb dX12_moved_82 ?_
      refine lv_goto (tgt := 90) hx hb dX12_moved_83 (by decide) ?_
      exact kM_moved_90 X  σ_16 (r_3 + r_14) H locs ls h I (lv_sub hl [] rfl)
  · have h := if_t h c_18
    refine lv_iload_n hx hb dX12_moved_49 rfl (lv_at hl 2 rfl) ?_
    refine lv_iload_n hx hb dX12_moved_50 rfl (lv_at hl 1 rfl) ?_
    refine lv_icmp_ge (tgt := 65) hx hb dX12_moved_51 (by decide) (fun c_20 => ?_) (fun c_20 => ?_)
    · have h := if_t h c_20
      refine lv_iload_n hx hb dX12_moved_65 rfl (lv_at hl 1 rfl) ?_
      refine lv_iload_n hx hb dX12_moved_66 rfl (lv_at hl 2 rfl) ?_
      refine lv_iload hx hb dX12_moved_67 (lv_at hl 0 rfl) ?_
      refine lv_isub hx hb dX12_moved_69 ?_
      obtain ⟨r_22, hc_21, h⟩ := bp_of h
      refine cp_ (rP_ (nn := 2) (As := [.int y_10, .int (r_3 - r_14)]) (rest := []) ⟨hx, hb, hml, hown, hts⟩ (c_M_greatest hc_21) gX12_moved_X12_greatest rfl ⟨rfl, rfl⟩ (by decide +kernel) ⟨Nat.le_of_ble_eq_true rfl, Nat.le_of_ble_eq_true rfl⟩ rfl hl.1 rfl (Nat.le_of_ble_eq_true rfl) dX12_moved_70 ⟨Nat.zero_le _, Nat.zero_le _⟩) ?_
      obtain ⟨rfl, rfl⟩ := re_s h
      exact rti_ X I dX12_moved_73
    · have h := if_f h c_20
      refine lv_iload_n hx hb dX12_moved_54 rfl (lv_at hl 1 rfl) ?_
      refine lv_iload_n hx hb dX12_moved_55 rfl (lv_at hl 2 rfl) ?_
      refine lv_iload hx hb dX12_moved_56 (lv_at hl 0 rfl) ?_
      refine lv_iadd hx hb dX12_moved_58 ?_
      obtain ⟨r_24, hc_23, h⟩ := bp_of h
      refine cp_ (rP_ (nn := 2) (As := [.int y_10, .int (r_3 + r_14)]) (rest := []) ⟨hx, hb, hml, hown, hts⟩ (c_M_least hc_23) gX12_moved_X12_least rfl ⟨rfl, rfl⟩ (by decide +kernel) ⟨Nat.le_of_ble_eq_true rfl, Nat.le_of_ble_eq_true rfl⟩ rfl hl.1 rfl (Nat.le_of_ble_eq_true rfl) dX12_moved_59 ⟨Nat.zero_le _, Nat.zero_le _⟩) ?_
      refine lv_goto (tgt := 73) hx hb dX12_moved_62 (by decide) ?_
      obtain ⟨rfl, rfl⟩ := re_s h
      exact rti_ X I dX12_moved_73
theorem c_M_moved {l : Launch} {D : va_G} {cy : Nat → ClassId} {a : Nat → Nat} {σ : Sg} {x1 : Int32} {r0 : Int32} {σ' : Sg} (h : M_moved_0 σ x1 = some (r0, σ')) (sz : Nat) : Met l yX12_moved wsX12_moved ({ frames := 2, cells := 0, slots := 0, locals := 44 }) (va_Pc [.ref (a 0), .int x1] (pr_ 16 a D cy (shM cy a σ) xfM sz)) (qg_ 16 a D (shM cy a σ') (some (.int r0)) sz) 0 0 (fr_ 16 a sz) := by
  refine ent_ (by decide) rfl (Nat.le_of_ble_eq_true rfl) ?_
  intro p e s m below meth c ls hsz X I hl
  subst hsz
  exact kM_moved_0 X σ x1 s.heap [] ls h I hl

def M_goesOn_47 (k2 : Sg → Int32 → Option (Unit × Sg)) (σ : Sg) (x1 : Int32) (t2 : Int32) (t1 : Int32) : Option (Unit × Sg) :=
  gd_ (in_ t1 64) (
  lt_ (wr_ σ 1 t1.toNatClampNeg t2) fun σ_2 =>
  lt_ (x1 + (1 : Int32)) fun y_4 =>
  k2 σ_2 y_4)
set_option maxRecDepth 100000 in
theorem kM_goesOn_47 {p : Program} {l : Launch} {e : Env} {s : State} {m : MethodId} {args : Array Value} {below : List Frame} {meth : Method} {c : Code} {D : va_G} {cy : Nat → ClassId} {a : Nat → Nat} (X : cx_ cX12_goesOn RX12 wsX12_goesOn 2 none 16 a D cy xfM p s m args meth c) {k2 : Sg → Int32 → Option (Unit × Sg)}  {σ' : Sg} (hk2 : ∀ (σ : Sg) (x1 : Int32) (H : Heap) (locs : List Loc) (ls : Array Slot), k2 σ x1 = some ((), σ') → iv_ 16 a D (shM cy a σ) s H locs → lv_has ls 2 [(0, .ref (a 0)), (1, .int x1)] → W p l e ({ frames := 3, cells := 0, slots := 0, locals := 68 }) s m args below meth c H locs 0 0 (MQ below (qg_ 16 a D (shM cy a σ') none s.heap.size) args s 0 0 (fr_ 16 a s.heap.size)) (F0 m 2 ls [])) : ∀ (σ : Sg) (x1 : Int32) (t2 : Int32) (t1 : Int32) (H : Heap) (locs : List Loc) (ls : Array Slot), M_goesOn_47 k2 σ x1 t2 t1 = some ((), σ') → iv_ 16 a D (shM cy a σ) s H locs → lv_has ls 2 [(0, .ref (a 0)), (1, .int x1)] → W p l e ({ frames := 3, cells := 0, slots := 0, locals := 68 }) s m args below meth c H locs 0 0 (MQ below (qg_ 16 a D (shM cy a σ') none s.heap.size) args s 0 0 (fr_ 16 a s.heap.size)) (F0 m 47 ls [.int t2, .int t1, .ref (a 1)]) := by
  obtain ⟨hx, hb, hr, hml, hown, hts, hlk, hK, hA, hXf⟩ := id X
  intro σ x1 t2 t1 H locs ls h I hl
  unfold M_goesOn_47 at h
  obtain ⟨g_1, h⟩ := gd_of h
  refine is_ (σ2 := wr_ σ 1 t1.toNatClampNeg t2) X I 1 (by decide) shM_1 (in_of g_1) shM_st_1 dX12_goesOn_47 (fun σ_2 H locs e_3 I => ?_)
  have h := lt_at h e_3
  obtain ⟨y_4, e_5⟩ : ∃ q : Int32, q = x1 + (1 : Int32) := ⟨_, rfl⟩
  have h := lt_at h e_5
  refine lv_iinc (v := y_4) (lv' := [(1, .int y_4), (0, .ref (a 0))]) hx hb dX12_goesOn_48 hl (k := 1) rfl (by rw [e_5]; rfl) (by decide) rfl (fun ls hl => ?_)
  refine lv_goto (tgt := 2) hx hb dX12_goesOn_51 (by decide) ?_
  exact hk2 σ_2 y_4 H locs ls h I (lv_sub hl [1, 0] rfl)
def M_goesOn_56 (k56 : Sg → Int32 → Option (Unit × Sg)) (σ : Sg) (x1 : Int32) : Option (Unit × Sg) :=
  if (rd_ σ 1 0) ≤ x1 then (lt_ (wr_ σ 1 1 ((rd_ σ 1 1) + (1 : Int32))) fun σ_2 =>
  some ((), σ_2))
  else (bi_ (M_its_0 σ x1 (4 : Int32)) fun r_6 σ_5 =>
  bp_ (M_least_0 (99 : Int32) (r_6 + (1 : Int32))) fun r_8 =>
  gd_ (in_ (((16 : Int32) + ((6 : Int32) * x1)) + (4 : Int32)) 64) (
  lt_ (wr_ σ_5 1 (((16 : Int32) + ((6 : Int32) * x1)) + (4 : Int32)).toNatClampNeg r_8) fun σ_10 =>
  lt_ (x1 + (1 : Int32)) fun y_12 =>
  k56 σ_10 y_12))
set_option maxRecDepth 100000 in
theorem kM_goesOn_56 {p : Program} {l : Launch} {e : Env} {s : State} {m : MethodId} {args : Array Value} {below : List Frame} {meth : Method} {c : Code} {D : va_G} {cy : Nat → ClassId} {a : Nat → Nat} (X : cx_ cX12_goesOn RX12 wsX12_goesOn 2 none 16 a D cy xfM p s m args meth c) {k56 : Sg → Int32 → Option (Unit × Sg)}  {σ' : Sg} (hk56 : ∀ (σ : Sg) (x1 : Int32) (H : Heap) (locs : List Loc) (ls : Array Slot), k56 σ x1 = some ((), σ') → iv_ 16 a D (shM cy a σ) s H locs → lv_has ls 2 [(0, .ref (a 0)), (1, .int x1)] → W p l e ({ frames := 3, cells := 0, slots := 0, locals := 68 }) s m args below meth c H locs 0 0 (MQ below (qg_ 16 a D (shM cy a σ') none s.heap.size) args s 0 0 (fr_ 16 a s.heap.size)) (F0 m 56 ls [])) : ∀ (σ : Sg) (x1 : Int32) (H : Heap) (locs : List Loc) (ls : Array Slot), M_goesOn_56 k56 σ x1 = some ((), σ') → iv_ 16 a D (shM cy a σ) s H locs → lv_has ls 2 [(0, .ref (a 0)), (1, .int x1)] → W p l e ({ frames := 3, cells := 0, slots := 0, locals := 68 }) s m args below meth c H locs 0 0 (MQ below (qg_ 16 a D (shM cy a σ') none s.heap.size) args s 0 0 (fr_ 16 a s.heap.size)) (F0 m 56 ls []) := by
  obtain ⟨hx, hb, hr, hml, hown, hts, hlk, hK, hA, hXf⟩ := id X
  intro σ x1 H locs ls h I hl
  unfold M_goesOn_56 at h
  refine lv_iload_n hx hb dX12_goesOn_56 rfl (lv_at hl 1 rfl) ?_
  refine lv_aload_n hx hb dX12_goesOn_57 rfl (lv_at hl 0 rfl) ?_
  refine ig_ (index := 7) X I (fun _ q => List.mem_cons_of_mem _ (List.mem_append_right _ q)) 0 (by decide) shM_0 rfl 0 (by decide) (by decide +kernel) rfl (v := .ref (a 1)) rfl dX12_goesOn_58 ?_
  refine lv_iconst (v := 0) hx hb dX12_goesOn_61 (by decide) ?_
  refine ia_ X I 1 (by decide) shM_1 (in_of (by decide)) (v0 := rd_ σ 1 0) rfl dX12_goesOn_62 ?_
  refine lv_icmp_ge (tgt := 99) hx hb dX12_goesOn_63 (by decide) (fun c_1 => ?_) (fun c_1 => ?_)
  · have h := if_t h c_1
    refine lv_aload_n hx hb dX12_goesOn_99 rfl (lv_at hl 0 rfl) ?_
    refine ig_ (index := 7) X I (fun _ q => List.mem_cons_of_mem _ (List.mem_append_right _ q)) 0 (by decide) shM_0 rfl 0 (by decide) (by decide +kernel) rfl (v := .ref (a 1)) rfl dX12_goesOn_100 ?_
    refine lv_iconst (v := 1) hx hb dX12_goesOn_103 (by decide) ?_
    refine lv_dup2_11 hx hb dX12_goesOn_104 rfl rfl ?_
    refine ia_ X I 1 (by decide) shM_1 (in_of (by decide)) (v0 := rd_ σ 1 1) rfl dX12_goesOn_105 ?_
    refine lv_iconst (v := 1) hx hb dX12_goesOn_106 (by decide) ?_
    refine lv_iadd hx hb dX12_goesOn_107 ?_
    refine is_ (σ2 := wr_ σ 1 1 ((rd_ σ 1 1) + (1 : Int32))) X I 1 (by decide) shM_1 (in_of (by decide)) shM_st_1 dX12_goesOn_108 (fun σ_2 H locs e_3 I => ?_)
    have h := lt_at h e_3
    obtain rfl := re_v h
    exact rtv_ X I dX12_goesOn_109
  · have h := if_f h c_1
    refine lv_aload_n hx hb dX12_goesOn_66 rfl (lv_at hl 0 rfl) ?_
    refine ig_ (index := 7) X I (fun _ q => List.mem_cons_of_mem _ (List.mem_append_right _ q)) 0 (by decide) shM_0 rfl 0 (by decide) (by decide +kernel) rfl (v := .ref (a 1)) rfl dX12_goesOn_67 ?_
    refine lv_bipush (v := 16) hx hb dX12_goesOn_70 (by decide) ?_
    refine lv_bipush (v := 6) hx hb dX12_goesOn_72 (by decide) ?_
    refine lv_iload_n hx hb dX12_goesOn_74 rfl (lv_at hl 1 rfl) ?_
    refine lv_imul hx hb dX12_goesOn_75 ?_
    refine lv_iadd hx hb dX12_goesOn_76 ?_
    refine lv_iconst (v := 4) hx hb dX12_goesOn_77 (by decide) ?_
    refine lv_iadd hx hb dX12_goesOn_78 ?_
    refine lv_bipush (v := 99) hx hb dX12_goesOn_79 (by decide) ?_
    refine lv_aload_n hx hb dX12_goesOn_81 rfl (lv_at hl 0 rfl) ?_
    refine lv_iload_n hx hb dX12_goesOn_82 rfl (lv_at hl 1 rfl) ?_
    refine lv_iconst (v := 4) hx hb dX12_goesOn_83 (by decide) ?_
    obtain ⟨r_6, σ_5, hc_4, h⟩ := bi_of h
    refine cg_ (rV_ (nn := 2) (As := [.int x1, .int (4 : Int32)]) (rest := [.int (99 : Int32), .int (((16 : Int32) + ((6 : Int32) * x1)) + (4 : Int32)), .ref (a 1)]) X xkM I (c_M_its hc_4 H.size) gX12_goesOn_X12_its rfl ⟨rfl, rfl⟩ (by decide +kernel) ⟨Nat.le_of_ble_eq_true rfl, Nat.le_of_ble_eq_true rfl⟩ (by decide) shM_0 rfl rfl hl.1 rfl (Nat.le_of_ble_eq_true rfl) dX12_goesOn_84) I (fun H locs I => ?_)
    refine lv_iconst (v := 1) hx hb dX12_goesOn_87 (by decide) ?_
    refine lv_iadd hx hb dX12_goesOn_88 ?_
    obtain ⟨r_8, hc_7, h⟩ := bp_of h
    refine cp_ (rP_ (nn := 2) (As := [.int (99 : Int32), .int (r_6 + (1 : Int32))]) (rest := [.int (((16 : Int32) + ((6 : Int32) * x1)) + (4 : Int32)), .ref (a 1)]) ⟨hx, hb, hml, hown, hts⟩ (c_M_least hc_7) gX12_goesOn_X12_least rfl ⟨rfl, rfl⟩ (by decide +kernel) ⟨Nat.le_of_ble_eq_true rfl, Nat.le_of_ble_eq_true rfl⟩ rfl hl.1 rfl (Nat.le_of_ble_eq_true rfl) dX12_goesOn_89 ⟨Nat.zero_le _, Nat.zero_le _⟩) ?_
    obtain ⟨g_9, h⟩ := gd_of h
    refine is_ (σ2 := wr_ σ_5 1 (((16 : Int32) + ((6 : Int32) * x1)) + (4 : Int32)).toNatClampNeg r_8) X I 1 (by decide) shM_1 (in_of g_9) shM_st_1 dX12_goesOn_92 (fun σ_10 H locs e_11 I => ?_)
    have h := lt_at h e_11
    obtain ⟨y_12, e_13⟩ : ∃ q : Int32, q = x1 + (1 : Int32) := ⟨_, rfl⟩
    have h := lt_at h e_13
    refine lv_iinc (v := y_12) (lv' := [(1, .int y_12), (0, .ref (a 0))]) hx hb dX12_goesOn_93 hl (k := 1) rfl (by rw [e_13]; rfl) (by decide) rfl (fun ls hl => ?_)
    refine lv_goto (tgt := 56) hx hb dX12_goesOn_96 (by decide) ?_
    exact hk56 σ_10 y_12 H locs ls h I (lv_sub hl [1, 0] rfl)
set_option maxRecDepth 100000 in
theorem kM_goesOn_56L {p : Program} {l : Launch} {e : Env} {s : State} {m : MethodId} {args : Array Value} {below : List Frame} {meth : Method} {c : Code} {D : va_G} {cy : Nat → ClassId} {a : Nat → Nat} (X : cx_ cX12_goesOn RX12 wsX12_goesOn 2 none 16 a D cy xfM p s m args meth c)   {σ' : Sg}  : ∀ (n : Nat), ∀ (σ : Sg) (x1 : Int32) (H : Heap) (locs : List Loc) (ls : Array Slot), lp_ (M_goesOn_56) (fun _ _ => none) n σ x1 = some ((), σ') → iv_ 16 a D (shM cy a σ) s H locs → lv_has ls 2 [(0, .ref (a 0)), (1, .int x1)] → W p l e ({ frames := 3, cells := 0, slots := 0, locals := 68 }) s m args below meth c H locs 0 0 (MQ below (qg_ 16 a D (shM cy a σ') none s.heap.size) args s 0 0 (fr_ 16 a s.heap.size)) (F0 m 56 ls []) := by
  intro n
  induction n with
  | zero =>
    intro _ _ _ _ _ h
    exact absurd h (fun q => by cases (show (none : Option _) = some _ from q))
  | succ n ih => exact kM_goesOn_56 X ih

def M_goesOn_2 (k2 : Sg → Int32 → Option (Unit × Sg)) (σ : Sg) (x1 : Int32) : Option (Unit × Sg) :=
  if (rd_ σ 1 0) ≤ x1 then (lp_ M_goesOn_56 (fun _ _ => none) FU σ (0 : Int32))
  else (bi_ (M_isYoung_0 σ x1) fun r_4 σ_3 =>
  if r_4 = 0 then (bi_ (M_its_0 σ_3 x1 (1 : Int32)) fun r_8 σ_7 =>
  M_goesOn_47 k2 σ_7 x1 r_8 (((16 : Int32) + ((6 : Int32) * x1)) + (1 : Int32)))
  else (bi_ (M_moved_0 σ_3 x1) fun r_11 σ_10 =>
  M_goesOn_47 k2 σ_10 x1 r_11 (((16 : Int32) + ((6 : Int32) * x1)) + (1 : Int32))))
set_option maxRecDepth 100000 in
theorem kM_goesOn_2 {p : Program} {l : Launch} {e : Env} {s : State} {m : MethodId} {args : Array Value} {below : List Frame} {meth : Method} {c : Code} {D : va_G} {cy : Nat → ClassId} {a : Nat → Nat} (X : cx_ cX12_goesOn RX12 wsX12_goesOn 2 none 16 a D cy xfM p s m args meth c) {k2 : Sg → Int32 → Option (Unit × Sg)}  {σ' : Sg} (hk2 : ∀ (σ : Sg) (x1 : Int32) (H : Heap) (locs : List Loc) (ls : Array Slot), k2 σ x1 = some ((), σ') → iv_ 16 a D (shM cy a σ) s H locs → lv_has ls 2 [(0, .ref (a 0)), (1, .int x1)] → W p l e ({ frames := 3, cells := 0, slots := 0, locals := 68 }) s m args below meth c H locs 0 0 (MQ below (qg_ 16 a D (shM cy a σ') none s.heap.size) args s 0 0 (fr_ 16 a s.heap.size)) (F0 m 2 ls [])) : ∀ (σ : Sg) (x1 : Int32) (H : Heap) (locs : List Loc) (ls : Array Slot), M_goesOn_2 k2 σ x1 = some ((), σ') → iv_ 16 a D (shM cy a σ) s H locs → lv_has ls 2 [(0, .ref (a 0)), (1, .int x1)] → W p l e ({ frames := 3, cells := 0, slots := 0, locals := 68 }) s m args below meth c H locs 0 0 (MQ below (qg_ 16 a D (shM cy a σ') none s.heap.size) args s 0 0 (fr_ 16 a s.heap.size)) (F0 m 2 ls []) := by
  obtain ⟨hx, hb, hr, hml, hown, hts, hlk, hK, hA, hXf⟩ := id X
  intro σ x1 H locs ls h I hl
  unfold M_goesOn_2 at h
  refine lv_iload_n hx hb dX12_goesOn_2 rfl (lv_at hl 1 rfl) ?_
  refine lv_aload_n hx hb dX12_goesOn_3 rfl (lv_at hl 0 rfl) ?_
  refine ig_ (index := 7) X I (fun _ q => List.mem_cons_of_mem _ (List.mem_append_right _ q)) 0 (by decide) shM_0 rfl 0 (by decide) (by decide +kernel) rfl (v := .ref (a 1)) rfl dX12_goesOn_4 ?_
  refine lv_iconst (v := 0) hx hb dX12_goesOn_7 (by decide) ?_
  refine ia_ X I 1 (by decide) shM_1 (in_of (by decide)) (v0 := rd_ σ 1 0) rfl dX12_goesOn_8 ?_
  refine lv_icmp_ge (tgt := 54) hx hb dX12_goesOn_9 (by decide) (fun c_1 => ?_) (fun c_1 => ?_)
  · have h := if_t h c_1
    refine lv_iconst (v := 0) hx hb dX12_goesOn_54 (by decide) ?_
    refine lv_istore_n (lv' := [(1, .int (0 : Int32)), (0, .ref (a 0))]) hx hb dX12_goesOn_55 rfl hl (by decide) rfl (fun ls hl => ?_)
    exact kM_goesOn_56L X  FU σ (0 : Int32) H locs ls h I (lv_sub hl [1, 0] rfl)
  · have h := if_f h c_1
    refine lv_aload_n hx hb dX12_goesOn_12 rfl (lv_at hl 0 rfl) ?_
    refine ig_ (index := 7) X I (fun _ q => List.mem_cons_of_mem _ (List.mem_append_right _ q)) 0 (by decide) shM_0 rfl 0 (by decide) (by decide +kernel) rfl (v := .ref (a 1)) rfl dX12_goesOn_13 ?_
    refine lv_bipush (v := 16) hx hb dX12_goesOn_16 (by decide) ?_
    refine lv_bipush (v := 6) hx hb dX12_goesOn_18 (by decide) ?_
    refine lv_iload_n hx hb dX12_goesOn_20 rfl (lv_at hl 1 rfl) ?_
    refine lv_imul hx hb dX12_goesOn_21 ?_
    refine lv_iadd hx hb dX12_goesOn_22 ?_
    refine lv_iconst (v := 1) hx hb dX12_goesOn_23 (by decide) ?_
    refine lv_iadd hx hb dX12_goesOn_24 ?_
    refine lv_aload_n hx hb dX12_goesOn_25 rfl (lv_at hl 0 rfl) ?_
    refine lv_iload_n hx hb dX12_goesOn_26 rfl (lv_at hl 1 rfl) ?_
    obtain ⟨r_4, σ_3, hc_2, h⟩ := bi_of h
    refine cg_ (rV_ (nn := 1) (As := [.int x1]) (rest := [.int (((16 : Int32) + ((6 : Int32) * x1)) + (1 : Int32)), .ref (a 1)]) X xkM I (c_M_isYoung hc_2 H.size) gX12_goesOn_X12_isYoung rfl ⟨rfl, rfl⟩ (by decide +kernel) ⟨Nat.le_of_ble_eq_true rfl, Nat.le_of_ble_eq_true rfl⟩ (by decide) shM_0 rfl rfl hl.1 rfl (Nat.le_of_ble_eq_true rfl) dX12_goesOn_27) I (fun H locs I => ?_)
    refine lv_if_eq (tgt := 41) hx hb dX12_goesOn_30 (by decide) (fun c_5 => ?_) (fun c_5 => ?_)
    · have h := if_t h c_5
      refine lv_aload_n hx hb dX12_goesOn_41 rfl (lv_at hl 0 rfl) ?_
      refine lv_iload_n hx hb dX12_goesOn_42 rfl (lv_at hl 1 rfl) ?_
      refine lv_iconst (v := 1) hx hb dX12_goesOn_43 (by decide) ?_
      obtain ⟨r_8, σ_7, hc_6, h⟩ := bi_of h
      refine cg_ (rV_ (nn := 2) (As := [.int x1, .int (1 : Int32)]) (rest := [.int (((16 : Int32) + ((6 : Int32) * x1)) + (1 : Int32)), .ref (a 1)]) X xkM I (c_M_its hc_6 H.size) gX12_goesOn_X12_its rfl ⟨rfl, rfl⟩ (by decide +kernel) ⟨Nat.le_of_ble_eq_true rfl, Nat.le_of_ble_eq_true rfl⟩ (by decide) shM_0 rfl rfl hl.1 rfl (Nat.le_of_ble_eq_true rfl) dX12_goesOn_44) I (fun H locs I => ?_)
      exact kM_goesOn_47 X hk2 σ_7 x1 r_8 (((16 : Int32) + ((6 : Int32) * x1)) + (1 : Int32)) H locs ls h I (lv_sub hl [0, 1] rfl)
    · have h := if_f h c_5
      refine lv_aload_n hx hb dX12_goesOn_33 rfl (lv_at hl 0 rfl) ?_
      refine lv_iload_n hx hb dX12_goesOn_34 rfl (lv_at hl 1 rfl) ?_
      obtain ⟨r_11, σ_10, hc_9, h⟩ := bi_of h
      refine cg_ (rV_ (nn := 1) (As := [.int x1]) (rest := [.int (((16 : Int32) + ((6 : Int32) * x1)) + (1 : Int32)), .ref (a 1)]) X xkM I (c_M_moved hc_9 H.size) gX12_goesOn_X12_moved rfl ⟨rfl, rfl⟩ (by decide +kernel) ⟨Nat.le_of_ble_eq_true rfl, Nat.le_of_ble_eq_true rfl⟩ (by decide) shM_0 rfl rfl hl.1 rfl (Nat.le_of_ble_eq_true rfl) dX12_goesOn_35) I (fun H locs I => ?_)
      refine lv_goto (tgt := 47) hx hb dX12_goesOn_38 (by decide) ?_
      exact kM_goesOn_47 X hk2 σ_10 x1 r_11 (((16 : Int32) + ((6 : Int32) * x1)) + (1 : Int32)) H locs ls h I (lv_sub hl [0, 1] rfl)
set_option maxRecDepth 100000 in
theorem kM_goesOn_2L {p : Program} {l : Launch} {e : Env} {s : State} {m : MethodId} {args : Array Value} {below : List Frame} {meth : Method} {c : Code} {D : va_G} {cy : Nat → ClassId} {a : Nat → Nat} (X : cx_ cX12_goesOn RX12 wsX12_goesOn 2 none 16 a D cy xfM p s m args meth c)   {σ' : Sg}  : ∀ (n : Nat), ∀ (σ : Sg) (x1 : Int32) (H : Heap) (locs : List Loc) (ls : Array Slot), lp_ (M_goesOn_2) (fun _ _ => none) n σ x1 = some ((), σ') → iv_ 16 a D (shM cy a σ) s H locs → lv_has ls 2 [(0, .ref (a 0)), (1, .int x1)] → W p l e ({ frames := 3, cells := 0, slots := 0, locals := 68 }) s m args below meth c H locs 0 0 (MQ below (qg_ 16 a D (shM cy a σ') none s.heap.size) args s 0 0 (fr_ 16 a s.heap.size)) (F0 m 2 ls []) := by
  intro n
  induction n with
  | zero =>
    intro _ _ _ _ _ h
    exact absurd h (fun q => by cases (show (none : Option _) = some _ from q))
  | succ n ih => exact kM_goesOn_2 X ih

def M_goesOn_0  (σ : Sg)  : Option (Unit × Sg) :=
  lp_ M_goesOn_2 (fun _ _ => none) FU σ (0 : Int32)
set_option maxRecDepth 100000 in
theorem kM_goesOn_0 {p : Program} {l : Launch} {e : Env} {s : State} {m : MethodId} {args : Array Value} {below : List Frame} {meth : Method} {c : Code} {D : va_G} {cy : Nat → ClassId} {a : Nat → Nat} (X : cx_ cX12_goesOn RX12 wsX12_goesOn 2 none 16 a D cy xfM p s m args meth c)   {σ' : Sg}  : ∀ (σ : Sg)  (H : Heap) (locs : List Loc) (ls : Array Slot), M_goesOn_0 σ = some ((), σ') → iv_ 16 a D (shM cy a σ) s H locs → lv_has ls 2 [(0, .ref (a 0))] → W p l e ({ frames := 3, cells := 0, slots := 0, locals := 68 }) s m args below meth c H locs 0 0 (MQ below (qg_ 16 a D (shM cy a σ') none s.heap.size) args s 0 0 (fr_ 16 a s.heap.size)) (F0 m 0 ls []) := by
  obtain ⟨hx, hb, hr, hml, hown, hts, hlk, hK, hA, hXf⟩ := id X
  intro σ  H locs ls h I hl
  unfold M_goesOn_0 at h
  refine lv_iconst (v := 0) hx hb dX12_goesOn_0 (by decide) ?_
  refine lv_istore_n (lv' := [(1, .int (0 : Int32)), (0, .ref (a 0))]) hx hb dX12_goesOn_1 rfl hl (by decide) rfl (fun ls hl => ?_)
  exact kM_goesOn_2L X  FU σ (0 : Int32) H locs ls h I (lv_sub hl [1, 0] rfl)
theorem c_M_goesOn {l : Launch} {D : va_G} {cy : Nat → ClassId} {a : Nat → Nat} {σ : Sg}   {σ' : Sg} (h : M_goesOn_0 σ  = some ((), σ')) (sz : Nat) : Met l yX12_goesOn wsX12_goesOn ({ frames := 3, cells := 0, slots := 0, locals := 68 }) (va_Pc [.ref (a 0)] (pr_ 16 a D cy (shM cy a σ) xfM sz)) (qg_ 16 a D (shM cy a σ') none sz) 0 0 (fr_ 16 a sz) := by
  refine ent_ (by decide) rfl (Nat.le_of_ble_eq_true rfl) ?_
  intro p e s m below meth c ls hsz X I hl
  subst hsz
  exact kM_goesOn_0 X σ  s.heap [] ls h I hl

def M_goes_2 (k2 : Sg → Int32 → Int32 → Option (Unit × Sg)) (σ : Sg) (x1 : Int32) (x2 : Int32) : Option (Unit × Sg) :=
  if x1 ≤ x2 then (some ((), σ))
  else (bi_ (M_goesOn_0 σ) fun _ σ_3 =>
  lt_ (x2 + (1 : Int32)) fun y_4 =>
  k2 σ_3 x1 y_4)
set_option maxRecDepth 100000 in
theorem kM_goes_2 {p : Program} {l : Launch} {e : Env} {s : State} {m : MethodId} {args : Array Value} {below : List Frame} {meth : Method} {c : Code} {D : va_G} {cy : Nat → ClassId} {a : Nat → Nat} (X : cx_ cX12_goes RX12 wsX12_goes 3 none 16 a D cy xfM p s m args meth c) {k2 : Sg → Int32 → Int32 → Option (Unit × Sg)}  {σ' : Sg} (hk2 : ∀ (σ : Sg) (x1 : Int32) (x2 : Int32) (H : Heap) (locs : List Loc) (ls : Array Slot), k2 σ x1 x2 = some ((), σ') → iv_ 16 a D (shM cy a σ) s H locs → lv_has ls 3 [(0, .ref (a 0)), (1, .int x1), (2, .int x2)] → W p l e ({ frames := 4, cells := 0, slots := 0, locals := 89 }) s m args below meth c H locs 0 0 (MQ below (qg_ 16 a D (shM cy a σ') none s.heap.size) args s 0 0 (fr_ 16 a s.heap.size)) (F0 m 2 ls [])) : ∀ (σ : Sg) (x1 : Int32) (x2 : Int32) (H : Heap) (locs : List Loc) (ls : Array Slot), M_goes_2 k2 σ x1 x2 = some ((), σ') → iv_ 16 a D (shM cy a σ) s H locs → lv_has ls 3 [(0, .ref (a 0)), (1, .int x1), (2, .int x2)] → W p l e ({ frames := 4, cells := 0, slots := 0, locals := 89 }) s m args below meth c H locs 0 0 (MQ below (qg_ 16 a D (shM cy a σ') none s.heap.size) args s 0 0 (fr_ 16 a s.heap.size)) (F0 m 2 ls []) := by
  obtain ⟨hx, hb, hr, hml, hown, hts, hlk, hK, hA, hXf⟩ := id X
  intro σ x1 x2 H locs ls h I hl
  unfold M_goes_2 at h
  refine lv_iload_n hx hb dX12_goes_2 rfl (lv_at hl 2 rfl) ?_
  refine lv_iload_n hx hb dX12_goes_3 rfl (lv_at hl 1 rfl) ?_
  refine lv_icmp_ge (tgt := 17) hx hb dX12_goes_4 (by decide) (fun c_1 => ?_) (fun c_1 => ?_)
  · have h := if_t h c_1
    obtain rfl := re_v h
    exact rtv_ X I dX12_goes_17
  · have h := if_f h c_1
    refine lv_aload_n hx hb dX12_goes_7 rfl (lv_at hl 0 rfl) ?_
    obtain ⟨_, σ_3, hc_2, h⟩ := bi_of h
    refine cv_ (rV_ (nn := 0) (As := []) (rest := []) X xkM I (c_M_goesOn hc_2 H.size) gX12_goes_X12_goesOn rfl ⟨rfl, rfl⟩ (by decide +kernel) ⟨Nat.le_of_ble_eq_true rfl, Nat.le_of_ble_eq_true rfl⟩ (by decide) shM_0 rfl rfl hl.1 rfl (Nat.le_of_ble_eq_true rfl) dX12_goes_8) I (fun H locs I => ?_)
    obtain ⟨y_4, e_5⟩ : ∃ q : Int32, q = x2 + (1 : Int32) := ⟨_, rfl⟩
    have h := lt_at h e_5
    refine lv_iinc (v := y_4) (lv' := [(2, .int y_4), (0, .ref (a 0)), (1, .int x1)]) hx hb dX12_goes_11 hl (k := 2) rfl (by rw [e_5]; rfl) (by decide) rfl (fun ls hl => ?_)
    refine lv_goto (tgt := 2) hx hb dX12_goes_14 (by decide) ?_
    exact hk2 σ_3 x1 y_4 H locs ls h I (lv_sub hl [1, 2, 0] rfl)
set_option maxRecDepth 100000 in
theorem kM_goes_2L {p : Program} {l : Launch} {e : Env} {s : State} {m : MethodId} {args : Array Value} {below : List Frame} {meth : Method} {c : Code} {D : va_G} {cy : Nat → ClassId} {a : Nat → Nat} (X : cx_ cX12_goes RX12 wsX12_goes 3 none 16 a D cy xfM p s m args meth c)   {σ' : Sg}  : ∀ (n : Nat), ∀ (σ : Sg) (x1 : Int32) (x2 : Int32) (H : Heap) (locs : List Loc) (ls : Array Slot), lp_ (M_goes_2) (fun _ _ _ => none) n σ x1 x2 = some ((), σ') → iv_ 16 a D (shM cy a σ) s H locs → lv_has ls 3 [(0, .ref (a 0)), (1, .int x1), (2, .int x2)] → W p l e ({ frames := 4, cells := 0, slots := 0, locals := 89 }) s m args below meth c H locs 0 0 (MQ below (qg_ 16 a D (shM cy a σ') none s.heap.size) args s 0 0 (fr_ 16 a s.heap.size)) (F0 m 2 ls []) := by
  intro n
  induction n with
  | zero =>
    intro _ _ _ _ _ _ h
    exact absurd h (fun q => by cases (show (none : Option _) = some _ from q))
  | succ n ih => exact kM_goes_2 X ih

def M_goes_0  (σ : Sg) (x1 : Int32) : Option (Unit × Sg) :=
  lp_ M_goes_2 (fun _ _ _ => none) FU σ x1 (0 : Int32)
set_option maxRecDepth 100000 in
theorem kM_goes_0 {p : Program} {l : Launch} {e : Env} {s : State} {m : MethodId} {args : Array Value} {below : List Frame} {meth : Method} {c : Code} {D : va_G} {cy : Nat → ClassId} {a : Nat → Nat} (X : cx_ cX12_goes RX12 wsX12_goes 3 none 16 a D cy xfM p s m args meth c)   {σ' : Sg}  : ∀ (σ : Sg) (x1 : Int32) (H : Heap) (locs : List Loc) (ls : Array Slot), M_goes_0 σ x1 = some ((), σ') → iv_ 16 a D (shM cy a σ) s H locs → lv_has ls 3 [(0, .ref (a 0)), (1, .int x1)] → W p l e ({ frames := 4, cells := 0, slots := 0, locals := 89 }) s m args below meth c H locs 0 0 (MQ below (qg_ 16 a D (shM cy a σ') none s.heap.size) args s 0 0 (fr_ 16 a s.heap.size)) (F0 m 0 ls []) := by
  obtain ⟨hx, hb, hr, hml, hown, hts, hlk, hK, hA, hXf⟩ := id X
  intro σ x1 H locs ls h I hl
  unfold M_goes_0 at h
  refine lv_iconst (v := 0) hx hb dX12_goes_0 (by decide) ?_
  refine lv_istore_n (lv' := [(2, .int (0 : Int32)), (0, .ref (a 0)), (1, .int x1)]) hx hb dX12_goes_1 rfl hl (by decide) rfl (fun ls hl => ?_)
  exact kM_goes_2L X  FU σ x1 (0 : Int32) H locs ls h I (lv_sub hl [1, 2, 0] rfl)
theorem c_M_goes {l : Launch} {D : va_G} {cy : Nat → ClassId} {a : Nat → Nat} {σ : Sg} {x1 : Int32}  {σ' : Sg} (h : M_goes_0 σ x1 = some ((), σ')) (sz : Nat) : Met l yX12_goes wsX12_goes ({ frames := 4, cells := 0, slots := 0, locals := 89 }) (va_Pc [.ref (a 0), .int x1] (pr_ 16 a D cy (shM cy a σ) xfM sz)) (qg_ 16 a D (shM cy a σ') none sz) 0 0 (fr_ 16 a sz) := by
  refine ent_ (by decide) rfl (Nat.le_of_ble_eq_true rfl) ?_
  intro p e s m below meth c ls hsz X I hl
  subst hsz
  exact kM_goes_0 X σ x1 s.heap [] ls h I hl

def M_traits_4 (k4 : Sg → Int32 → Int32 → Option (Int32 × Sg)) (σ : Sg) (x1 : Int32) (x2 : Int32) : Option (Int32 × Sg) :=
  if (rd_ σ 1 0) ≤ x2 then (some (x1, σ))
  else (bi_ (M_its_0 σ x2 (1 : Int32)) fun r_4 σ_3 =>
  lt_ ((x1 + r_4)) fun y_5 =>
  lt_ (x2 + (1 : Int32)) fun y_7 =>
  k4 σ_3 y_5 y_7)
set_option maxRecDepth 100000 in
theorem kM_traits_4 {p : Program} {l : Launch} {e : Env} {s : State} {m : MethodId} {args : Array Value} {below : List Frame} {meth : Method} {c : Code} {D : va_G} {cy : Nat → ClassId} {a : Nat → Nat} (X : cx_ cX12_traits RX12 wsX12_traits 3 (some .int) 16 a D cy xfM p s m args meth c) {k4 : Sg → Int32 → Int32 → Option (Int32 × Sg)} {r0 : Int32} {σ' : Sg} (hk4 : ∀ (σ : Sg) (x1 : Int32) (x2 : Int32) (H : Heap) (locs : List Loc) (ls : Array Slot), k4 σ x1 x2 = some (r0, σ') → iv_ 16 a D (shM cy a σ) s H locs → lv_has ls 3 [(0, .ref (a 0)), (1, .int x1), (2, .int x2)] → W p l e ({ frames := 1, cells := 0, slots := 0, locals := 22 }) s m args below meth c H locs 0 0 (MQ below (qg_ 16 a D (shM cy a σ') (some (.int r0)) s.heap.size) args s 0 0 (fr_ 16 a s.heap.size)) (F0 m 4 ls [])) : ∀ (σ : Sg) (x1 : Int32) (x2 : Int32) (H : Heap) (locs : List Loc) (ls : Array Slot), M_traits_4 k4 σ x1 x2 = some (r0, σ') → iv_ 16 a D (shM cy a σ) s H locs → lv_has ls 3 [(0, .ref (a 0)), (1, .int x1), (2, .int x2)] → W p l e ({ frames := 1, cells := 0, slots := 0, locals := 22 }) s m args below meth c H locs 0 0 (MQ below (qg_ 16 a D (shM cy a σ') (some (.int r0)) s.heap.size) args s 0 0 (fr_ 16 a s.heap.size)) (F0 m 4 ls []) := by
  obtain ⟨hx, hb, hr, hml, hown, hts, hlk, hK, hA, hXf⟩ := id X
  intro σ x1 x2 H locs ls h I hl
  unfold M_traits_4 at h
  refine lv_iload_n hx hb dX12_traits_4 rfl (lv_at hl 2 rfl) ?_
  refine lv_aload_n hx hb dX12_traits_5 rfl (lv_at hl 0 rfl) ?_
  refine ig_ (index := 7) X I (fun _ q => List.mem_cons_of_mem _ (List.mem_append_right _ q)) 0 (by decide) shM_0 rfl 0 (by decide) (by decide +kernel) rfl (v := .ref (a 1)) rfl dX12_traits_6 ?_
  refine lv_iconst (v := 0) hx hb dX12_traits_9 (by decide) ?_
  refine ia_ X I 1 (by decide) shM_1 (in_of (by decide)) (v0 := rd_ σ 1 0) rfl dX12_traits_10 ?_
  refine lv_icmp_ge (tgt := 29) hx hb dX12_traits_11 (by decide) (fun c_1 => ?_) (fun c_1 => ?_)
  · have h := if_t h c_1
    refine lv_iload_n hx hb dX12_traits_29 rfl (lv_at hl 1 rfl) ?_
    obtain ⟨rfl, rfl⟩ := re_s h
    exact rti_ X I dX12_traits_30
  · have h := if_f h c_1
    refine lv_iload_n hx hb dX12_traits_14 rfl (lv_at hl 1 rfl) ?_
    refine lv_aload_n hx hb dX12_traits_15 rfl (lv_at hl 0 rfl) ?_
    refine lv_iload_n hx hb dX12_traits_16 rfl (lv_at hl 2 rfl) ?_
    refine lv_iconst (v := 1) hx hb dX12_traits_17 (by decide) ?_
    obtain ⟨r_4, σ_3, hc_2, h⟩ := bi_of h
    refine cg_ (rV_ (nn := 2) (As := [.int x2, .int (1 : Int32)]) (rest := [.int x1]) X xkM I (c_M_its hc_2 H.size) gX12_traits_X12_its rfl ⟨rfl, rfl⟩ (by decide +kernel) ⟨Nat.le_of_ble_eq_true rfl, Nat.le_of_ble_eq_true rfl⟩ (by decide) shM_0 rfl rfl hl.1 rfl (Nat.le_of_ble_eq_true rfl) dX12_traits_18) I (fun H locs I => ?_)
    refine lv_iadd hx hb dX12_traits_21 ?_
    refine lv_topi (fun y_5 e_6 => ?_)
    have h := lt_at h e_6
    refine lv_istore_n (lv' := [(1, .int y_5), (0, .ref (a 0)), (2, .int x2)]) hx hb dX12_traits_22 rfl hl (by decide) rfl (fun ls hl => ?_)
    obtain ⟨y_7, e_8⟩ : ∃ q : Int32, q = x2 + (1 : Int32) := ⟨_, rfl⟩
    have h := lt_at h e_8
    refine lv_iinc (v := y_7) (lv' := [(2, .int y_7), (1, .int y_5), (0, .ref (a 0))]) hx hb dX12_traits_23 hl (k := 2) rfl (by rw [e_8]; rfl) (by decide) rfl (fun ls hl => ?_)
    refine lv_goto (tgt := 4) hx hb dX12_traits_26 (by decide) ?_
    exact hk4 σ_3 y_5 y_7 H locs ls h I (lv_sub hl [2, 1, 0] rfl)
set_option maxRecDepth 100000 in
theorem kM_traits_4L {p : Program} {l : Launch} {e : Env} {s : State} {m : MethodId} {args : Array Value} {below : List Frame} {meth : Method} {c : Code} {D : va_G} {cy : Nat → ClassId} {a : Nat → Nat} (X : cx_ cX12_traits RX12 wsX12_traits 3 (some .int) 16 a D cy xfM p s m args meth c)  {r0 : Int32} {σ' : Sg}  : ∀ (n : Nat), ∀ (σ : Sg) (x1 : Int32) (x2 : Int32) (H : Heap) (locs : List Loc) (ls : Array Slot), lp_ (M_traits_4) (fun _ _ _ => none) n σ x1 x2 = some (r0, σ') → iv_ 16 a D (shM cy a σ) s H locs → lv_has ls 3 [(0, .ref (a 0)), (1, .int x1), (2, .int x2)] → W p l e ({ frames := 1, cells := 0, slots := 0, locals := 22 }) s m args below meth c H locs 0 0 (MQ below (qg_ 16 a D (shM cy a σ') (some (.int r0)) s.heap.size) args s 0 0 (fr_ 16 a s.heap.size)) (F0 m 4 ls []) := by
  intro n
  induction n with
  | zero =>
    intro _ _ _ _ _ _ h
    exact absurd h (fun q => by cases (show (none : Option _) = some _ from q))
  | succ n ih => exact kM_traits_4 X ih

def M_traits_0  (σ : Sg)  : Option (Int32 × Sg) :=
  lp_ M_traits_4 (fun _ _ _ => none) FU σ (0 : Int32) (0 : Int32)
set_option maxRecDepth 100000 in
theorem kM_traits_0 {p : Program} {l : Launch} {e : Env} {s : State} {m : MethodId} {args : Array Value} {below : List Frame} {meth : Method} {c : Code} {D : va_G} {cy : Nat → ClassId} {a : Nat → Nat} (X : cx_ cX12_traits RX12 wsX12_traits 3 (some .int) 16 a D cy xfM p s m args meth c)  {r0 : Int32} {σ' : Sg}  : ∀ (σ : Sg)  (H : Heap) (locs : List Loc) (ls : Array Slot), M_traits_0 σ = some (r0, σ') → iv_ 16 a D (shM cy a σ) s H locs → lv_has ls 3 [(0, .ref (a 0))] → W p l e ({ frames := 1, cells := 0, slots := 0, locals := 22 }) s m args below meth c H locs 0 0 (MQ below (qg_ 16 a D (shM cy a σ') (some (.int r0)) s.heap.size) args s 0 0 (fr_ 16 a s.heap.size)) (F0 m 0 ls []) := by
  obtain ⟨hx, hb, hr, hml, hown, hts, hlk, hK, hA, hXf⟩ := id X
  intro σ  H locs ls h I hl
  unfold M_traits_0 at h
  refine lv_iconst (v := 0) hx hb dX12_traits_0 (by decide) ?_
  refine lv_istore_n (lv' := [(1, .int (0 : Int32)), (0, .ref (a 0))]) hx hb dX12_traits_1 rfl hl (by decide) rfl (fun ls hl => ?_)
  refine lv_iconst (v := 0) hx hb dX12_traits_2 (by decide) ?_
  refine lv_istore_n (lv' := [(2, .int (0 : Int32)), (1, .int (0 : Int32)), (0, .ref (a 0))]) hx hb dX12_traits_3 rfl hl (by decide) rfl (fun ls hl => ?_)
  exact kM_traits_4L X  FU σ (0 : Int32) (0 : Int32) H locs ls h I (lv_sub hl [2, 1, 0] rfl)
theorem c_M_traits {l : Launch} {D : va_G} {cy : Nat → ClassId} {a : Nat → Nat} {σ : Sg}  {r0 : Int32} {σ' : Sg} (h : M_traits_0 σ  = some (r0, σ')) (sz : Nat) : Met l yX12_traits wsX12_traits ({ frames := 1, cells := 0, slots := 0, locals := 22 }) (va_Pc [.ref (a 0)] (pr_ 16 a D cy (shM cy a σ) xfM sz)) (qg_ 16 a D (shM cy a σ') (some (.int r0)) sz) 0 0 (fr_ 16 a sz) := by
  refine ent_ (by decide) rfl (Nat.le_of_ble_eq_true rfl) ?_
  intro p e s m below meth c ls hsz X I hl
  subst hsz
  exact kM_traits_0 X σ  s.heap [] ls h I hl

def M_years_0  (σ : Sg) (x1 : Int32) : Option (Int32 × Sg) :=
  bp_ (M_isIn_0 (x1).toInt64 (1 : Int64) (60 : Int64)) fun r_2 =>
  if r_2 = 0 then (some ((-1 : Int32), σ))
  else (bi_ (M_goes_0 σ x1) fun _ σ_5 =>
  bi_ (M_traits_0 σ_5) fun r_8 σ_7 =>
  some (r_8, σ_7))
set_option maxRecDepth 100000 in
theorem kM_years_0 {p : Program} {l : Launch} {e : Env} {s : State} {m : MethodId} {args : Array Value} {below : List Frame} {meth : Method} {c : Code} {D : va_G} {cy : Nat → ClassId} {a : Nat → Nat} (X : cx_ cX12_years RX12 wsX12_years 2 (some .int) 16 a D cy xfM p s m args meth c)  {r0 : Int32} {σ' : Sg}  : ∀ (σ : Sg) (x1 : Int32) (H : Heap) (locs : List Loc) (ls : Array Slot), M_years_0 σ x1 = some (r0, σ') → iv_ 16 a D (shM cy a σ) s H locs → lv_has ls 2 [(0, .ref (a 0)), (1, .int x1)] → W p l e ({ frames := 5, cells := 0, slots := 0, locals := 111 }) s m args below meth c H locs 0 0 (MQ below (qg_ 16 a D (shM cy a σ') (some (.int r0)) s.heap.size) args s 0 0 (fr_ 16 a s.heap.size)) (F0 m 0 ls []) := by
  obtain ⟨hx, hb, hr, hml, hown, hts, hlk, hK, hA, hXf⟩ := id X
  intro σ x1 H locs ls h I hl
  unfold M_years_0 at h
  refine lv_iload_n hx hb dX12_years_0 rfl (lv_at hl 1 rfl) ?_
  refine lv_i2l hx hb dX12_years_1 rfl ?_
  refine lv_lconst (v := 1) hx hb dX12_years_2 (by decide) ?_
  refine lv_ldc2 (v := 60) hx hb hown (hts (.constantLong RX12 217 (60)) (by decide +kernel)) dX12_years_3 ?_
  obtain ⟨r_2, hc_1, h⟩ := bp_of h
  refine cp_ (rP_ (nn := 3) (As := [.long (x1).toInt64, .long (1 : Int64), .long (60 : Int64)]) (rest := []) ⟨hx, hb, hml, hown, hts⟩ (c_M_isIn hc_1) gX12_years_X12_isIn rfl ⟨rfl, rfl⟩ (by decide +kernel) ⟨Nat.le_of_ble_eq_true rfl, Nat.le_of_ble_eq_true rfl⟩ rfl hl.1 rfl (Nat.le_of_ble_eq_true rfl) dX12_years_6 ⟨Nat.zero_le _, Nat.zero_le _⟩) ?_
  refine lv_if_ne (tgt := 14) hx hb dX12_years_9 (by decide) (fun c_3 => ?_) (fun c_3 => ?_)
  · have h := if_f h c_3
    refine lv_aload_n hx hb dX12_years_14 rfl (lv_at hl 0 rfl) ?_
    refine lv_iload_n hx hb dX12_years_15 rfl (lv_at hl 1 rfl) ?_
    obtain ⟨_, σ_5, hc_4, h⟩ := bi_of h
    refine cv_ (rV_ (nn := 1) (As := [.int x1]) (rest := []) X xkM I (c_M_goes hc_4 H.size) gX12_years_X12_goes rfl ⟨rfl, rfl⟩ (by decide +kernel) ⟨Nat.le_of_ble_eq_true rfl, Nat.le_of_ble_eq_true rfl⟩ (by decide) shM_0 rfl rfl hl.1 rfl (Nat.le_of_ble_eq_true rfl) dX12_years_16) I (fun H locs I => ?_)
    refine lv_aload_n hx hb dX12_years_19 rfl (lv_at hl 0 rfl) ?_
    obtain ⟨r_8, σ_7, hc_6, h⟩ := bi_of h
    refine cg_ (rV_ (nn := 0) (As := []) (rest := []) X xkM I (c_M_traits hc_6 H.size) gX12_years_X12_traits rfl ⟨rfl, rfl⟩ (by decide +kernel) ⟨Nat.le_of_ble_eq_true rfl, Nat.le_of_ble_eq_true rfl⟩ (by decide) shM_0 rfl rfl hl.1 rfl (Nat.le_of_ble_eq_true rfl) dX12_years_20) I (fun H locs I => ?_)
    obtain ⟨rfl, rfl⟩ := re_s h
    exact rti_ X I dX12_years_23
  · have h := if_t h c_3
    refine lv_iconst (v := (-1)) hx hb dX12_years_12 (by decide) ?_
    obtain ⟨rfl, rfl⟩ := re_s h
    exact rti_ X I dX12_years_13
theorem c_M_years {l : Launch} {D : va_G} {cy : Nat → ClassId} {a : Nat → Nat} {σ : Sg} {x1 : Int32} {r0 : Int32} {σ' : Sg} (h : M_years_0 σ x1 = some (r0, σ')) (sz : Nat) : Met l yX12_years wsX12_years ({ frames := 5, cells := 0, slots := 0, locals := 111 }) (va_Pc [.ref (a 0), .int x1] (pr_ 16 a D cy (shM cy a σ) xfM sz)) (qg_ 16 a D (shM cy a σ') (some (.int r0)) sz) 0 0 (fr_ 16 a sz) := by
  refine ent_ (by decide) rfl (Nat.le_of_ble_eq_true rfl) ?_
  intro p e s m below meth c ls hsz X I hl
  subst hsz
  exact kM_years_0 X σ x1 s.heap [] ls h I hl
