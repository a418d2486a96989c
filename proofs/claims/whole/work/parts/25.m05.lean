def M_nearestBy_69 (k31 : Sg → Int32 → Int32 → Int32 → Int32 → Int32 → Int32 → Int32 → Int32 → Option (Int32 × Sg)) (σ : Sg) (x1 : Int32) (x3 : Int32) (x4 : Int32) (x5 : Int32) (x6 : Int32) (x8 : Int32) (x9 : Int32) (x10 : Int32) (t0 : Int32) : Option (Int32 × Sg) :=
  bp_ (M_least_0 x8 x10) fun r_2 =>
  lt_ (x9 + (1 : Int32)) fun y_3 =>
  k31 σ x1 x3 x4 x5 x6 t0 r_2 y_3
set_option maxRecDepth 100000 in
theorem kM_nearestBy_69 {p : Program} {l : Launch} {e : Env} {s : State} {m : MethodId} {args : Array Value} {below : List Frame} {meth : Method} {c : Code} {D : va_G} {cy : Nat → ClassId} {a : Nat → Nat} (X : cx_ cX12_nearestBy RX12 wsX12_nearestBy 11 (some .int) 16 a D cy xfM p s m args meth c) {k31 : Sg → Int32 → Int32 → Int32 → Int32 → Int32 → Int32 → Int32 → Int32 → Option (Int32 × Sg)} {r0 : Int32} {σ' : Sg} (hk31 : ∀ (σ : Sg) (x1 : Int32) (x3 : Int32) (x4 : Int32) (x5 : Int32) (x6 : Int32) (x7 : Int32) (x8 : Int32) (x9 : Int32) (H : Heap) (locs : List Loc) (ls : Array Slot), k31 σ x1 x3 x4 x5 x6 x7 x8 x9 = some (r0, σ') → iv_ 16 a D (shM cy a σ) s H locs → lv_has ls 11 [(0, .ref (a 0)), (1, .int x1), (3, .int x3), (4, .int x4), (5, .int x5), (6, .int x6), (7, .int x7), (8, .int x8), (9, .int x9)] → W p l e ({ frames := 6, cells := 0, slots := 0, locals := 134 }) s m args below meth c H locs 0 0 (MQ below (qg_ 16 a D (shM cy a σ') (some (.int r0)) s.heap.size) args s 0 0 (fr_ 16 a s.heap.size)) (F0 m 31 ls [])) : ∀ (σ : Sg) (x1 : Int32) (x3 : Int32) (x4 : Int32) (x5 : Int32) (x6 : Int32) (x8 : Int32) (x9 : Int32) (x10 : Int32) (t0 : Int32) (H : Heap) (locs : List Loc) (ls : Array Slot), M_nearestBy_69 k31 σ x1 x3 x4 x5 x6 x8 x9 x10 t0 = some (r0, σ') → iv_ 16 a D (shM cy a σ) s H locs → lv_has ls 11 [(0, .ref (a 0)), (1, .int x1), (3, .int x3), (4, .int x4), (5, .int x5), (6, .int x6), (8, .int x8), (9, .int x9), (10, .int x10)] → W p l e ({ frames := 6, cells := 0, slots := 0, locals := 134 }) s m args below meth c H locs 0 0 (MQ below (qg_ 16 a D (shM cy a σ') (some (.int r0)) s.heap.size) args s 0 0 (fr_ 16 a s.heap.size)) (F0 m 69 ls [.int t0]) := by
  obtain ⟨hx, hb, hr, hml, hown, hts, hlk, hK, hA, hXf⟩ := id X
  intro σ x1 x3 x4 x5 x6 x8 x9 x10 t0 H locs ls h I hl
  unfold M_nearestBy_69 at h
  refine lv_istore (lv' := [(7, .int t0), (0, .ref (a 0)), (1, .int x1), (3, .int x3), (4, .int x4), (5, .int x5), (6, .int x6), (8, .int x8), (9, .int x9), (10, .int x10)]) hx hb dX12_nearestBy_69 hl (by decide) rfl (fun ls hl => ?_)
  refine lv_iload hx hb dX12_nearestBy_71 (lv_at hl 7 rfl) ?_
  refine lv_iload hx hb dX12_nearestBy_73 (lv_at hl 9 rfl) ?_
  obtain ⟨r_2, hc_1, h⟩ := bp_of h
  refine cp_ (rP_ (nn := 2) (As := [.int x8, .int x10]) (rest := []) ⟨hx, hb, hml, hown, hts⟩ (c_M_least hc_1) gX12_nearestBy_X12_least rfl ⟨rfl, rfl⟩ (by decide +kernel) ⟨Nat.le_of_ble_eq_true rfl, Nat.le_of_ble_eq_true rfl⟩ rfl hl.1 rfl (Nat.le_of_ble_eq_true rfl) dX12_nearestBy_75 ⟨Nat.zero_le _, Nat.zero_le _⟩) ?_
  refine lv_istore (lv' := [(8, .int r_2), (7, .int t0), (0, .ref (a 0)), (1, .int x1), (3, .int x3), (4, .int x4), (5, .int x5), (6, .int x6), (9, .int x9), (10, .int x10)]) hx hb dX12_nearestBy_78 hl (by decide) rfl (fun ls hl => ?_)
  obtain ⟨y_3, e_4⟩ : ∃ q : Int32, q = x9 + (1 : Int32) := ⟨_, rfl⟩
  have h := lt_at h e_4
  refine lv_iinc (v := y_3) (lv' := [(9, .int y_3), (8, .int r_2), (7, .int t0), (0, .ref (a 0)), (1, .int x1), (3, .int x3), (4, .int x4), (5, .int x5), (6, .int x6), (10, .int x10)]) hx hb dX12_nearestBy_80 hl (k := 8) rfl (by rw [e_4]; rfl) (by decide) rfl (fun ls hl => ?_)
  refine lv_goto (tgt := 31) hx hb dX12_nearestBy_83 (by decide) ?_
  exact hk31 σ x1 x3 x4 x5 x6 t0 r_2 y_3 H locs ls h I (lv_sub hl [3, 4, 5, 6, 7, 8, 2, 1, 0] rfl)
def M_nearestBy_31 (k31 : Sg → Int32 → Int32 → Int32 → Int32 → Int32 → Int32 → Int32 → Int32 → Option (Int32 × Sg)) (σ : Sg) (x1 : Int32) (x3 : Int32) (x4 : Int32) (x5 : Int32) (x6 : Int32) (x7 : Int32) (x8 : Int32) (x9 : Int32) : Option (Int32 × Sg) :=
  if x3 < x9 then (gd_ (in_ x5 64) (
  lt_ (wr_ σ 1 x5.toNatClampNeg x6) fun σ_3 =>
  some (x7, σ_3)))
  else (gd_ (in_ x5 64) (
  lt_ (wr_ σ 1 x5.toNatClampNeg x9) fun σ_6 =>
  bi_ (M_farBehind_0 σ_6 x1 x4) fun r_10 σ_9 =>
  if x8 ≤ r_10 then (M_nearestBy_69 k31 σ_9 x1 x3 x4 x5 x6 x8 x9 r_10 x7)
  else (M_nearestBy_69 k31 σ_9 x1 x3 x4 x5 x6 x8 x9 r_10 x9)))
set_option maxRecDepth 100000 in
theorem kM_nearestBy_31 {p : Program} {l : Launch} {e : Env} {s : State} {m : MethodId} {args : Array Value} {below : List Frame} {meth : Method} {c : Code} {D : va_G} {cy : Nat → ClassId} {a : Nat → Nat} (X : cx_ cX12_nearestBy RX12 wsX12_nearestBy 11 (some .int) 16 a D cy xfM p s m args meth c) {k31 : Sg → Int32 → Int32 → Int32 → Int32 → Int32 → Int32 → Int32 → Int32 → Option (Int32 × Sg)} {r0 : Int32} {σ' : Sg} (hk31 : ∀ (σ : Sg) (x1 : Int32) (x3 : Int32) (x4 : Int32) (x5 : Int32) (x6 : Int32) (x7 : Int32) (x8 : Int32) (x9 : Int32) (H : Heap) (locs : List Loc) (ls : Array Slot), k31 σ x1 x3 x4 x5 x6 x7 x8 x9 = some (r0, σ') → iv_ 16 a D (shM cy a σ) s H locs → lv_has ls 11 [(0, .ref (a 0)), (1, .int x1), (3, .int x3), (4, .int x4), (5, .int x5), (6, .int x6), (7, .int x7), (8, .int x8), (9, .int x9)] → W p l e ({ frames := 6, cells := 0, slots := 0, locals := 134 }) s m args below meth c H locs 0 0 (MQ below (qg_ 16 a D (shM cy a σ') (some (.int r0)) s.heap.size) args s 0 0 (fr_ 16 a s.heap.size)) (F0 m 31 ls [])) : ∀ (σ : Sg) (x1 : Int32) (x3 : Int32) (x4 : Int32) (x5 : Int32) (x6 : Int32) (x7 : Int32) (x8 : Int32) (x9 : Int32) (H : Heap) (locs : List Loc) (ls : Array Slot), M_nearestBy_31 k31 σ x1 x3 x4 x5 x6 x7 x8 x9 = some (r0, σ') → iv_ 16 a D (shM cy a σ) s H locs → lv_has ls 11 [(0, .ref (a 0)), (1, .int x1), (3, .int x3), (4, .int x4), (5, .int x5), (6, .int x6), (7, .int x7), (8, .int x8), (9, .int x9)] → W p l e ({ frames := 6, cells := 0, slots := 0, locals := 134 }) s m args below meth c H locs 0 0 (MQ below (qg_ 16 a D (shM cy a σ') (some (.int r0)) s.heap.size) args s 0 0 (fr_ 16 a s.heap.size)) (F0 m 31 ls []) := by
  obtain ⟨hx, hb, hr, hml, hown, hts, hlk, hK, hA, hXf⟩ := id X
  intro σ x1 x3 x4 x5 x6 x7 x8 x9 H locs ls h I hl
  unfold M_nearestBy_31 at h
  refine lv_iload hx hb dX12_nearestBy_31 (lv_at hl 8 rfl) ?_
  refine lv_iload_n hx hb dX12_nearestBy_33 rfl (lv_at hl 2 rfl) ?_
  refine lv_icmp_gt (tgt := 86) hx hb dX12_nearestBy_34 (by decide) (fun c_1 => ?_) (fun c_1 => ?_)
  · have h := if_t h c_1
    refine lv_aload_n hx hb dX12_nearestBy_86 rfl (lv_at hl 0 rfl) ?_
    refine ig_ (index := 7) X I (fun _ q => List.mem_cons_of_mem _ (List.mem_append_right _ q)) 0 (by decide) shM_0 rfl 0 (by decide) (by decide +kernel) rfl (v := .ref (a 1)) rfl dX12_nearestBy_87 ?_
    refine lv_iload hx hb dX12_nearestBy_90 (lv_at hl 4 rfl) ?_
    refine lv_iload hx hb dX12_nearestBy_92 (lv_at hl 5 rfl) ?_
    obtain ⟨g_2, h⟩ := gd_of h
    refine is_ (σ2 := wr_ σ 1 x5.toNatClampNeg x6) X I 1 (by decide) shM_1 (in_of g_2) shM_st_1 dX12_nearestBy_94 (fun σ_3 H locs e_4 I => ?_)
    have h := lt_at h e_4
    refine lv_iload hx hb dX12_nearestBy_95 (lv_at hl 6 rfl) ?_
    obtain ⟨rfl, rfl⟩ := re_s h
    exact rti_ X I dX12_nearestBy_97
  · have h := if_f h c_1
    refine lv_aload_n hx hb dX12_nearestBy_37 rfl (lv_at hl 0 rfl) ?_
    refine ig_ (index := 7) X I (fun _ q => List.mem_cons_of_mem _ (List.mem_append_right _ q)) 0 (by decide) shM_0 rfl 0 (by decide) (by decide +kernel) rfl (v := .ref (a 1)) rfl dX12_nearestBy_38 ?_
    refine lv_iload hx hb dX12_nearestBy_41 (lv_at hl 4 rfl) ?_
    refine lv_iload hx hb dX12_nearestBy_43 (lv_at hl 8 rfl) ?_
    obtain ⟨g_5, h⟩ := gd_of h
    refine is_ (σ2 := wr_ σ 1 x5.toNatClampNeg x9) X I 1 (by decide) shM_1 (in_of g_5) shM_st_1 dX12_nearestBy_45 (fun σ_6 H locs e_7 I => ?_)
    have h := lt_at h e_7
    refine lv_aload_n hx hb dX12_nearestBy_46 rfl (lv_at hl 0 rfl) ?_
    refine lv_iload_n hx hb dX12_nearestBy_47 rfl (lv_at hl 1 rfl) ?_
    refine lv_iload hx hb dX12_nearestBy_48 (lv_at hl 3 rfl) ?_
    obtain ⟨r_10, σ_9, hc_8, h⟩ := bi_of h
    refine cg_ (rV_ (nn := 2) (As := [.int x1, .int x4]) (rest := []) X xkM I (c_M_farBehind hc_8 H.size) gX12_nearestBy_X12_farBehind rfl ⟨rfl, rfl⟩ (by decide +kernel) ⟨Nat.le_of_ble_eq_true rfl, Nat.le_of_ble_eq_true rfl⟩ (by decide) shM_0 rfl rfl hl.1 rfl (Nat.le_of_ble_eq_true rfl) dX12_nearestBy_50) I (fun H locs I => ?_)
    refine lv_istore (lv' := [(10, .int r_10), (0, .ref (a 0)), (1, .int x1), (3, .int x3), (4, .int x4), (5, .int x5), (6, .int x6), (7, .int x7), (8, .int x8), (9, .int x9)]) hx hb dX12_nearestBy_53 hl (by decide) rfl (fun ls hl => ?_)
    refine lv_iload hx hb dX12_nearestBy_55 (lv_at hl 0 rfl) ?_
    refine lv_iload hx hb dX12_nearestBy_57 (lv_at hl 8 rfl) ?_
    refine lv_icmp_ge (tgt := 67) hx hb dX12_nearestBy_59 (by decide) (fun c_11 => ?_) (fun c_11 => ?_)
    · have h := if_t h c_11
      refine lv_iload hx hb dX12_nearestBy_67 (lv_at hl 7 rfl) ?_
      exact kM_nearestBy_69 X hk31 σ_9 x1 x3 x4 x5 x6 x8 x9 r_10 x7 H locs ls h I (lv_sub hl [1, 2, 3, 4, 5, 6, 8, 9, 0] rfl)
    · have h := if_f h c_11
      refine lv_iload hx hb dX12_nearestBy_62 (lv_at hl 9 rfl) ?_
      refine lv_goto (tgt := 69) hx hb dX12_nearestBy_64 (by decide) ?_
      exact kM_nearestBy_69 X hk31 σ_9 x1 x3 x4 x5 x6 x8 x9 r_10 x9 H locs ls h I (lv_sub hl [1, 2, 3, 4, 5, 6, 8, 9, 0] rfl)
set_option maxRecDepth 100000 in
theorem kM_nearestBy_31L {p : Program} {l : Launch} {e : Env} {s : State} {m : MethodId} {args : Array Value} {below : List Frame} {meth : Method} {c : Code} {D : va_G} {cy : Nat → ClassId} {a : Nat → Nat} (X : cx_ cX12_nearestBy RX12 wsX12_nearestBy 11 (some .int) 16 a D cy xfM p s m args meth c)  {r0 : Int32} {σ' : Sg}  : ∀ (n : Nat), ∀ (σ : Sg) (x1 : Int32) (x3 : Int32) (x4 : Int32) (x5 : Int32) (x6 : Int32) (x7 : Int32) (x8 : Int32) (x9 : Int32) (H : Heap) (locs : List Loc) (ls : Array Slot), lp_ (M_nearestBy_31) (fun _ _ _ _ _ _ _ _ _ => none) n σ x1 x3 x4 x5 x6 x7 x8 x9 = some (r0, σ') → iv_ 16 a D (shM cy a σ) s H locs → lv_has ls 11 [(0, .ref (a 0)), (1, .int x1), (3, .int x3), (4, .int x4), (5, .int x5), (6, .int x6), (7, .int x7), (8, .int x8), (9, .int x9)] → W p l e ({ frames := 6, cells := 0, slots := 0, locals := 134 }) s m args below meth c H locs 0 0 (MQ below (qg_ 16 a D (shM cy a σ') (some (.int r0)) s.heap.size) args s 0 0 (fr_ 16 a s.heap.size)) (F0 m 31 ls []) := by
  intro n
  induction n with
  | zero =>
    intro _ _ _ _ _ _ _ _ _ _ _ _ h
    exact absurd h (fun q => by cases (show (none : Option _) = some _ from q))
  | succ n ih => exact kM_nearestBy_31 X ih

def M_nearestBy_0  (σ : Sg) (x1 : Int32) (x2 : Int32) (x3 : Int32) (x4 : Int32) : Option (Int32 × Sg) :=
  lt_ ((((16 : Int32) + ((6 : Int32) * x1)) + x2)) fun y_1 =>
  gd_ (in_ y_1 64) (
  lt_ ((rd_ σ 1 y_1.toNatClampNeg)) fun y_4 =>
  lp_ M_nearestBy_31 (fun _ _ _ _ _ _ _ _ _ => none) FU σ x1 x3 x4 y_1 y_4 (0 : Int32) (1000 : Int32) (0 : Int32))
set_option maxRecDepth 100000 in
theorem kM_nearestBy_0 {p : Program} {l : Launch} {e : Env} {s : State} {m : MethodId} {args : Array Value} {below : List Frame} {meth : Method} {c : Code} {D : va_G} {cy : Nat → ClassId} {a : Nat → Nat} (X : cx_ cX12_nearestBy RX12 wsX12_nearestBy 11 (some .int) 16 a D cy xfM p s m args meth c)  {r0 : Int32} {σ' : Sg}  : ∀ (σ : Sg) (x1 : Int32) (x2 : Int32) (x3 : Int32) (x4 : Int32) (H : Heap) (locs : List Loc) (ls : Array Slot), M_nearestBy_0 σ x1 x2 x3 x4 = some (r0, σ') → iv_ 16 a D (shM cy a σ) s H locs → lv_has ls 11 [(0, .ref (a 0)), (1, .int x1), (2, .int x2), (3, .int x3), (4, .int x4)] → W p l e ({ frames := 6, cells := 0, slots := 0, locals := 134 }) s m args below meth c H locs 0 0 (MQ below (qg_ 16 a D (shM cy a σ') (some (.int r0)) s.heap.size) args s 0 0 (fr_ 16 a s.heap.size)) (F0 m 0 ls []) := by
  obtain ⟨hx, hb, hr, hml, hown, hts, hlk, hK, hA, hXf⟩ := id X
  intro σ x1 x2 x3 x4 H locs ls h I hl
  unfold M_nearestBy_0 at h
  refine lv_bipush (v := 16) hx hb dX12_nearestBy_0 (by decide) ?_
  refine lv_bipush (v := 6) hx hb dX12_nearestBy_2 (by decide) ?_
  refine lv_iload_n hx hb dX12_nearestBy_4 rfl (lv_at hl 1 rfl) ?_
  refine lv_imul hx hb dX12_nearestBy_5 ?_
  refine lv_iadd hx hb dX12_nearestBy_6 ?_
  refine lv_iload_n hx hb dX12_nearestBy_7 rfl (lv_at hl 2 rfl) ?_
  refine lv_iadd hx hb dX12_nearestBy_8 ?_
  refine lv_topi (fun y_1 e_2 => ?_)
  have h := lt_at h e_2
  refine lv_istore (lv' := [(5, .int y_1), (0, .ref (a 0)), (1, .int x1), (2, .int x2), (3, .int x3), (4, .int x4)]) hx hb dX12_nearestBy_9 hl (by decide) rfl (fun ls hl => ?_)
  refine lv_aload_n hx hb dX12_nearestBy_11 rfl (lv_at hl 1 rfl) ?_
  refine ig_ (index := 7) X I (fun _ q => List.mem_cons_of_mem _ (List.mem_append_right _ q)) 0 (by decide) shM_0 rfl 0 (by decide) (by decide +kernel) rfl (v := .ref (a 1)) rfl dX12_nearestBy_12 ?_
  refine lv_iload hx hb dX12_nearestBy_15 (lv_at hl 0 rfl) ?_
  obtain ⟨g_3, h⟩ := gd_of h
  refine ia_ X I 1 (by decide) shM_1 (in_of g_3) (v0 := rd_ σ 1 y_1.toNatClampNeg) rfl dX12_nearestBy_17 ?_
  refine lv_topi (fun y_4 e_5 => ?_)
  have h := lt_at h e_5
  refine lv_istore (lv' := [(6, .int y_4), (5, .int y_1), (0, .ref (a 0)), (1, .int x1), (2, .int x2), (3, .int x3), (4, .int x4)]) hx hb dX12_nearestBy_18 hl (by decide) rfl (fun ls hl => ?_)
  refine lv_iconst (v := 0) hx hb dX12_nearestBy_20 (by decide) ?_
  refine lv_istore (lv' := [(7, .int (0 : Int32)), (6, .int y_4), (5, .int y_1), (0, .ref (a 0)), (1, .int x1), (2, .int x2), (3, .int x3), (4, .int x4)]) hx hb dX12_nearestBy_21 hl (by decide) rfl (fun ls hl => ?_)
  refine lv_sipush (v := 1000) hx hb dX12_nearestBy_23 (by decide) ?_
  refine lv_istore (lv' := [(8, .int (1000 : Int32)), (7, .int (0 : Int32)), (6, .int y_4), (5, .int y_1), (0, .ref (a 0)), (1, .int x1), (2, .int x2), (3, .int x3), (4, .int x4)]) hx hb dX12_nearestBy_26 hl (by decide) rfl (fun ls hl => ?_)
  refine lv_iconst (v := 0) hx hb dX12_nearestBy_28 (by decide) ?_
  refine lv_istore (lv' := [(9, .int (0 : Int32)), (8, .int (1000 : Int32)), (7, .int (0 : Int32)), (6, .int y_4), (5, .int y_1), (0, .ref (a 0)), (1, .int x1), (2, .int x2), (3, .int x3), (4, .int x4)]) hx hb dX12_nearestBy_29 hl (by decide) rfl (fun ls hl => ?_)
  exact kM_nearestBy_31L X  FU σ x1 x3 x4 y_1 y_4 (0 : Int32) (1000 : Int32) (0 : Int32) H locs ls h I (lv_sub hl [5, 6, 8, 9, 4, 3, 2, 1, 0] rfl)
theorem c_M_nearestBy {l : Launch} {D : va_G} {cy : Nat → ClassId} {a : Nat → Nat} {σ : Sg} {x1 : Int32} {x2 : Int32} {x3 : Int32} {x4 : Int32} {r0 : Int32} {σ' : Sg} (h : M_nearestBy_0 σ x1 x2 x3 x4 = some (r0, σ')) (sz : Nat) : Met l yX12_nearestBy wsX12_nearestBy ({ frames := 6, cells := 0, slots := 0, locals := 134 }) (va_Pc [.ref (a 0), .int x1, .int x2, .int x3, .int x4] (pr_ 16 a D cy (shM cy a σ) xfM sz)) (qg_ 16 a D (shM cy a σ') (some (.int r0)) sz) 0 0 (fr_ 16 a sz) := by
  refine ent_ (by decide) rfl (Nat.le_of_ble_eq_true rfl) ?_
  intro p e s m below meth c ls hsz X I hl
  subst hsz
  exact kM_nearestBy_0 X σ x1 x2 x3 x4 s.heap [] ls h I hl

def M_swearFor_0  (σ : Sg) (x1 : Int32) (x2 : Int32) : Option (Int32 × Sg) :=
  bi_ (M_isOne_0 σ x1) fun r_3 σ_2 =>
  if r_3 = 0 then (some ((-1 : Int32), σ_2))
  else (bp_ (M_isShort_0 x2) fun r_6 =>
  if r_6 = 0 then (some ((-1 : Int32), σ_2))
  else (bi_ (M_nearestBy_0 σ_2 x1 (5 : Int32) (7 : Int32) x2) fun r_10 σ_9 =>
  some (r_10, σ_9)))
set_option maxRecDepth 100000 in
theorem kM_swearFor_0 {p : Program} {l : Launch} {e : Env} {s : State} {m : MethodId} {args : Array Value} {below : List Frame} {meth : Method} {c : Code} {D : va_G} {cy : Nat → ClassId} {a : Nat → Nat} (X : cx_ cX12_swearFor RX12 wsX12_swearFor 3 (some .int) 16 a D cy xfM p s m args meth c)  {r0 : Int32} {σ' : Sg}  : ∀ (σ : Sg) (x1 : Int32) (x2 : Int32) (H : Heap) (locs : List Loc) (ls : Array Slot), M_swearFor_0 σ x1 x2 = some (r0, σ') → iv_ 16 a D (shM cy a σ) s H locs → lv_has ls 3 [(0, .ref (a 0)), (1, .int x1), (2, .int x2)] → W p l e ({ frames := 7, cells := 0, slots := 0, locals := 164 }) s m args below meth c H locs 0 0 (MQ below (qg_ 16 a D (shM cy a σ') (some (.int r0)) s.heap.size) args s 0 0 (fr_ 16 a s.heap.size)) (F0 m 0 ls []) := by
  obtain ⟨hx, hb, hr, hml, hown, hts, hlk, hK, hA, hXf⟩ := id X
  intro σ x1 x2 H locs ls h I hl
  unfold M_swearFor_0 at h
  refine lv_aload_n hx hb dX12_swearFor_0 rfl (lv_at hl 0 rfl) ?_
  refine lv_iload_n hx hb dX12_swearFor_1 rfl (lv_at hl 1 rfl) ?_
  obtain ⟨r_3, σ_2, hc_1, h⟩ := bi_of h
  refine cg_ (rV_ (nn := 1) (As := [.int x1]) (rest := []) X xkM I (c_M_isOne hc_1 H.size) gX12_swearFor_X12_isOne rfl ⟨rfl, rfl⟩ (by decide +kernel) ⟨Nat.le_of_ble_eq_true rfl, Nat.le_of_ble_eq_true rfl⟩ (by decide) shM_0 rfl rfl hl.1 rfl (Nat.le_of_ble_eq_true rfl) dX12_swearFor_2) I (fun H locs I => ?_)
  refine lv_if_eq (tgt := 27) hx hb dX12_swearFor_5 (by decide) (fun c_4 => ?_) (fun c_4 => ?_)
  · have h := if_t h c_4
    refine lv_iconst (v := (-1)) hx hb dX12_swearFor_27 (by decide) ?_
    obtain ⟨rfl, rfl⟩ := re_s h
    exact rti_ X I dX12_swearFor_28
  · have h := if_f h c_4
    refine lv_iload_n hx hb dX12_swearFor_8 rfl (lv_at hl 2 rfl) ?_
    obtain ⟨r_6, hc_5, h⟩ := bp_of h
    refine cp_ (rP_ (nn := 1) (As := [.int x2]) (rest := []) ⟨hx, hb, hml, hown, hts⟩ (c_M_isShort hc_5) gX12_swearFor_X12_isShort rfl ⟨rfl, rfl⟩ (by decide +kernel) ⟨Nat.le_of_ble_eq_true rfl, Nat.le_of_ble_eq_true rfl⟩ rfl hl.1 rfl (Nat.le_of_ble_eq_true rfl) dX12_swearFor_9 ⟨Nat.zero_le _, Nat.zero_le _⟩) ?_
    refine lv_if_eq (tgt := 27) hx hb dX12_swearFor_12 (by decide) (fun c_7 => ?_) (fun c_7 => ?_)
    · have h := if_t h c_7
      refine lv_iconst (v := (-1)) hx hb dX12_swearFor_27 (by decide) ?_
      obtain ⟨rfl, rfl⟩ := re_s h
      exact rti_ X I dX12_swearFor_28
    · have h := if_f h c_7
      refine lv_aload_n hx hb dX12_swearFor_15 rfl (lv_at hl 0 rfl) ?_
      refine lv_iload_n hx hb dX12_swearFor_16 rfl (lv_at hl 1 rfl) ?_
      refine lv_iconst (v := 5) hx hb dX12_swearFor_17 (by decide) ?_
      refine lv_bipush (v := 7) hx hb dX12_swearFor_18 (by decide) ?_
      refine lv_iload_n hx hb dX12_swearFor_20 rfl (lv_at hl 2 rfl) ?_
      obtain ⟨r_10, σ_9, hc_8, h⟩ := bi_of h
      refine cg_ (rV_ (nn := 4) (As := [.int x1, .int (5 : Int32), .int (7 : Int32), .int x2]) (rest := []) X xkM I (c_M_nearestBy hc_8 H.size) gX12_swearFor_X12_nearestBy rfl ⟨rfl, rfl⟩ (by decide +kernel) ⟨Nat.le_of_ble_eq_true rfl, Nat.le_of_ble_eq_true rfl⟩ (by decide) shM_0 rfl rfl hl.1 rfl (Nat.le_of_ble_eq_true rfl) dX12_swearFor_21) I (fun H locs I => ?_)
      refine lv_goto (tgt := 28) hx hb dX12_swearFor_24 (by decide) ?_
      obtain ⟨rfl, rfl⟩ := re_s h
      exact rti_ X I dX12_swearFor_28
theorem c_M_swearFor {l : Launch} {D : va_G} {cy : Nat → ClassId} {a : Nat → Nat} {σ : Sg} {x1 : Int32} {x2 : Int32} {r0 : Int32} {σ' : Sg} (h : M_swearFor_0 σ x1 x2 = some (r0, σ')) (sz : Nat) : Met l yX12_swearFor wsX12_swearFor ({ frames := 7, cells := 0, slots := 0, locals := 164 }) (va_Pc [.ref (a 0), .int x1, .int x2] (pr_ 16 a D cy (shM cy a σ) xfM sz)) (qg_ 16 a D (shM cy a σ') (some (.int r0)) sz) 0 0 (fr_ 16 a sz) := by
  refine ent_ (by decide) rfl (Nat.le_of_ble_eq_true rfl) ?_
  intro p e s m below meth c ls hsz X I hl
  subst hsz
  exact kM_swearFor_0 X σ x1 x2 s.heap [] ls h I hl

def M_kindFor_0  (σ : Sg) (x1 : Int32) (x2 : Int32) : Option (Int32 × Sg) :=
  bi_ (M_isOne_0 σ x1) fun r_3 σ_2 =>
  if r_3 = 0 then (some ((-1 : Int32), σ_2))
  else (bp_ (M_isShort_0 x2) fun r_6 =>
  if r_6 = 0 then (some ((-1 : Int32), σ_2))
  else (bi_ (M_nearestBy_0 σ_2 x1 (0 : Int32) (5 : Int32) x2) fun r_10 σ_9 =>
  some (r_10, σ_9)))
set_option maxRecDepth 100000 in
theorem kM_kindFor_0 {p : Program} {l : Launch} {e : Env} {s : State} {m : MethodId} {args : Array Value} {below : List Frame} {meth : Method} {c : Code} {D : va_G} {cy : Nat → ClassId} {a : Nat → Nat} (X : cx_ cX12_kindFor RX12 wsX12_kindFor 3 (some .int) 16 a D cy xfM p s m args meth c)  {r0 : Int32} {σ' : Sg}  : ∀ (σ : Sg) (x1 : Int32) (x2 : Int32) (H : Heap) (locs : List Loc) (ls : Array Slot), M_kindFor_0 σ x1 x2 = some (r0, σ') → iv_ 16 a D (shM cy a σ) s H locs → lv_has ls 3 [(0, .ref (a 0)), (1, .int x1), (2, .int x2)] → W p l e ({ frames := 7, cells := 0, slots := 0, locals := 164 }) s m args below meth c H locs 0 0 (MQ below (qg_ 16 a D (shM cy a σ') (some (.int r0)) s.heap.size) args s 0 0 (fr_ 16 a s.heap.size)) (F0 m 0 ls []) := by
  obtain ⟨hx, hb, hr, hml, hown, hts, hlk, hK, hA, hXf⟩ := id X
  intro σ x1 x2 H locs ls h I hl
  unfold M_kindFor_0 at h
  refine lv_aload_n hx hb dX12_kindFor_0 rfl (lv_at hl 0 rfl) ?_
  refine lv_iload_n hx hb dX12_kindFor_1 rfl (lv_at hl 1 rfl) ?_
  obtain ⟨r_3, σ_2, hc_1, h⟩ := bi_of h
  refine cg_ (rV_ (nn := 1) (As := [.int x1]) (rest := []) X xkM I (c_M_isOne hc_1 H.size) gX12_kindFor_X12_isOne rfl ⟨rfl, rfl⟩ (by decide +kernel) ⟨Nat.le_of_ble_eq_true rfl, Nat.le_of_ble_eq_true rfl⟩ (by decide) shM_0 rfl rfl hl.1 rfl (Nat.le_of_ble_eq_true rfl) dX12_kindFor_2) I (fun H locs I => ?_)
  refine lv_if_eq (tgt := 26) hx hb dX12_kindFor_5 (by decide) (fun c_4 => ?_) (fun c_4 => ?_)
  · have h := if_t h c_4
    refine lv_iconst (v := (-1)) hx hb dX12_kindFor_26 (by decide) ?_
    obtain ⟨rfl, rfl⟩ := re_s h
    exact rti_ X I dX12_kindFor_27
  · have h := if_f h c_4
    refine lv_iload_n hx hb dX12_kindFor_8 rfl (lv_at hl 2 rfl) ?_
    obtain ⟨r_6, hc_5, h⟩ := bp_of h
    refine cp_ (rP_ (nn := 1) (As := [.int x2]) (rest := []) ⟨hx, hb, hml, hown, hts⟩ (c_M_isShort hc_5) gX12_kindFor_X12_isShort rfl ⟨rfl, rfl⟩ (by decide +kernel) ⟨Nat.le_of_ble_eq_true rfl, Nat.le_of_ble_eq_true rfl⟩ rfl hl.1 rfl (Nat.le_of_ble_eq_true rfl) dX12_kindFor_9 ⟨Nat.zero_le _, Nat.zero_le _⟩) ?_
    refine lv_if_eq (tgt := 26) hx hb dX12_kindFor_12 (by decide) (fun c_7 => ?_) (fun c_7 => ?_)
    · have h := if_t h c_7
      refine lv_iconst (v := (-1)) hx hb dX12_kindFor_26 (by decide) ?_
      obtain ⟨rfl, rfl⟩ := re_s h
      exact rti_ X I dX12_kindFor_27
    · have h := if_f h c_7
      refine lv_aload_n hx hb dX12_kindFor_15 rfl (lv_at hl 0 rfl) ?_
      refine lv_iload_n hx hb dX12_kindFor_16 rfl (lv_at hl 1 rfl) ?_
      refine lv_iconst (v := 0) hx hb dX12_kindFor_17 (by decide) ?_
      refine lv_iconst (v := 5) hx hb dX12_kindFor_18 (by decide) ?_
      refine lv_iload_n hx hb dX12_kindFor_19 rfl (lv_at hl 2 rfl) ?_
      obtain ⟨r_10, σ_9, hc_8, h⟩ := bi_of h
      refine cg_ (rV_ (nn := 4) (As := [.int x1, .int (0 : Int32), .int (5 : Int32), .int x2]) (rest := []) X xkM I (c_M_nearestBy hc_8 H.size) gX12_kindFor_X12_nearestBy rfl ⟨rfl, rfl⟩ (by decide +kernel) ⟨Nat.le_of_ble_eq_true rfl, Nat.le_of_ble_eq_true rfl⟩ (by decide) shM_0 rfl rfl hl.1 rfl (Nat.le_of_ble_eq_true rfl) dX12_kindFor_20) I (fun H locs I => ?_)
      refine lv_goto (tgt := 27) hx hb dX12_kindFor_23 (by decide) ?_
      obtain ⟨rfl, rfl⟩ := re_s h
      exact rti_ X I dX12_kindFor_27
theorem c_M_kindFor {l : Launch} {D : va_G} {cy : Nat → ClassId} {a : Nat → Nat} {σ : Sg} {x1 : Int32} {x2 : Int32} {r0 : Int32} {σ' : Sg} (h : M_kindFor_0 σ x1 x2 = some (r0, σ')) (sz : Nat) : Met l yX12_kindFor wsX12_kindFor ({ frames := 7, cells := 0, slots := 0, locals := 164 }) (va_Pc [.ref (a 0), .int x1, .int x2] (pr_ 16 a D cy (shM cy a σ) xfM sz)) (qg_ 16 a D (shM cy a σ') (some (.int r0)) sz) 0 0 (fr_ 16 a sz) := by
  refine ent_ (by decide) rfl (Nat.le_of_ble_eq_true rfl) ?_
  intro p e s m below meth c ls hsz X I hl
  subst hsz
  exact kM_kindFor_0 X σ x1 x2 s.heap [] ls h I hl

def M_fireFor_0  (σ : Sg) (x1 : Int32) (x2 : Int32) : Option (Int32 × Sg) :=
  bi_ (M_isOne_0 σ x1) fun r_3 σ_2 =>
  if r_3 = 0 then (some ((-1 : Int32), σ_2))
  else (bp_ (M_isShort_0 x2) fun r_6 =>
  if r_6 = 0 then (some ((-1 : Int32), σ_2))
  else (bi_ (M_nearestBy_0 σ_2 x1 (2 : Int32) (9 : Int32) x2) fun r_10 σ_9 =>
  some (r_10, σ_9)))
set_option maxRecDepth 100000 in
theorem kM_fireFor_0 {p : Program} {l : Launch} {e : Env} {s : State} {m : MethodId} {args : Array Value} {below : List Frame} {meth : Method} {c : Code} {D : va_G} {cy : Nat → ClassId} {a : Nat → Nat} (X : cx_ cX12_fireFor RX12 wsX12_fireFor 3 (some .int) 16 a D cy xfM p s m args meth c)  {r0 : Int32} {σ' : Sg}  : ∀ (σ : Sg) (x1 : Int32) (x2 : Int32) (H : Heap) (locs : List Loc) (ls : Array Slot), M_fireFor_0 σ x1 x2 = some (r0, σ') → iv_ 16 a D (shM cy a σ) s H locs → lv_has ls 3 [(0, .ref (a 0)), (1, .int x1), (2, .int x2)] → W p l e ({ frames := 7, cells := 0, slots := 0, locals := 164 }) s m args below meth c H locs 0 0 (MQ below (qg_ 16 a D (shM cy a σ') (some (.int r0)) s.heap.size) args s 0 0 (fr_ 16 a s.heap.size)) (F0 m 0 ls []) := by
  obtain ⟨hx, hb, hr, hml, hown, hts, hlk, hK, hA, hXf⟩ := id X
  intro σ x1 x2 H locs ls h I hl
  unfold M_fireFor_0 at h
  refine lv_aload_n hx hb dX12_fireFor_0 rfl (lv_at hl 0 rfl) ?_
  refine lv_iload_n hx hb dX12_fireFor_1 rfl (lv_at hl 1 rfl) ?_
  obtain ⟨r_3, σ_2, hc_1, h⟩ := bi_of h
  refine cg_ (rV_ (nn := 1) (As := [.int x1]) (rest := []) X xkM I (c_M_isOne hc_1 H.size) gX12_fireFor_X12_isOne rfl ⟨rfl, rfl⟩ (by decide +kernel) ⟨Nat.le_of_ble_eq_true rfl, Nat.le_of_ble_eq_true rfl⟩ (by decide) shM_0 rfl rfl hl.1 rfl (Nat.le_of_ble_eq_true rfl) dX12_fireFor_2) I (fun H locs I => ?_)
  refine lv_if_eq (tgt := 27) hx hb dX12_fireFor_5 (by decide) (fun c_4 => ?_) (fun c_4 => ?_)
  · have h := if_t h c_4
    refine lv_iconst (v := (-1)) hx hb dX12_fireFor_27 (by decide) ?_
    obtain ⟨rfl, rfl⟩ := re_s h
    exact rti_ X I dX12_fireFor_28
  · have h := if_f h c_4
    refine lv_iload_n hx hb dX12_fireFor_8 rfl (lv_at hl 2 rfl) ?_
    obtain ⟨r_6, hc_5, h⟩ := bp_of h
    refine cp_ (rP_ (nn := 1) (As := [.int x2]) (rest := []) ⟨hx, hb, hml, hown, hts⟩ (c_M_isShort hc_5) gX12_fireFor_X12_isShort rfl ⟨rfl, rfl⟩ (by decide +kernel) ⟨Nat.le_of_ble_eq_true rfl, Nat.le_of_ble_eq_true rfl⟩ rfl hl.1 rfl (Nat.le_of_ble_eq_true rfl) dX12_fireFor_9 ⟨Nat.zero_le _, Nat.zero_le _⟩) ?_
    refine lv_if_eq (tgt := 27) hx hb dX12_fireFor_12 (by decide) (fun c_7 => ?_) (fun c_7 => ?_)
    · have h := if_t h c_7
      refine lv_iconst (v := (-1)) hx hb dX12_fireFor_27 (by decide) ?_
      obtain ⟨rfl, rfl⟩ := re_s h
      exact rti_ X I dX12_fireFor_28
    · have h := if_f h c_7
      refine lv_aload_n hx hb dX12_fireFor_15 rfl (lv_at hl 0 rfl) ?_
      refine lv_iload_n hx hb dX12_fireFor_16 rfl (lv_at hl 1 rfl) ?_
      refine lv_iconst (v := 2) hx hb dX12_fireFor_17 (by decide) ?_
      refine lv_bipush (v := 9) hx hb dX12_fireFor_18 (by decide) ?_
      refine lv_iload_n hx hb dX12_fireFor_20 rfl (lv_at hl 2 rfl) ?_
      obtain ⟨r_10, σ_9, hc_8, h⟩ := bi_of h
      refine cg_ (rV_ (nn := 4) (As := [.int x1, .int (2 : Int32), .int (9 : Int32), .int x2]) (rest := []) X xkM I (c_M_nearestBy hc_8 H.size) gX12_fireFor_X12_nearestBy rfl ⟨rfl, rfl⟩ (by decide +kernel) ⟨Nat.le_of_ble_eq_true rfl, Nat.le_of_ble_eq_true rfl⟩ (by decide) shM_0 rfl rfl hl.1 rfl (Nat.le_of_ble_eq_true rfl) dX12_fireFor_21) I (fun H locs I => ?_)
      refine lv_goto (tgt := 28) hx hb dX12_fireFor_24 (by decide) ?_
      obtain ⟨rfl, rfl⟩ := re_s h
      exact rti_ X I dX12_fireFor_28
theorem c_M_fireFor {l : Launch} {D : va_G} {cy : Nat → ClassId} {a : Nat → Nat} {σ : Sg} {x1 : Int32} {x2 : Int32} {r0 : Int32} {σ' : Sg} (h : M_fireFor_0 σ x1 x2 = some (r0, σ')) (sz : Nat) : Met l yX12_fireFor wsX12_fireFor ({ frames := 7, cells := 0, slots := 0, locals := 164 }) (va_Pc [.ref (a 0), .int x1, .int x2] (pr_ 16 a D cy (shM cy a σ) xfM sz)) (qg_ 16 a D (shM cy a σ') (some (.int r0)) sz) 0 0 (fr_ 16 a sz) := by
  refine ent_ (by decide) rfl (Nat.le_of_ble_eq_true rfl) ?_
  intro p e s m below meth c ls hsz X I hl
  subst hsz
  exact kM_fireFor_0 X σ x1 x2 s.heap [] ls h I hl

def M_swearsAll_33 (k2 : Sg → Int32 → Int32 → Option (Unit × Sg)) (k33 : Sg → Int32 → Int32 → Int32 → Int32 → Int32 → Option (Unit × Sg)) (σ : Sg) (x1 : Int32) (x2 : Int32) (x3 : Int32) (x4 : Int32) (x5 : Int32) : Option (Unit × Sg) :=
  if (8 : Int32) ≤ x5 then (gd_ (in_ x3 64) (
  lt_ (wr_ σ 1 x3.toNatClampNeg x4) fun σ_3 =>
  lt_ (x2 + (1 : Int32)) fun y_5 =>
  k2 σ_3 x1 y_5))
  else (gd_ (in_ x3 64) (
  lt_ (wr_ σ 1 x3.toNatClampNeg x5) fun σ_8 =>
  bi_ (M_farBehind_0 σ_8 x2 x1) fun r_12 σ_11 =>
  gd_ (in_ (((8 : Int32) * x2) + x5) 64) (
  lt_ (wr_ σ_11 6 (((8 : Int32) * x2) + x5).toNatClampNeg r_12) fun σ_14 =>
  lt_ (x5 + (1 : Int32)) fun y_16 =>
  k33 σ_14 x1 x2 x3 x4 y_16)))
set_option maxRecDepth 100000 in
theorem kM_swearsAll_33 {p : Program} {l : Launch} {e : Env} {s : State} {m : MethodId} {args : Array Value} {below : List Frame} {meth : Method} {c : Code} {D : va_G} {cy : Nat → ClassId} {a : Nat → Nat} (X : cx_ cX12_swearsAll RX12 wsX12_swearsAll 6 none 16 a D cy xfM p s m args meth c) {k2 : Sg → Int32 → Int32 → Option (Unit × Sg)} {k33 : Sg → Int32 → Int32 → Int32 → Int32 → Int32 → Option (Unit × Sg)}  {σ' : Sg} (hk2 : ∀ (σ : Sg) (x1 : Int32) (x2 : Int32) (H : Heap) (locs : List Loc) (ls : Array Slot), k2 σ x1 x2 = some ((), σ') → iv_ 16 a D (shM cy a σ) s H locs → lv_has ls 6 [(0, .ref (a 0)), (1, .int x1), (2, .int x2)] → W p l e ({ frames := 6, cells := 0, slots := 0, locals := 134 }) s m args below meth c H locs 0 0 (MQ below (qg_ 16 a D (shM cy a σ') none s.heap.size) args s 0 0 (fr_ 16 a s.heap.size)) (F0 m 2 ls [])) (hk33 : ∀ (σ : Sg) (x1 : Int32) (x2 : Int32) (x3 : Int32) (x4 : Int32) (x5 : Int32) (H : Heap) (locs : List Loc) (ls : Array Slot), k33 σ x1 x2 x3 x4 x5 = some ((), σ') → iv_ 16 a D (shM cy a σ) s H locs → lv_has ls 6 [(0, .ref (a 0)), (1, .int x1), (2, .int x2), (3, .int x3), (4, .int x4), (5, .int x5)] → W p l e ({ frames := 6, cells := 0, slots := 0, locals := 134 }) s m args below meth c H locs 0 0 (MQ below (qg_ 16 a D (shM cy a σ') none s.heap.size) args s 0 0 (fr_ 16 a s.heap.size)) (F0 m 33 ls [])) : ∀ (σ : Sg) (x1 : Int32) (x2 : Int32) (x3 : Int32) (x4 : Int32) (x5 : Int32) (H : Heap) (locs : List Loc) (ls : Array Slot), M_swearsAll_33 k2 k33 σ x1 x2 x3 x4 x5 = some ((), σ') → iv_ 16 a D (shM cy a σ) s H locs → lv_has ls 6 [(0, .ref (a 0)), (1, .int x1), (2, .int x2), (3, .int x3), (4, .int x4), (5, .int x5)] → W p l e ({ frames := 6, cells := 0, slots := 0, locals := 134 }) s m args below meth c H locs 0 0 (MQ below (qg_ 16 a D (shM cy a σ') none s.heap.size) args s 0 0 (fr_ 16 a s.heap.size)) (F0 m 33 ls []) := by
  obtain ⟨hx, hb, hr, hml, hown, hts, hlk, hK, hA, hXf⟩ := id X
  intro σ x1 x2 x3 x4 x5 H locs ls h I hl
  unfold M_swearsAll_33 at h
  refine lv_iload hx hb dX12_swearsAll_33 (lv_at hl 5 rfl) ?_
  refine lv_bipush (v := 8) hx hb dX12_swearsAll_35 (by decide) ?_
  refine lv_icmp_ge (tgt := 72) hx hb dX12_swearsAll_37 (by decide) (fun c_1 => ?_) (fun c_1 => ?_)
  · have h := if_t h c_1
    refine lv_aload_n hx hb dX12_swearsAll_72 rfl (lv_at hl 0 rfl) ?_
    refine ig_ (index := 7) X I (fun _ q => List.mem_cons_of_mem _ (List.mem_append_right _ q)) 0 (by decide) shM_0 rfl 0 (by decide) (by decide +kernel) rfl (v := .ref (a 1)) rfl dX12_swearsAll_73 ?_
    refine lv_iload_n hx hb dX12_swearsAll_76 rfl (lv_at hl 3 rfl) ?_
    refine lv_iload hx hb dX12_swearsAll_77 (lv_at hl 4 rfl) ?_
    obtain ⟨g_2, h⟩ := gd_of h
    refine is_ (σ2 := wr_ σ 1 x3.toNatClampNeg x4) X I 1 (by decide) shM_1 (in_of g_2) shM_st_1 dX12_swearsAll_79 (fun σ_3 H locs e_4 I => ?_)
    have h := lt_at h e_4
    obtain ⟨y_5, e_6⟩ : ∃ q : Int32, q = x2 + (1 : Int32) := ⟨_, rfl⟩
    have h := lt_at h e_6
    refine lv_iinc (v := y_5) (lv' := [(2, .int y_5), (0, .ref (a 0)), (1, .int x1), (3, .int x3), (4, .int x4), (5, .int x5)]) hx hb dX12_swearsAll_80 hl (k := 2) rfl (by rw [e_6]; rfl) (by decide) rfl (fun ls hl => ?_)
    refine lv_goto (tgt := 2) hx hb dX12_swearsAll_83 (by decide) ?_
    exact hk2 σ_3 x1 y_5 H locs ls h I (lv_sub hl [1, 2, 0] rfl)
  · have h := if_f h c_1
    refine lv_aload_n hx hb dX12_swearsAll_40 rfl (lv_at hl 0 rfl) ?_
    refine ig_ (index := 7) X I (fun _ q => List.mem_cons_of_mem _ (List.mem_append_right _ q)) 0 (by decide) shM_0 rfl 0 (by decide) (by decide +kernel) rfl (v := .ref (a 1)) rfl dX12_swearsAll_41 ?_
    refine lv_iload_n hx hb dX12_swearsAll_44 rfl (lv_at hl 3 rfl) ?_
    refine lv_iload hx hb dX12_swearsAll_45 (lv_at hl 5 rfl) ?_
    obtain ⟨g_7, h⟩ := gd_of h
    refine is_ (σ2 := wr_ σ 1 x3.toNatClampNeg x5) X I 1 (by decide) shM_1 (in_of g_7) shM_st_1 dX12_swearsAll_47 (fun σ_8 H locs e_9 I => ?_)
    have h := lt_at h e_9
    refine lv_aload_n hx hb dX12_swearsAll_48 rfl (lv_at hl 0 rfl) ?_
    refine ig_ (index := 25) X I (fun _ q => List.mem_cons_of_mem _ (List.mem_append_right _ q)) 0 (by decide) shM_0 rfl 12 (by decide) (by decide +kernel) rfl (v := .ref (a 6)) rfl dX12_swearsAll_49 ?_
    refine lv_bipush (v := 8) hx hb dX12_swearsAll_52 (by decide) ?_
    refine lv_iload_n hx hb dX12_swearsAll_54 rfl (lv_at hl 2 rfl) ?_
    refine lv_imul hx hb dX12_swearsAll_55 ?_
    refine lv_iload hx hb dX12_swearsAll_56 (lv_at hl 5 rfl) ?_
    refine lv_iadd hx hb dX12_swearsAll_58 ?_
    refine lv_aload_n hx hb dX12_swearsAll_59 rfl (lv_at hl 0 rfl) ?_
    refine lv_iload_n hx hb dX12_swearsAll_60 rfl (lv_at hl 2 rfl) ?_
    refine lv_iload_n hx hb dX12_swearsAll_61 rfl (lv_at hl 1 rfl) ?_
    obtain ⟨r_12, σ_11, hc_10, h⟩ := bi_of h
    refine cg_ (rV_ (nn := 2) (As := [.int x2, .int x1]) (rest := [.int (((8 : Int32) * x2) + x5), .ref (a 6)]) X xkM I (c_M_farBehind hc_10 H.size) gX12_swearsAll_X12_farBehind rfl ⟨rfl, rfl⟩ (by decide +kernel) ⟨Nat.le_of_ble_eq_true rfl, Nat.le_of_ble_eq_true rfl⟩ (by decide) shM_0 rfl rfl hl.1 rfl (Nat.le_of_ble_eq_true rfl) dX12_swearsAll_62) I (fun H locs I => ?_)
    obtain ⟨g_13, h⟩ := gd_of h
    refine is_ (σ2 := wr_ σ_11 6 (((8 : Int32) * x2) + x5).toNatClampNeg r_12) X I 6 (by decide) shM_6 (in_of g_13) shM_st_6 dX12_swearsAll_65 (fun σ_14 H locs e_15 I => ?_)
    have h := lt_at h e_15
    obtain ⟨y_16, e_17⟩ : ∃ q : Int32, q = x5 + (1 : Int32) := ⟨_, rfl⟩
    have h := lt_at h e_17
    refine lv_iinc (v := y_16) (lv' := [(5, .int y_16), (0, .ref (a 0)), (1, .int x1), (2, .int x2), (3, .int x3), (4, .int x4)]) hx hb dX12_swearsAll_66 hl (k := 5) rfl (by rw [e_17]; rfl) (by decide) rfl (fun ls hl => ?_)
    refine lv_goto (tgt := 33) hx hb dX12_swearsAll_69 (by decide) ?_
    exact hk33 σ_14 x1 x2 x3 x4 y_16 H locs ls h I (lv_sub hl [1, 2, 3, 4, 5, 0] rfl)
set_option maxRecDepth 100000 in
theorem kM_swearsAll_33L {p : Program} {l : Launch} {e : Env} {s : State} {m : MethodId} {args : Array Value} {below : List Frame} {meth : Method} {c : Code} {D : va_G} {cy : Nat → ClassId} {a : Nat → Nat} (X : cx_ cX12_swearsAll RX12 wsX12_swearsAll 6 none 16 a D cy xfM p s m args meth c) {k2 : Sg → Int32 → Int32 → Option (Unit × Sg)}  {σ' : Sg} (hk2 : ∀ (σ : Sg) (x1 : Int32) (x2 : Int32) (H : Heap) (locs : List Loc) (ls : Array Slot), k2 σ x1 x2 = some ((), σ') → iv_ 16 a D (shM cy a σ) s H locs → lv_has ls 6 [(0, .ref (a 0)), (1, .int x1), (2, .int x2)] → W p l e ({ frames := 6, cells := 0, slots := 0, locals := 134 }) s m args below meth c H locs 0 0 (MQ below (qg_ 16 a D (shM cy a σ') none s.heap.size) args s 0 0 (fr_ 16 a s.heap.size)) (F0 m 2 ls [])) : ∀ (n : Nat), ∀ (σ : Sg) (x1 : Int32) (x2 : Int32) (x3 : Int32) (x4 : Int32) (x5 : Int32) (H : Heap) (locs : List Loc) (ls : Array Slot), lp_ (M_swearsAll_33 k2) (fun _ _ _ _ _ _ => none) n σ x1 x2 x3 x4 x5 = some ((), σ') → iv_ 16 a D (shM cy a σ) s H locs → lv_has ls 6 [(0, .ref (a 0)), (1, .int x1), (2, .int x2), (3, .int x3), (4, .int x4), (5, .int x5)] → W p l e ({ frames := 6, cells := 0, slots := 0, locals := 134 }) s m args below meth c H locs 0 0 (MQ below (qg_ 16 a D (shM cy a σ') none s.heap.size) args s 0 0 (fr_ 16 a s.heap.size)) (F0 m 33 ls []) := by
  intro n
  induction n with
  | zero =>
    intro _ _ _ _ _ _ _ _ _ h
    exact absurd h (fun q => by cases (show (none : Option _) = some _ from q))
  | succ n ih => exact kM_swearsAll_33 X hk2 ih

def M_swearsAll_2 (k2 : Sg → Int32 → Int32 → Option (Unit × Sg)) (σ : Sg) (x1 : Int32) (x2 : Int32) : Option (Unit × Sg) :=
  if (rd_ σ 1 0) ≤ x2 then (some ((), σ))
  else (lt_ ((((16 : Int32) + ((6 : Int32) * x2)) + (5 : Int32))) fun y_2 =>
  gd_ (in_ y_2 64) (
  lt_ ((rd_ σ 1 y_2.toNatClampNeg)) fun y_5 =>
  lp_ (M_swearsAll_33 k2) (fun _ _ _ _ _ _ => none) FU σ x1 x2 y_2 y_5 (0 : Int32)))
set_option maxRecDepth 100000 in
theorem kM_swearsAll_2 {p : Program} {l : Launch} {e : Env} {s : State} {m : MethodId} {args : Array Value} {below : List Frame} {meth : Method} {c : Code} {D : va_G} {cy : Nat → ClassId} {a : Nat → Nat} (X : cx_ cX12_swearsAll RX12 wsX12_swearsAll 6 none 16 a D cy xfM p s m args meth c) {k2 : Sg → Int32 → Int32 → Option (Unit × Sg)}  {σ' : Sg} (hk2 : ∀ (σ : Sg) (x1 : Int32) (x2 : Int32) (H : Heap) (locs : List Loc) (ls : Array Slot), k2 σ x1 x2 = some ((), σ') → iv_ 16 a D (shM cy a σ) s H locs → lv_has ls 6 [(0, .ref (a 0)), (1, .int x1), (2, .int x2)] → W p l e ({ frames := 6, cells := 0, slots := 0, locals := 134 }) s m args below meth c H locs 0 0 (MQ below (qg_ 16 a D (shM cy a σ') none s.heap.size) args s 0 0 (fr_ 16 a s.heap.size)) (F0 m 2 ls [])) : ∀ (σ : Sg) (x1 : Int32) (x2 : Int32) (H : Heap) (locs : List Loc) (ls : Array Slot), M_swearsAll_2 k2 σ x1 x2 = some ((), σ') → iv_ 16 a D (shM cy a σ) s H locs → lv_has ls 6 [(0, .ref (a 0)), (1, .int x1), (2, .int x2)] → W p l e ({ frames := 6, cells := 0, slots := 0, locals := 134 }) s m args below meth c H locs 0 0 (MQ below (qg_ 16 a D (shM cy a σ') none s.heap.size) args s 0 0 (fr_ 16 a s.heap.size)) (F0 m 2 ls []) := by
  obtain ⟨hx, hb, hr, hml, hown, hts, hlk, hK, hA, hXf⟩ := id X
  intro σ x1 x2 H locs ls h I hl
  unfold M_swearsAll_2 at h
  refine lv_iload_n hx hb dX12_swearsAll_2 rfl (lv_at hl 2 rfl) ?_
  refine lv_aload_n hx hb dX12_swearsAll_3 rfl (lv_at hl 0 rfl) ?_
  refine ig_ (index := 7) X I (fun _ q => List.mem_cons_of_mem _ (List.mem_append_right _ q)) 0 (by decide) shM_0 rfl 0 (by decide) (by decide +kernel) rfl (v := .ref (a 1)) rfl dX12_swearsAll_4 ?_
  refine lv_iconst (v := 0) hx hb dX12_swearsAll_7 (by decide) ?_
  refine ia_ X I 1 (by decide) shM_1 (in_of (by decide)) (v0 := rd_ σ 1 0) rfl dX12_swearsAll_8 ?_
  refine lv_icmp_ge (tgt := 86) hx hb dX12_swearsAll_9 (by decide) (fun c_1 => ?_) (fun c_1 => ?_)
  · have h := if_t h c_1
    obtain rfl := re_v h
    exact rtv_ X I dX12_swearsAll_86
  · have h := if_f h c_1
    refine lv_bipush (v := 16) hx hb dX12_swearsAll_12 (by decide) ?_
    refine lv_bipush (v := 6) hx hb dX12_swearsAll_14 (by decide) ?_
    refine lv_iload_n hx hb dX12_swearsAll_16 rfl (lv_at hl 2 rfl) ?_
    refine lv_imul hx hb dX12_swearsAll_17 ?_
    refine lv_iadd hx hb dX12_swearsAll_18 ?_
    refine lv_iconst (v := 5) hx hb dX12_swearsAll_19 (by decide) ?_
    refine lv_iadd hx hb dX12_swearsAll_20 ?_
    refine lv_topi (fun y_2 e_3 => ?_)
    have h := lt_at h e_3
    refine lv_istore_n (lv' := [(3, .int y_2), (0, .ref (a 0)), (1, .int x1), (2, .int x2)]) hx hb dX12_swearsAll_21 rfl hl (by decide) rfl (fun ls hl => ?_)
    refine lv_aload_n hx hb dX12_swearsAll_22 rfl (lv_at hl 1 rfl) ?_
    refine ig_ (index := 7) X I (fun _ q => List.mem_cons_of_mem _ (List.mem_append_right _ q)) 0 (by decide) shM_0 rfl 0 (by decide) (by decide +kernel) rfl (v := .ref (a 1)) rfl dX12_swearsAll_23 ?_
    refine lv_iload_n hx hb dX12_swearsAll_26 rfl (lv_at hl 0 rfl) ?_
    obtain ⟨g_4, h⟩ := gd_of h
    refine ia_ X I 1 (by decide) shM_1 (in_of g_4) (v0 := rd_ σ 1 y_2.toNatClampNeg) rfl dX12_swearsAll_27 ?_
    refine lv_topi (fun y_5 e_6 => ?_)
    have h := lt_at h e_6
    refine lv_istore (lv' := [(4, .int y_5), (3, .int y_2), (0, .ref (a 0)), (1, .int x1), (2, .int x2)]) hx hb dX12_swearsAll_28 hl (by decide) rfl (fun ls hl => ?_)
    refine lv_iconst (v := 0) hx hb dX12_swearsAll_30 (by decide) ?_
    refine lv_istore (lv' := [(5, .int (0 : Int32)), (4, .int y_5), (3, .int y_2), (0, .ref (a 0)), (1, .int x1), (2, .int x2)]) hx hb dX12_swearsAll_31 hl (by decide) rfl (fun ls hl => ?_)
    exact kM_swearsAll_33L X hk2 FU σ x1 x2 y_2 y_5 (0 : Int32) H locs ls h I (lv_sub hl [3, 4, 5, 2, 1, 0] rfl)
set_option maxRecDepth 100000 in
theorem kM_swearsAll_2L {p : Program} {l : Launch} {e : Env} {s : State} {m : MethodId} {args : Array Value} {below : List Frame} {meth : Method} {c : Code} {D : va_G} {cy : Nat → ClassId} {a : Nat → Nat} (X : cx_ cX12_swearsAll RX12 wsX12_swearsAll 6 none 16 a D cy xfM p s m args meth c)   {σ' : Sg}  : ∀ (n : Nat), ∀ (σ : Sg) (x1 : Int32) (x2 : Int32) (H : Heap) (locs : List Loc) (ls : Array Slot), lp_ (M_swearsAll_2) (fun _ _ _ => none) n σ x1 x2 = some ((), σ') → iv_ 16 a D (shM cy a σ) s H locs → lv_has ls 6 [(0, .ref (a 0)), (1, .int x1), (2, .int x2)] → W p l e ({ frames := 6, cells := 0, slots := 0, locals := 134 }) s m args below meth c H locs 0 0 (MQ below (qg_ 16 a D (shM cy a σ') none s.heap.size) args s 0 0 (fr_ 16 a s.heap.size)) (F0 m 2 ls []) := by
  intro n
  induction n with
  | zero =>
    intro _ _ _ _ _ _ h
    exact absurd h (fun q => by cases (show (none : Option _) = some _ from q))
  | succ n ih => exact kM_swearsAll_2 X ih

def M_swearsAll_0  (σ : Sg) (x1 : Int32) : Option (Unit × Sg) :=
  lp_ M_swearsAll_2 (fun _ _ _ => none) FU σ x1 (0 : Int32)
set_option maxRecDepth 100000 in
theorem kM_swearsAll_0 {p : Program} {l : Launch} {e : Env} {s : State} {m : MethodId} {args : Array Value} {below : List Frame} {meth : Method} {c : Code} {D : va_G} {cy : Nat → ClassId} {a : Nat → Nat} (X : cx_ cX12_swearsAll RX12 wsX12_swearsAll 6 none 16 a D cy xfM p s m args meth c)   {σ' : Sg}  : ∀ (σ : Sg) (x1 : Int32) (H : Heap) (locs : List Loc) (ls : Array Slot), M_swearsAll_0 σ x1 = some ((), σ') → iv_ 16 a D (shM cy a σ) s H locs → lv_has ls 6 [(0, .ref (a 0)), (1, .int x1)] → W p l e ({ frames := 6, cells := 0, slots := 0, locals := 134 }) s m args below meth c H locs 0 0 (MQ below (qg_ 16 a D (shM cy a σ') none s.heap.size) args s 0 0 (fr_ 16 a s.heap.size)) (F0 m 0 ls []) := by
  obtain ⟨hx, hb, hr, hml, hown, hts, hlk, hK, hA, hXf⟩ := id X
  intro σ x1 H locs ls h I hl
  unfold M_swearsAll_0 at h
  refine lv_iconst (v := 0) hx hb dX12_swearsAll_0 (by decide) ?_
  refine lv_istore_n (lv' := [(2, .int (0 : Int32)), (0, .ref (a 0)), (1, .int x1)]) hx hb dX12_swearsAll_1 rfl hl (by decide) rfl (fun ls hl => ?_)
  exact kM_swearsAll_2L X  FU σ x1 (0 : Int32) H locs ls h I (lv_sub hl [1, 2, 0] rfl)
theorem c_M_swearsAll {l : Launch} {D : va_G} {cy : Nat → ClassId} {a : Nat → Nat} {σ : Sg} {x1 : Int32}  {σ' : Sg} (h : M_swearsAll_0 σ x1 = some ((), σ')) (sz : Nat) : Met l yX12_swearsAll wsX12_swearsAll ({ frames := 6, cells := 0, slots := 0, locals := 134 }) (va_Pc [.ref (a 0), .int x1] (pr_ 16 a D cy (shM cy a σ) xfM sz)) (qg_ 16 a D (shM cy a σ') none sz) 0 0 (fr_ 16 a sz) := by
  refine ent_ (by decide) rfl (Nat.le_of_ble_eq_true rfl) ?_
  intro p e s m below meth c ls hsz X I hl
  subst hsz
  exact kM_swearsAll_0 X σ x1 s.heap [] ls h I hl

def M_size_4 (k4 : Int32 → Int32 → Option Int32) (x1 : Int32) (x2 : Int32) : Option Int32 :=
  if x2 = 0 then (some (x1))
  else (lt_ (x1 + (1 : Int32)) fun y_2 =>
  lt_ ((x2 &&& (x2 - (1 : Int32)))) fun y_4 =>
  k4 y_2 y_4)
set_option maxRecDepth 100000 in
theorem kM_size_4 {p : Program} {l : Launch} {e : Env} {s : State} {m : MethodId} {args : Array Value} {below : List Frame} {meth : Method} {c : Code} (X : px_ cX12_size RX12 wsX12_size 3 (some .int) p s m args meth c) {k4 : Int32 → Int32 → Option Int32} {r0 : Int32} (hk4 : ∀ (x1 : Int32) (x2 : Int32) (ls : Array Slot), k4 x1 x2 = some r0 → lv_has ls 3 [(1, .int x1), (2, .int x2)] → W p l e ({ frames := 0, cells := 0, slots := 0, locals := 0 }) s m args below meth c s.heap [] 0 0 (MQ below (qp_ (some (.int r0))) args s 0 0 (fun _ => False)) (F0 m 4 ls [])) : ∀ (x1 : Int32) (x2 : Int32) (ls : Array Slot), M_size_4 k4 x1 x2 = some r0 → lv_has ls 3 [(1, .int x1), (2, .int x2)] → W p l e ({ frames := 0, cells := 0, slots := 0, locals := 0 }) s m args below meth c s.heap [] 0 0 (MQ below (qp_ (some (.int r0))) args s 0 0 (fun _ => False)) (F0 m 4 ls []) := by
  obtain ⟨hx, hb, hr, hml, hown, hts, hlk⟩ := id X
  intro x1 x2 ls h hl
  unfold M_size_4 at h
  refine lv_iload_n hx hb dX12_size_4 rfl (lv_at hl 1 rfl) ?_
  refine lv_if_eq (tgt := 20) hx hb dX12_size_5 (by decide) (fun c_1 => ?_) (fun c_1 => ?_)
  · have h := if_t h c_1
    refine lv_iload_n hx hb dX12_size_20 rfl (lv_at hl 0 rfl) ?_
    obtain rfl := re_p h
    exact rpi_ X dX12_size_21
  · have h := if_f h c_1
    obtain ⟨y_2, e_3⟩ : ∃ q : Int32, q = x1 + (1 : Int32) := ⟨_, rfl⟩
    have h := lt_at h e_3
    refine lv_iinc (v := y_2) (lv' := [(1, .int y_2), (2, .int x2)]) hx hb dX12_size_8 hl (k := 0) rfl (by rw [e_3]; rfl) (by decide) rfl (fun ls hl => ?_)
    refine lv_iload_n hx hb dX12_size_11 rfl (lv_at hl 1 rfl) ?_
    refine lv_iload_n hx hb dX12_size_12 rfl (lv_at hl 1 rfl) ?_
    refine lv_iconst (v := 1) hx hb dX12_size_13 (by decide) ?_
    refine lv_isub hx hb dX12_size_14 ?_
    refine lv_iand hx hb dX12_size_15 ?_
    refine lv_topi (fun y_4 e_5 => ?_)
    have h := lt_at h e_5
    refine lv_istore_n (lv' := [(2, .int y_4), (1, .int y_2)]) hx hb dX12_size_16 rfl hl (by decide) rfl (fun ls hl => ?_)
    refine lv_goto (tgt := 4) hx hb dX12_size_17 (by decide) ?_
    exact hk4 y_2 y_4 ls h (lv_sub hl [1, 0] rfl)
set_option maxRecDepth 100000 in
theorem kM_size_4L {p : Program} {l : Launch} {e : Env} {s : State} {m : MethodId} {args : Array Value} {below : List Frame} {meth : Method} {c : Code} (X : px_ cX12_size RX12 wsX12_size 3 (some .int) p s m args meth c)  {r0 : Int32}  : ∀ (n : Nat), ∀ (x1 : Int32) (x2 : Int32) (ls : Array Slot), lp_ (M_size_4) (fun _ _ => none) n x1 x2 = some r0 → lv_has ls 3 [(1, .int x1), (2, .int x2)] → W p l e ({ frames := 0, cells := 0, slots := 0, locals := 0 }) s m args below meth c s.heap [] 0 0 (MQ below (qp_ (some (.int r0))) args s 0 0 (fun _ => False)) (F0 m 4 ls []) := by
  intro n
  induction n with
  | zero =>
    intro _ _ _ h
    exact absurd h (fun q => by cases (show (none : Option _) = some _ from q))
  | succ n ih => exact kM_size_4 X ih

def M_size_0  (x0 : Int32) : Option Int32 :=
  lp_ M_size_4 (fun _ _ => none) FU (0 : Int32) x0
set_option maxRecDepth 100000 in
theorem kM_size_0 {p : Program} {l : Launch} {e : Env} {s : State} {m : MethodId} {args : Array Value} {below : List Frame} {meth : Method} {c : Code} (X : px_ cX12_size RX12 wsX12_size 3 (some .int) p s m args meth c)  {r0 : Int32}  : ∀ (x0 : Int32) (ls : Array Slot), M_size_0 x0 = some r0 → lv_has ls 3 [(0, .int x0)] → W p l e ({ frames := 0, cells := 0, slots := 0, locals := 0 }) s m args below meth c s.heap [] 0 0 (MQ below (qp_ (some (.int r0))) args s 0 0 (fun _ => False)) (F0 m 0 ls []) := by
  obtain ⟨hx, hb, hr, hml, hown, hts, hlk⟩ := id X
  intro x0 ls h hl
  unfold M_size_0 at h
  refine lv_iconst (v := 0) hx hb dX12_size_0 (by decide) ?_
  refine lv_istore_n (lv' := [(1, .int (0 : Int32)), (0, .int x0)]) hx hb dX12_size_1 rfl hl (by decide) rfl (fun ls hl => ?_)
  refine lv_iload_n hx hb dX12_size_2 rfl (lv_at hl 1 rfl) ?_
  refine lv_istore_n (lv' := [(2, .int x0), (1, .int (0 : Int32)), (0, .int x0)]) hx hb dX12_size_3 rfl hl (by decide) rfl (fun ls hl => ?_)
  exact kM_size_4L X  FU (0 : Int32) x0 ls h (lv_sub hl [1, 0] rfl)
theorem c_M_size {l : Launch} {x0 : Int32} {r0 : Int32} (h : M_size_0 x0 = some r0) : Met l yX12_size wsX12_size ({ frames := 0, cells := 0, slots := 0, locals := 0 }) (pp_ [.int x0]) (qp_ (some (.int r0))) 0 0 (fun _ => False) := by
  refine enp_ (by decide) rfl (Nat.le_of_ble_eq_true rfl) ?_
  intro p e s m below meth c ls X hl
  exact kM_size_0 X x0 ls h hl

def M_best_125 (k20 : Sg → Int32 → Int32 → Option (Int32 × Sg)) (k53 : Sg → Int32 → Int32 → Int32 → Int32 → Option (Int32 × Sg)) (σ : Sg) (x2 : Int32) (x3 : Int32) (x4 : Int32) (x5 : Int32) : Option (Int32 × Sg) :=
  lt_ (x5 + (1 : Int32)) fun y_1 =>
  k53 σ x2 x3 x4 y_1
set_option maxRecDepth 100000 in
theorem kM_best_125 {p : Program} {l : Launch} {e : Env} {s : State} {m : MethodId} {args : Array Value} {below : List Frame} {meth : Method} {c : Code} {D : va_G} {cy : Nat → ClassId} {a : Nat → Nat} (X : cx_ cX12_best RX12 wsX12_best 6 (some .int) 16 a D cy xfM p s m args meth c) {k20 : Sg → Int32 → Int32 → Option (Int32 × Sg)} {k53 : Sg → Int32 → Int32 → Int32 → Int32 → Option (Int32 × Sg)} {r0 : Int32} {σ' : Sg} (hk20 : ∀ (σ : Sg) (x2 : Int32) (x3 : Int32) (H : Heap) (locs : List Loc) (ls : Array Slot), k20 σ x2 x3 = some (r0, σ') → iv_ 16 a D (shM cy a σ) s H locs → lv_has ls 6 [(0, .ref (a 0)), (2, .int x2), (3, .int x3)] → W p l e ({ frames := 7, cells := 0, slots := 0, locals := 159 }) s m args below meth c H locs 0 0 (MQ below (qg_ 16 a D (shM cy a σ') (some (.int r0)) s.heap.size) args s 0 0 (fr_ 16 a s.heap.size)) (F0 m 20 ls [])) (hk53 : ∀ (σ : Sg) (x2 : Int32) (x3 : Int32) (x4 : Int32) (x5 : Int32) (H : Heap) (locs : List Loc) (ls : Array Slot), k53 σ x2 x3 x4 x5 = some (r0, σ') → iv_ 16 a D (shM cy a σ) s H locs → lv_has ls 6 [(0, .ref (a 0)), (2, .int x2), (3, .int x3), (4, .int x4), (5, .int x5)] → W p l e ({ frames := 7, cells := 0, slots := 0, locals := 159 }) s m args below meth c H locs 0 0 (MQ below (qg_ 16 a D (shM cy a σ') (some (.int r0)) s.heap.size) args s 0 0 (fr_ 16 a s.heap.size)) (F0 m 53 ls [])) : ∀ (σ : Sg) (x2 : Int32) (x3 : Int32) (x4 : Int32) (x5 : Int32) (H : Heap) (locs : List Loc) (ls : Array Slot), M_best_125 k20 k53 σ x2 x3 x4 x5 = some (r0, σ') → iv_ 16 a D (shM cy a σ) s H locs → lv_has ls 6 [(0, .ref (a 0)), (2, .int x2), (3, .int x3), (4, .int x4), (5, .int x5)] → W p l e ({ frames := 7, cells := 0, slots := 0, locals := 159 }) s m args below meth c H locs 0 0 (MQ below (qg_ 16 a D (shM cy a σ') (some (.int r0)) s.heap.size) args s 0 0 (fr_ 16 a s.heap.size)) (F0 m 125 ls []) := by
  obtain ⟨hx, hb, hr, hml, hown, hts, hlk, hK, hA, hXf⟩ := id X
  intro σ x2 x3 x4 x5 H locs ls h I hl
  unfold M_best_125 at h
  obtain ⟨y_1, e_2⟩ : ∃ q : Int32, q = x5 + (1 : Int32) := ⟨_, rfl⟩
  have h := lt_at h e_2
  refine lv_iinc (v := y_1) (lv' := [(5, .int y_1), (0, .ref (a 0)), (2, .int x2), (3, .int x3), (4, .int x4)]) hx hb dX12_best_125 hl (k := 4) rfl (by rw [e_2]; rfl) (by decide) rfl (fun ls hl => ?_)
  refine lv_goto (tgt := 53) hx hb dX12_best_128 (by decide) ?_
  exact hk53 σ x2 x3 x4 y_1 H locs ls h I (lv_sub hl [1, 2, 3, 4, 0] rfl)
def M_best_156 (k20 : Sg → Int32 → Int32 → Option (Int32 × Sg)) (σ : Sg) (x3 : Int32) (t0 : Int32) : Option (Int32 × Sg) :=
  lt_ (x3 + (1 : Int32)) fun y_1 =>
  k20 σ t0 y_1
set_option maxRecDepth 100000 in
theorem kM_best_156 {p : Program} {l : Launch} {e : Env} {s : State} {m : MethodId} {args : Array Value} {below : List Frame} {meth : Method} {c : Code} {D : va_G} {cy : Nat → ClassId} {a : Nat → Nat} (X : cx_ cX12_best RX12 wsX12_best 6 (some .int) 16 a D cy xfM p s m args meth c) {k20 : Sg → Int32 → Int32 → Option (Int32 × Sg)} {r0 : Int32} {σ' : Sg} (hk20 : ∀ (σ : Sg) (x2 : Int32) (x3 : Int32) (H : Heap) (locs : List Loc) (ls : Array Slot), k20 σ x2 x3 = some (r0, σ') → iv_ 16 a D (shM cy a σ) s H locs → lv_has ls 6 [(0, .ref (a 0)), (2, .int x2), (3, .int x3)] → W p l e ({ frames := 7, cells := 0, slots := 0, locals := 159 }) s m args below meth c H locs 0 0 (MQ below (qg_ 16 a D (shM cy a σ') (some (.int r0)) s.heap.size) args s 0 0 (fr_ 16 a s.heap.size)) (F0 m 20 ls [])) : ∀ (σ : Sg) (x3 : Int32) (t0 : Int32) (H : Heap) (locs : List Loc) (ls : Array Slot), M_best_156 k20 σ x3 t0 = some (r0, σ') → iv_ 16 a D (shM cy a σ) s H locs → lv_has ls 6 [(0, .ref (a 0)), (3, .int x3)] → W p l e ({ frames := 7, cells := 0, slots := 0, locals := 159 }) s m args below meth c H locs 0 0 (MQ below (qg_ 16 a D (shM cy a σ') (some (.int r0)) s.heap.size) args s 0 0 (fr_ 16 a s.heap.size)) (F0 m 156 ls [.int t0]) := by
  obtain ⟨hx, hb, hr, hml, hown, hts, hlk, hK, hA, hXf⟩ := id X
  intro σ x3 t0 H locs ls h I hl
  unfold M_best_156 at h
  refine lv_istore_n (lv' := [(2, .int t0), (0, .ref (a 0)), (3, .int x3)]) hx hb dX12_best_156 rfl hl (by decide) rfl (fun ls hl => ?_)
  obtain ⟨y_1, e_2⟩ : ∃ q : Int32, q = x3 + (1 : Int32) := ⟨_, rfl⟩
  have h := lt_at h e_2
  refine lv_iinc (v := y_1) (lv' := [(3, .int y_1), (2, .int t0), (0, .ref (a 0))]) hx hb dX12_best_157 hl (k := 2) rfl (by rw [e_2]; rfl) (by decide) rfl (fun ls hl => ?_)
  refine lv_goto (tgt := 20) hx hb dX12_best_160 (by decide) ?_
  exact hk20 σ t0 y_1 H locs ls h I (lv_sub hl [2, 1, 0] rfl)
def M_best_131 (k20 : Sg → Int32 → Int32 → Option (Int32 × Sg)) (σ : Sg) (x2 : Int32) (x3 : Int32) (x4 : Int32) : Option (Int32 × Sg) :=
  if x4 = (rd_ σ 1 0) then (gd_ (in_ x3 256) (
  bp_ (M_least_0 x2 (rd_ σ 7 x3.toNatClampNeg)) fun r_4 =>
  M_best_156 k20 σ x3 r_4))
  else (M_best_156 k20 σ x3 x2)
set_option maxRecDepth 100000 in
theorem kM_best_131 {p : Program} {l : Launch} {e : Env} {s : State} {m : MethodId} {args : Array Value} {below : List Frame} {meth : Method} {c : Code} {D : va_G} {cy : Nat → ClassId} {a : Nat → Nat} (X : cx_ cX12_best RX12 wsX12_best 6 (some .int) 16 a D cy xfM p s m args meth c) {k20 : Sg → Int32 → Int32 → Option (Int32 × Sg)} {r0 : Int32} {σ' : Sg} (hk20 : ∀ (σ : Sg) (x2 : Int32) (x3 : Int32) (H : Heap) (locs : List Loc) (ls : Array Slot), k20 σ x2 x3 = some (r0, σ') → iv_ 16 a D (shM cy a σ) s H locs → lv_has ls 6 [(0, .ref (a 0)), (2, .int x2), (3, .int x3)] → W p l e ({ frames := 7, cells := 0, slots := 0, locals := 159 }) s m args below meth c H locs 0 0 (MQ below (qg_ 16 a D (shM cy a σ') (some (.int r0)) s.heap.size) args s 0 0 (fr_ 16 a s.heap.size)) (F0 m 20 ls [])) : ∀ (σ : Sg) (x2 : Int32) (x3 : Int32) (x4 : Int32) (H : Heap) (locs : List Loc) (ls : Array Slot), M_best_131 k20 σ x2 x3 x4 = some (r0, σ') → iv_ 16 a D (shM cy a σ) s H locs → lv_has ls 6 [(0, .ref (a 0)), (2, .int x2), (3, .int x3), (4, .int x4)] → W p l e ({ frames := 7, cells := 0, slots := 0, locals := 159 }) s m args below meth c H locs 0 0 (MQ below (qg_ 16 a D (shM cy a σ') (some (.int r0)) s.heap.size) args s 0 0 (fr_ 16 a s.heap.size)) (F0 m 131 ls []) := by
  obtain ⟨hx, hb, hr, hml, hown, hts, hlk, hK, hA, hXf⟩ := id X
  intro σ x2 x3 x4 H locs ls h I hl
  unfold M_best_131 at h
  refine lv_iload hx hb dX12_best_131 (lv_at hl 3 rfl) ?_
  refine lv_aload_n hx hb dX12_best_133 rfl (lv_at hl 0 rfl) ?_
  refine ig_ (index := 7) X I (fun _ q => List.mem_cons_of_mem _ (List.mem_append_right _ q)) 0 (by decide) shM_0 rfl 0 (by decide) (by decide +kernel) rfl (v := .ref (a 1)) rfl dX12_best_134 ?_
  refine lv_iconst (v := 0) hx hb dX12_best_137 (by decide) ?_
  refine ia_ X I 1 (by decide) shM_1 (in_of (by decide)) (v0 := rd_ σ 1 0) rfl dX12_best_138 ?_
  refine lv_icmp_ne (tgt := 155) hx hb dX12_best_139 (by decide) (fun c_1 => ?_) (fun c_1 => ?_)
  · have h := if_f h c_1
    refine lv_iload_n hx hb dX12_best_155 rfl (lv_at hl 1 rfl) ?_
    exact kM_best_156 X hk20 σ x3 x2 H locs ls h I (lv_sub hl [0, 2] rfl)
  · have h := if_t h c_1
    refine lv_iload_n hx hb dX12_best_142 rfl (lv_at hl 1 rfl) ?_
    refine lv_aload_n hx hb dX12_best_143 rfl (lv_at hl 0 rfl) ?_
    refine ig_ (index := 28) X I (fun _ q => List.mem_cons_of_mem _ (List.mem_append_right _ q)) 0 (by decide) shM_0 rfl 13 (by decide) (by decide +kernel) rfl (v := .ref (a 7)) rfl dX12_best_144 ?_
    refine lv_iload_n hx hb dX12_best_147 rfl (lv_at hl 2 rfl) ?_
    obtain ⟨g_2, h⟩ := gd_of h
    refine ia_ X I 7 (by decide) shM_7 (in_of g_2) (v0 := rd_ σ 7 x3.toNatClampNeg) rfl dX12_best_148 ?_
    obtain ⟨r_4, hc_3, h⟩ := bp_of h
    refine cp_ (rP_ (nn := 2) (As := [.int x2, .int (rd_ σ 7 x3.toNatClampNeg)]) (rest := []) ⟨hx, hb, hml, hown, hts⟩ (c_M_least hc_3) gX12_best_X12_least rfl ⟨rfl, rfl⟩ (by decide +kernel) ⟨Nat.le_of_ble_eq_true rfl, Nat.le_of_ble_eq_true rfl⟩ rfl hl.1 rfl (Nat.le_of_ble_eq_true rfl) dX12_best_149 ⟨Nat.zero_le _, Nat.zero_le _⟩) ?_
    refine lv_goto (tgt := 156) hx hb dX12_best_152 (by decide) ?_
    exact kM_best_156 X hk20 σ x3 r_4 H locs ls h I (lv_sub hl [0, 2] rfl)
def M_best_53 (k20 : Sg → Int32 → Int32 → Option (Int32 × Sg)) (k53 : Sg → Int32 → Int32 → Int32 → Int32 → Option (Int32 × Sg)) (σ : Sg) (x2 : Int32) (x3 : Int32) (x4 : Int32) (x5 : Int32) : Option (Int32 × Sg) :=
  if (8 : Int32) ≤ x5 then (M_best_131 k20 σ x2 x3 x4)
  else (if (rd_ σ 1 0) < x4 then (M_best_131 k20 σ x2 x3 x4)
  else (if ((x3 >>> (x5 &&& 31)) &&& (1 : Int32)) = (1 : Int32) then (gd_ (in_ x3 256) (
  lt_ ((x3 &&& (((1 : Int32) <<< (x5 &&& 31)) ^^^ (-1 : Int32)))) fun y_5 =>
  gd_ (in_ y_5 256) (
  lt_ ((((8 : Int32) * (x4 - (1 : Int32))) + x5)) fun y_8 =>
  gd_ (in_ y_8 64) (
  bp_ (M_least_0 (rd_ σ 7 x3.toNatClampNeg) ((rd_ σ 7 y_5.toNatClampNeg) + (rd_ σ 6 y_8.toNatClampNeg))) fun r_12 =>
  gd_ (in_ x3 256) (
  lt_ (wr_ σ 7 x3.toNatClampNeg r_12) fun σ_14 =>
  M_best_125 k20 k53 σ_14 x2 x3 x4 x5)))))
  else (M_best_125 k20 k53 σ x2 x3 x4 x5)))
set_option maxRecDepth 100000 in
theorem kM_best_53 {p : Program} {l : Launch} {e : Env} {s : State} {m : MethodId} {args : Array Value} {below : List Frame} {meth : Method} {c : Code} {D : va_G} {cy : Nat → ClassId} {a : Nat → Nat} (X : cx_ cX12_best RX12 wsX12_best 6 (some .int) 16 a D cy xfM p s m args meth c) {k20 : Sg → Int32 → Int32 → Option (Int32 × Sg)} {k53 : Sg → Int32 → Int32 → Int32 → Int32 → Option (Int32 × Sg)} {r0 : Int32} {σ' : Sg} (hk20 : ∀ (σ : Sg) (x2 : Int32) (x3 : Int32) (H : Heap) (locs : List Loc) (ls : Array Slot), k20 σ x2 x3 = some (r0, σ') → iv_ 16 a D (shM cy a σ) s H locs → lv_has ls 6 [(0, .ref (a 0)), (2, .int x2), (3, .int x3)] → W p l e ({ frames := 7, cells := 0, slots := 0, locals := 159 }) s m args below meth c H locs 0 0 (MQ below (qg_ 16 a D (shM cy a σ') (some (.int r0)) s.heap.size) args s 0 0 (fr_ 16 a s.heap.size)) (F0 m 20 ls [])) (hk53 : ∀ (σ : Sg) (x2 : Int32) (x3 : Int32) (x4 : Int32) (x5 : Int32) (H : Heap) (locs : List Loc) (ls : Array Slot), k53 σ x2 x3 x4 x5 = some (r0, σ') → iv_ 16 a D (shM cy a σ) s H locs → lv_has ls 6 [(0, .ref (a 0)), (2, .int x2), (3, .int x3), (4, .int x4), (5, .int x5)] → W p l e ({ frames := 7, cells := 0, slots := 0, locals := 159 }) s m args below meth c H locs 0 0 (MQ below (qg_ 16 a D (shM cy a σ') (some (.int r0)) s.heap.size) args s 0 0 (fr_ 16 a s.heap.size)) (F0 m 53 ls [])) : ∀ (σ : Sg) (x2 : Int32) (x3 : Int32) (x4 : Int32) (x5 : Int32) (H : Heap) (locs : List Loc) (ls : Array Slot), M_best_53 k20 k53 σ x2 x3 x4 x5 = some (r0, σ') → iv_ 16 a D (shM cy a σ) s H locs → lv_has ls 6 [(0, .ref (a 0)), (2, .int x2), (3, .int x3), (4, .int x4), (5, .int x5)] → W p l e ({ frames := 7, cells := 0, slots := 0, locals := 159 }) s m args below meth c H locs 0 0 (MQ below (qg_ 16 a D (shM cy a σ') (some (.int r0)) s.heap.size) args s 0 0 (fr_ 16 a s.heap.size)) (F0 m 53 ls []) := by
  obtain ⟨hx, hb, hr, hml, hown, hts, hlk, hK, hA, hXf⟩ := id X
  intro σ x2 x3 x4 x5 H locs ls h I hl
  unfold M_best_53 at h
  refine lv_iload hx hb dX12_best_53 (lv_at hl 4 rfl) ?_
  refine lv_bipush (v := 8) hx hb dX12_best_55 (by decide) ?_
  refine lv_icmp_ge (tgt := 131) hx hb dX12_best_57 (by decide) (fun c_1 => ?_) (fun c_1 => ?_)
  · have h := if_t h c_1
    exact kM_best_131 X hk20 σ x2 x3 x4 H locs ls h I (lv_sub hl [0, 1, 2, 3] rfl)
  · have h := if_f h c_1
    refine lv_iload hx hb dX12_best_60 (lv_at hl 3 rfl) ?_
    refine lv_aload_n hx hb dX12_best_62 rfl (lv_at hl 0 rfl) ?_
    refine ig_ (index := 7) X I (fun _ q => List.mem_cons_of_mem _ (List.mem_append_right _ q)) 0 (by decide) shM_0 rfl 0 (by decide) (by decide +kernel) rfl (v := .ref (a 1)) rfl dX12_best_63 ?_
    refine lv_iconst (v := 0) hx hb dX12_best_66 (by decide) ?_
    refine ia_ X I 1 (by decide) shM_1 (in_of (by decide)) (v0 := rd_ σ 1 0) rfl dX12_best_67 ?_
    refine lv_icmp_gt (tgt := 131) hx hb dX12_best_68 (by decide) (fun c_2 => ?_) (fun c_2 => ?_)
    · have h := if_t h c_2
      exact kM_best_131 X hk20 σ x2 x3 x4 H locs ls h I (lv_sub hl [0, 1, 2, 3] rfl)
    · have h := if_f h c_2
      refine lv_iload_n hx hb dX12_best_71 rfl (lv_at hl 2 rfl) ?_
      refine lv_iload hx hb dX12_best_72 (lv_at hl 4 rfl) ?_
      refine lv_ishr hx hb dX12_best_74 ?_
      refine lv_iconst (v := 1) hx hb dX12_best_75 (by decide) ?_
      refine lv_iand hx hb dX12_best_76 ?_
      refine lv_iconst (v := 1) hx hb dX12_best_77 (by decide) ?_
      refine lv_icmp_ne (tgt := 125) hx hb dX12_best_78 (by decide) (fun c_3 => ?_) (fun c_3 => ?_)
      · have h := if_f h c_3
        exact kM_best_125 X hk20 hk53 σ x2 x3 x4 x5 H locs ls h I (lv_sub hl [0, 1, 2, 3, 4] rfl)
      · have h := if_t h c_3
        refine lv_aload_n hx hb dX12_best_81 rfl (lv_at hl 0 rfl) ?_
        refine ig_ (index := 28) X I (fun _ q => List.mem_cons_of_mem _ (List.mem_append_right _ q)) 0 (by decide) shM_0 rfl 13 (by decide) (by decide +kernel) rfl (v := .ref (a 7)) rfl dX12_best_82 ?_
        refine lv_iload_n hx hb dX12_best_85 rfl (lv_at hl 2 rfl) ?_
        refine lv_aload_n hx hb dX12_best_86 rfl (lv_at hl 0 rfl) ?_
        refine ig_ (index := 28) X I (fun _ q => List.mem_cons_of_mem _ (List.mem_append_right _ q)) 0 (by decide) shM_0 rfl 13 (by decide) (by decide +kernel) rfl (v := .ref (a 7)) rfl dX12_best_87 ?_
        refine lv_iload_n hx hb dX12_best_90 rfl (lv_at hl 2 rfl) ?_
        obtain ⟨g_4, h⟩ := gd_of h
        refine ia_ X I 7 (by decide) shM_7 (in_of g_4) (v0 := rd_ σ 7 x3.toNatClampNeg) rfl dX12_best_91 ?_
        refine lv_aload_n hx hb dX12_best_92 rfl (lv_at hl 0 rfl) ?_
        refine ig_ (index := 28) X I (fun _ q => List.mem_cons_of_mem _ (List.mem_append_right _ q)) 0 (by decide) shM_0 rfl 13 (by decide) (by decide +kernel) rfl (v := .ref (a 7)) rfl dX12_best_93 ?_
        refine lv_iload_n hx hb dX12_best_96 rfl (lv_at hl 2 rfl) ?_
        refine lv_iconst (v := 1) hx hb dX12_best_97 (by decide) ?_
        refine lv_iload hx hb dX12_best_98 (lv_at hl 4 rfl) ?_
        refine lv_ishl hx hb dX12_best_100 ?_
        refine lv_iconst (v := (-1)) hx hb dX12_best_101 (by decide) ?_
        refine lv_ixor hx hb dX12_best_102 ?_
        refine lv_iand hx hb dX12_best_103 ?_
        refine lv_topi (fun y_5 e_6 => ?_)
        have h := lt_at h e_6
        obtain ⟨g_7, h⟩ := gd_of h
        refine ia_ X I 7 (by decide) shM_7 (in_of g_7) (v0 := rd_ σ 7 y_5.toNatClampNeg) rfl dX12_best_104 ?_
        refine lv_aload_n hx hb dX12_best_105 rfl (lv_at hl 0 rfl) ?_
        refine ig_ (index := 25) X I (fun _ q => List.mem_cons_of_mem _ (List.mem_append_right _ q)) 0 (by decide) shM_0 rfl 12 (by decide) (by decide +kernel) rfl (v := .ref (a 6)) rfl dX12_best_106 ?_
        refine lv_bipush (v := 8) hx hb dX12_best_109 (by decide) ?_
        refine lv_iload hx hb dX12_best_111 (lv_at hl 3 rfl) ?_
        refine lv_iconst (v := 1) hx hb dX12_best_113 (by decide) ?_
        refine lv_isub hx hb dX12_best_114 ?_
        refine lv_imul hx hb dX12_best_115 ?_
        refine lv_iload hx hb dX12_best_116 (lv_at hl 4 rfl) ?_
        refine lv_iadd hx hb dX12_best_118 ?_
        refine lv_topi (fun y_8 e_9 => ?_)
        have h := lt_at h e_9
        obtain ⟨g_10, h⟩ := gd_of h
        refine ia_ X I 6 (by decide) shM_6 (in_of g_10) (v0 := rd_ σ 6 y_8.toNatClampNeg) rfl dX12_best_119 ?_
        refine lv_iadd hx hb dX12_best_120 ?_
        obtain ⟨r_12, hc_11, h⟩ := bp_of h
        refine cp_ (rP_ (nn := 2) (As := [.int (rd_ σ 7 x3.toNatClampNeg), .int ((rd_ σ 7 y_5.toNatClampNeg) + (rd_ σ 6 y_8.toNatClampNeg))]) (rest := [.int x3, .ref (a 7)]) ⟨hx, hb, hml, hown, hts⟩ (c_M_least hc_11) gX12_best_X12_least rfl ⟨rfl, rfl⟩ (by decide +kernel) ⟨Nat.le_of_ble_eq_true rfl, Nat.le_of_ble_eq_true rfl⟩ rfl hl.1 rfl (Nat.le_of_ble_eq_true rfl) dX12_best_121 ⟨Nat.zero_le _, Nat.zero_le _⟩) ?_
        obtain ⟨g_13, h⟩ := gd_of h
        refine is_ (σ2 := wr_ σ 7 x3.toNatClampNeg r_12) X I 7 (by decide) shM_7 (in_of g_13) shM_st_7 dX12_best_124 (fun σ_14 H locs e_15 I => ?_)
        have h := lt_at h e_15
        exact kM_best_125 X hk20 hk53 σ_14 x2 x3 x4 x5 H locs ls h I (lv_sub hl [0, 1, 2, 3, 4] rfl)
set_option maxRecDepth 100000 in
theorem kM_best_53L {p : Program} {l : Launch} {e : Env} {s : State} {m : MethodId} {args : Array Value} {below : List Frame} {meth : Method} {c : Code} {D : va_G} {cy : Nat → ClassId} {a : Nat → Nat} (X : cx_ cX12_best RX12 wsX12_best 6 (some .int) 16 a D cy xfM p s m args meth c) {k20 : Sg → Int32 → Int32 → Option (Int32 × Sg)} {r0 : Int32} {σ' : Sg} (hk20 : ∀ (σ : Sg) (x2 : Int32) (x3 : Int32) (H : Heap) (locs : List Loc) (ls : Array Slot), k20 σ x2 x3 = some (r0, σ') → iv_ 16 a D (shM cy a σ) s H locs → lv_has ls 6 [(0, .ref (a 0)), (2, .int x2), (3, .int x3)] → W p l e ({ frames := 7, cells := 0, slots := 0, locals := 159 }) s m args below meth c H locs 0 0 (MQ below (qg_ 16 a D (shM cy a σ') (some (.int r0)) s.heap.size) args s 0 0 (fr_ 16 a s.heap.size)) (F0 m 20 ls [])) : ∀ (n : Nat), ∀ (σ : Sg) (x2 : Int32) (x3 : Int32) (x4 : Int32) (x5 : Int32) (H : Heap) (locs : List Loc) (ls : Array Slot), lp_ (M_best_53 k20) (fun _ _ _ _ _ => none) n σ x2 x3 x4 x5 = some (r0, σ') → iv_ 16 a D (shM cy a σ) s H locs → lv_has ls 6 [(0, .ref (a 0)), (2, .int x2), (3, .int x3), (4, .int x4), (5, .int x5)] → W p l e ({ frames := 7, cells := 0, slots := 0, locals := 159 }) s m args below meth c H locs 0 0 (MQ below (qg_ 16 a D (shM cy a σ') (some (.int r0)) s.heap.size) args s 0 0 (fr_ 16 a s.heap.size)) (F0 m 53 ls []) := by
  intro n
  induction n with
  | zero =>
    intro _ _ _ _ _ _ _ _ h
    exact absurd h (fun q => by cases (show (none : Option _) = some _ from q))
  | succ n ih => exact kM_best_53 X hk20 ih

def M_best_49 (k20 : Sg → Int32 → Int32 → Option (Int32 × Sg)) (σ : Sg) (x2 : Int32) (x3 : Int32) (x4 : Int32) (t2 : Int32) (t1 : Int32) : Option (Int32 × Sg) :=
  gd_ (in_ t1 256) (
  lt_ (wr_ σ 7 t1.toNatClampNeg t2) fun σ_2 =>
  lp_ (M_best_53 k20) (fun _ _ _ _ _ => none) FU σ_2 x2 x3 x4 (0 : Int32))
set_option maxRecDepth 100000 in
theorem kM_best_49 {p : Program} {l : Launch} {e : Env} {s : State} {m : MethodId} {args : Array Value} {below : List Frame} {meth : Method} {c : Code} {D : va_G} {cy : Nat → ClassId} {a : Nat → Nat} (X : cx_ cX12_best RX12 wsX12_best 6 (some .int) 16 a D cy xfM p s m args meth c) {k20 : Sg → Int32 → Int32 → Option (Int32 × Sg)} {r0 : Int32} {σ' : Sg} (hk20 : ∀ (σ : Sg) (x2 : Int32) (x3 : Int32) (H : Heap) (locs : List Loc) (ls : Array Slot), k20 σ x2 x3 = some (r0, σ') → iv_ 16 a D (shM cy a σ) s H locs → lv_has ls 6 [(0, .ref (a 0)), (2, .int x2), (3, .int x3)] → W p l e ({ frames := 7, cells := 0, slots := 0, locals := 159 }) s m args below meth c H locs 0 0 (MQ below (qg_ 16 a D (shM cy a σ') (some (.int r0)) s.heap.size) args s 0 0 (fr_ 16 a s.heap.size)) (F0 m 20 ls [])) : ∀ (σ : Sg) (x2 : Int32) (x3 : Int32) (x4 : Int32) (t2 : Int32) (t1 : Int32) (H : Heap) (locs : List Loc) (ls : Array Slot), M_best_49 k20 σ x2 x3 x4 t2 t1 = some (r0, σ') → iv_ 16 a D (shM cy a σ) s H locs → lv_has ls 6 [(0, .ref (a 0)), (2, .int x2), (3, .int x3), (4, .int x4)] → W p l e ({ frames := 7, cells := 0, slots := 0, locals := 159 }) s m args below meth c H locs 0 0 (MQ below (qg_ 16 a D (shM cy a σ') (some (.int r0)) s.heap.size) args s 0 0 (fr_ 16 a s.heap.size)) (F0 m 49 ls [.int t2, .int t1, .ref (a 7)]) := by
  obtain ⟨hx, hb, hr, hml, hown, hts, hlk, hK, hA, hXf⟩ := id X
  intro σ x2 x3 x4 t2 t1 H locs ls h I hl
  unfold M_best_49 at h
  obtain ⟨g_1, h⟩ := gd_of h
  refine is_ (σ2 := wr_ σ 7 t1.toNatClampNeg t2) X I 7 (by decide) shM_7 (in_of g_1) shM_st_7 dX12_best_49 (fun σ_2 H locs e_3 I => ?_)
  have h := lt_at h e_3
  refine lv_iconst (v := 0) hx hb dX12_best_50 (by decide) ?_
  refine lv_istore (lv' := [(5, .int (0 : Int32)), (0, .ref (a 0)), (2, .int x2), (3, .int x3), (4, .int x4)]) hx hb dX12_best_51 hl (by decide) rfl (fun ls hl => ?_)
  exact kM_best_53L X hk20 FU σ_2 x2 x3 x4 (0 : Int32) H locs ls h I (lv_sub hl [1, 2, 3, 4, 0] rfl)
def M_best_20 (k20 : Sg → Int32 → Int32 → Option (Int32 × Sg)) (σ : Sg) (x2 : Int32) (x3 : Int32) : Option (Int32 × Sg) :=
  if (256 : Int32) ≤ x3 then (some (x2, σ))
  else (bp_ (M_size_0 x3) fun r_3 =>
  if x3 = 0 then (M_best_49 k20 σ x2 x3 r_3 (0 : Int32) x3)
  else (M_best_49 k20 σ x2 x3 r_3 (100000 : Int32) x3))
set_option maxRecDepth 100000 in
theorem kM_best_20 {p : Program} {l : Launch} {e : Env} {s : State} {m : MethodId} {args : Array Value} {below : List Frame} {meth : Method} {c : Code} {D : va_G} {cy : Nat → ClassId} {a : Nat → Nat} (X : cx_ cX12_best RX12 wsX12_best 6 (some .int) 16 a D cy xfM p s m args meth c) {k20 : Sg → Int32 → Int32 → Option (Int32 × Sg)} {r0 : Int32} {σ' : Sg} (hk20 : ∀ (σ : Sg) (x2 : Int32) (x3 : Int32) (H : Heap) (locs : List Loc) (ls : Array Slot), k20 σ x2 x3 = some (r0, σ') → iv_ 16 a D (shM cy a σ) s H locs → lv_has ls 6 [(0, .ref (a 0)), (2, .int x2), (3, .int x3)] → W p l e ({ frames := 7, cells := 0, slots := 0, locals := 159 }) s m args below meth c H locs 0 0 (MQ below (qg_ 16 a D (shM cy a σ') (some (.int r0)) s.heap.size) args s 0 0 (fr_ 16 a s.heap.size)) (F0 m 20 ls [])) : ∀ (σ : Sg) (x2 : Int32) (x3 : Int32) (H : Heap) (locs : List Loc) (ls : Array Slot), M_best_20 k20 σ x2 x3 = some (r0, σ') → iv_ 16 a D (shM cy a σ) s H locs → lv_has ls 6 [(0, .ref (a 0)), (2, .int x2), (3, .int x3)] → W p l e ({ frames := 7, cells := 0, slots := 0, locals := 159 }) s m args below meth c H locs 0 0 (MQ below (qg_ 16 a D (shM cy a σ') (some (.int r0)) s.heap.size) args s 0 0 (fr_ 16 a s.heap.size)) (F0 m 20 ls []) := by
  obtain ⟨hx, hb, hr, hml, hown, hts, hlk, hK, hA, hXf⟩ := id X
  intro σ x2 x3 H locs ls h I hl
  unfold M_best_20 at h
  refine lv_iload_n hx hb dX12_best_20 rfl (lv_at hl 2 rfl) ?_
  refine lv_sipush (v := 256) hx hb dX12_best_21 (by decide) ?_
  refine lv_icmp_ge (tgt := 163) hx hb dX12_best_24 (by decide) (fun c_1 => ?_) (fun c_1 => ?_)
  · have h := if_t h c_1
    refine lv_iload_n hx hb dX12_best_163 rfl (lv_at hl 1 rfl) ?_
    obtain ⟨rfl, rfl⟩ := re_s h
    exact rti_ X I dX12_best_164
  · have h := if_f h c_1
    refine lv_iload_n hx hb dX12_best_27 rfl (lv_at hl 2 rfl) ?_
    obtain ⟨r_3, hc_2, h⟩ := bp_of h
    refine cp_ (rP_ (nn := 1) (As := [.int x3]) (rest := []) ⟨hx, hb, hml, hown, hts⟩ (c_M_size hc_2) gX12_best_X12_size rfl ⟨rfl, rfl⟩ (by decide +kernel) ⟨Nat.le_of_ble_eq_true rfl, Nat.le_of_ble_eq_true rfl⟩ rfl hl.1 rfl (Nat.le_of_ble_eq_true rfl) dX12_best_28 ⟨Nat.zero_le _, Nat.zero_le _⟩) ?_
    refine lv_istore (lv' := [(4, .int r_3), (0, .ref (a 0)), (2, .int x2), (3, .int x3)]) hx hb dX12_best_31 hl (by decide) rfl (fun ls hl => ?_)
    refine lv_aload_n hx hb dX12_best_33 rfl (lv_at hl 1 rfl) ?_
    refine ig_ (index := 28) X I (fun _ q => List.mem_cons_of_mem _ (List.mem_append_right _ q)) 0 (by decide) shM_0 rfl 13 (by decide) (by decide +kernel) rfl (v := .ref (a 7)) rfl dX12_best_34 ?_
    refine lv_iload_n hx hb dX12_best_37 rfl (lv_at hl 3 rfl) ?_
    refine lv_iload_n hx hb dX12_best_38 rfl (lv_at hl 3 rfl) ?_
    refine lv_if_ne (tgt := 46) hx hb dX12_best_39 (by decide) (fun c_4 => ?_) (fun c_4 => ?_)
    · have h := if_f h c_4
      refine lv_ldcw (v := 100000) hx hb hown (hts (.constant RX12 256 (100000)) (by decide +kernel)) dX12_best_46 ?_
      exact kM_best_49 X hk20 σ x2 x3 r_3 (100000 : Int32) x3 H locs ls h I (lv_sub hl [1, 2, 3, 0] rfl)
    · have h := if_t h c_4
      refine lv_iconst (v := 0) hx hb dX12_best_42 (by decide) ?_
      refine lv_goto (tgt := 49) hx hb dX12_best_43 (by decide) ?_
      exact kM_best_49 X hk20 σ x2 x3 r_3 (0 : Int32) x3 H locs ls h I (lv_sub hl [1, 2, 3, 0] rfl)
set_option maxRecDepth 100000 in
theorem kM_best_20L {p : Program} {l : Launch} {e : Env} {s : State} {m : MethodId} {args : Array Value} {below : List Frame} {meth : Method} {c : Code} {D : va_G} {cy : Nat → ClassId} {a : Nat → Nat} (X : cx_ cX12_best RX12 wsX12_best 6 (some .int) 16 a D cy xfM p s m args meth c)  {r0 : Int32} {σ' : Sg}  : ∀ (n : Nat), ∀ (σ : Sg) (x2 : Int32) (x3 : Int32) (H : Heap) (locs : List Loc) (ls : Array Slot), lp_ (M_best_20) (fun _ _ _ => none) n σ x2 x3 = some (r0, σ') → iv_ 16 a D (shM cy a σ) s H locs → lv_has ls 6 [(0, .ref (a 0)), (2, .int x2), (3, .int x3)] → W p l e ({ frames := 7, cells := 0, slots := 0, locals := 159 }) s m args below meth c H locs 0 0 (MQ below (qg_ 16 a D (shM cy a σ') (some (.int r0)) s.heap.size) args s 0 0 (fr_ 16 a s.heap.size)) (F0 m 20 ls []) := by
  intro n
  induction n with
  | zero =>
    intro _ _ _ _ _ _ h
    exact absurd h (fun q => by cases (show (none : Option _) = some _ from q))
  | succ n ih => exact kM_best_20 X ih

def M_best_0  (σ : Sg) (x1 : Int32) : Option (Int32 × Sg) :=
  bp_ (M_isShort_0 x1) fun r_2 =>
  if r_2 = 0 then (some ((-1 : Int32), σ))
  else (bi_ (M_swearsAll_0 σ x1) fun _ σ_5 =>
  lp_ M_best_20 (fun _ _ _ => none) FU σ_5 (100000 : Int32) (0 : Int32))
set_option maxRecDepth 100000 in
theorem kM_best_0 {p : Program} {l : Launch} {e : Env} {s : State} {m : MethodId} {args : Array Value} {below : List Frame} {meth : Method} {c : Code} {D : va_G} {cy : Nat → ClassId} {a : Nat → Nat} (X : cx_ cX12_best RX12 wsX12_best 6 (some .int) 16 a D cy xfM p s m args meth c)  {r0 : Int32} {σ' : Sg}  : ∀ (σ : Sg) (x1 : Int32) (H : Heap) (locs : List Loc) (ls : Array Slot), M_best_0 σ x1 = some (r0, σ') → iv_ 16 a D (shM cy a σ) s H locs → lv_has ls 6 [(0, .ref (a 0)), (1, .int x1)] → W p l e ({ frames := 7, cells := 0, slots := 0, locals := 159 }) s m args below meth c H locs 0 0 (MQ below (qg_ 16 a D (shM cy a σ') (some (.int r0)) s.heap.size) args s 0 0 (fr_ 16 a s.heap.size)) (F0 m 0 ls []) := by
  obtain ⟨hx, hb, hr, hml, hown, hts, hlk, hK, hA, hXf⟩ := id X
  intro σ x1 H locs ls h I hl
  unfold M_best_0 at h
  refine lv_iload_n hx hb dX12_best_0 rfl (lv_at hl 1 rfl) ?_
  obtain ⟨r_2, hc_1, h⟩ := bp_of h
  refine cp_ (rP_ (nn := 1) (As := [.int x1]) (rest := []) ⟨hx, hb, hml, hown, hts⟩ (c_M_isShort hc_1) gX12_best_X12_isShort rfl ⟨rfl, rfl⟩ (by decide +kernel) ⟨Nat.le_of_ble_eq_true rfl, Nat.le_of_ble_eq_true rfl⟩ rfl hl.1 rfl (Nat.le_of_ble_eq_true rfl) dX12_best_1 ⟨Nat.zero_le _, Nat.zero_le _⟩) ?_
  refine lv_if_ne (tgt := 9) hx hb dX12_best_4 (by decide) (fun c_3 => ?_) (fun c_3 => ?_)
  · have h := if_f h c_3
    refine lv_aload_n hx hb dX12_best_9 rfl (lv_at hl 0 rfl) ?_
    refine lv_iload_n hx hb dX12_best_10 rfl (lv_at hl 1 rfl) ?_
    obtain ⟨_, σ_5, hc_4, h⟩ := bi_of h
    refine cv_ (rV_ (nn := 1) (As := [.int x1]) (rest := []) X xkM I (c_M_swearsAll hc_4 H.size) gX12_best_X12_swearsAll rfl ⟨rfl, rfl⟩ (by decide +kernel) ⟨Nat.le_of_ble_eq_true rfl, Nat.le_of_ble_eq_true rfl⟩ (by decide) shM_0 rfl rfl hl.1 rfl (Nat.le_of_ble_eq_true rfl) dX12_best_11) I (fun H locs I => ?_)
    refine lv_ldcw (v := 100000) hx hb hown (hts (.constant RX12 256 (100000)) (by decide +kernel)) dX12_best_14 ?_
    refine lv_istore_n (lv' := [(2, .int (100000 : Int32)), (0, .ref (a 0)), (1, .int x1)]) hx hb dX12_best_17 rfl hl (by decide) rfl (fun ls hl => ?_)
    refine lv_iconst (v := 0) hx hb dX12_best_18 (by decide) ?_
    refine lv_istore_n (lv' := [(3, .int (0 : Int32)), (2, .int (100000 : Int32)), (0, .ref (a 0)), (1, .int x1)]) hx hb dX12_best_19 rfl hl (by decide) rfl (fun ls hl => ?_)
    exact kM_best_20L X  FU σ_5 (100000 : Int32) (0 : Int32) H locs ls h I (lv_sub hl [2, 1, 0] rfl)
  · have h := if_t h c_3
    refine lv_iconst (v := (-1)) hx hb dX12_best_7 (by decide) ?_
    obtain ⟨rfl, rfl⟩ := re_s h
    exact rti_ X I dX12_best_8
theorem c_M_best {l : Launch} {D : va_G} {cy : Nat → ClassId} {a : Nat → Nat} {σ : Sg} {x1 : Int32} {r0 : Int32} {σ' : Sg} (h : M_best_0 σ x1 = some (r0, σ')) (sz : Nat) : Met l yX12_best wsX12_best ({ frames := 7, cells := 0, slots := 0, locals := 159 }) (va_Pc [.ref (a 0), .int x1] (pr_ 16 a D cy (shM cy a σ) xfM sz)) (qg_ 16 a D (shM cy a σ') (some (.int r0)) sz) 0 0 (fr_ 16 a sz) := by
  refine ent_ (by decide) rfl (Nat.le_of_ble_eq_true rfl) ?_
  intro p e s m below meth c ls hsz X I hl
  subst hsz
  exact kM_best_0 X σ x1 s.heap [] ls h I hl

def M_areEnough_65 (k4 : Sg → Int32 → Int32 → Int32 → Option (Int32 × Sg)) (k20 : Sg → Int32 → Int32 → Int32 → Int32 → Int32 → Option (Int32 × Sg)) (σ : Sg) (x1 : Int32) (x2 : Int32) (x3 : Int32) (x5 : Int32) (t1 : Int32) (t0 : Int32) : Option (Int32 × Sg) :=
  lt_ ((t0 ||| t1)) fun y_1 =>
  lt_ (x5 + (1 : Int32)) fun y_3 =>
  k20 σ x1 x2 x3 y_1 y_3
set_option maxRecDepth 100000 in
theorem kM_areEnough_65 {p : Program} {l : Launch} {e : Env} {s : State} {m : MethodId} {args : Array Value} {below : List Frame} {meth : Method} {c : Code} {D : va_G} {cy : Nat → ClassId} {a : Nat → Nat} (X : cx_ cX12_areEnough RX12 wsX12_areEnough 6 (some .boolean) 16 a D cy xfM p s m args meth c) {k4 : Sg → Int32 → Int32 → Int32 → Option (Int32 × Sg)} {k20 : Sg → Int32 → Int32 → Int32 → Int32 → Int32 → Option (Int32 × Sg)} {r0 : Int32} {σ' : Sg} (hk4 : ∀ (σ : Sg) (x1 : Int32) (x2 : Int32) (x3 : Int32) (H : Heap) (locs : List Loc) (ls : Array Slot), k4 σ x1 x2 x3 = some (r0, σ') → iv_ 16 a D (shM cy a σ) s H locs → lv_has ls 6 [(0, .ref (a 0)), (1, .int x1), (2, .int x2), (3, .int x3)] → W p l e ({ frames := 0, cells := 0, slots := 0, locals := 0 }) s m args below meth c H locs 0 0 (MQ below (qg_ 16 a D (shM cy a σ') (some (.int r0)) s.heap.size) args s 0 0 (fr_ 16 a s.heap.size)) (F0 m 4 ls [])) (hk20 : ∀ (σ : Sg) (x1 : Int32) (x2 : Int32) (x3 : Int32) (x4 : Int32) (x5 : Int32) (H : Heap) (locs : List Loc) (ls : Array Slot), k20 σ x1 x2 x3 x4 x5 = some (r0, σ') → iv_ 16 a D (shM cy a σ) s H locs → lv_has ls 6 [(0, .ref (a 0)), (1, .int x1), (2, .int x2), (3, .int x3), (4, .int x4), (5, .int x5)] → W p l e ({ frames := 0, cells := 0, slots := 0, locals := 0 }) s m args below meth c H locs 0 0 (MQ below (qg_ 16 a D (shM cy a σ') (some (.int r0)) s.heap.size) args s 0 0 (fr_ 16 a s.heap.size)) (F0 m 20 ls [])) : ∀ (σ : Sg) (x1 : Int32) (x2 : Int32) (x3 : Int32) (x5 : Int32) (t1 : Int32) (t0 : Int32) (H : Heap) (locs : List Loc) (ls : Array Slot), M_areEnough_65 k4 k20 σ x1 x2 x3 x5 t1 t0 = some (r0, σ') → iv_ 16 a D (shM cy a σ) s H locs → lv_has ls 6 [(0, .ref (a 0)), (1, .int x1), (2, .int x2), (3, .int x3), (5, .int x5)] → W p l e ({ frames := 0, cells := 0, slots := 0, locals := 0 }) s m args below meth c H locs 0 0 (MQ below (qg_ 16 a D (shM cy a σ') (some (.int r0)) s.heap.size) args s 0 0 (fr_ 16 a s.heap.size)) (F0 m 65 ls [.int t1, .int t0]) := by
  obtain ⟨hx, hb, hr, hml, hown, hts, hlk, hK, hA, hXf⟩ := id X
  intro σ x1 x2 x3 x5 t1 t0 H locs ls h I hl
  unfold M_areEnough_65 at h
  refine lv_ior hx hb dX12_areEnough_65 ?_
  refine lv_topi (fun y_1 e_2 => ?_)
  have h := lt_at h e_2
  refine lv_istore (lv' := [(4, .int y_1), (0, .ref (a 0)), (1, .int x1), (2, .int x2), (3, .int x3), (5, .int x5)]) hx hb dX12_areEnough_66 hl (by decide) rfl (fun ls hl => ?_)
  obtain ⟨y_3, e_4⟩ : ∃ q : Int32, q = x5 + (1 : Int32) := ⟨_, rfl⟩
  have h := lt_at h e_4
  refine lv_iinc (v := y_3) (lv' := [(5, .int y_3), (4, .int y_1), (0, .ref (a 0)), (1, .int x1), (2, .int x2), (3, .int x3)]) hx hb dX12_areEnough_68 hl (k := 5) rfl (by rw [e_4]; rfl) (by decide) rfl (fun ls hl => ?_)
  refine lv_goto (tgt := 20) hx hb dX12_areEnough_71 (by decide) ?_
  exact hk20 σ x1 x2 x3 y_1 y_3 H locs ls h I (lv_sub hl [2, 3, 4, 5, 1, 0] rfl)
def M_areEnough_64 (k4 : Sg → Int32 → Int32 → Int32 → Option (Int32 × Sg)) (k20 : Sg → Int32 → Int32 → Int32 → Int32 → Int32 → Option (Int32 × Sg)) (σ : Sg) (x1 : Int32) (x2 : Int32) (x3 : Int32) (x5 : Int32) (t0 : Int32) : Option (Int32 × Sg) :=
  M_areEnough_65 k4 k20 σ x1 x2 x3 x5 (0 : Int32) t0
set_option maxRecDepth 100000 in
theorem kM_areEnough_64 {p : Program} {l : Launch} {e : Env} {s : State} {m : MethodId} {args : Array Value} {below : List Frame} {meth : Method} {c : Code} {D : va_G} {cy : Nat → ClassId} {a : Nat → Nat} (X : cx_ cX12_areEnough RX12 wsX12_areEnough 6 (some .boolean) 16 a D cy xfM p s m args meth c) {k4 : Sg → Int32 → Int32 → Int32 → Option (Int32 × Sg)} {k20 : Sg → Int32 → Int32 → Int32 → Int32 → Int32 → Option (Int32 × Sg)} {r0 : Int32} {σ' : Sg} (hk4 : ∀ (σ : Sg) (x1 : Int32) (x2 : Int32) (x3 : Int32) (H : Heap) (locs : List Loc) (ls : Array Slot), k4 σ x1 x2 x3 = some (r0, σ') → iv_ 16 a D (shM cy a σ) s H locs → lv_has ls 6 [(0, .ref (a 0)), (1, .int x1), (2, .int x2), (3, .int x3)] → W p l e ({ frames := 0, cells := 0, slots := 0, locals := 0 }) s m args below meth c H locs 0 0 (MQ below (qg_ 16 a D (shM cy a σ') (some (.int r0)) s.heap.size) args s 0 0 (fr_ 16 a s.heap.size)) (F0 m 4 ls [])) (hk20 : ∀ (σ : Sg) (x1 : Int32) (x2 : Int32) (x3 : Int32) (x4 : Int32) (x5 : Int32) (H : Heap) (locs : List Loc) (ls : Array Slot), k20 σ x1 x2 x3 x4 x5 = some (r0, σ') → iv_ 16 a D (shM cy a σ) s H locs → lv_has ls 6 [(0, .ref (a 0)), (1, .int x1), (2, .int x2), (3, .int x3), (4, .int x4), (5, .int x5)] → W p l e ({ frames := 0, cells := 0, slots := 0, locals := 0 }) s m args below meth c H locs 0 0 (MQ below (qg_ 16 a D (shM cy a σ') (some (.int r0)) s.heap.size) args s 0 0 (fr_ 16 a s.heap.size)) (F0 m 20 ls [])) : ∀ (σ : Sg) (x1 : Int32) (x2 : Int32) (x3 : Int32) (x5 : Int32) (t0 : Int32) (H : Heap) (locs : List Loc) (ls : Array Slot), M_areEnough_64 k4 k20 σ x1 x2 x3 x5 t0 = some (r0, σ') → iv_ 16 a D (shM cy a σ) s H locs → lv_has ls 6 [(0, .ref (a 0)), (1, .int x1), (2, .int x2), (3, .int x3), (5, .int x5)] → W p l e ({ frames := 0, cells := 0, slots := 0, locals := 0 }) s m args below meth c H locs 0 0 (MQ below (qg_ 16 a D (shM cy a σ') (some (.int r0)) s.heap.size) args s 0 0 (fr_ 16 a s.heap.size)) (F0 m 64 ls [.int t0]) := by
  obtain ⟨hx, hb, hr, hml, hown, hts, hlk, hK, hA, hXf⟩ := id X
  intro σ x1 x2 x3 x5 t0 H locs ls h I hl
  unfold M_areEnough_64 at h
  refine lv_iconst (v := 0) hx hb dX12_areEnough_64 (by decide) ?_
  exact kM_areEnough_65 X hk4 hk20 σ x1 x2 x3 x5 (0 : Int32) t0 H locs ls h I (lv_sub hl [0, 1, 2, 3, 4] rfl)
def M_areEnough_20 (k4 : Sg → Int32 → Int32 → Int32 → Option (Int32 × Sg)) (k20 : Sg → Int32 → Int32 → Int32 → Int32 → Int32 → Option (Int32 × Sg)) (σ : Sg) (x1 : Int32) (x2 : Int32) (x3 : Int32) (x4 : Int32) (x5 : Int32) : Option (Int32 × Sg) :=
  if (8 : Int32) ≤ x5 then (lt_ ((x2 &&& x4)) fun y_2 =>
  lt_ (x3 + (1 : Int32)) fun y_4 =>
  k4 σ x1 y_2 y_4)
  else (if ((x1 >>> (x5 &&& 31)) &&& (1 : Int32)) = (1 : Int32) then (lt_ ((((8 : Int32) * x3) + x5)) fun y_7 =>
  gd_ (in_ y_7 64) (
  if (rd_ σ 1 5) < (rd_ σ 6 y_7.toNatClampNeg) then (M_areEnough_64 k4 k20 σ x1 x2 x3 x5 x4)
  else (M_areEnough_65 k4 k20 σ x1 x2 x3 x5 (1 : Int32) x4)))
  else (M_areEnough_64 k4 k20 σ x1 x2 x3 x5 x4))
set_option maxRecDepth 100000 in
theorem kM_areEnough_20 {p : Program} {l : Launch} {e : Env} {s : State} {m : MethodId} {args : Array Value} {below : List Frame} {meth : Method} {c : Code} {D : va_G} {cy : Nat → ClassId} {a : Nat → Nat} (X : cx_ cX12_areEnough RX12 wsX12_areEnough 6 (some .boolean) 16 a D cy xfM p s m args meth c) {k4 : Sg → Int32 → Int32 → Int32 → Option (Int32 × Sg)} {k20 : Sg → Int32 → Int32 → Int32 → Int32 → Int32 → Option (Int32 × Sg)} {r0 : Int32} {σ' : Sg} (hk4 : ∀ (σ : Sg) (x1 : Int32) (x2 : Int32) (x3 : Int32) (H : Heap) (locs : List Loc) (ls : Array Slot), k4 σ x1 x2 x3 = some (r0, σ') → iv_ 16 a D (shM cy a σ) s H locs → lv_has ls 6 [(0, .ref (a 0)), (1, .int x1), (2, .int x2), (3, .int x3)] → W p l e ({ frames := 0, cells := 0, slots := 0, locals := 0 }) s m args below meth c H locs 0 0 (MQ below (qg_ 16 a D (shM cy a σ') (some (.int r0)) s.heap.size) args s 0 0 (fr_ 16 a s.heap.size)) (F0 m 4 ls [])) (hk20 : ∀ (σ : Sg) (x1 : Int32) (x2 : Int32) (x3 : Int32) (x4 : Int32) (x5 : Int32) (H : Heap) (locs : List Loc) (ls : Array Slot), k20 σ x1 x2 x3 x4 x5 = some (r0, σ') → iv_ 16 a D (shM cy a σ) s H locs → lv_has ls 6 [(0, .ref (a 0)), (1, .int x1), (2, .int x2), (3, .int x3), (4, .int x4), (5, .int x5)] → W p l e ({ frames := 0, cells := 0, slots := 0, locals := 0 }) s m args below meth c H locs 0 0 (MQ below (qg_ 16 a D (shM cy a σ') (some (.int r0)) s.heap.size) args s 0 0 (fr_ 16 a s.heap.size)) (F0 m 20 ls [])) : ∀ (σ : Sg) (x1 : Int32) (x2 : Int32) (x3 : Int32) (x4 : Int32) (x5 : Int32) (H : Heap) (locs : List Loc) (ls : Array Slot), M_areEnough_20 k4 k20 σ x1 x2 x3 x4 x5 = some (r0, σ') → iv_ 16 a D (shM cy a σ) s H locs → lv_has ls 6 [(0, .ref (a 0)), (1, .int x1), (2, .int x2), (3, .int x3), (4, .int x4), (5, .int x5)] → W p l e ({ frames := 0, cells := 0, slots := 0, locals := 0 }) s m args below meth c H locs 0 0 (MQ below (qg_ 16 a D (shM cy a σ') (some (.int r0)) s.heap.size) args s 0 0 (fr_ 16 a s.heap.size)) (F0 m 20 ls []) := by
  obtain ⟨hx, hb, hr, hml, hown, hts, hlk, hK, hA, hXf⟩ := id X
  intro σ x1 x2 x3 x4 x5 H locs ls h I hl
  unfold M_areEnough_20 at h
  refine lv_iload hx hb dX12_areEnough_20 (lv_at hl 5 rfl) ?_
  refine lv_bipush (v := 8) hx hb dX12_areEnough_22 (by decide) ?_
  refine lv_icmp_ge (tgt := 74) hx hb dX12_areEnough_24 (by decide) (fun c_1 => ?_) (fun c_1 => ?_)
  · have h := if_t h c_1
    refine lv_iload_n hx hb dX12_areEnough_74 rfl (lv_at hl 2 rfl) ?_
    refine lv_iload hx hb dX12_areEnough_75 (lv_at hl 4 rfl) ?_
    refine lv_iand hx hb dX12_areEnough_77 ?_
    refine lv_topi (fun y_2 e_3 => ?_)
    have h := lt_at h e_3
    refine lv_istore_n (lv' := [(2, .int y_2), (0, .ref (a 0)), (1, .int x1), (3, .int x3), (4, .int x4), (5, .int x5)]) hx hb dX12_areEnough_78 rfl hl (by decide) rfl (fun ls hl => ?_)
    obtain ⟨y_4, e_5⟩ : ∃ q : Int32, q = x3 + (1 : Int32) := ⟨_, rfl⟩
    have h := lt_at h e_5
    refine lv_iinc (v := y_4) (lv' := [(3, .int y_4), (2, .int y_2), (0, .ref (a 0)), (1, .int x1), (4, .int x4), (5, .int x5)]) hx hb dX12_areEnough_79 hl (k := 3) rfl (by rw [e_5]; rfl) (by decide) rfl (fun ls hl => ?_)
    refine lv_goto (tgt := 4) hx hb dX12_areEnough_82 (by decide) ?_
    exact hk4 σ x1 y_2 y_4 H locs ls h I (lv_sub hl [2, 3, 1, 0] rfl)
  · have h := if_f h c_1
    refine lv_iload hx hb dX12_areEnough_27 (lv_at hl 4 rfl) ?_
    refine lv_iload_n hx hb dX12_areEnough_29 rfl (lv_at hl 1 rfl) ?_
    refine lv_iload hx hb dX12_areEnough_30 (lv_at hl 5 rfl) ?_
    refine lv_ishr hx hb dX12_areEnough_32 ?_
    refine lv_iconst (v := 1) hx hb dX12_areEnough_33 (by decide) ?_
    refine lv_iand hx hb dX12_areEnough_34 ?_
    refine lv_iconst (v := 1) hx hb dX12_areEnough_35 (by decide) ?_
    refine lv_icmp_ne (tgt := 64) hx hb dX12_areEnough_36 (by decide) (fun c_6 => ?_) (fun c_6 => ?_)
    · have h := if_f h c_6
      exact kM_areEnough_64 X hk4 hk20 σ x1 x2 x3 x5 x4 H locs ls h I (lv_sub hl [0, 1, 2, 3, 5] rfl)
    · have h := if_t h c_6
      refine lv_aload_n hx hb dX12_areEnough_39 rfl (lv_at hl 0 rfl) ?_
      refine ig_ (index := 25) X I (fun _ q => List.mem_cons_of_mem _ (List.mem_append_right _ q)) 0 (by decide) shM_0 rfl 12 (by decide) (by decide +kernel) rfl (v := .ref (a 6)) rfl dX12_areEnough_40 ?_
      refine lv_bipush (v := 8) hx hb dX12_areEnough_43 (by decide) ?_
      refine lv_iload_n hx hb dX12_areEnough_45 rfl (lv_at hl 3 rfl) ?_
      refine lv_imul hx hb dX12_areEnough_46 ?_
      refine lv_iload hx hb dX12_areEnough_47 (lv_at hl 5 rfl) ?_
      refine lv_iadd hx hb dX12_areEnough_49 ?_
      refine lv_topi (fun y_7 e_8 => ?_)
      have h := lt_at h e_8
      obtain ⟨g_9, h⟩ := gd_of h
      refine ia_ X I 6 (by decide) shM_6 (in_of g_9) (v0 := rd_ σ 6 y_7.toNatClampNeg) rfl dX12_areEnough_50 ?_
      refine lv_aload_n hx hb dX12_areEnough_51 rfl (lv_at hl 0 rfl) ?_
      refine ig_ (index := 7) X I (fun _ q => List.mem_cons_of_mem _ (List.mem_append_right _ q)) 0 (by decide) shM_0 rfl 0 (by decide) (by decide +kernel) rfl (v := .ref (a 1)) rfl dX12_areEnough_52 ?_
      refine lv_iconst (v := 5) hx hb dX12_areEnough_55 (by decide) ?_
      refine ia_ X I 1 (by decide) shM_1 (in_of (by decide)) (v0 := rd_ σ 1 5) rfl dX12_areEnough_56 ?_
      refine lv_icmp_gt (tgt := 64) hx hb dX12_areEnough_57 (by decide) (fun c_10 => ?_) (fun c_10 => ?_)
      · have h := if_t h c_10
        exact kM_areEnough_64 X hk4 hk20 σ x1 x2 x3 x5 x4 H locs ls h I (lv_sub hl [0, 1, 2, 3, 5] rfl)
      · have h := if_f h c_10
        refine lv_iconst (v := 1) hx hb dX12_areEnough_60 (by decide) ?_
        refine lv_goto (tgt := 65) hx hb dX12_areEnough_61 (by decide) ?_
        exact kM_areEnough_65 X hk4 hk20 σ x1 x2 x3 x5 (1 : Int32) x4 H locs ls h I (lv_sub hl [0, 1, 2, 3, 5] rfl)
set_option maxRecDepth 100000 in
theorem kM_areEnough_20L {p : Program} {l : Launch} {e : Env} {s : State} {m : MethodId} {args : Array Value} {below : List Frame} {meth : Method} {c : Code} {D : va_G} {cy : Nat → ClassId} {a : Nat → Nat} (X : cx_ cX12_areEnough RX12 wsX12_areEnough 6 (some .boolean) 16 a D cy xfM p s m args meth c) {k4 : Sg → Int32 → Int32 → Int32 → Option (Int32 × Sg)} {r0 : Int32} {σ' : Sg} (hk4 : ∀ (σ : Sg) (x1 : Int32) (x2 : Int32) (x3 : Int32) (H : Heap) (locs : List Loc) (ls : Array Slot), k4 σ x1 x2 x3 = some (r0, σ') → iv_ 16 a D (shM cy a σ) s H locs → lv_has ls 6 [(0, .ref (a 0)), (1, .int x1), (2, .int x2), (3, .int x3)] → W p l e ({ frames := 0, cells := 0, slots := 0, locals := 0 }) s m args below meth c H locs 0 0 (MQ below (qg_ 16 a D (shM cy a σ') (some (.int r0)) s.heap.size) args s 0 0 (fr_ 16 a s.heap.size)) (F0 m 4 ls [])) : ∀ (n : Nat), ∀ (σ : Sg) (x1 : Int32) (x2 : Int32) (x3 : Int32) (x4 : Int32) (x5 : Int32) (H : Heap) (locs : List Loc) (ls : Array Slot), lp_ (M_areEnough_20 k4) (fun _ _ _ _ _ _ => none) n σ x1 x2 x3 x4 x5 = some (r0, σ') → iv_ 16 a D (shM cy a σ) s H locs → lv_has ls 6 [(0, .ref (a 0)), (1, .int x1), (2, .int x2), (3, .int x3), (4, .int x4), (5, .int x5)] → W p l e ({ frames := 0, cells := 0, slots := 0, locals := 0 }) s m args below meth c H locs 0 0 (MQ below (qg_ 16 a D (shM cy a σ') (some (.int r0)) s.heap.size) args s 0 0 (fr_ 16 a s.heap.size)) (F0 m 20 ls []) := by
  intro n
  induction n with
  | zero =>
    intro _ _ _ _ _ _ _ _ _ h
    exact absurd h (fun q => by cases (show (none : Option _) = some _ from q))
  | succ n ih => exact kM_areEnough_20 X hk4 ih

def M_areEnough_4 (k4 : Sg → Int32 → Int32 → Int32 → Option (Int32 × Sg)) (σ : Sg) (x1 : Int32) (x2 : Int32) (x3 : Int32) : Option (Int32 × Sg) :=
  if (rd_ σ 1 0) ≤ x3 then (gd_ (bo_ x2) (some (x2, σ)))
  else (lp_ (M_areEnough_20 k4) (fun _ _ _ _ _ _ => none) FU σ x1 x2 x3 (0 : Int32) (0 : Int32))
set_option maxRecDepth 100000 in
theorem kM_areEnough_4 {p : Program} {l : Launch} {e : Env} {s : State} {m : MethodId} {args : Array Value} {below : List Frame} {meth : Method} {c : Code} {D : va_G} {cy : Nat → ClassId} {a : Nat → Nat} (X : cx_ cX12_areEnough RX12 wsX12_areEnough 6 (some .boolean) 16 a D cy xfM p s m args meth c) {k4 : Sg → Int32 → Int32 → Int32 → Option (Int32 × Sg)} {r0 : Int32} {σ' : Sg} (hk4 : ∀ (σ : Sg) (x1 : Int32) (x2 : Int32) (x3 : Int32) (H : Heap) (locs : List Loc) (ls : Array Slot), k4 σ x1 x2 x3 = some (r0, σ') → iv_ 16 a D (shM cy a σ) s H locs → lv_has ls 6 [(0, .ref (a 0)), (1, .int x1), (2, .int x2), (3, .int x3)] → W p l e ({ frames := 0, cells := 0, slots := 0, locals := 0 }) s m args below meth c H locs 0 0 (MQ below (qg_ 16 a D (shM cy a σ') (some (.int r0)) s.heap.size) args s 0 0 (fr_ 16 a s.heap.size)) (F0 m 4 ls [])) : ∀ (σ : Sg) (x1 : Int32) (x2 : Int32) (x3 : Int32) (H : Heap) (locs : List Loc) (ls : Array Slot), M_areEnough_4 k4 σ x1 x2 x3 = some (r0, σ') → iv_ 16 a D (shM cy a σ) s H locs → lv_has ls 6 [(0, .ref (a 0)), (1, .int x1), (2, .int x2), (3, .int x3)] → W p l e ({ frames := 0, cells := 0, slots := 0, locals := 0 }) s m args below meth c H locs 0 0 (MQ below (qg_ 16 a D (shM cy a σ') (some (.int r0)) s.heap.size) args s 0 0 (fr_ 16 a s.heap.size)) (F0 m 4 ls []) := by
  obtain ⟨hx, hb, hr, hml, hown, hts, hlk, hK, hA, hXf⟩ := id X
  intro σ x1 x2 x3 H locs ls h I hl
  unfold M_areEnough_4 at h
  refine lv_iload_n hx hb dX12_areEnough_4 rfl (lv_at hl 3 rfl) ?_
  refine lv_aload_n hx hb dX12_areEnough_5 rfl (lv_at hl 0 rfl) ?_
  refine ig_ (index := 7) X I (fun _ q => List.mem_cons_of_mem _ (List.mem_append_right _ q)) 0 (by decide) shM_0 rfl 0 (by decide) (by decide +kernel) rfl (v := .ref (a 1)) rfl dX12_areEnough_6 ?_
  refine lv_iconst (v := 0) hx hb dX12_areEnough_9 (by decide) ?_
  refine ia_ X I 1 (by decide) shM_1 (in_of (by decide)) (v0 := rd_ σ 1 0) rfl dX12_areEnough_10 ?_
  refine lv_icmp_ge (tgt := 85) hx hb dX12_areEnough_11 (by decide) (fun c_1 => ?_) (fun c_1 => ?_)
  · have h := if_t h c_1
    refine lv_iload_n hx hb dX12_areEnough_85 rfl (lv_at hl 2 rfl) ?_
    obtain ⟨g_2, h⟩ := gd_of h
    obtain ⟨rfl, rfl⟩ := re_s h
    exact rtz_ X I (bo_of g_2).1 dX12_areEnough_86
  · have h := if_f h c_1
    refine lv_iconst (v := 0) hx hb dX12_areEnough_14 (by decide) ?_
    refine lv_istore (lv' := [(4, .int (0 : Int32)), (0, .ref (a 0)), (1, .int x1), (2, .int x2), (3, .int x3)]) hx hb dX12_areEnough_15 hl (by decide) rfl (fun ls hl => ?_)
    refine lv_iconst (v := 0) hx hb dX12_areEnough_17 (by decide) ?_
    refine lv_istore (lv' := [(5, .int (0 : Int32)), (4, .int (0 : Int32)), (0, .ref (a 0)), (1, .int x1), (2, .int x2), (3, .int x3)]) hx hb dX12_areEnough_18 hl (by decide) rfl (fun ls hl => ?_)
    exact kM_areEnough_20L X hk4 FU σ x1 x2 x3 (0 : Int32) (0 : Int32) H locs ls h I (lv_sub hl [2, 3, 4, 5, 1, 0] rfl)
set_option maxRecDepth 100000 in
theorem kM_areEnough_4L {p : Program} {l : Launch} {e : Env} {s : State} {m : MethodId} {args : Array Value} {below : List Frame} {meth : Method} {c : Code} {D : va_G} {cy : Nat → ClassId} {a : Nat → Nat} (X : cx_ cX12_areEnough RX12 wsX12_areEnough 6 (some .boolean) 16 a D cy xfM p s m args meth c)  {r0 : Int32} {σ' : Sg}  : ∀ (n : Nat), ∀ (σ : Sg) (x1 : Int32) (x2 : Int32) (x3 : Int32) (H : Heap) (locs : List Loc) (ls : Array Slot), lp_ (M_areEnough_4) (fun _ _ _ _ => none) n σ x1 x2 x3 = some (r0, σ') → iv_ 16 a D (shM cy a σ) s H locs → lv_has ls 6 [(0, .ref (a 0)), (1, .int x1), (2, .int x2), (3, .int x3)] → W p l e ({ frames := 0, cells := 0, slots := 0, locals := 0 }) s m args below meth c H locs 0 0 (MQ below (qg_ 16 a D (shM cy a σ') (some (.int r0)) s.heap.size) args s 0 0 (fr_ 16 a s.heap.size)) (F0 m 4 ls []) := by
  intro n
  induction n with
  | zero =>
    intro _ _ _ _ _ _ _ h
    exact absurd h (fun q => by cases (show (none : Option _) = some _ from q))
  | succ n ih => exact kM_areEnough_4 X ih

def M_areEnough_0  (σ : Sg) (x1 : Int32) : Option (Int32 × Sg) :=
  lp_ M_areEnough_4 (fun _ _ _ _ => none) FU σ x1 (1 : Int32) (0 : Int32)
set_option maxRecDepth 100000 in
theorem kM_areEnough_0 {p : Program} {l : Launch} {e : Env} {s : State} {m : MethodId} {args : Array Value} {below : List Frame} {meth : Method} {c : Code} {D : va_G} {cy : Nat → ClassId} {a : Nat → Nat} (X : cx_ cX12_areEnough RX12 wsX12_areEnough 6 (some .boolean) 16 a D cy xfM p s m args meth c)  {r0 : Int32} {σ' : Sg}  : ∀ (σ : Sg) (x1 : Int32) (H : Heap) (locs : List Loc) (ls : Array Slot), M_areEnough_0 σ x1 = some (r0, σ') → iv_ 16 a D (shM cy a σ) s H locs → lv_has ls 6 [(0, .ref (a 0)), (1, .int x1)] → W p l e ({ frames := 0, cells := 0, slots := 0, locals := 0 }) s m args below meth c H locs 0 0 (MQ below (qg_ 16 a D (shM cy a σ') (some (.int r0)) s.heap.size) args s 0 0 (fr_ 16 a s.heap.size)) (F0 m 0 ls []) := by
  obtain ⟨hx, hb, hr, hml, hown, hts, hlk, hK, hA, hXf⟩ := id X
  intro σ x1 H locs ls h I hl
  unfold M_areEnough_0 at h
  refine lv_iconst (v := 1) hx hb dX12_areEnough_0 (by decide) ?_
  refine lv_istore_n (lv' := [(2, .int (1 : Int32)), (0, .ref (a 0)), (1, .int x1)]) hx hb dX12_areEnough_1 rfl hl (by decide) rfl (fun ls hl => ?_)
  refine lv_iconst (v := 0) hx hb dX12_areEnough_2 (by decide) ?_
  refine lv_istore_n (lv' := [(3, .int (0 : Int32)), (2, .int (1 : Int32)), (0, .ref (a 0)), (1, .int x1)]) hx hb dX12_areEnough_3 rfl hl (by decide) rfl (fun ls hl => ?_)
  exact kM_areEnough_4L X  FU σ x1 (1 : Int32) (0 : Int32) H locs ls h I (lv_sub hl [2, 3, 1, 0] rfl)
theorem c_M_areEnough {l : Launch} {D : va_G} {cy : Nat → ClassId} {a : Nat → Nat} {σ : Sg} {x1 : Int32} {r0 : Int32} {σ' : Sg} (h : M_areEnough_0 σ x1 = some (r0, σ')) (sz : Nat) : Met l yX12_areEnough wsX12_areEnough ({ frames := 0, cells := 0, slots := 0, locals := 0 }) (va_Pc [.ref (a 0), .int x1] (pr_ 16 a D cy (shM cy a σ) xfM sz)) (qg_ 16 a D (shM cy a σ') (some (.int r0)) sz) 0 0 (fr_ 16 a sz) := by
  refine ent_ (by decide) rfl (Nat.le_of_ble_eq_true rfl) ?_
  intro p e s m below meth c ls hsz X I hl
  subst hsz
  exact kM_areEnough_0 X σ x1 s.heap [] ls h I hl

def M_enough_54 (k19 : Sg → Int32 → Int32 → Option (Int32 × Sg)) (σ : Sg) (x3 : Int32) (t0 : Int32) : Option (Int32 × Sg) :=
  lt_ (x3 + (1 : Int32)) fun y_1 =>
  k19 σ t0 y_1
set_option maxRecDepth 100000 in
theorem kM_enough_54 {p : Program} {l : Launch} {e : Env} {s : State} {m : MethodId} {args : Array Value} {below : List Frame} {meth : Method} {c : Code} {D : va_G} {cy : Nat → ClassId} {a : Nat → Nat} (X : cx_ cX12_enough RX12 wsX12_enough 4 (some .int) 16 a D cy xfM p s m args meth c) {k19 : Sg → Int32 → Int32 → Option (Int32 × Sg)} {r0 : Int32} {σ' : Sg} (hk19 : ∀ (σ : Sg) (x2 : Int32) (x3 : Int32) (H : Heap) (locs : List Loc) (ls : Array Slot), k19 σ x2 x3 = some (r0, σ') → iv_ 16 a D (shM cy a σ) s H locs → lv_has ls 4 [(0, .ref (a 0)), (2, .int x2), (3, .int x3)] → W p l e ({ frames := 7, cells := 0, slots := 0, locals := 159 }) s m args below meth c H locs 0 0 (MQ below (qg_ 16 a D (shM cy a σ') (some (.int r0)) s.heap.size) args s 0 0 (fr_ 16 a s.heap.size)) (F0 m 19 ls [])) : ∀ (σ : Sg) (x3 : Int32) (t0 : Int32) (H : Heap) (locs : List Loc) (ls : Array Slot), M_enough_54 k19 σ x3 t0 = some (r0, σ') → iv_ 16 a D (shM cy a σ) s H locs → lv_has ls 4 [(0, .ref (a 0)), (3, .int x3)] → W p l e ({ frames := 7, cells := 0, slots := 0, locals := 159 }) s m args below meth c H locs 0 0 (MQ below (qg_ 16 a D (shM cy a σ') (some (.int r0)) s.heap.size) args s 0 0 (fr_ 16 a s.heap.size)) (F0 m 54 ls [.int t0]) := by
  obtain ⟨hx, hb, hr, hml, hown, hts, hlk, hK, hA, hXf⟩ := id X
  intro σ x3 t0 H locs ls h I hl
  unfold M_enough_54 at h
  refine lv_istore_n (lv' := [(2, .int t0), (0, .ref (a 0)), (3, .int x3)]) hx hb dX12_enough_54 rfl hl (by decide) rfl (fun ls hl => ?_)
  obtain ⟨y_1, e_2⟩ : ∃ q : Int32, q = x3 + (1 : Int32) := ⟨_, rfl⟩
  have h := lt_at h e_2
  refine lv_iinc (v := y_1) (lv' := [(3, .int y_1), (2, .int t0), (0, .ref (a 0))]) hx hb dX12_enough_55 hl (k := 2) rfl (by rw [e_2]; rfl) (by decide) rfl (fun ls hl => ?_)
  refine lv_goto (tgt := 19) hx hb dX12_enough_58 (by decide) ?_
  exact hk19 σ t0 y_1 H locs ls h I (lv_sub hl [2, 1, 0] rfl)
def M_enough_53 (k19 : Sg → Int32 → Int32 → Option (Int32 × Sg)) (σ : Sg) (x2 : Int32) (x3 : Int32) : Option (Int32 × Sg) :=
  M_enough_54 k19 σ x3 x2
set_option maxRecDepth 100000 in
theorem kM_enough_53 {p : Program} {l : Launch} {e : Env} {s : State} {m : MethodId} {args : Array Value} {below : List Frame} {meth : Method} {c : Code} {D : va_G} {cy : Nat → ClassId} {a : Nat → Nat} (X : cx_ cX12_enough RX12 wsX12_enough 4 (some .int) 16 a D cy xfM p s m args meth c) {k19 : Sg → Int32 → Int32 → Option (Int32 × Sg)} {r0 : Int32} {σ' : Sg} (hk19 : ∀ (σ : Sg) (x2 : Int32) (x3 : Int32) (H : Heap) (locs : List Loc) (ls : Array Slot), k19 σ x2 x3 = some (r0, σ') → iv_ 16 a D (shM cy a σ) s H locs → lv_has ls 4 [(0, .ref (a 0)), (2, .int x2), (3, .int x3)] → W p l e ({ frames := 7, cells := 0, slots := 0, locals := 159 }) s m args below meth c H locs 0 0 (MQ below (qg_ 16 a D (shM cy a σ') (some (.int r0)) s.heap.size) args s 0 0 (fr_ 16 a s.heap.size)) (F0 m 19 ls [])) : ∀ (σ : Sg) (x2 : Int32) (x3 : Int32) (H : Heap) (locs : List Loc) (ls : Array Slot), M_enough_53 k19 σ x2 x3 = some (r0, σ') → iv_ 16 a D (shM cy a σ) s H locs → lv_has ls 4 [(0, .ref (a 0)), (2, .int x2), (3, .int x3)] → W p l e ({ frames := 7, cells := 0, slots := 0, locals := 159 }) s m args below meth c H locs 0 0 (MQ below (qg_ 16 a D (shM cy a σ') (some (.int r0)) s.heap.size) args s 0 0 (fr_ 16 a s.heap.size)) (F0 m 53 ls []) := by
  obtain ⟨hx, hb, hr, hml, hown, hts, hlk, hK, hA, hXf⟩ := id X
  intro σ x2 x3 H locs ls h I hl
  unfold M_enough_53 at h
  refine lv_iload_n hx hb dX12_enough_53 rfl (lv_at hl 1 rfl) ?_
  exact kM_enough_54 X hk19 σ x3 x2 H locs ls h I (lv_sub hl [0, 2] rfl)
def M_enough_41 (k19 : Sg → Int32 → Int32 → Option (Int32 × Sg)) (σ : Sg) (x2 : Int32) (x3 : Int32) : Option (Int32 × Sg) :=
  bi_ (M_areEnough_0 σ x3) fun r_3 σ_2 =>
  if r_3 = 0 then (M_enough_53 k19 σ_2 x2 x3)
  else (M_enough_54 k19 σ_2 x3 x3)
set_option maxRecDepth 100000 in
theorem kM_enough_41 {p : Program} {l : Launch} {e : Env} {s : State} {m : MethodId} {args : Array Value} {below : List Frame} {meth : Method} {c : Code} {D : va_G} {cy : Nat → ClassId} {a : Nat → Nat} (X : cx_ cX12_enough RX12 wsX12_enough 4 (some .int) 16 a D cy xfM p s m args meth c) {k19 : Sg → Int32 → Int32 → Option (Int32 × Sg)} {r0 : Int32} {σ' : Sg} (hk19 : ∀ (σ : Sg) (x2 : Int32) (x3 : Int32) (H : Heap) (locs : List Loc) (ls : Array Slot), k19 σ x2 x3 = some (r0, σ') → iv_ 16 a D (shM cy a σ) s H locs → lv_has ls 4 [(0, .ref (a 0)), (2, .int x2), (3, .int x3)] → W p l e ({ frames := 7, cells := 0, slots := 0, locals := 159 }) s m args below meth c H locs 0 0 (MQ below (qg_ 16 a D (shM cy a σ') (some (.int r0)) s.heap.size) args s 0 0 (fr_ 16 a s.heap.size)) (F0 m 19 ls [])) : ∀ (σ : Sg) (x2 : Int32) (x3 : Int32) (H : Heap) (locs : List Loc) (ls : Array Slot), M_enough_41 k19 σ x2 x3 = some (r0, σ') → iv_ 16 a D (shM cy a σ) s H locs → lv_has ls 4 [(0, .ref (a 0)), (2, .int x2), (3, .int x3)] → W p l e ({ frames := 7, cells := 0, slots := 0, locals := 159 }) s m args below meth c H locs 0 0 (MQ below (qg_ 16 a D (shM cy a σ') (some (.int r0)) s.heap.size) args s 0 0 (fr_ 16 a s.heap.size)) (F0 m 41 ls []) := by
  obtain ⟨hx, hb, hr, hml, hown, hts, hlk, hK, hA, hXf⟩ := id X
  intro σ x2 x3 H locs ls h I hl
  unfold M_enough_41 at h
  refine lv_aload_n hx hb dX12_enough_41 rfl (lv_at hl 0 rfl) ?_
  refine lv_iload_n hx hb dX12_enough_42 rfl (lv_at hl 2 rfl) ?_
  obtain ⟨r_3, σ_2, hc_1, h⟩ := bi_of h
  refine cg_ (rV_ (nn := 1) (As := [.int x3]) (rest := []) X xkM I (c_M_areEnough hc_1 H.size) gX12_enough_X12_areEnough rfl ⟨rfl, rfl⟩ (by decide +kernel) ⟨Nat.le_of_ble_eq_true rfl, Nat.le_of_ble_eq_true rfl⟩ (by decide) shM_0 rfl rfl hl.1 rfl (Nat.le_of_ble_eq_true rfl) dX12_enough_43) I (fun H locs I => ?_)
  refine lv_if_eq (tgt := 53) hx hb dX12_enough_46 (by decide) (fun c_4 => ?_) (fun c_4 => ?_)
  · have h := if_t h c_4
    exact kM_enough_53 X hk19 σ_2 x2 x3 H locs ls h I (lv_sub hl [0, 1, 2] rfl)
  · have h := if_f h c_4
    refine lv_iload_n hx hb dX12_enough_49 rfl (lv_at hl 2 rfl) ?_
    refine lv_goto (tgt := 54) hx hb dX12_enough_50 (by decide) ?_
    exact kM_enough_54 X hk19 σ_2 x3 x3 H locs ls h I (lv_sub hl [0, 2] rfl)
def M_enough_19 (k19 : Sg → Int32 → Int32 → Option (Int32 × Sg)) (σ : Sg) (x2 : Int32) (x3 : Int32) : Option (Int32 × Sg) :=
  if (256 : Int32) ≤ x3 then (some (x2, σ))
  else (if x2 < 0 then (M_enough_41 k19 σ x2 x3)
  else (bp_ (M_size_0 x3) fun r_4 =>
  bp_ (M_size_0 x2) fun r_6 =>
  if r_6 ≤ r_4 then (M_enough_53 k19 σ x2 x3)
  else (M_enough_41 k19 σ x2 x3)))
set_option maxRecDepth 100000 in
theorem kM_enough_19 {p : Program} {l : Launch} {e : Env} {s : State} {m : MethodId} {args : Array Value} {below : List Frame} {meth : Method} {c : Code} {D : va_G} {cy : Nat → ClassId} {a : Nat → Nat} (X : cx_ cX12_enough RX12 wsX12_enough 4 (some .int) 16 a D cy xfM p s m args meth c) {k19 : Sg → Int32 → Int32 → Option (Int32 × Sg)} {r0 : Int32} {σ' : Sg} (hk19 : ∀ (σ : Sg) (x2 : Int32) (x3 : Int32) (H : Heap) (locs : List Loc) (ls : Array Slot), k19 σ x2 x3 = some (r0, σ') → iv_ 16 a D (shM cy a σ) s H locs → lv_has ls 4 [(0, .ref (a 0)), (2, .int x2), (3, .int x3)] → W p l e ({ frames := 7, cells := 0, slots := 0, locals := 159 }) s m args below meth c H locs 0 0 (MQ below (qg_ 16 a D (shM cy a σ') (some (.int r0)) s.heap.size) args s 0 0 (fr_ 16 a s.heap.size)) (F0 m 19 ls [])) : ∀ (σ : Sg) (x2 : Int32) (x3 : Int32) (H : Heap) (locs : List Loc) (ls : Array Slot), M_enough_19 k19 σ x2 x3 = some (r0, σ') → iv_ 16 a D (shM cy a σ) s H locs → lv_has ls 4 [(0, .ref (a 0)), (2, .int x2), (3, .int x3)] → W p l e ({ frames := 7, cells := 0, slots := 0, locals := 159 }) s m args below meth c H locs 0 0 (MQ below (qg_ 16 a D (shM cy a σ') (some (.int r0)) s.heap.size) args s 0 0 (fr_ 16 a s.heap.size)) (F0 m 19 ls []) := by
  obtain ⟨hx, hb, hr, hml, hown, hts, hlk, hK, hA, hXf⟩ := id X
  intro σ x2 x3 H locs ls h I hl
  unfold M_enough_19 at h
  refine lv_iload_n hx hb dX12_enough_19 rfl (lv_at hl 2 rfl) ?_
  refine lv_sipush (v := 256) hx hb dX12_enough_20 (by decide) ?_
  refine lv_icmp_ge (tgt := 61) hx hb dX12_enough_23 (by decide) (fun c_1 => ?_) (fun c_1 => ?_)
  · have h := if_t h c_1
    refine lv_iload_n hx hb dX12_enough_61 rfl (lv_at hl 1 rfl) ?_
    obtain ⟨rfl, rfl⟩ := re_s h
    exact rti_ X I dX12_enough_62
  · have h := if_f h c_1
    refine lv_iload_n hx hb dX12_enough_26 rfl (lv_at hl 1 rfl) ?_
    refine lv_if_lt (tgt := 41) hx hb dX12_enough_27 (by decide) (fun c_2 => ?_) (fun c_2 => ?_)
    · have h := if_t h c_2
      exact kM_enough_41 X hk19 σ x2 x3 H locs ls h I (lv_sub hl [0, 1, 2] rfl)
    · have h := if_f h c_2
      refine lv_iload_n hx hb dX12_enough_30 rfl (lv_at hl 2 rfl) ?_
      obtain ⟨r_4, hc_3, h⟩ := bp_of h
      refine cp_ (rP_ (nn := 1) (As := [.int x3]) (rest := []) ⟨hx, hb, hml, hown, hts⟩ (c_M_size hc_3) gX12_enough_X12_size rfl ⟨rfl, rfl⟩ (by decide +kernel) ⟨Nat.le_of_ble_eq_true rfl, Nat.le_of_ble_eq_true rfl⟩ rfl hl.1 rfl (Nat.le_of_ble_eq_true rfl) dX12_enough_31 ⟨Nat.zero_le _, Nat.zero_le _⟩) ?_
      refine lv_iload_n hx hb dX12_enough_34 rfl (lv_at hl 1 rfl) ?_
      obtain ⟨r_6, hc_5, h⟩ := bp_of h
      refine cp_ (rP_ (nn := 1) (As := [.int x2]) (rest := [.int r_4]) ⟨hx, hb, hml, hown, hts⟩ (c_M_size hc_5) gX12_enough_X12_size rfl ⟨rfl, rfl⟩ (by decide +kernel) ⟨Nat.le_of_ble_eq_true rfl, Nat.le_of_ble_eq_true rfl⟩ rfl hl.1 rfl (Nat.le_of_ble_eq_true rfl) dX12_enough_35 ⟨Nat.zero_le _, Nat.zero_le _⟩) ?_
      refine lv_icmp_ge (tgt := 53) hx hb dX12_enough_38 (by decide) (fun c_7 => ?_) (fun c_7 => ?_)
      · have h := if_t h c_7
        exact kM_enough_53 X hk19 σ x2 x3 H locs ls h I (lv_sub hl [0, 1, 2] rfl)
      · have h := if_f h c_7
        exact kM_enough_41 X hk19 σ x2 x3 H locs ls h I (lv_sub hl [0, 1, 2] rfl)
set_option maxRecDepth 100000 in
theorem kM_enough_19L {p : Program} {l : Launch} {e : Env} {s : State} {m : MethodId} {args : Array Value} {below : List Frame} {meth : Method} {c : Code} {D : va_G} {cy : Nat → ClassId} {a : Nat → Nat} (X : cx_ cX12_enough RX12 wsX12_enough 4 (some .int) 16 a D cy xfM p s m args meth c)  {r0 : Int32} {σ' : Sg}  : ∀ (n : Nat), ∀ (σ : Sg) (x2 : Int32) (x3 : Int32) (H : Heap) (locs : List Loc) (ls : Array Slot), lp_ (M_enough_19) (fun _ _ _ => none) n σ x2 x3 = some (r0, σ') → iv_ 16 a D (shM cy a σ) s H locs → lv_has ls 4 [(0, .ref (a 0)), (2, .int x2), (3, .int x3)] → W p l e ({ frames := 7, cells := 0, slots := 0, locals := 159 }) s m args below meth c H locs 0 0 (MQ below (qg_ 16 a D (shM cy a σ') (some (.int r0)) s.heap.size) args s 0 0 (fr_ 16 a s.heap.size)) (F0 m 19 ls []) := by
  intro n
  induction n with
  | zero =>
    intro _ _ _ _ _ _ h
    exact absurd h (fun q => by cases (show (none : Option _) = some _ from q))
  | succ n ih => exact kM_enough_19 X ih

def M_enough_0  (σ : Sg) (x1 : Int32) : Option (Int32 × Sg) :=
  bp_ (M_isShort_0 x1) fun r_2 =>
  if r_2 = 0 then (some ((-1 : Int32), σ))
  else (bi_ (M_swearsAll_0 σ x1) fun _ σ_5 =>
  lp_ M_enough_19 (fun _ _ _ => none) FU σ_5 (-3 : Int32) (0 : Int32))
set_option maxRecDepth 100000 in
theorem kM_enough_0 {p : Program} {l : Launch} {e : Env} {s : State} {m : MethodId} {args : Array Value} {below : List Frame} {meth : Method} {c : Code} {D : va_G} {cy : Nat → ClassId} {a : Nat → Nat} (X : cx_ cX12_enough RX12 wsX12_enough 4 (some .int) 16 a D cy xfM p s m args meth c)  {r0 : Int32} {σ' : Sg}  : ∀ (σ : Sg) (x1 : Int32) (H : Heap) (locs : List Loc) (ls : Array Slot), M_enough_0 σ x1 = some (r0, σ') → iv_ 16 a D (shM cy a σ) s H locs → lv_has ls 4 [(0, .ref (a 0)), (1, .int x1)] → W p l e ({ frames := 7, cells := 0, slots := 0, locals := 159 }) s m args below meth c H locs 0 0 (MQ below (qg_ 16 a D (shM cy a σ') (some (.int r0)) s.heap.size) args s 0 0 (fr_ 16 a s.heap.size)) (F0 m 0 ls []) := by
  obtain ⟨hx, hb, hr, hml, hown, hts, hlk, hK, hA, hXf⟩ := id X
  intro σ x1 H locs ls h I hl
  unfold M_enough_0 at h
  refine lv_iload_n hx hb dX12_enough_0 rfl (lv_at hl 1 rfl) ?_
  obtain ⟨r_2, hc_1, h⟩ := bp_of h
  refine cp_ (rP_ (nn := 1) (As := [.int x1]) (rest := []) ⟨hx, hb, hml, hown, hts⟩ (c_M_isShort hc_1) gX12_enough_X12_isShort rfl ⟨rfl, rfl⟩ (by decide +kernel) ⟨Nat.le_of_ble_eq_true rfl, Nat.le_of_ble_eq_true rfl⟩ rfl hl.1 rfl (Nat.le_of_ble_eq_true rfl) dX12_enough_1 ⟨Nat.zero_le _, Nat.zero_le _⟩) ?_
  refine lv_if_ne (tgt := 9) hx hb dX12_enough_4 (by decide) (fun c_3 => ?_) (fun c_3 => ?_)
  · have h := if_f h c_3
    refine lv_aload_n hx hb dX12_enough_9 rfl (lv_at hl 0 rfl) ?_
    refine lv_iload_n hx hb dX12_enough_10 rfl (lv_at hl 1 rfl) ?_
    obtain ⟨_, σ_5, hc_4, h⟩ := bi_of h
    refine cv_ (rV_ (nn := 1) (As := [.int x1]) (rest := []) X xkM I (c_M_swearsAll hc_4 H.size) gX12_enough_X12_swearsAll rfl ⟨rfl, rfl⟩ (by decide +kernel) ⟨Nat.le_of_ble_eq_true rfl, Nat.le_of_ble_eq_true rfl⟩ (by decide) shM_0 rfl rfl hl.1 rfl (Nat.le_of_ble_eq_true rfl) dX12_enough_11) I (fun H locs I => ?_)
    refine lv_bipush (v := (-3)) hx hb dX12_enough_14 (by decide) ?_
    refine lv_istore_n (lv' := [(2, .int (-3 : Int32)), (0, .ref (a 0)), (1, .int x1)]) hx hb dX12_enough_16 rfl hl (by decide) rfl (fun ls hl => ?_)
    refine lv_iconst (v := 0) hx hb dX12_enough_17 (by decide) ?_
    refine lv_istore_n (lv' := [(3, .int (0 : Int32)), (2, .int (-3 : Int32)), (0, .ref (a 0)), (1, .int x1)]) hx hb dX12_enough_18 rfl hl (by decide) rfl (fun ls hl => ?_)
    exact kM_enough_19L X  FU σ_5 (-3 : Int32) (0 : Int32) H locs ls h I (lv_sub hl [2, 1, 0] rfl)
  · have h := if_t h c_3
    refine lv_iconst (v := (-1)) hx hb dX12_enough_7 (by decide) ?_
    obtain ⟨rfl, rfl⟩ := re_s h
    exact rti_ X I dX12_enough_8
theorem c_M_enough {l : Launch} {D : va_G} {cy : Nat → ClassId} {a : Nat → Nat} {σ : Sg} {x1 : Int32} {r0 : Int32} {σ' : Sg} (h : M_enough_0 σ x1 = some (r0, σ')) (sz : Nat) : Met l yX12_enough wsX12_enough ({ frames := 7, cells := 0, slots := 0, locals := 159 }) (va_Pc [.ref (a 0), .int x1] (pr_ 16 a D cy (shM cy a σ) xfM sz)) (qg_ 16 a D (shM cy a σ') (some (.int r0)) sz) 0 0 (fr_ 16 a sz) := by
  refine ent_ (by decide) rfl (Nat.le_of_ble_eq_true rfl) ?_
  intro p e s m below meth c ls hsz X I hl
  subst hsz
  exact kM_enough_0 X σ x1 s.heap [] ls h I hl

def M_isSheet_0  (x0 : Int32) : Option Int32 :=
  bp_ (M_isIn_0 (x0).toInt64 (0 : Int64) (3 : Int64)) fun r_2 =>
  gd_ (bo_ r_2) (some (r_2))
set_option maxRecDepth 100000 in
theorem kM_isSheet_0 {p : Program} {l : Launch} {e : Env} {s : State} {m : MethodId} {args : Array Value} {below : List Frame} {meth : Method} {c : Code} (X : px_ cX12_isSheet RX12 wsX12_isSheet 1 (some .boolean) p s m args meth c)  {r0 : Int32}  : ∀ (x0 : Int32) (ls : Array Slot), M_isSheet_0 x0 = some r0 → lv_has ls 1 [(0, .int x0)] → W p l e ({ frames := 1, cells := 0, slots := 0, locals := 25 }) s m args below meth c s.heap [] 0 0 (MQ below (qp_ (some (.int r0))) args s 0 0 (fun _ => False)) (F0 m 0 ls []) := by
  obtain ⟨hx, hb, hr, hml, hown, hts, hlk⟩ := id X
  intro x0 ls h hl
  unfold M_isSheet_0 at h
  refine lv_iload_n hx hb dX12_isSheet_0 rfl (lv_at hl 0 rfl) ?_
  refine lv_i2l hx hb dX12_isSheet_1 rfl ?_
  refine lv_lconst (v := 0) hx hb dX12_isSheet_2 (by decide) ?_
  refine lv_ldc2 (v := 3) hx hb hown (hts (.constantLong RX12 161 (3)) (by decide +kernel)) dX12_isSheet_3 ?_
  obtain ⟨r_2, hc_1, h⟩ := bp_of h
  refine cp_ (rP_ (nn := 3) (As := [.long (x0).toInt64, .long (0 : Int64), .long (3 : Int64)]) (rest := []) ⟨hx, hb, hml, hown, hts⟩ (c_M_isIn hc_1) gX12_isSheet_X12_isIn rfl ⟨rfl, rfl⟩ (by decide +kernel) ⟨Nat.le_of_ble_eq_true rfl, Nat.le_of_ble_eq_true rfl⟩ rfl hl.1 rfl (Nat.le_of_ble_eq_true rfl) dX12_isSheet_6 ⟨Nat.zero_le _, Nat.zero_le _⟩) ?_
  obtain ⟨g_3, h⟩ := gd_of h
  obtain rfl := re_p h
  exact rpz_ X (bo_of g_3).1 dX12_isSheet_9
theorem c_M_isSheet {l : Launch} {x0 : Int32} {r0 : Int32} (h : M_isSheet_0 x0 = some r0) : Met l yX12_isSheet wsX12_isSheet ({ frames := 1, cells := 0, slots := 0, locals := 25 }) (pp_ [.int x0]) (qp_ (some (.int r0))) 0 0 (fun _ => False) := by
  refine enp_ (by decide) rfl (Nat.le_of_ble_eq_true rfl) ?_
  intro p e s m below meth c ls X hl
  exact kM_isSheet_0 X x0 ls h hl

def M_isTold_77 (k16 : Sg → Int32 → Int32 → Int32 → Int32 → Option (Int32 × Sg)) (σ : Sg) (x1 : Int32) (x2 : Int32) (x4 : Int32) (t0 : Int32) : Option (Int32 × Sg) :=
  lt_ (x4 + (1 : Int32)) fun y_1 =>
  k16 σ x1 x2 t0 y_1
set_option maxRecDepth 100000 in
theorem kM_isTold_77 {p : Program} {l : Launch} {e : Env} {s : State} {m : MethodId} {args : Array Value} {below : List Frame} {meth : Method} {c : Code} {D : va_G} {cy : Nat → ClassId} {a : Nat → Nat} (X : cx_ cX12_isTold RX12 wsX12_isTold 5 (some .boolean) 16 a D cy xfM p s m args meth c) {k16 : Sg → Int32 → Int32 → Int32 → Int32 → Option (Int32 × Sg)} {r0 : Int32} {σ' : Sg} (hk16 : ∀ (σ : Sg) (x1 : Int32) (x2 : Int32) (x3 : Int32) (x4 : Int32) (H : Heap) (locs : List Loc) (ls : Array Slot), k16 σ x1 x2 x3 x4 = some (r0, σ') → iv_ 16 a D (shM cy a σ) s H locs → lv_has ls 5 [(0, .ref (a 0)), (1, .int x1), (2, .int x2), (3, .int x3), (4, .int x4)] → W p l e ({ frames := 4, cells := 0, slots := 0, locals := 89 }) s m args below meth c H locs 0 0 (MQ below (qg_ 16 a D (shM cy a σ') (some (.int r0)) s.heap.size) args s 0 0 (fr_ 16 a s.heap.size)) (F0 m 16 ls [])) : ∀ (σ : Sg) (x1 : Int32) (x2 : Int32) (x4 : Int32) (t0 : Int32) (H : Heap) (locs : List Loc) (ls : Array Slot), M_isTold_77 k16 σ x1 x2 x4 t0 = some (r0, σ') → iv_ 16 a D (shM cy a σ) s H locs → lv_has ls 5 [(0, .ref (a 0)), (1, .int x1), (2, .int x2), (4, .int x4)] → W p l e ({ frames := 4, cells := 0, slots := 0, locals := 89 }) s m args below meth c H locs 0 0 (MQ below (qg_ 16 a D (shM cy a σ') (some (.int r0)) s.heap.size) args s 0 0 (fr_ 16 a s.heap.size)) (F0 m 77 ls [.int t0]) := by
  obtain ⟨hx, hb, hr, hml, hown, hts, hlk, hK, hA, hXf⟩ := id X
  intro σ x1 x2 x4 t0 H locs ls h I hl
  unfold M_isTold_77 at h
  refine lv_istore_n (lv' := [(3, .int t0), (0, .ref (a 0)), (1, .int x1), (2, .int x2), (4, .int x4)]) hx hb dX12_isTold_77 rfl hl (by decide) rfl (fun ls hl => ?_)
  obtain ⟨y_1, e_2⟩ : ∃ q : Int32, q = x4 + (1 : Int32) := ⟨_, rfl⟩
  have h := lt_at h e_2
  refine lv_iinc (v := y_1) (lv' := [(4, .int y_1), (3, .int t0), (0, .ref (a 0)), (1, .int x1), (2, .int x2)]) hx hb dX12_isTold_78 hl (k := 4) rfl (by rw [e_2]; rfl) (by decide) rfl (fun ls hl => ?_)
  refine lv_goto (tgt := 16) hx hb dX12_isTold_81 (by decide) ?_
  exact hk16 σ x1 x2 t0 y_1 H locs ls h I (lv_sub hl [2, 3, 4, 1, 0] rfl)
def M_isTold_72 (k16 : Sg → Int32 → Int32 → Int32 → Int32 → Option (Int32 × Sg)) (σ : Sg) (x1 : Int32) (x2 : Int32) (x4 : Int32) : Option (Int32 × Sg) :=
  M_isTold_77 k16 σ x1 x2 x4 (1 : Int32)
set_option maxRecDepth 100000 in
theorem kM_isTold_72 {p : Program} {l : Launch} {e : Env} {s : State} {m : MethodId} {args : Array Value} {below : List Frame} {meth : Method} {c : Code} {D : va_G} {cy : Nat → ClassId} {a : Nat → Nat} (X : cx_ cX12_isTold RX12 wsX12_isTold 5 (some .boolean) 16 a D cy xfM p s m args meth c) {k16 : Sg → Int32 → Int32 → Int32 → Int32 → Option (Int32 × Sg)} {r0 : Int32} {σ' : Sg} (hk16 : ∀ (σ : Sg) (x1 : Int32) (x2 : Int32) (x3 : Int32) (x4 : Int32) (H : Heap) (locs : List Loc) (ls : Array Slot), k16 σ x1 x2 x3 x4 = some (r0, σ') → iv_ 16 a D (shM cy a σ) s H locs → lv_has ls 5 [(0, .ref (a 0)), (1, .int x1), (2, .int x2), (3, .int x3), (4, .int x4)] → W p l e ({ frames := 4, cells := 0, slots := 0, locals := 89 }) s m args below meth c H locs 0 0 (MQ below (qg_ 16 a D (shM cy a σ') (some (.int r0)) s.heap.size) args s 0 0 (fr_ 16 a s.heap.size)) (F0 m 16 ls [])) : ∀ (σ : Sg) (x1 : Int32) (x2 : Int32) (x4 : Int32) (H : Heap) (locs : List Loc) (ls : Array Slot), M_isTold_72 k16 σ x1 x2 x4 = some (r0, σ') → iv_ 16 a D (shM cy a σ) s H locs → lv_has ls 5 [(0, .ref (a 0)), (1, .int x1), (2, .int x2), (4, .int x4)] → W p l e ({ frames := 4, cells := 0, slots := 0, locals := 89 }) s m args below meth c H locs 0 0 (MQ below (qg_ 16 a D (shM cy a σ') (some (.int r0)) s.heap.size) args s 0 0 (fr_ 16 a s.heap.size)) (F0 m 72 ls []) := by
  obtain ⟨hx, hb, hr, hml, hown, hts, hlk, hK, hA, hXf⟩ := id X
  intro σ x1 x2 x4 H locs ls h I hl
  unfold M_isTold_72 at h
  refine lv_iconst (v := 1) hx hb dX12_isTold_72 (by decide) ?_
  refine lv_goto (tgt := 77) hx hb dX12_isTold_73 (by decide) ?_
  exact kM_isTold_77 X hk16 σ x1 x2 x4 (1 : Int32) H locs ls h I (lv_sub hl [0, 1, 2, 3] rfl)
def M_isTold_84  (σ : Sg) (x3 : Int32) : Option (Int32 × Sg) :=
  bi_ (M_copyRow_3_1_0 σ) fun _ σ_2 =>
  gd_ (bo_ x3) (some (x3, σ_2))
set_option maxRecDepth 100000 in
theorem kM_isTold_84 {p : Program} {l : Launch} {e : Env} {s : State} {m : MethodId} {args : Array Value} {below : List Frame} {meth : Method} {c : Code} {D : va_G} {cy : Nat → ClassId} {a : Nat → Nat} (X : cx_ cX12_isTold RX12 wsX12_isTold 5 (some .boolean) 16 a D cy xfM p s m args meth c)  {r0 : Int32} {σ' : Sg}  : ∀ (σ : Sg) (x3 : Int32) (H : Heap) (locs : List Loc) (ls : Array Slot), M_isTold_84 σ x3 = some (r0, σ') → iv_ 16 a D (shM cy a σ) s H locs → lv_has ls 5 [(0, .ref (a 0)), (3, .int x3)] → W p l e ({ frames := 4, cells := 0, slots := 0, locals := 89 }) s m args below meth c H locs 0 0 (MQ below (qg_ 16 a D (shM cy a σ') (some (.int r0)) s.heap.size) args s 0 0 (fr_ 16 a s.heap.size)) (F0 m 84 ls []) := by
  obtain ⟨hx, hb, hr, hml, hown, hts, hlk, hK, hA, hXf⟩ := id X
  intro σ x3 H locs ls h I hl
  unfold M_isTold_84 at h
  refine lv_aload_n hx hb dX12_isTold_84 rfl (lv_at hl 0 rfl) ?_
  refine ig_ (index := 16) X I (fun _ q => List.mem_cons_of_mem _ (List.mem_append_right _ q)) 0 (by decide) shM_0 rfl 2 (by decide) (by decide +kernel) rfl (v := .ref (a 3)) rfl dX12_isTold_85 ?_
  refine lv_aload_n hx hb dX12_isTold_88 rfl (lv_at hl 0 rfl) ?_
  refine ig_ (index := 7) X I (fun _ q => List.mem_cons_of_mem _ (List.mem_append_right _ q)) 0 (by decide) shM_0 rfl 0 (by decide) (by decide +kernel) rfl (v := .ref (a 1)) rfl dX12_isTold_89 ?_
  obtain ⟨_, σ_2, hc_1, h⟩ := bi_of h
  refine cv_ (rS_ (nn := 2) (As := [.ref (a 3), .ref (a 1)]) (rest := []) X xkM I (c_M_copyRow_3_1 hc_1 H.size) gX12_isTold_X12_copyRow rfl ⟨rfl, rfl⟩ (by decide +kernel) ⟨Nat.le_of_ble_eq_true rfl, Nat.le_of_ble_eq_true rfl⟩ rfl hl.1 rfl (Nat.le_of_ble_eq_true rfl) dX12_isTold_92) I (fun H locs I => ?_)
  refine lv_iload_n hx hb dX12_isTold_95 rfl (lv_at hl 1 rfl) ?_
  obtain ⟨g_3, h⟩ := gd_of h
  obtain ⟨rfl, rfl⟩ := re_s h
  exact rtz_ X I (bo_of g_3).1 dX12_isTold_96
def M_isTold_16 (k16 : Sg → Int32 → Int32 → Int32 → Int32 → Option (Int32 × Sg)) (σ : Sg) (x1 : Int32) (x2 : Int32) (x3 : Int32) (x4 : Int32) : Option (Int32 × Sg) :=
  gd_ (in_ x1 4) (
  if (rd_ σ 10 x1.toNatClampNeg) ≤ x4 then (M_isTold_84 σ x3)
  else (if x3 = 0 then (M_isTold_84 σ x3)
  else (bi_ (M_goesOn_0 σ) fun _ σ_5 =>
  lt_ ((((40 : Int32) * x1) + x4)) fun y_6 =>
  gd_ (in_ y_6 160) (
  if (rd_ σ_5 11 y_6.toNatClampNeg) = (-1 : Int32) then (M_isTold_72 k16 σ_5 x1 x2 x4)
  else (lt_ ((((40 : Int32) * x1) + x4)) fun y_10 =>
  gd_ (in_ y_10 160) (
  bi_ (M_its_0 σ_5 x2 (1 : Int32)) fun r_15 σ_14 =>
  if (rd_ σ_5 11 y_10.toNatClampNeg) = r_15 then (M_isTold_72 k16 σ_14 x1 x2 x4)
  else (M_isTold_77 k16 σ_14 x1 x2 x4 (0 : Int32))))))))
set_option maxRecDepth 100000 in
theorem kM_isTold_16 {p : Program} {l : Launch} {e : Env} {s : State} {m : MethodId} {args : Array Value} {below : List Frame} {meth : Method} {c : Code} {D : va_G} {cy : Nat → ClassId} {a : Nat → Nat} (X : cx_ cX12_isTold RX12 wsX12_isTold 5 (some .boolean) 16 a D cy xfM p s m args meth c) {k16 : Sg → Int32 → Int32 → Int32 → Int32 → Option (Int32 × Sg)} {r0 : Int32} {σ' : Sg} (hk16 : ∀ (σ : Sg) (x1 : Int32) (x2 : Int32) (x3 : Int32) (x4 : Int32) (H : Heap) (locs : List Loc) (ls : Array Slot), k16 σ x1 x2 x3 x4 = some (r0, σ') → iv_ 16 a D (shM cy a σ) s H locs → lv_has ls 5 [(0, .ref (a 0)), (1, .int x1), (2, .int x2), (3, .int x3), (4, .int x4)] → W p l e ({ frames := 4, cells := 0, slots := 0, locals := 89 }) s m args below meth c H locs 0 0 (MQ below (qg_ 16 a D (shM cy a σ') (some (.int r0)) s.heap.size) args s 0 0 (fr_ 16 a s.heap.size)) (F0 m 16 ls [])) : ∀ (σ : Sg) (x1 : Int32) (x2 : Int32) (x3 : Int32) (x4 : Int32) (H : Heap) (locs : List Loc) (ls : Array Slot), M_isTold_16 k16 σ x1 x2 x3 x4 = some (r0, σ') → iv_ 16 a D (shM cy a σ) s H locs → lv_has ls 5 [(0, .ref (a 0)), (1, .int x1), (2, .int x2), (3, .int x3), (4, .int x4)] → W p l e ({ frames := 4, cells := 0, slots := 0, locals := 89 }) s m args below meth c H locs 0 0 (MQ below (qg_ 16 a D (shM cy a σ') (some (.int r0)) s.heap.size) args s 0 0 (fr_ 16 a s.heap.size)) (F0 m 16 ls []) := by
  obtain ⟨hx, hb, hr, hml, hown, hts, hlk, hK, hA, hXf⟩ := id X
  intro σ x1 x2 x3 x4 H locs ls h I hl
  unfold M_isTold_16 at h
  refine lv_iload hx hb dX12_isTold_16 (lv_at hl 4 rfl) ?_
  refine lv_aload_n hx hb dX12_isTold_18 rfl (lv_at hl 0 rfl) ?_
  refine ig_ (index := 37) X I (fun _ q => List.mem_cons_of_mem _ (List.mem_append_right _ q)) 0 (by decide) shM_0 rfl 17 (by decide) (by decide +kernel) rfl (v := .ref (a 10)) rfl dX12_isTold_19 ?_
  refine lv_iload_n hx hb dX12_isTold_22 rfl (lv_at hl 1 rfl) ?_
  obtain ⟨g_1, h⟩ := gd_of h
  refine ia_ X I 10 (by decide) shM_10 (in_of g_1) (v0 := rd_ σ 10 x1.toNatClampNeg) rfl dX12_isTold_23 ?_
  refine lv_icmp_ge (tgt := 84) hx hb dX12_isTold_24 (by decide) (fun c_2 => ?_) (fun c_2 => ?_)
  · have h := if_t h c_2
    exact kM_isTold_84 X  σ x3 H locs ls h I (lv_sub hl [0, 3] rfl)
  · have h := if_f h c_2
    refine lv_iload_n hx hb dX12_isTold_27 rfl (lv_at hl 3 rfl) ?_
    refine lv_if_eq (tgt := 84) hx hb dX12_isTold_28 (by decide) (fun c_3 => ?_) (fun c_3 => ?_)
    · have h := if_t h c_3
      exact kM_isTold_84 X  σ x3 H locs ls h I (lv_sub hl [0, 3] rfl)
    · have h := if_f h c_3
      refine lv_aload_n hx hb dX12_isTold_31 rfl (lv_at hl 0 rfl) ?_
      obtain ⟨_, σ_5, hc_4, h⟩ := bi_of h
      refine cv_ (rV_ (nn := 0) (As := []) (rest := []) X xkM I (c_M_goesOn hc_4 H.size) gX12_isTold_X12_goesOn rfl ⟨rfl, rfl⟩ (by decide +kernel) ⟨Nat.le_of_ble_eq_true rfl, Nat.le_of_ble_eq_true rfl⟩ (by decide) shM_0 rfl rfl hl.1 rfl (Nat.le_of_ble_eq_true rfl) dX12_isTold_32) I (fun H locs I => ?_)
      refine lv_aload_n hx hb dX12_isTold_35 rfl (lv_at hl 0 rfl) ?_
      refine ig_ (index := 40) X I (fun _ q => List.mem_cons_of_mem _ (List.mem_append_right _ q)) 0 (by decide) shM_0 rfl 18 (by decide) (by decide +kernel) rfl (v := .ref (a 11)) rfl dX12_isTold_36 ?_
      refine lv_bipush (v := 40) hx hb dX12_isTold_39 (by decide) ?_
      refine lv_iload_n hx hb dX12_isTold_41 rfl (lv_at hl 1 rfl) ?_
      refine lv_imul hx hb dX12_isTold_42 ?_
      refine lv_iload hx hb dX12_isTold_43 (lv_at hl 4 rfl) ?_
      refine lv_iadd hx hb dX12_isTold_45 ?_
      refine lv_topi (fun y_6 e_7 => ?_)
      have h := lt_at h e_7
      obtain ⟨g_8, h⟩ := gd_of h
      refine ia_ X I 11 (by decide) shM_11 (in_of g_8) (v0 := rd_ σ_5 11 y_6.toNatClampNeg) rfl dX12_isTold_46 ?_
      refine lv_iconst (v := (-1)) hx hb dX12_isTold_47 (by decide) ?_
      refine lv_icmp_eq (tgt := 72) hx hb dX12_isTold_48 (by decide) (fun c_9 => ?_) (fun c_9 => ?_)
      · have h := if_t h c_9
        exact kM_isTold_72 X hk16 σ_5 x1 x2 x4 H locs ls h I (lv_sub hl [0, 1, 2, 4] rfl)
      · have h := if_f h c_9
        refine lv_aload_n hx hb dX12_isTold_51 rfl (lv_at hl 0 rfl) ?_
        refine ig_ (index := 40) X I (fun _ q => List.mem_cons_of_mem _ (List.mem_append_right _ q)) 0 (by decide) shM_0 rfl 18 (by decide) (by decide +kernel) rfl (v := .ref (a 11)) rfl dX12_isTold_52 ?_
        refine lv_bipush (v := 40) hx hb dX12_isTold_55 (by decide) ?_
        refine lv_iload_n hx hb dX12_isTold_57 rfl (lv_at hl 1 rfl) ?_
        refine lv_imul hx hb dX12_isTold_58 ?_
        refine lv_iload hx hb dX12_isTold_59 (lv_at hl 4 rfl) ?_
        refine lv_iadd hx hb dX12_isTold_61 ?_
        refine lv_topi (fun y_10 e_11 => ?_)
        have h := lt_at h e_11
        obtain ⟨g_12, h⟩ := gd_of h
        refine ia_ X I 11 (by decide) shM_11 (in_of g_12) (v0 := rd_ σ_5 11 y_10.toNatClampNeg) rfl dX12_isTold_62 ?_
        refine lv_aload_n hx hb dX12_isTold_63 rfl (lv_at hl 0 rfl) ?_
        refine lv_iload_n hx hb dX12_isTold_64 rfl (lv_at hl 2 rfl) ?_
        refine lv_iconst (v := 1) hx hb dX12_isTold_65 (by decide) ?_
        obtain ⟨r_15, σ_14, hc_13, h⟩ := bi_of h
        refine cg_ (rV_ (nn := 2) (As := [.int x2, .int (1 : Int32)]) (rest := [.int (rd_ σ_5 11 y_10.toNatClampNeg)]) X xkM I (c_M_its hc_13 H.size) gX12_isTold_X12_its rfl ⟨rfl, rfl⟩ (by decide +kernel) ⟨Nat.le_of_ble_eq_true rfl, Nat.le_of_ble_eq_true rfl⟩ (by decide) shM_0 rfl rfl hl.1 rfl (Nat.le_of_ble_eq_true rfl) dX12_isTold_66) I (fun H locs I => ?_)
        refine lv_icmp_ne (tgt := 76) hx hb dX12_isTold_69 (by decide) (fun c_16 => ?_) (fun c_16 => ?_)
        · have h := if_f h c_16
          refine lv_iconst (v := 0) hx hb dX12_isTold_76 (by decide) ?_
          exact kM_isTold_77 X hk16 σ_14 x1 x2 x4 (0 : Int32) H locs ls h I (lv_sub hl [0, 1, 2, 4] rfl)
        · have h := if_t h c_16
          exact kM_isTold_72 X hk16 σ_14 x1 x2 x4 H locs ls h I (lv_sub hl [0, 1, 2, 4] rfl)
set_option maxRecDepth 100000 in
theorem kM_isTold_16L {p : Program} {l : Launch} {e : Env} {s : State} {m : MethodId} {args : Array Value} {below : List Frame} {meth : Method} {c : Code} {D : va_G} {cy : Nat → ClassId} {a : Nat → Nat} (X : cx_ cX12_isTold RX12 wsX12_isTold 5 (some .boolean) 16 a D cy xfM p s m args meth c)  {r0 : Int32} {σ' : Sg}  : ∀ (n : Nat), ∀ (σ : Sg) (x1 : Int32) (x2 : Int32) (x3 : Int32) (x4 : Int32) (H : Heap) (locs : List Loc) (ls : Array Slot), lp_ (M_isTold_16) (fun _ _ _ _ _ => none) n σ x1 x2 x3 x4 = some (r0, σ') → iv_ 16 a D (shM cy a σ) s H locs → lv_has ls 5 [(0, .ref (a 0)), (1, .int x1), (2, .int x2), (3, .int x3), (4, .int x4)] → W p l e ({ frames := 4, cells := 0, slots := 0, locals := 89 }) s m args below meth c H locs 0 0 (MQ below (qg_ 16 a D (shM cy a σ') (some (.int r0)) s.heap.size) args s 0 0 (fr_ 16 a s.heap.size)) (F0 m 16 ls []) := by
  intro n
  induction n with
  | zero =>
    intro _ _ _ _ _ _ _ _ h
    exact absurd h (fun q => by cases (show (none : Option _) = some _ from q))
  | succ n ih => exact kM_isTold_16 X ih

def M_isTold_0  (σ : Sg) (x1 : Int32) (x2 : Int32) : Option (Int32 × Sg) :=
  bi_ (M_copyRow_1_3_0 σ) fun _ σ_2 =>
  lp_ M_isTold_16 (fun _ _ _ _ _ => none) FU σ_2 x1 x2 (1 : Int32) (0 : Int32)
set_option maxRecDepth 100000 in
theorem kM_isTold_0 {p : Program} {l : Launch} {e : Env} {s : State} {m : MethodId} {args : Array Value} {below : List Frame} {meth : Method} {c : Code} {D : va_G} {cy : Nat → ClassId} {a : Nat → Nat} (X : cx_ cX12_isTold RX12 wsX12_isTold 5 (some .boolean) 16 a D cy xfM p s m args meth c)  {r0 : Int32} {σ' : Sg}  : ∀ (σ : Sg) (x1 : Int32) (x2 : Int32) (H : Heap) (locs : List Loc) (ls : Array Slot), M_isTold_0 σ x1 x2 = some (r0, σ') → iv_ 16 a D (shM cy a σ) s H locs → lv_has ls 5 [(0, .ref (a 0)), (1, .int x1), (2, .int x2)] → W p l e ({ frames := 4, cells := 0, slots := 0, locals := 89 }) s m args below meth c H locs 0 0 (MQ below (qg_ 16 a D (shM cy a σ') (some (.int r0)) s.heap.size) args s 0 0 (fr_ 16 a s.heap.size)) (F0 m 0 ls []) := by
  obtain ⟨hx, hb, hr, hml, hown, hts, hlk, hK, hA, hXf⟩ := id X
  intro σ x1 x2 H locs ls h I hl
  unfold M_isTold_0 at h
  refine lv_aload_n hx hb dX12_isTold_0 rfl (lv_at hl 0 rfl) ?_
  refine ig_ (index := 7) X I (fun _ q => List.mem_cons_of_mem _ (List.mem_append_right _ q)) 0 (by decide) shM_0 rfl 0 (by decide) (by decide +kernel) rfl (v := .ref (a 1)) rfl dX12_isTold_1 ?_
  refine lv_aload_n hx hb dX12_isTold_4 rfl (lv_at hl 0 rfl) ?_
  refine ig_ (index := 16) X I (fun _ q => List.mem_cons_of_mem _ (List.mem_append_right _ q)) 0 (by decide) shM_0 rfl 2 (by decide) (by decide +kernel) rfl (v := .ref (a 3)) rfl dX12_isTold_5 ?_
  obtain ⟨_, σ_2, hc_1, h⟩ := bi_of h
  refine cv_ (rS_ (nn := 2) (As := [.ref (a 1), .ref (a 3)]) (rest := []) X xkM I (c_M_copyRow_1_3 hc_1 H.size) gX12_isTold_X12_copyRow rfl ⟨rfl, rfl⟩ (by decide +kernel) ⟨Nat.le_of_ble_eq_true rfl, Nat.le_of_ble_eq_true rfl⟩ rfl hl.1 rfl (Nat.le_of_ble_eq_true rfl) dX12_isTold_8) I (fun H locs I => ?_)
  refine lv_iconst (v := 1) hx hb dX12_isTold_11 (by decide) ?_
  refine lv_istore_n (lv' := [(3, .int (1 : Int32)), (0, .ref (a 0)), (1, .int x1), (2, .int x2)]) hx hb dX12_isTold_12 rfl hl (by decide) rfl (fun ls hl => ?_)
  refine lv_iconst (v := 0) hx hb dX12_isTold_13 (by decide) ?_
  refine lv_istore (lv' := [(4, .int (0 : Int32)), (3, .int (1 : Int32)), (0, .ref (a 0)), (1, .int x1), (2, .int x2)]) hx hb dX12_isTold_14 hl (by decide) rfl (fun ls hl => ?_)
  exact kM_isTold_16L X  FU σ_2 x1 x2 (1 : Int32) (0 : Int32) H locs ls h I (lv_sub hl [2, 3, 4, 1, 0] rfl)
theorem c_M_isTold {l : Launch} {D : va_G} {cy : Nat → ClassId} {a : Nat → Nat} {σ : Sg} {x1 : Int32} {x2 : Int32} {r0 : Int32} {σ' : Sg} (h : M_isTold_0 σ x1 x2 = some (r0, σ')) (sz : Nat) : Met l yX12_isTold wsX12_isTold ({ frames := 4, cells := 0, slots := 0, locals := 89 }) (va_Pc [.ref (a 0), .int x1, .int x2] (pr_ 16 a D cy (shM cy a σ) xfM sz)) (qg_ 16 a D (shM cy a σ') (some (.int r0)) sz) 0 0 (fr_ 16 a sz) := by
  refine ent_ (by decide) rfl (Nat.le_of_ble_eq_true rfl) ?_
  intro p e s m below meth c ls hsz X I hl
  subst hsz
  exact kM_isTold_0 X σ x1 x2 s.heap [] ls h I hl
