def M_fits_119 (k70 : Sg → Int32 → Int32 → Int32 → Int32 → Int32 → Int32 → Int32 → Int32 → Option (Int32 × Sg)) (σ : Sg) (x1 : Int32) (x2 : Int32) (x3 : Int32) (x4 : Int32) (x5 : Int32) (x6 : Int32) (x8 : Int32) (t0 : Int32) : Option (Int32 × Sg) :=
  lt_ (x8 + (-1 : Int32)) fun y_1 =>
  k70 σ x1 x2 x3 x4 x5 x6 t0 y_1
set_option maxRecDepth 100000 in
theorem kM_fits_119 {p : Program} {l : Launch} {e : Env} {s : State} {m : MethodId} {args : Array Value} {below : List Frame} {meth : Method} {c : Code} {D : va_G} {cy : Nat → ClassId} {a : Nat → Nat} (X : cx_ cX12_fits RX12 wsX12_fits 10 (some .int) 16 a D cy xfM p s m args meth c) {k70 : Sg → Int32 → Int32 → Int32 → Int32 → Int32 → Int32 → Int32 → Int32 → Option (Int32 × Sg)} {r0 : Int32} {σ' : Sg} (hk70 : ∀ (σ : Sg) (x1 : Int32) (x2 : Int32) (x3 : Int32) (x4 : Int32) (x5 : Int32) (x6 : Int32) (x7 : Int32) (x8 : Int32) (H : Heap) (locs : List Loc) (ls : Array Slot), k70 σ x1 x2 x3 x4 x5 x6 x7 x8 = some (r0, σ') → iv_ 16 a D (shM cy a σ) s H locs → lv_has ls 10 [(0, .ref (a 0)), (1, .int x1), (2, .int x2), (3, .int x3), (4, .int x4), (5, .int x5), (6, .int x6), (7, .int x7), (8, .int x8)] → W p l e ({ frames := 5, cells := 0, slots := 0, locals := 113 }) s m args below meth c H locs 0 0 (MQ below (qg_ 16 a D (shM cy a σ') (some (.int r0)) s.heap.size) args s 0 0 (fr_ 16 a s.heap.size)) (F0 m 70 ls [])) : ∀ (σ : Sg) (x1 : Int32) (x2 : Int32) (x3 : Int32) (x4 : Int32) (x5 : Int32) (x6 : Int32) (x8 : Int32) (t0 : Int32) (H : Heap) (locs : List Loc) (ls : Array Slot), M_fits_119 k70 σ x1 x2 x3 x4 x5 x6 x8 t0 = some (r0, σ') → iv_ 16 a D (shM cy a σ) s H locs → lv_has ls 10 [(0, .ref (a 0)), (1, .int x1), (2, .int x2), (3, .int x3), (4, .int x4), (5, .int x5), (6, .int x6), (8, .int x8)] → W p l e ({ frames := 5, cells := 0, slots := 0, locals := 113 }) s m args below meth c H locs 0 0 (MQ below (qg_ 16 a D (shM cy a σ') (some (.int r0)) s.heap.size) args s 0 0 (fr_ 16 a s.heap.size)) (F0 m 119 ls [.int t0]) := by
  obtain ⟨hx, hb, hr, hml, hown, hts, hlk, hK, hA, hXf⟩ := id X
  intro σ x1 x2 x3 x4 x5 x6 x8 t0 H locs ls h I hl
  unfold M_fits_119 at h
  refine lv_istore (lv' := [(7, .int t0), (0, .ref (a 0)), (1, .int x1), (2, .int x2), (3, .int x3), (4, .int x4), (5, .int x5), (6, .int x6), (8, .int x8)]) hx hb dX12_fits_119 hl (by decide) rfl (fun ls hl => ?_)
  obtain ⟨y_1, e_2⟩ : ∃ q : Int32, q = x8 + (-1 : Int32) := ⟨_, rfl⟩
  have h := lt_at h e_2
  refine lv_iinc (v := y_1) (lv' := [(8, .int y_1), (7, .int t0), (0, .ref (a 0)), (1, .int x1), (2, .int x2), (3, .int x3), (4, .int x4), (5, .int x5), (6, .int x6)]) hx hb dX12_fits_121 hl (k := 8) rfl (by rw [e_2]; rfl) (by decide) rfl (fun ls hl => ?_)
  refine lv_goto (tgt := 70) hx hb dX12_fits_124 (by decide) ?_
  exact hk70 σ x1 x2 x3 x4 x5 x6 t0 y_1 H locs ls h I (lv_sub hl [2, 3, 4, 5, 6, 7, 8, 1, 0] rfl)
def M_fits_104 (k70 : Sg → Int32 → Int32 → Int32 → Int32 → Int32 → Int32 → Int32 → Int32 → Option (Int32 × Sg)) (σ : Sg) (x1 : Int32) (x2 : Int32) (x3 : Int32) (x4 : Int32) (x5 : Int32) (x7 : Int32) (x8 : Int32) (x9 : Int32) (t1 : Int32) (t0 : Int32) : Option (Int32 × Sg) :=
  lt_ ((t0 + t1)) fun y_1 =>
  if x9 = 0 then (M_fits_119 k70 σ x1 x2 x3 x4 x5 y_1 x8 x7)
  else (M_fits_119 k70 σ x1 x2 x3 x4 x5 y_1 x8 x8)
set_option maxRecDepth 100000 in
theorem kM_fits_104 {p : Program} {l : Launch} {e : Env} {s : State} {m : MethodId} {args : Array Value} {below : List Frame} {meth : Method} {c : Code} {D : va_G} {cy : Nat → ClassId} {a : Nat → Nat} (X : cx_ cX12_fits RX12 wsX12_fits 10 (some .int) 16 a D cy xfM p s m args meth c) {k70 : Sg → Int32 → Int32 → Int32 → Int32 → Int32 → Int32 → Int32 → Int32 → Option (Int32 × Sg)} {r0 : Int32} {σ' : Sg} (hk70 : ∀ (σ : Sg) (x1 : Int32) (x2 : Int32) (x3 : Int32) (x4 : Int32) (x5 : Int32) (x6 : Int32) (x7 : Int32) (x8 : Int32) (H : Heap) (locs : List Loc) (ls : Array Slot), k70 σ x1 x2 x3 x4 x5 x6 x7 x8 = some (r0, σ') → iv_ 16 a D (shM cy a σ) s H locs → lv_has ls 10 [(0, .ref (a 0)), (1, .int x1), (2, .int x2), (3, .int x3), (4, .int x4), (5, .int x5), (6, .int x6), (7, .int x7), (8, .int x8)] → W p l e ({ frames := 5, cells := 0, slots := 0, locals := 113 }) s m args below meth c H locs 0 0 (MQ below (qg_ 16 a D (shM cy a σ') (some (.int r0)) s.heap.size) args s 0 0 (fr_ 16 a s.heap.size)) (F0 m 70 ls [])) : ∀ (σ : Sg) (x1 : Int32) (x2 : Int32) (x3 : Int32) (x4 : Int32) (x5 : Int32) (x7 : Int32) (x8 : Int32) (x9 : Int32) (t1 : Int32) (t0 : Int32) (H : Heap) (locs : List Loc) (ls : Array Slot), M_fits_104 k70 σ x1 x2 x3 x4 x5 x7 x8 x9 t1 t0 = some (r0, σ') → iv_ 16 a D (shM cy a σ) s H locs → lv_has ls 10 [(0, .ref (a 0)), (1, .int x1), (2, .int x2), (3, .int x3), (4, .int x4), (5, .int x5), (7, .int x7), (8, .int x8), (9, .int x9)] → W p l e ({ frames := 5, cells := 0, slots := 0, locals := 113 }) s m args below meth c H locs 0 0 (MQ below (qg_ 16 a D (shM cy a σ') (some (.int r0)) s.heap.size) args s 0 0 (fr_ 16 a s.heap.size)) (F0 m 104 ls [.int t1, .int t0]) := by
  obtain ⟨hx, hb, hr, hml, hown, hts, hlk, hK, hA, hXf⟩ := id X
  intro σ x1 x2 x3 x4 x5 x7 x8 x9 t1 t0 H locs ls h I hl
  unfold M_fits_104 at h
  refine lv_iadd hx hb dX12_fits_104 ?_
  refine lv_topi (fun y_1 e_2 => ?_)
  have h := lt_at h e_2
  refine lv_istore (lv' := [(6, .int y_1), (0, .ref (a 0)), (1, .int x1), (2, .int x2), (3, .int x3), (4, .int x4), (5, .int x5), (7, .int x7), (8, .int x8), (9, .int x9)]) hx hb dX12_fits_105 hl (by decide) rfl (fun ls hl => ?_)
  refine lv_iload hx hb dX12_fits_107 (lv_at hl 9 rfl) ?_
  refine lv_if_eq (tgt := 117) hx hb dX12_fits_109 (by decide) (fun c_3 => ?_) (fun c_3 => ?_)
  · have h := if_t h c_3
    refine lv_iload hx hb dX12_fits_117 (lv_at hl 7 rfl) ?_
    exact kM_fits_119 X hk70 σ x1 x2 x3 x4 x5 y_1 x8 x7 H locs ls h I (lv_sub hl [1, 2, 3, 4, 5, 6, 0, 8] rfl)
  · have h := if_f h c_3
    refine lv_iload hx hb dX12_fits_112 (lv_at hl 8 rfl) ?_
    refine lv_goto (tgt := 119) hx hb dX12_fits_114 (by decide) ?_
    exact kM_fits_119 X hk70 σ x1 x2 x3 x4 x5 y_1 x8 x8 H locs ls h I (lv_sub hl [1, 2, 3, 4, 5, 6, 0, 8] rfl)
def M_fits_70 (k70 : Sg → Int32 → Int32 → Int32 → Int32 → Int32 → Int32 → Int32 → Int32 → Option (Int32 × Sg)) (σ : Sg) (x1 : Int32) (x2 : Int32) (x3 : Int32) (x4 : Int32) (x5 : Int32) (x6 : Int32) (x7 : Int32) (x8 : Int32) : Option (Int32 × Sg) :=
  if x8 < 0 then (gd_ (in_ x4 64) (
  lt_ (wr_ σ 1 x4.toNatClampNeg x5) fun σ_3 =>
  if x3 = 0 then (some (x6, σ_3))
  else (some (x7, σ_3))))
  else (gd_ (in_ x4 64) (
  lt_ (wr_ σ 1 x4.toNatClampNeg x8) fun σ_7 =>
  bi_ (M_isTold_0 σ_7 x1 x2) fun r_11 σ_10 =>
  if r_11 = 0 then (M_fits_104 k70 σ_10 x1 x2 x3 x4 x5 x7 x8 r_11 (0 : Int32) x6)
  else (M_fits_104 k70 σ_10 x1 x2 x3 x4 x5 x7 x8 r_11 (1 : Int32) x6)))
set_option maxRecDepth 100000 in
theorem kM_fits_70 {p : Program} {l : Launch} {e : Env} {s : State} {m : MethodId} {args : Array Value} {below : List Frame} {meth : Method} {c : Code} {D : va_G} {cy : Nat → ClassId} {a : Nat → Nat} (X : cx_ cX12_fits RX12 wsX12_fits 10 (some .int) 16 a D cy xfM p s m args meth c) {k70 : Sg → Int32 → Int32 → Int32 → Int32 → Int32 → Int32 → Int32 → Int32 → Option (Int32 × Sg)} {r0 : Int32} {σ' : Sg} (hk70 : ∀ (σ : Sg) (x1 : Int32) (x2 : Int32) (x3 : Int32) (x4 : Int32) (x5 : Int32) (x6 : Int32) (x7 : Int32) (x8 : Int32) (H : Heap) (locs : List Loc) (ls : Array Slot), k70 σ x1 x2 x3 x4 x5 x6 x7 x8 = some (r0, σ') → iv_ 16 a D (shM cy a σ) s H locs → lv_has ls 10 [(0, .ref (a 0)), (1, .int x1), (2, .int x2), (3, .int x3), (4, .int x4), (5, .int x5), (6, .int x6), (7, .int x7), (8, .int x8)] → W p l e ({ frames := 5, cells := 0, slots := 0, locals := 113 }) s m args below meth c H locs 0 0 (MQ below (qg_ 16 a D (shM cy a σ') (some (.int r0)) s.heap.size) args s 0 0 (fr_ 16 a s.heap.size)) (F0 m 70 ls [])) : ∀ (σ : Sg) (x1 : Int32) (x2 : Int32) (x3 : Int32) (x4 : Int32) (x5 : Int32) (x6 : Int32) (x7 : Int32) (x8 : Int32) (H : Heap) (locs : List Loc) (ls : Array Slot), M_fits_70 k70 σ x1 x2 x3 x4 x5 x6 x7 x8 = some (r0, σ') → iv_ 16 a D (shM cy a σ) s H locs → lv_has ls 10 [(0, .ref (a 0)), (1, .int x1), (2, .int x2), (3, .int x3), (4, .int x4), (5, .int x5), (6, .int x6), (7, .int x7), (8, .int x8)] → W p l e ({ frames := 5, cells := 0, slots := 0, locals := 113 }) s m args below meth c H locs 0 0 (MQ below (qg_ 16 a D (shM cy a σ') (some (.int r0)) s.heap.size) args s 0 0 (fr_ 16 a s.heap.size)) (F0 m 70 ls []) := by
  obtain ⟨hx, hb, hr, hml, hown, hts, hlk, hK, hA, hXf⟩ := id X
  intro σ x1 x2 x3 x4 x5 x6 x7 x8 H locs ls h I hl
  unfold M_fits_70 at h
  refine lv_iload hx hb dX12_fits_70 (lv_at hl 8 rfl) ?_
  refine lv_if_lt (tgt := 127) hx hb dX12_fits_72 (by decide) (fun c_1 => ?_) (fun c_1 => ?_)
  · have h := if_t h c_1
    refine lv_aload_n hx hb dX12_fits_127 rfl (lv_at hl 0 rfl) ?_
    refine ig_ (index := 7) X I (fun _ q => List.mem_cons_of_mem _ (List.mem_append_right _ q)) 0 (by decide) shM_0 rfl 0 (by decide) (by decide +kernel) rfl (v := .ref (a 1)) rfl dX12_fits_128 ?_
    refine lv_iload hx hb dX12_fits_131 (lv_at hl 4 rfl) ?_
    refine lv_iload hx hb dX12_fits_133 (lv_at hl 5 rfl) ?_
    obtain ⟨g_2, h⟩ := gd_of h
    refine is_ (σ2 := wr_ σ 1 x4.toNatClampNeg x5) X I 1 (by decide) shM_1 (in_of g_2) shM_st_1 dX12_fits_135 (fun σ_3 H locs e_4 I => ?_)
    have h := lt_at h e_4
    refine lv_iload_n hx hb dX12_fits_136 rfl (lv_at hl 3 rfl) ?_
    refine lv_if_ne (tgt := 145) hx hb dX12_fits_137 (by decide) (fun c_5 => ?_) (fun c_5 => ?_)
    · have h := if_f h c_5
      refine lv_iload hx hb dX12_fits_145 (lv_at hl 7 rfl) ?_
      obtain ⟨rfl, rfl⟩ := re_s h
      exact rti_ X I dX12_fits_147
    · have h := if_t h c_5
      refine lv_iload hx hb dX12_fits_140 (lv_at hl 6 rfl) ?_
      refine lv_goto (tgt := 147) hx hb dX12_fits_142 (by decide) ?_
      obtain ⟨rfl, rfl⟩ := re_s h
      exact rti_ X I dX12_fits_147
  · have h := if_f h c_1
    refine lv_aload_n hx hb dX12_fits_75 rfl (lv_at hl 0 rfl) ?_
    refine ig_ (index := 7) X I (fun _ q => List.mem_cons_of_mem _ (List.mem_append_right _ q)) 0 (by decide) shM_0 rfl 0 (by decide) (by decide +kernel) rfl (v := .ref (a 1)) rfl dX12_fits_76 ?_
    refine lv_iload hx hb dX12_fits_79 (lv_at hl 4 rfl) ?_
    refine lv_iload hx hb dX12_fits_81 (lv_at hl 8 rfl) ?_
    obtain ⟨g_6, h⟩ := gd_of h
    refine is_ (σ2 := wr_ σ 1 x4.toNatClampNeg x8) X I 1 (by decide) shM_1 (in_of g_6) shM_st_1 dX12_fits_83 (fun σ_7 H locs e_8 I => ?_)
    have h := lt_at h e_8
    refine lv_aload_n hx hb dX12_fits_84 rfl (lv_at hl 0 rfl) ?_
    refine lv_iload_n hx hb dX12_fits_85 rfl (lv_at hl 1 rfl) ?_
    refine lv_iload_n hx hb dX12_fits_86 rfl (lv_at hl 2 rfl) ?_
    obtain ⟨r_11, σ_10, hc_9, h⟩ := bi_of h
    refine cg_ (rV_ (nn := 2) (As := [.int x1, .int x2]) (rest := []) X xkM I (c_M_isTold hc_9 H.size) gX12_fits_X12_isTold rfl ⟨rfl, rfl⟩ (by decide +kernel) ⟨Nat.le_of_ble_eq_true rfl, Nat.le_of_ble_eq_true rfl⟩ (by decide) shM_0 rfl rfl hl.1 rfl (Nat.le_of_ble_eq_true rfl) dX12_fits_87) I (fun H locs I => ?_)
    refine lv_istore (lv' := [(9, .int r_11), (0, .ref (a 0)), (1, .int x1), (2, .int x2), (3, .int x3), (4, .int x4), (5, .int x5), (6, .int x6), (7, .int x7), (8, .int x8)]) hx hb dX12_fits_90 hl (by decide) rfl (fun ls hl => ?_)
    refine lv_iload hx hb dX12_fits_92 (lv_at hl 7 rfl) ?_
    refine lv_iload hx hb dX12_fits_94 (lv_at hl 0 rfl) ?_
    refine lv_if_eq (tgt := 103) hx hb dX12_fits_96 (by decide) (fun c_12 => ?_) (fun c_12 => ?_)
    · have h := if_t h c_12
      refine lv_iconst (v := 0) hx hb dX12_fits_103 (by decide) ?_
      exact kM_fits_104 X hk70 σ_10 x1 x2 x3 x4 x5 x7 x8 r_11 (0 : Int32) x6 H locs ls h I (lv_sub hl [1, 2, 3, 4, 5, 6, 8, 9, 0] rfl)
    · have h := if_f h c_12
      refine lv_iconst (v := 1) hx hb dX12_fits_99 (by decide) ?_
      refine lv_goto (tgt := 104) hx hb dX12_fits_100 (by decide) ?_
      exact kM_fits_104 X hk70 σ_10 x1 x2 x3 x4 x5 x7 x8 r_11 (1 : Int32) x6 H locs ls h I (lv_sub hl [1, 2, 3, 4, 5, 6, 8, 9, 0] rfl)
set_option maxRecDepth 100000 in
theorem kM_fits_70L {p : Program} {l : Launch} {e : Env} {s : State} {m : MethodId} {args : Array Value} {below : List Frame} {meth : Method} {c : Code} {D : va_G} {cy : Nat → ClassId} {a : Nat → Nat} (X : cx_ cX12_fits RX12 wsX12_fits 10 (some .int) 16 a D cy xfM p s m args meth c)  {r0 : Int32} {σ' : Sg}  : ∀ (n : Nat), ∀ (σ : Sg) (x1 : Int32) (x2 : Int32) (x3 : Int32) (x4 : Int32) (x5 : Int32) (x6 : Int32) (x7 : Int32) (x8 : Int32) (H : Heap) (locs : List Loc) (ls : Array Slot), lp_ (M_fits_70) (fun _ _ _ _ _ _ _ _ _ => none) n σ x1 x2 x3 x4 x5 x6 x7 x8 = some (r0, σ') → iv_ 16 a D (shM cy a σ) s H locs → lv_has ls 10 [(0, .ref (a 0)), (1, .int x1), (2, .int x2), (3, .int x3), (4, .int x4), (5, .int x5), (6, .int x6), (7, .int x7), (8, .int x8)] → W p l e ({ frames := 5, cells := 0, slots := 0, locals := 113 }) s m args below meth c H locs 0 0 (MQ below (qg_ 16 a D (shM cy a σ') (some (.int r0)) s.heap.size) args s 0 0 (fr_ 16 a s.heap.size)) (F0 m 70 ls []) := by
  intro n
  induction n with
  | zero =>
    intro _ _ _ _ _ _ _ _ _ _ _ _ h
    exact absurd h (fun q => by cases (show (none : Option _) = some _ from q))
  | succ n ih => exact kM_fits_70 X ih

def M_fits_0  (σ : Sg) (x1 : Int32) (x2 : Int32) (x3 : Int32) : Option (Int32 × Sg) :=
  bp_ (M_isSheet_0 x1) fun r_2 =>
  if r_2 = 0 then (some ((-1 : Int32), σ))
  else (bi_ (M_isOne_0 σ x2) fun r_6 σ_5 =>
  if r_6 = 0 then (some ((-1 : Int32), σ_5))
  else (bp_ (M_isIn_0 (x3).toInt64 (0 : Int64) (1 : Int64)) fun r_9 =>
  if r_9 = 0 then (some ((-1 : Int32), σ_5))
  else (gd_ (in_ x1 4) (
  if 0 ≤ (rd_ σ_5 9 x1.toNatClampNeg) then (lt_ ((((16 : Int32) + ((6 : Int32) * x2)) + (5 : Int32))) fun y_13 =>
  gd_ (in_ y_13 64) (
  lt_ ((rd_ σ_5 1 y_13.toNatClampNeg)) fun y_16 =>
  lp_ M_fits_70 (fun _ _ _ _ _ _ _ _ _ => none) FU σ_5 x1 x2 x3 y_13 y_16 (0 : Int32) (-3 : Int32) (7 : Int32)))
  else (some ((-11 : Int32), σ_5))))))
set_option maxRecDepth 100000 in
theorem kM_fits_0 {p : Program} {l : Launch} {e : Env} {s : State} {m : MethodId} {args : Array Value} {below : List Frame} {meth : Method} {c : Code} {D : va_G} {cy : Nat → ClassId} {a : Nat → Nat} (X : cx_ cX12_fits RX12 wsX12_fits 10 (some .int) 16 a D cy xfM p s m args meth c)  {r0 : Int32} {σ' : Sg}  : ∀ (σ : Sg) (x1 : Int32) (x2 : Int32) (x3 : Int32) (H : Heap) (locs : List Loc) (ls : Array Slot), M_fits_0 σ x1 x2 x3 = some (r0, σ') → iv_ 16 a D (shM cy a σ) s H locs → lv_has ls 10 [(0, .ref (a 0)), (1, .int x1), (2, .int x2), (3, .int x3)] → W p l e ({ frames := 5, cells := 0, slots := 0, locals := 113 }) s m args below meth c H locs 0 0 (MQ below (qg_ 16 a D (shM cy a σ') (some (.int r0)) s.heap.size) args s 0 0 (fr_ 16 a s.heap.size)) (F0 m 0 ls []) := by
  obtain ⟨hx, hb, hr, hml, hown, hts, hlk, hK, hA, hXf⟩ := id X
  intro σ x1 x2 x3 H locs ls h I hl
  unfold M_fits_0 at h
  refine lv_iload_n hx hb dX12_fits_0 rfl (lv_at hl 1 rfl) ?_
  obtain ⟨r_2, hc_1, h⟩ := bp_of h
  refine cp_ (rP_ (nn := 1) (As := [.int x1]) (rest := []) ⟨hx, hb, hml, hown, hts⟩ (c_M_isSheet hc_1) gX12_fits_X12_isSheet rfl ⟨rfl, rfl⟩ (by decide +kernel) ⟨Nat.le_of_ble_eq_true rfl, Nat.le_of_ble_eq_true rfl⟩ rfl hl.1 rfl (Nat.le_of_ble_eq_true rfl) dX12_fits_1 ⟨Nat.zero_le _, Nat.zero_le _⟩) ?_
  refine lv_if_eq (tgt := 25) hx hb dX12_fits_4 (by decide) (fun c_3 => ?_) (fun c_3 => ?_)
  · have h := if_t h c_3
    refine lv_iconst (v := (-1)) hx hb dX12_fits_25 (by decide) ?_
    obtain ⟨rfl, rfl⟩ := re_s h
    exact rti_ X I dX12_fits_26
  · have h := if_f h c_3
    refine lv_aload_n hx hb dX12_fits_7 rfl (lv_at hl 0 rfl) ?_
    refine lv_iload_n hx hb dX12_fits_8 rfl (lv_at hl 2 rfl) ?_
    obtain ⟨r_6, σ_5, hc_4, h⟩ := bi_of h
    refine cg_ (rV_ (nn := 1) (As := [.int x2]) (rest := []) X xkM I (c_M_isOne hc_4 H.size) gX12_fits_X12_isOne rfl ⟨rfl, rfl⟩ (by decide +kernel) ⟨Nat.le_of_ble_eq_true rfl, Nat.le_of_ble_eq_true rfl⟩ (by decide) shM_0 rfl rfl hl.1 rfl (Nat.le_of_ble_eq_true rfl) dX12_fits_9) I (fun H locs I => ?_)
    refine lv_if_eq (tgt := 25) hx hb dX12_fits_12 (by decide) (fun c_7 => ?_) (fun c_7 => ?_)
    · have h := if_t h c_7
      refine lv_iconst (v := (-1)) hx hb dX12_fits_25 (by decide) ?_
      obtain ⟨rfl, rfl⟩ := re_s h
      exact rti_ X I dX12_fits_26
    · have h := if_f h c_7
      refine lv_iload_n hx hb dX12_fits_15 rfl (lv_at hl 3 rfl) ?_
      refine lv_i2l hx hb dX12_fits_16 rfl ?_
      refine lv_lconst (v := 0) hx hb dX12_fits_17 (by decide) ?_
      refine lv_lconst (v := 1) hx hb dX12_fits_18 (by decide) ?_
      obtain ⟨r_9, hc_8, h⟩ := bp_of h
      refine cp_ (rP_ (nn := 3) (As := [.long (x3).toInt64, .long (0 : Int64), .long (1 : Int64)]) (rest := []) ⟨hx, hb, hml, hown, hts⟩ (c_M_isIn hc_8) gX12_fits_X12_isIn rfl ⟨rfl, rfl⟩ (by decide +kernel) ⟨Nat.le_of_ble_eq_true rfl, Nat.le_of_ble_eq_true rfl⟩ rfl hl.1 rfl (Nat.le_of_ble_eq_true rfl) dX12_fits_19 ⟨Nat.zero_le _, Nat.zero_le _⟩) ?_
      refine lv_if_ne (tgt := 27) hx hb dX12_fits_22 (by decide) (fun c_10 => ?_) (fun c_10 => ?_)
      · have h := if_f h c_10
        refine lv_aload_n hx hb dX12_fits_27 rfl (lv_at hl 0 rfl) ?_
        refine ig_ (index := 34) X I (fun _ q => List.mem_cons_of_mem _ (List.mem_append_right _ q)) 0 (by decide) shM_0 rfl 16 (by decide) (by decide +kernel) rfl (v := .ref (a 9)) rfl dX12_fits_28 ?_
        refine lv_iload_n hx hb dX12_fits_31 rfl (lv_at hl 1 rfl) ?_
        obtain ⟨g_11, h⟩ := gd_of h
        refine ia_ X I 9 (by decide) shM_9 (in_of g_11) (v0 := rd_ σ_5 9 x1.toNatClampNeg) rfl dX12_fits_32 ?_
        refine lv_if_ge (tgt := 39) hx hb dX12_fits_33 (by decide) (fun c_12 => ?_) (fun c_12 => ?_)
        · have h := if_t h c_12
          refine lv_bipush (v := 16) hx hb dX12_fits_39 (by decide) ?_
          refine lv_bipush (v := 6) hx hb dX12_fits_41 (by decide) ?_
          refine lv_iload_n hx hb dX12_fits_43 rfl (lv_at hl 2 rfl) ?_
          refine lv_imul hx hb dX12_fits_44 ?_
          refine lv_iadd hx hb dX12_fits_45 ?_
          refine lv_iconst (v := 5) hx hb dX12_fits_46 (by decide) ?_
          refine lv_iadd hx hb dX12_fits_47 ?_
          refine lv_topi (fun y_13 e_14 => ?_)
          have h := lt_at h e_14
          refine lv_istore (lv' := [(4, .int y_13), (0, .ref (a 0)), (1, .int x1), (2, .int x2), (3, .int x3)]) hx hb dX12_fits_48 hl (by decide) rfl (fun ls hl => ?_)
          refine lv_aload_n hx hb dX12_fits_50 rfl (lv_at hl 1 rfl) ?_
          refine ig_ (index := 7) X I (fun _ q => List.mem_cons_of_mem _ (List.mem_append_right _ q)) 0 (by decide) shM_0 rfl 0 (by decide) (by decide +kernel) rfl (v := .ref (a 1)) rfl dX12_fits_51 ?_
          refine lv_iload hx hb dX12_fits_54 (lv_at hl 0 rfl) ?_
          obtain ⟨g_15, h⟩ := gd_of h
          refine ia_ X I 1 (by decide) shM_1 (in_of g_15) (v0 := rd_ σ_5 1 y_13.toNatClampNeg) rfl dX12_fits_56 ?_
          refine lv_topi (fun y_16 e_17 => ?_)
          have h := lt_at h e_17
          refine lv_istore (lv' := [(5, .int y_16), (4, .int y_13), (0, .ref (a 0)), (1, .int x1), (2, .int x2), (3, .int x3)]) hx hb dX12_fits_57 hl (by decide) rfl (fun ls hl => ?_)
          refine lv_iconst (v := 0) hx hb dX12_fits_59 (by decide) ?_
          refine lv_istore (lv' := [(6, .int (0 : Int32)), (5, .int y_16), (4, .int y_13), (0, .ref (a 0)), (1, .int x1), (2, .int x2), (3, .int x3)]) hx hb dX12_fits_60 hl (by decide) rfl (fun ls hl => ?_)
          refine lv_bipush (v := (-3)) hx hb dX12_fits_62 (by decide) ?_
          refine lv_istore (lv' := [(7, .int (-3 : Int32)), (6, .int (0 : Int32)), (5, .int y_16), (4, .int y_13), (0, .ref (a 0)), (1, .int x1), (2, .int x2), (3, .int x3)]) hx hb dX12_fits_64 hl (by decide) rfl (fun ls hl => ?_)
          refine lv_bipush (v := 7) hx hb dX12_fits_66 (by decide) ?_
          refine lv_istore (lv' := [(8, .int (7 : Int32)), (7, .int (-3 : Int32)), (6, .int (0 : Int32)), (5, .int y_16), (4, .int y_13), (0, .ref (a 0)), (1, .int x1), (2, .int x2), (3, .int x3)]) hx hb dX12_fits_68 hl (by decide) rfl (fun ls hl => ?_)
          exact kM_fits_70L X  FU σ_5 x1 x2 x3 y_13 y_16 (0 : Int32) (-3 : Int32) (7 : Int32) H locs ls h I (lv_sub hl [5, 6, 7, 8, 4, 3, 2, 1, 0] rfl)
        · have h := if_f h c_12
          refine lv_bipush (v := (-11)) hx hb dX12_fits_36 (by decide) ?_
          obtain ⟨rfl, rfl⟩ := re_s h
          exact rti_ X I dX12_fits_38
      · have h := if_t h c_10
        refine lv_iconst (v := (-1)) hx hb dX12_fits_25 (by decide) ?_
        obtain ⟨rfl, rfl⟩ := re_s h
        exact rti_ X I dX12_fits_26
theorem c_M_fits {l : Launch} {D : va_G} {cy : Nat → ClassId} {a : Nat → Nat} {σ : Sg} {x1 : Int32} {x2 : Int32} {x3 : Int32} {r0 : Int32} {σ' : Sg} (h : M_fits_0 σ x1 x2 x3 = some (r0, σ')) (sz : Nat) : Met l yX12_fits wsX12_fits ({ frames := 5, cells := 0, slots := 0, locals := 113 }) (va_Pc [.ref (a 0), .int x1, .int x2, .int x3] (pr_ 16 a D cy (shM cy a σ) xfM sz)) (qg_ 16 a D (shM cy a σ') (some (.int r0)) sz) 0 0 (fr_ 16 a sz) := by
  refine ent_ (by decide) rfl (Nat.le_of_ble_eq_true rfl) ?_
  intro p e s m below meth c ls hsz X I hl
  subst hsz
  exact kM_fits_0 X σ x1 x2 x3 s.heap [] ls h I hl

def M_product_4 (k4 : Int32 → Int64 → Int32 → Option Int64) (x0 : Int32) (x1 : Int64) (x3 : Int32) : Option Int64 :=
  if x0 < x3 then (some (x1))
  else (lt_ ((x1 * (x3).toInt64)) fun y_2 =>
  lt_ (x3 + (1 : Int32)) fun y_4 =>
  k4 x0 y_2 y_4)
set_option maxRecDepth 100000 in
theorem kM_product_4 {p : Program} {l : Launch} {e : Env} {s : State} {m : MethodId} {args : Array Value} {below : List Frame} {meth : Method} {c : Code} (X : px_ cX12_product RX12 wsX12_product 4 (some .long) p s m args meth c) {k4 : Int32 → Int64 → Int32 → Option Int64} {r0 : Int64} (hk4 : ∀ (x0 : Int32) (x1 : Int64) (x3 : Int32) (ls : Array Slot), k4 x0 x1 x3 = some r0 → lv_has ls 4 [(0, .int x0), (1, .long x1), (3, .int x3)] → W p l e ({ frames := 0, cells := 0, slots := 0, locals := 0 }) s m args below meth c s.heap [] 0 0 (MQ below (qp_ (some (.long r0))) args s 0 0 (fun _ => False)) (F0 m 4 ls [])) : ∀ (x0 : Int32) (x1 : Int64) (x3 : Int32) (ls : Array Slot), M_product_4 k4 x0 x1 x3 = some r0 → lv_has ls 4 [(0, .int x0), (1, .long x1), (3, .int x3)] → W p l e ({ frames := 0, cells := 0, slots := 0, locals := 0 }) s m args below meth c s.heap [] 0 0 (MQ below (qp_ (some (.long r0))) args s 0 0 (fun _ => False)) (F0 m 4 ls []) := by
  obtain ⟨hx, hb, hr, hml, hown, hts, hlk⟩ := id X
  intro x0 x1 x3 ls h hl
  unfold M_product_4 at h
  refine lv_iload_n hx hb dX12_product_4 rfl (lv_at hl 2 rfl) ?_
  refine lv_iload_n hx hb dX12_product_5 rfl (lv_at hl 0 rfl) ?_
  refine lv_icmp_gt (tgt := 20) hx hb dX12_product_6 (by decide) (fun c_1 => ?_) (fun c_1 => ?_)
  · have h := if_t h c_1
    refine lv_lload_n hx hb dX12_product_20 rfl (lv_at hl 1 rfl) ?_
    obtain rfl := re_p h
    exact rpl_ X dX12_product_21
  · have h := if_f h c_1
    refine lv_lload_n hx hb dX12_product_9 rfl (lv_at hl 1 rfl) ?_
    refine lv_iload_n hx hb dX12_product_10 rfl (lv_at hl 2 rfl) ?_
    refine lv_i2l hx hb dX12_product_11 rfl ?_
    refine lv_lmul hx hb dX12_product_12 ?_
    refine lv_topl (fun y_2 e_3 => ?_)
    have h := lt_at h e_3
    refine lv_lstore_n (lv' := [(1, .long y_2), (0, .int x0), (3, .int x3)]) hx hb dX12_product_13 rfl hl (by decide) rfl (fun ls hl => ?_)
    obtain ⟨y_4, e_5⟩ : ∃ q : Int32, q = x3 + (1 : Int32) := ⟨_, rfl⟩
    have h := lt_at h e_5
    refine lv_iinc (v := y_4) (lv' := [(3, .int y_4), (1, .long y_2), (0, .int x0)]) hx hb dX12_product_14 hl (k := 2) rfl (by rw [e_5]; rfl) (by decide) rfl (fun ls hl => ?_)
    refine lv_goto (tgt := 4) hx hb dX12_product_17 (by decide) ?_
    exact hk4 x0 y_2 y_4 ls h (lv_sub hl [2, 1, 0] rfl)
set_option maxRecDepth 100000 in
theorem kM_product_4L {p : Program} {l : Launch} {e : Env} {s : State} {m : MethodId} {args : Array Value} {below : List Frame} {meth : Method} {c : Code} (X : px_ cX12_product RX12 wsX12_product 4 (some .long) p s m args meth c)  {r0 : Int64}  : ∀ (n : Nat), ∀ (x0 : Int32) (x1 : Int64) (x3 : Int32) (ls : Array Slot), lp_ (M_product_4) (fun _ _ _ => none) n x0 x1 x3 = some r0 → lv_has ls 4 [(0, .int x0), (1, .long x1), (3, .int x3)] → W p l e ({ frames := 0, cells := 0, slots := 0, locals := 0 }) s m args below meth c s.heap [] 0 0 (MQ below (qp_ (some (.long r0))) args s 0 0 (fun _ => False)) (F0 m 4 ls []) := by
  intro n
  induction n with
  | zero =>
    intro _ _ _ _ h
    exact absurd h (fun q => by cases (show (none : Option _) = some _ from q))
  | succ n ih => exact kM_product_4 X ih

def M_product_0  (x0 : Int32) : Option Int64 :=
  lp_ M_product_4 (fun _ _ _ => none) FU x0 (1 : Int64) (2 : Int32)
set_option maxRecDepth 100000 in
theorem kM_product_0 {p : Program} {l : Launch} {e : Env} {s : State} {m : MethodId} {args : Array Value} {below : List Frame} {meth : Method} {c : Code} (X : px_ cX12_product RX12 wsX12_product 4 (some .long) p s m args meth c)  {r0 : Int64}  : ∀ (x0 : Int32) (ls : Array Slot), M_product_0 x0 = some r0 → lv_has ls 4 [(0, .int x0)] → W p l e ({ frames := 0, cells := 0, slots := 0, locals := 0 }) s m args below meth c s.heap [] 0 0 (MQ below (qp_ (some (.long r0))) args s 0 0 (fun _ => False)) (F0 m 0 ls []) := by
  obtain ⟨hx, hb, hr, hml, hown, hts, hlk⟩ := id X
  intro x0 ls h hl
  unfold M_product_0 at h
  refine lv_lconst (v := 1) hx hb dX12_product_0 (by decide) ?_
  refine lv_lstore_n (lv' := [(1, .long (1 : Int64)), (0, .int x0)]) hx hb dX12_product_1 rfl hl (by decide) rfl (fun ls hl => ?_)
  refine lv_iconst (v := 2) hx hb dX12_product_2 (by decide) ?_
  refine lv_istore_n (lv' := [(3, .int (2 : Int32)), (1, .long (1 : Int64)), (0, .int x0)]) hx hb dX12_product_3 rfl hl (by decide) rfl (fun ls hl => ?_)
  exact kM_product_4L X  FU x0 (1 : Int64) (2 : Int32) ls h (lv_sub hl [2, 1, 0] rfl)
theorem c_M_product {l : Launch} {x0 : Int32} {r0 : Int64} (h : M_product_0 x0 = some r0) : Met l yX12_product wsX12_product ({ frames := 0, cells := 0, slots := 0, locals := 0 }) (pp_ [.int x0]) (qp_ (some (.long r0))) 0 0 (fun _ => False) := by
  refine enp_ (by decide) rfl (Nat.le_of_ble_eq_true rfl) ?_
  intro p e s m below meth c ls X hl
  exact kM_product_0 X x0 ls h hl

def M_partOf_6 (k6 : Int64 → Int64 → Int32 → Int64 → Int64 → Option Int64) (x0 : Int64) (x2 : Int64) (x4 : Int32) (x5 : Int64) (x7 : Int64) : Option Int64 :=
  if (lg_cmp x7 (0 : Int64)) = 0 then (if x4 = 0 then (gd_ (nl_ x5) (
  some ((x0 / x5))))
  else (gd_ (nl_ x5) (
  some ((x2 / x5)))))
  else (gd_ (nl_ x7) (
  lt_ ((x5 - x5 / x7 * x7)) fun y_6 =>
  k6 x0 x2 x4 x7 y_6))
set_option maxRecDepth 100000 in
theorem kM_partOf_6 {p : Program} {l : Launch} {e : Env} {s : State} {m : MethodId} {args : Array Value} {below : List Frame} {meth : Method} {c : Code} (X : px_ cX12_partOf RX12 wsX12_partOf 11 (some .long) p s m args meth c) {k6 : Int64 → Int64 → Int32 → Int64 → Int64 → Option Int64} {r0 : Int64} (hk6 : ∀ (x0 : Int64) (x2 : Int64) (x4 : Int32) (x5 : Int64) (x7 : Int64) (ls : Array Slot), k6 x0 x2 x4 x5 x7 = some r0 → lv_has ls 11 [(0, .long x0), (2, .long x2), (4, .int x4), (5, .long x5), (7, .long x7)] → W p l e ({ frames := 0, cells := 0, slots := 0, locals := 0 }) s m args below meth c s.heap [] 0 0 (MQ below (qp_ (some (.long r0))) args s 0 0 (fun _ => False)) (F0 m 6 ls [])) : ∀ (x0 : Int64) (x2 : Int64) (x4 : Int32) (x5 : Int64) (x7 : Int64) (ls : Array Slot), M_partOf_6 k6 x0 x2 x4 x5 x7 = some r0 → lv_has ls 11 [(0, .long x0), (2, .long x2), (4, .int x4), (5, .long x5), (7, .long x7)] → W p l e ({ frames := 0, cells := 0, slots := 0, locals := 0 }) s m args below meth c s.heap [] 0 0 (MQ below (qp_ (some (.long r0))) args s 0 0 (fun _ => False)) (F0 m 6 ls []) := by
  obtain ⟨hx, hb, hr, hml, hown, hts, hlk⟩ := id X
  intro x0 x2 x4 x5 x7 ls h hl
  unfold M_partOf_6 at h
  refine lv_lload hx hb dX12_partOf_6 (lv_at hl 4 rfl) ?_
  refine lv_lconst (v := 0) hx hb dX12_partOf_8 (by decide) ?_
  refine W.lcmp hx hb dX12_partOf_9 ?_
  refine lv_if_eq (tgt := 31) hx hb dX12_partOf_10 (by decide) (fun c_1 => ?_) (fun c_1 => ?_)
  · have h := if_t h c_1
    refine lv_iload hx hb dX12_partOf_31 (lv_at hl 2 rfl) ?_
    refine lv_if_ne (tgt := 43) hx hb dX12_partOf_33 (by decide) (fun c_2 => ?_) (fun c_2 => ?_)
    · have h := if_f h c_2
      refine lv_lload_n hx hb dX12_partOf_43 rfl (lv_at hl 1 rfl) ?_
      refine lv_lload hx hb dX12_partOf_44 (lv_at hl 3 rfl) ?_
      obtain ⟨g_3, h⟩ := gd_of h
      refine lv_ldiv hx hb dX12_partOf_46 (nl_of g_3) ?_
      obtain rfl := re_p h
      exact rpl_ X dX12_partOf_47
    · have h := if_t h c_2
      refine lv_lload_n hx hb dX12_partOf_36 rfl (lv_at hl 0 rfl) ?_
      refine lv_lload hx hb dX12_partOf_37 (lv_at hl 3 rfl) ?_
      obtain ⟨g_4, h⟩ := gd_of h
      refine lv_ldiv hx hb dX12_partOf_39 (nl_of g_4) ?_
      refine lv_goto (tgt := 47) hx hb dX12_partOf_40 (by decide) ?_
      obtain rfl := re_p h
      exact rpl_ X dX12_partOf_47
  · have h := if_f h c_1
    refine lv_lload hx hb dX12_partOf_13 (lv_at hl 3 rfl) ?_
    refine lv_lload hx hb dX12_partOf_15 (lv_at hl 4 rfl) ?_
    obtain ⟨g_5, h⟩ := gd_of h
    refine lv_lrem hx hb dX12_partOf_17 (nl_of g_5) ?_
    refine lv_topl (fun y_6 e_7 => ?_)
    have h := lt_at h e_7
    refine lv_lstore (lv' := [(9, .long y_6), (0, .long x0), (2, .long x2), (4, .int x4), (5, .long x5), (7, .long x7)]) hx hb dX12_partOf_18 hl (by decide) rfl (fun ls hl => ?_)
    refine lv_lload hx hb dX12_partOf_20 (lv_at hl 5 rfl) ?_
    refine lv_lstore (lv' := [(5, .long x7), (9, .long y_6), (0, .long x0), (2, .long x2), (4, .int x4), (7, .long x7)]) hx hb dX12_partOf_22 hl (by decide) rfl (fun ls hl => ?_)
    refine lv_lload hx hb dX12_partOf_24 (lv_at hl 1 rfl) ?_
    refine lv_lstore (lv' := [(7, .long y_6), (5, .long x7), (9, .long y_6), (0, .long x0), (2, .long x2), (4, .int x4)]) hx hb dX12_partOf_26 hl (by decide) rfl (fun ls hl => ?_)
    refine lv_goto (tgt := 6) hx hb dX12_partOf_28 (by decide) ?_
    exact hk6 x0 x2 x4 x7 y_6 ls h (lv_sub hl [3, 4, 5, 1, 0] rfl)
set_option maxRecDepth 100000 in
theorem kM_partOf_6L {p : Program} {l : Launch} {e : Env} {s : State} {m : MethodId} {args : Array Value} {below : List Frame} {meth : Method} {c : Code} (X : px_ cX12_partOf RX12 wsX12_partOf 11 (some .long) p s m args meth c)  {r0 : Int64}  : ∀ (n : Nat), ∀ (x0 : Int64) (x2 : Int64) (x4 : Int32) (x5 : Int64) (x7 : Int64) (ls : Array Slot), lp_ (M_partOf_6) (fun _ _ _ _ _ => none) n x0 x2 x4 x5 x7 = some r0 → lv_has ls 11 [(0, .long x0), (2, .long x2), (4, .int x4), (5, .long x5), (7, .long x7)] → W p l e ({ frames := 0, cells := 0, slots := 0, locals := 0 }) s m args below meth c s.heap [] 0 0 (MQ below (qp_ (some (.long r0))) args s 0 0 (fun _ => False)) (F0 m 6 ls []) := by
  intro n
  induction n with
  | zero =>
    intro _ _ _ _ _ _ h
    exact absurd h (fun q => by cases (show (none : Option _) = some _ from q))
  | succ n ih => exact kM_partOf_6 X ih

def M_partOf_0  (x0 : Int64) (x2 : Int64) (x4 : Int32) : Option Int64 :=
  lp_ M_partOf_6 (fun _ _ _ _ _ => none) FU x0 x2 x4 x2 x0
set_option maxRecDepth 100000 in
theorem kM_partOf_0 {p : Program} {l : Launch} {e : Env} {s : State} {m : MethodId} {args : Array Value} {below : List Frame} {meth : Method} {c : Code} (X : px_ cX12_partOf RX12 wsX12_partOf 11 (some .long) p s m args meth c)  {r0 : Int64}  : ∀ (x0 : Int64) (x2 : Int64) (x4 : Int32) (ls : Array Slot), M_partOf_0 x0 x2 x4 = some r0 → lv_has ls 11 [(0, .long x0), (2, .long x2), (4, .int x4)] → W p l e ({ frames := 0, cells := 0, slots := 0, locals := 0 }) s m args below meth c s.heap [] 0 0 (MQ below (qp_ (some (.long r0))) args s 0 0 (fun _ => False)) (F0 m 0 ls []) := by
  obtain ⟨hx, hb, hr, hml, hown, hts, hlk⟩ := id X
  intro x0 x2 x4 ls h hl
  unfold M_partOf_0 at h
  refine lv_lload_n hx hb dX12_partOf_0 rfl (lv_at hl 1 rfl) ?_
  refine lv_lstore (lv' := [(5, .long x2), (0, .long x0), (2, .long x2), (4, .int x4)]) hx hb dX12_partOf_1 hl (by decide) rfl (fun ls hl => ?_)
  refine lv_lload_n hx hb dX12_partOf_3 rfl (lv_at hl 1 rfl) ?_
  refine lv_lstore (lv' := [(7, .long x0), (5, .long x2), (0, .long x0), (2, .long x2), (4, .int x4)]) hx hb dX12_partOf_4 hl (by decide) rfl (fun ls hl => ?_)
  exact kM_partOf_6L X  FU x0 x2 x4 x2 x0 ls h (lv_sub hl [2, 3, 4, 1, 0] rfl)
theorem c_M_partOf {l : Launch} {x0 : Int64} {x2 : Int64} {x4 : Int32} {r0 : Int64} (h : M_partOf_0 x0 x2 x4 = some r0) : Met l yX12_partOf wsX12_partOf ({ frames := 0, cells := 0, slots := 0, locals := 0 }) (pp_ [.long x0, .long x2, .int x4]) (qp_ (some (.long r0))) 0 0 (fun _ => False) := by
  refine enp_ (by decide) rfl (Nat.le_of_ble_eq_true rfl) ?_
  intro p e s m below meth c ls X hl
  exact kM_partOf_0 X x0 x2 x4 ls h hl

def M_odds_97 (k61 : Sg → Int32 → Int32 → Int32 → Int64 → Int64 → Int32 → Option (Int64 × Sg)) (σ : Sg) (x1 : Int32) (x2 : Int32) (x3 : Int32) (x6 : Int64) (x8 : Int32) (t1 : Int64) (t0 : Int64) : Option (Int64 × Sg) :=
  lt_ ((t0 * t1)) fun y_1 =>
  lt_ ((x6 * (100 : Int64))) fun y_3 =>
  lt_ (x8 + (1 : Int32)) fun y_5 =>
  k61 σ x1 x2 x3 y_1 y_3 y_5
set_option maxRecDepth 100000 in
theorem kM_odds_97 {p : Program} {l : Launch} {e : Env} {s : State} {m : MethodId} {args : Array Value} {below : List Frame} {meth : Method} {c : Code} {D : va_G} {cy : Nat → ClassId} {a : Nat → Nat} (X : cx_ cX12_odds RX12 wsX12_odds 9 (some .long) 16 a D cy xfM p s m args meth c) {k61 : Sg → Int32 → Int32 → Int32 → Int64 → Int64 → Int32 → Option (Int64 × Sg)} {r0 : Int64} {σ' : Sg} (hk61 : ∀ (σ : Sg) (x1 : Int32) (x2 : Int32) (x3 : Int32) (x4 : Int64) (x6 : Int64) (x8 : Int32) (H : Heap) (locs : List Loc) (ls : Array Slot), k61 σ x1 x2 x3 x4 x6 x8 = some (r0, σ') → iv_ 16 a D (shM cy a σ) s H locs → lv_has ls 9 [(0, .ref (a 0)), (1, .int x1), (2, .int x2), (3, .int x3), (4, .long x4), (6, .long x6), (8, .int x8)] → W p l e ({ frames := 1, cells := 0, slots := 0, locals := 30 }) s m args below meth c H locs 0 0 (MQ below (qg_ 16 a D (shM cy a σ') (some (.long r0)) s.heap.size) args s 0 0 (fr_ 16 a s.heap.size)) (F0 m 61 ls [])) : ∀ (σ : Sg) (x1 : Int32) (x2 : Int32) (x3 : Int32) (x6 : Int64) (x8 : Int32) (t1 : Int64) (t0 : Int64) (H : Heap) (locs : List Loc) (ls : Array Slot), M_odds_97 k61 σ x1 x2 x3 x6 x8 t1 t0 = some (r0, σ') → iv_ 16 a D (shM cy a σ) s H locs → lv_has ls 9 [(0, .ref (a 0)), (1, .int x1), (2, .int x2), (3, .int x3), (6, .long x6), (8, .int x8)] → W p l e ({ frames := 1, cells := 0, slots := 0, locals := 30 }) s m args below meth c H locs 0 0 (MQ below (qg_ 16 a D (shM cy a σ') (some (.long r0)) s.heap.size) args s 0 0 (fr_ 16 a s.heap.size)) (F0 m 97 ls [.long t1, .long t0]) := by
  obtain ⟨hx, hb, hr, hml, hown, hts, hlk, hK, hA, hXf⟩ := id X
  intro σ x1 x2 x3 x6 x8 t1 t0 H locs ls h I hl
  unfold M_odds_97 at h
  refine lv_lmul hx hb dX12_odds_97 ?_
  refine lv_topl (fun y_1 e_2 => ?_)
  have h := lt_at h e_2
  refine lv_lstore (lv' := [(4, .long y_1), (0, .ref (a 0)), (1, .int x1), (2, .int x2), (3, .int x3), (6, .long x6), (8, .int x8)]) hx hb dX12_odds_98 hl (by decide) rfl (fun ls hl => ?_)
  refine lv_lload hx hb dX12_odds_100 (lv_at hl 5 rfl) ?_
  refine lv_ldc2 (v := 100) hx hb hown (hts (.constantLong RX12 275 (100)) (by decide +kernel)) dX12_odds_102 ?_
  refine lv_lmul hx hb dX12_odds_105 ?_
  refine lv_topl (fun y_3 e_4 => ?_)
  have h := lt_at h e_4
  refine lv_lstore (lv' := [(6, .long y_3), (4, .long y_1), (0, .ref (a 0)), (1, .int x1), (2, .int x2), (3, .int x3), (8, .int x8)]) hx hb dX12_odds_106 hl (by decide) rfl (fun ls hl => ?_)
  obtain ⟨y_5, e_6⟩ : ∃ q : Int32, q = x8 + (1 : Int32) := ⟨_, rfl⟩
  have h := lt_at h e_6
  refine lv_iinc (v := y_5) (lv' := [(8, .int y_5), (6, .long y_3), (4, .long y_1), (0, .ref (a 0)), (1, .int x1), (2, .int x2), (3, .int x3)]) hx hb dX12_odds_108 hl (k := 6) rfl (by rw [e_6]; rfl) (by decide) rfl (fun ls hl => ?_)
  refine lv_goto (tgt := 61) hx hb dX12_odds_111 (by decide) ?_
  exact hk61 σ x1 x2 x3 y_1 y_3 y_5 H locs ls h I (lv_sub hl [3, 4, 5, 6, 2, 1, 0] rfl)
def M_odds_61 (k61 : Sg → Int32 → Int32 → Int32 → Int64 → Int64 → Int32 → Option (Int64 × Sg)) (σ : Sg) (x1 : Int32) (x2 : Int32) (x3 : Int32) (x4 : Int64) (x6 : Int64) (x8 : Int32) : Option (Int64 × Sg) :=
  if x1 ≤ x8 then (bp_ (M_partOf_0 x4 x6 x3) fun r_3 =>
  some (r_3, σ))
  else (if x2 ≤ x8 then (M_odds_97 k61 σ x1 x2 x3 x6 x8 ((100 : Int32) - (rd_ σ 1 6)).toInt64 x4)
  else (M_odds_97 k61 σ x1 x2 x3 x6 x8 (rd_ σ 1 6).toInt64 x4))
set_option maxRecDepth 100000 in
theorem kM_odds_61 {p : Program} {l : Launch} {e : Env} {s : State} {m : MethodId} {args : Array Value} {below : List Frame} {meth : Method} {c : Code} {D : va_G} {cy : Nat → ClassId} {a : Nat → Nat} (X : cx_ cX12_odds RX12 wsX12_odds 9 (some .long) 16 a D cy xfM p s m args meth c) {k61 : Sg → Int32 → Int32 → Int32 → Int64 → Int64 → Int32 → Option (Int64 × Sg)} {r0 : Int64} {σ' : Sg} (hk61 : ∀ (σ : Sg) (x1 : Int32) (x2 : Int32) (x3 : Int32) (x4 : Int64) (x6 : Int64) (x8 : Int32) (H : Heap) (locs : List Loc) (ls : Array Slot), k61 σ x1 x2 x3 x4 x6 x8 = some (r0, σ') → iv_ 16 a D (shM cy a σ) s H locs → lv_has ls 9 [(0, .ref (a 0)), (1, .int x1), (2, .int x2), (3, .int x3), (4, .long x4), (6, .long x6), (8, .int x8)] → W p l e ({ frames := 1, cells := 0, slots := 0, locals := 30 }) s m args below meth c H locs 0 0 (MQ below (qg_ 16 a D (shM cy a σ') (some (.long r0)) s.heap.size) args s 0 0 (fr_ 16 a s.heap.size)) (F0 m 61 ls [])) : ∀ (σ : Sg) (x1 : Int32) (x2 : Int32) (x3 : Int32) (x4 : Int64) (x6 : Int64) (x8 : Int32) (H : Heap) (locs : List Loc) (ls : Array Slot), M_odds_61 k61 σ x1 x2 x3 x4 x6 x8 = some (r0, σ') → iv_ 16 a D (shM cy a σ) s H locs → lv_has ls 9 [(0, .ref (a 0)), (1, .int x1), (2, .int x2), (3, .int x3), (4, .long x4), (6, .long x6), (8, .int x8)] → W p l e ({ frames := 1, cells := 0, slots := 0, locals := 30 }) s m args below meth c H locs 0 0 (MQ below (qg_ 16 a D (shM cy a σ') (some (.long r0)) s.heap.size) args s 0 0 (fr_ 16 a s.heap.size)) (F0 m 61 ls []) := by
  obtain ⟨hx, hb, hr, hml, hown, hts, hlk, hK, hA, hXf⟩ := id X
  intro σ x1 x2 x3 x4 x6 x8 H locs ls h I hl
  unfold M_odds_61 at h
  refine lv_iload hx hb dX12_odds_61 (lv_at hl 6 rfl) ?_
  refine lv_iload_n hx hb dX12_odds_63 rfl (lv_at hl 1 rfl) ?_
  refine lv_icmp_ge (tgt := 114) hx hb dX12_odds_64 (by decide) (fun c_1 => ?_) (fun c_1 => ?_)
  · have h := if_t h c_1
    refine lv_lload hx hb dX12_odds_114 (lv_at hl 4 rfl) ?_
    refine lv_lload hx hb dX12_odds_116 (lv_at hl 5 rfl) ?_
    refine lv_iload_n hx hb dX12_odds_118 rfl (lv_at hl 3 rfl) ?_
    obtain ⟨r_3, hc_2, h⟩ := bp_of h
    refine cp_ (rP_ (nn := 3) (As := [.long x4, .long x6, .int x3]) (rest := []) ⟨hx, hb, hml, hown, hts⟩ (c_M_partOf hc_2) gX12_odds_X12_partOf rfl ⟨rfl, rfl⟩ (by decide +kernel) ⟨Nat.le_of_ble_eq_true rfl, Nat.le_of_ble_eq_true rfl⟩ rfl hl.1 rfl (Nat.le_of_ble_eq_true rfl) dX12_odds_119 ⟨Nat.zero_le _, Nat.zero_le _⟩) ?_
    obtain ⟨rfl, rfl⟩ := re_s h
    exact rtl_ X I dX12_odds_122
  · have h := if_f h c_1
    refine lv_lload hx hb dX12_odds_67 (lv_at hl 4 rfl) ?_
    refine lv_iload hx hb dX12_odds_69 (lv_at hl 6 rfl) ?_
    refine lv_iload_n hx hb dX12_odds_71 rfl (lv_at hl 2 rfl) ?_
    refine lv_icmp_ge (tgt := 86) hx hb dX12_odds_72 (by decide) (fun c_4 => ?_) (fun c_4 => ?_)
    · have h := if_t h c_4
      refine lv_bipush (v := 100) hx hb dX12_odds_86 (by decide) ?_
      refine lv_aload_n hx hb dX12_odds_88 rfl (lv_at hl 0 rfl) ?_
      refine ig_ (index := 7) X I (fun _ q => List.mem_cons_of_mem _ (List.mem_append_right _ q)) 0 (by decide) shM_0 rfl 0 (by decide) (by decide +kernel) rfl (v := .ref (a 1)) rfl dX12_odds_89 ?_
      refine lv_bipush (v := 6) hx hb dX12_odds_92 (by decide) ?_
      refine ia_ X I 1 (by decide) shM_1 (in_of (by decide)) (v0 := rd_ σ 1 6) rfl dX12_odds_94 ?_
      refine lv_isub hx hb dX12_odds_95 ?_
      refine lv_i2l hx hb dX12_odds_96 rfl ?_
      exact kM_odds_97 X hk61 σ x1 x2 x3 x6 x8 ((100 : Int32) - (rd_ σ 1 6)).toInt64 x4 H locs ls h I (lv_sub hl [0, 1, 2, 3, 5, 6] rfl)
    · have h := if_f h c_4
      refine lv_aload_n hx hb dX12_odds_75 rfl (lv_at hl 0 rfl) ?_
      refine ig_ (index := 7) X I (fun _ q => List.mem_cons_of_mem _ (List.mem_append_right _ q)) 0 (by decide) shM_0 rfl 0 (by decide) (by decide +kernel) rfl (v := .ref (a 1)) rfl dX12_odds_76 ?_
      refine lv_bipush (v := 6) hx hb dX12_odds_79 (by decide) ?_
      refine ia_ X I 1 (by decide) shM_1 (in_of (by decide)) (v0 := rd_ σ 1 6) rfl dX12_odds_81 ?_
      refine lv_i2l hx hb dX12_odds_82 rfl ?_
      refine lv_goto (tgt := 97) hx hb dX12_odds_83 (by decide) ?_
      exact kM_odds_97 X hk61 σ x1 x2 x3 x6 x8 (rd_ σ 1 6).toInt64 x4 H locs ls h I (lv_sub hl [0, 1, 2, 3, 5, 6] rfl)
set_option maxRecDepth 100000 in
theorem kM_odds_61L {p : Program} {l : Launch} {e : Env} {s : State} {m : MethodId} {args : Array Value} {below : List Frame} {meth : Method} {c : Code} {D : va_G} {cy : Nat → ClassId} {a : Nat → Nat} (X : cx_ cX12_odds RX12 wsX12_odds 9 (some .long) 16 a D cy xfM p s m args meth c)  {r0 : Int64} {σ' : Sg}  : ∀ (n : Nat), ∀ (σ : Sg) (x1 : Int32) (x2 : Int32) (x3 : Int32) (x4 : Int64) (x6 : Int64) (x8 : Int32) (H : Heap) (locs : List Loc) (ls : Array Slot), lp_ (M_odds_61) (fun _ _ _ _ _ _ _ => none) n σ x1 x2 x3 x4 x6 x8 = some (r0, σ') → iv_ 16 a D (shM cy a σ) s H locs → lv_has ls 9 [(0, .ref (a 0)), (1, .int x1), (2, .int x2), (3, .int x3), (4, .long x4), (6, .long x6), (8, .int x8)] → W p l e ({ frames := 1, cells := 0, slots := 0, locals := 30 }) s m args below meth c H locs 0 0 (MQ below (qg_ 16 a D (shM cy a σ') (some (.long r0)) s.heap.size) args s 0 0 (fr_ 16 a s.heap.size)) (F0 m 61 ls []) := by
  intro n
  induction n with
  | zero =>
    intro _ _ _ _ _ _ _ _ _ _ h
    exact absurd h (fun q => by cases (show (none : Option _) = some _ from q))
  | succ n ih => exact kM_odds_61 X ih

def M_odds_0  (σ : Sg) (x1 : Int32) (x2 : Int32) (x3 : Int32) : Option (Int64 × Sg) :=
  bp_ (M_isIn_0 (x1).toInt64 (0 : Int64) (8 : Int64)) fun r_2 =>
  if r_2 = 0 then (some ((-1 : Int64), σ))
  else (bp_ (M_isIn_0 (x2).toInt64 (0 : Int64) (x1).toInt64) fun r_5 =>
  if r_5 = 0 then (some ((-1 : Int64), σ))
  else (bp_ (M_isIn_0 (x3).toInt64 (0 : Int64) (1 : Int64)) fun r_8 =>
  if r_8 = 0 then (some ((-1 : Int64), σ))
  else (bp_ (M_product_0 x1) fun r_11 =>
  bp_ (M_product_0 x2) fun r_13 =>
  gd_ (nl_ r_13) (
  bp_ (M_product_0 (x1 - x2)) fun r_16 =>
  gd_ (nl_ r_16) (
  lt_ (((r_11 / r_13) / r_16)) fun y_18 =>
  lp_ M_odds_61 (fun _ _ _ _ _ _ _ => none) FU σ x1 x2 x3 y_18 (1 : Int64) (0 : Int32))))))
set_option maxRecDepth 100000 in
theorem kM_odds_0 {p : Program} {l : Launch} {e : Env} {s : State} {m : MethodId} {args : Array Value} {below : List Frame} {meth : Method} {c : Code} {D : va_G} {cy : Nat → ClassId} {a : Nat → Nat} (X : cx_ cX12_odds RX12 wsX12_odds 9 (some .long) 16 a D cy xfM p s m args meth c)  {r0 : Int64} {σ' : Sg}  : ∀ (σ : Sg) (x1 : Int32) (x2 : Int32) (x3 : Int32) (H : Heap) (locs : List Loc) (ls : Array Slot), M_odds_0 σ x1 x2 x3 = some (r0, σ') → iv_ 16 a D (shM cy a σ) s H locs → lv_has ls 9 [(0, .ref (a 0)), (1, .int x1), (2, .int x2), (3, .int x3)] → W p l e ({ frames := 1, cells := 0, slots := 0, locals := 30 }) s m args below meth c H locs 0 0 (MQ below (qg_ 16 a D (shM cy a σ') (some (.long r0)) s.heap.size) args s 0 0 (fr_ 16 a s.heap.size)) (F0 m 0 ls []) := by
  obtain ⟨hx, hb, hr, hml, hown, hts, hlk, hK, hA, hXf⟩ := id X
  intro σ x1 x2 x3 H locs ls h I hl
  unfold M_odds_0 at h
  refine lv_iload_n hx hb dX12_odds_0 rfl (lv_at hl 1 rfl) ?_
  refine lv_i2l hx hb dX12_odds_1 rfl ?_
  refine lv_lconst (v := 0) hx hb dX12_odds_2 (by decide) ?_
  refine lv_ldc2 (v := 8) hx hb hown (hts (.constantLong RX12 58 (8)) (by decide +kernel)) dX12_odds_3 ?_
  obtain ⟨r_2, hc_1, h⟩ := bp_of h
  refine cp_ (rP_ (nn := 3) (As := [.long (x1).toInt64, .long (0 : Int64), .long (8 : Int64)]) (rest := []) ⟨hx, hb, hml, hown, hts⟩ (c_M_isIn hc_1) gX12_odds_X12_isIn rfl ⟨rfl, rfl⟩ (by decide +kernel) ⟨Nat.le_of_ble_eq_true rfl, Nat.le_of_ble_eq_true rfl⟩ rfl hl.1 rfl (Nat.le_of_ble_eq_true rfl) dX12_odds_6 ⟨Nat.zero_le _, Nat.zero_le _⟩) ?_
  refine lv_if_eq (tgt := 33) hx hb dX12_odds_9 (by decide) (fun c_3 => ?_) (fun c_3 => ?_)
  · have h := if_t h c_3
    refine lv_ldc2 (v := -1) hx hb hown (hts (.constantLong RX12 269 (-1)) (by decide +kernel)) dX12_odds_33 ?_
    obtain ⟨rfl, rfl⟩ := re_s h
    exact rtl_ X I dX12_odds_36
  · have h := if_f h c_3
    refine lv_iload_n hx hb dX12_odds_12 rfl (lv_at hl 2 rfl) ?_
    refine lv_i2l hx hb dX12_odds_13 rfl ?_
    refine lv_lconst (v := 0) hx hb dX12_odds_14 (by decide) ?_
    refine lv_iload_n hx hb dX12_odds_15 rfl (lv_at hl 1 rfl) ?_
    refine lv_i2l hx hb dX12_odds_16 rfl ?_
    obtain ⟨r_5, hc_4, h⟩ := bp_of h
    refine cp_ (rP_ (nn := 3) (As := [.long (x2).toInt64, .long (0 : Int64), .long (x1).toInt64]) (rest := []) ⟨hx, hb, hml, hown, hts⟩ (c_M_isIn hc_4) gX12_odds_X12_isIn rfl ⟨rfl, rfl⟩ (by decide +kernel) ⟨Nat.le_of_ble_eq_true rfl, Nat.le_of_ble_eq_true rfl⟩ rfl hl.1 rfl (Nat.le_of_ble_eq_true rfl) dX12_odds_17 ⟨Nat.zero_le _, Nat.zero_le _⟩) ?_
    refine lv_if_eq (tgt := 33) hx hb dX12_odds_20 (by decide) (fun c_6 => ?_) (fun c_6 => ?_)
    · have h := if_t h c_6
      refine lv_ldc2 (v := -1) hx hb hown (hts (.constantLong RX12 269 (-1)) (by decide +kernel)) dX12_odds_33 ?_
      obtain ⟨rfl, rfl⟩ := re_s h
      exact rtl_ X I dX12_odds_36
    · have h := if_f h c_6
      refine lv_iload_n hx hb dX12_odds_23 rfl (lv_at hl 3 rfl) ?_
      refine lv_i2l hx hb dX12_odds_24 rfl ?_
      refine lv_lconst (v := 0) hx hb dX12_odds_25 (by decide) ?_
      refine lv_lconst (v := 1) hx hb dX12_odds_26 (by decide) ?_
      obtain ⟨r_8, hc_7, h⟩ := bp_of h
      refine cp_ (rP_ (nn := 3) (As := [.long (x3).toInt64, .long (0 : Int64), .long (1 : Int64)]) (rest := []) ⟨hx, hb, hml, hown, hts⟩ (c_M_isIn hc_7) gX12_odds_X12_isIn rfl ⟨rfl, rfl⟩ (by decide +kernel) ⟨Nat.le_of_ble_eq_true rfl, Nat.le_of_ble_eq_true rfl⟩ rfl hl.1 rfl (Nat.le_of_ble_eq_true rfl) dX12_odds_27 ⟨Nat.zero_le _, Nat.zero_le _⟩) ?_
      refine lv_if_ne (tgt := 37) hx hb dX12_odds_30 (by decide) (fun c_9 => ?_) (fun c_9 => ?_)
      · have h := if_f h c_9
        refine lv_iload_n hx hb dX12_odds_37 rfl (lv_at hl 1 rfl) ?_
        obtain ⟨r_11, hc_10, h⟩ := bp_of h
        refine cp_ (rP_ (nn := 1) (As := [.int x1]) (rest := []) ⟨hx, hb, hml, hown, hts⟩ (c_M_product hc_10) gX12_odds_X12_product rfl ⟨rfl, rfl⟩ (by decide +kernel) ⟨Nat.le_of_ble_eq_true rfl, Nat.le_of_ble_eq_true rfl⟩ rfl hl.1 rfl (Nat.le_of_ble_eq_true rfl) dX12_odds_38 ⟨Nat.zero_le _, Nat.zero_le _⟩) ?_
        refine lv_iload_n hx hb dX12_odds_41 rfl (lv_at hl 2 rfl) ?_
        obtain ⟨r_13, hc_12, h⟩ := bp_of h
        refine cp_ (rP_ (nn := 1) (As := [.int x2]) (rest := [.long r_11]) ⟨hx, hb, hml, hown, hts⟩ (c_M_product hc_12) gX12_odds_X12_product rfl ⟨rfl, rfl⟩ (by decide +kernel) ⟨Nat.le_of_ble_eq_true rfl, Nat.le_of_ble_eq_true rfl⟩ rfl hl.1 rfl (Nat.le_of_ble_eq_true rfl) dX12_odds_42 ⟨Nat.zero_le _, Nat.zero_le _⟩) ?_
        obtain ⟨g_14, h⟩ := gd_of h
        refine lv_ldiv hx hb dX12_odds_45 (nl_of g_14) ?_
        refine lv_iload_n hx hb dX12_odds_46 rfl (lv_at hl 1 rfl) ?_
        refine lv_iload_n hx hb dX12_odds_47 rfl (lv_at hl 2 rfl) ?_
        refine lv_isub hx hb dX12_odds_48 ?_
        obtain ⟨r_16, hc_15, h⟩ := bp_of h
        refine cp_ (rP_ (nn := 1) (As := [.int (x1 - x2)]) (rest := [.long (r_11 / r_13)]) ⟨hx, hb, hml, hown, hts⟩ (c_M_product hc_15) gX12_odds_X12_product rfl ⟨rfl, rfl⟩ (by decide +kernel) ⟨Nat.le_of_ble_eq_true rfl, Nat.le_of_ble_eq_true rfl⟩ rfl hl.1 rfl (Nat.le_of_ble_eq_true rfl) dX12_odds_49 ⟨Nat.zero_le _, Nat.zero_le _⟩) ?_
        obtain ⟨g_17, h⟩ := gd_of h
        refine lv_ldiv hx hb dX12_odds_52 (nl_of g_17) ?_
        refine lv_topl (fun y_18 e_19 => ?_)
        have h := lt_at h e_19
        refine lv_lstore (lv' := [(4, .long y_18), (0, .ref (a 0)), (1, .int x1), (2, .int x2), (3, .int x3)]) hx hb dX12_odds_53 hl (by decide) rfl (fun ls hl => ?_)
        refine lv_lconst (v := 1) hx hb dX12_odds_55 (by decide) ?_
        refine lv_lstore (lv' := [(6, .long (1 : Int64)), (4, .long y_18), (0, .ref (a 0)), (1, .int x1), (2, .int x2), (3, .int x3)]) hx hb dX12_odds_56 hl (by decide) rfl (fun ls hl => ?_)
        refine lv_iconst (v := 0) hx hb dX12_odds_58 (by decide) ?_
        refine lv_istore (lv' := [(8, .int (0 : Int32)), (6, .long (1 : Int64)), (4, .long y_18), (0, .ref (a 0)), (1, .int x1), (2, .int x2), (3, .int x3)]) hx hb dX12_odds_59 hl (by decide) rfl (fun ls hl => ?_)
        exact kM_odds_61L X  FU σ x1 x2 x3 y_18 (1 : Int64) (0 : Int32) H locs ls h I (lv_sub hl [3, 4, 5, 6, 2, 1, 0] rfl)
      · have h := if_t h c_9
        refine lv_ldc2 (v := -1) hx hb hown (hts (.constantLong RX12 269 (-1)) (by decide +kernel)) dX12_odds_33 ?_
        obtain ⟨rfl, rfl⟩ := re_s h
        exact rtl_ X I dX12_odds_36
theorem c_M_odds {l : Launch} {D : va_G} {cy : Nat → ClassId} {a : Nat → Nat} {σ : Sg} {x1 : Int32} {x2 : Int32} {x3 : Int32} {r0 : Int64} {σ' : Sg} (h : M_odds_0 σ x1 x2 x3 = some (r0, σ')) (sz : Nat) : Met l yX12_odds wsX12_odds ({ frames := 1, cells := 0, slots := 0, locals := 30 }) (va_Pc [.ref (a 0), .int x1, .int x2, .int x3] (pr_ 16 a D cy (shM cy a σ) xfM sz)) (qg_ 16 a D (shM cy a σ') (some (.long r0)) sz) 0 0 (fr_ 16 a sz) := by
  refine ent_ (by decide) rfl (Nat.le_of_ble_eq_true rfl) ?_
  intro p e s m below meth c ls hsz X I hl
  subst hsz
  exact kM_odds_0 X σ x1 x2 x3 s.heap [] ls h I hl

def M_hope_0  (σ : Sg) (x1 : Int32) (x2 : Int32) : Option (Int64 × Sg) :=
  bp_ (M_isIn_0 (x1).toInt64 (0 : Int64) (99 : Int64)) fun r_2 =>
  if r_2 = 0 then (some ((-1 : Int64), σ))
  else (bp_ (M_isIn_0 (x2).toInt64 (0 : Int64) (1 : Int64)) fun r_5 =>
  if r_5 = 0 then (some ((-1 : Int64), σ))
  else (bp_ (M_partOf_0 ((x1).toInt64 * (rd_ σ 1 6).toInt64) (100 : Int64) x2) fun r_8 =>
  some (r_8, σ)))
set_option maxRecDepth 100000 in
theorem kM_hope_0 {p : Program} {l : Launch} {e : Env} {s : State} {m : MethodId} {args : Array Value} {below : List Frame} {meth : Method} {c : Code} {D : va_G} {cy : Nat → ClassId} {a : Nat → Nat} (X : cx_ cX12_hope RX12 wsX12_hope 3 (some .long) 16 a D cy xfM p s m args meth c)  {r0 : Int64} {σ' : Sg}  : ∀ (σ : Sg) (x1 : Int32) (x2 : Int32) (H : Heap) (locs : List Loc) (ls : Array Slot), M_hope_0 σ x1 x2 = some (r0, σ') → iv_ 16 a D (shM cy a σ) s H locs → lv_has ls 3 [(0, .ref (a 0)), (1, .int x1), (2, .int x2)] → W p l e ({ frames := 1, cells := 0, slots := 0, locals := 30 }) s m args below meth c H locs 0 0 (MQ below (qg_ 16 a D (shM cy a σ') (some (.long r0)) s.heap.size) args s 0 0 (fr_ 16 a s.heap.size)) (F0 m 0 ls []) := by
  obtain ⟨hx, hb, hr, hml, hown, hts, hlk, hK, hA, hXf⟩ := id X
  intro σ x1 x2 H locs ls h I hl
  unfold M_hope_0 at h
  refine lv_iload_n hx hb dX12_hope_0 rfl (lv_at hl 1 rfl) ?_
  refine lv_i2l hx hb dX12_hope_1 rfl ?_
  refine lv_lconst (v := 0) hx hb dX12_hope_2 (by decide) ?_
  refine lv_ldc2 (v := 99) hx hb hown (hts (.constantLong RX12 163 (99)) (by decide +kernel)) dX12_hope_3 ?_
  obtain ⟨r_2, hc_1, h⟩ := bp_of h
  refine cp_ (rP_ (nn := 3) (As := [.long (x1).toInt64, .long (0 : Int64), .long (99 : Int64)]) (rest := []) ⟨hx, hb, hml, hown, hts⟩ (c_M_isIn hc_1) gX12_hope_X12_isIn rfl ⟨rfl, rfl⟩ (by decide +kernel) ⟨Nat.le_of_ble_eq_true rfl, Nat.le_of_ble_eq_true rfl⟩ rfl hl.1 rfl (Nat.le_of_ble_eq_true rfl) dX12_hope_6 ⟨Nat.zero_le _, Nat.zero_le _⟩) ?_
  refine lv_if_eq (tgt := 43) hx hb dX12_hope_9 (by decide) (fun c_3 => ?_) (fun c_3 => ?_)
  · have h := if_t h c_3
    refine lv_ldc2 (v := -1) hx hb hown (hts (.constantLong RX12 269 (-1)) (by decide +kernel)) dX12_hope_43 ?_
    obtain ⟨rfl, rfl⟩ := re_s h
    exact rtl_ X I dX12_hope_46
  · have h := if_f h c_3
    refine lv_iload_n hx hb dX12_hope_12 rfl (lv_at hl 2 rfl) ?_
    refine lv_i2l hx hb dX12_hope_13 rfl ?_
    refine lv_lconst (v := 0) hx hb dX12_hope_14 (by decide) ?_
    refine lv_lconst (v := 1) hx hb dX12_hope_15 (by decide) ?_
    obtain ⟨r_5, hc_4, h⟩ := bp_of h
    refine cp_ (rP_ (nn := 3) (As := [.long (x2).toInt64, .long (0 : Int64), .long (1 : Int64)]) (rest := []) ⟨hx, hb, hml, hown, hts⟩ (c_M_isIn hc_4) gX12_hope_X12_isIn rfl ⟨rfl, rfl⟩ (by decide +kernel) ⟨Nat.le_of_ble_eq_true rfl, Nat.le_of_ble_eq_true rfl⟩ rfl hl.1 rfl (Nat.le_of_ble_eq_true rfl) dX12_hope_16 ⟨Nat.zero_le _, Nat.zero_le _⟩) ?_
    refine lv_if_eq (tgt := 43) hx hb dX12_hope_19 (by decide) (fun c_6 => ?_) (fun c_6 => ?_)
    · have h := if_t h c_6
      refine lv_ldc2 (v := -1) hx hb hown (hts (.constantLong RX12 269 (-1)) (by decide +kernel)) dX12_hope_43 ?_
      obtain ⟨rfl, rfl⟩ := re_s h
      exact rtl_ X I dX12_hope_46
    · have h := if_f h c_6
      refine lv_iload_n hx hb dX12_hope_22 rfl (lv_at hl 1 rfl) ?_
      refine lv_i2l hx hb dX12_hope_23 rfl ?_
      refine lv_aload_n hx hb dX12_hope_24 rfl (lv_at hl 0 rfl) ?_
      refine ig_ (index := 7) X I (fun _ q => List.mem_cons_of_mem _ (List.mem_append_right _ q)) 0 (by decide) shM_0 rfl 0 (by decide) (by decide +kernel) rfl (v := .ref (a 1)) rfl dX12_hope_25 ?_
      refine lv_bipush (v := 6) hx hb dX12_hope_28 (by decide) ?_
      refine ia_ X I 1 (by decide) shM_1 (in_of (by decide)) (v0 := rd_ σ 1 6) rfl dX12_hope_30 ?_
      refine lv_i2l hx hb dX12_hope_31 rfl ?_
      refine lv_lmul hx hb dX12_hope_32 ?_
      refine lv_ldc2 (v := 100) hx hb hown (hts (.constantLong RX12 275 (100)) (by decide +kernel)) dX12_hope_33 ?_
      refine lv_iload_n hx hb dX12_hope_36 rfl (lv_at hl 2 rfl) ?_
      obtain ⟨r_8, hc_7, h⟩ := bp_of h
      refine cp_ (rP_ (nn := 3) (As := [.long ((x1).toInt64 * (rd_ σ 1 6).toInt64), .long (100 : Int64), .int x2]) (rest := []) ⟨hx, hb, hml, hown, hts⟩ (c_M_partOf hc_7) gX12_hope_X12_partOf rfl ⟨rfl, rfl⟩ (by decide +kernel) ⟨Nat.le_of_ble_eq_true rfl, Nat.le_of_ble_eq_true rfl⟩ rfl hl.1 rfl (Nat.le_of_ble_eq_true rfl) dX12_hope_37 ⟨Nat.zero_le _, Nat.zero_le _⟩) ?_
      refine lv_goto (tgt := 46) hx hb dX12_hope_40 (by decide) ?_
      obtain ⟨rfl, rfl⟩ := re_s h
      exact rtl_ X I dX12_hope_46
theorem c_M_hope {l : Launch} {D : va_G} {cy : Nat → ClassId} {a : Nat → Nat} {σ : Sg} {x1 : Int32} {x2 : Int32} {r0 : Int64} {σ' : Sg} (h : M_hope_0 σ x1 x2 = some (r0, σ')) (sz : Nat) : Met l yX12_hope wsX12_hope ({ frames := 1, cells := 0, slots := 0, locals := 30 }) (va_Pc [.ref (a 0), .int x1, .int x2] (pr_ 16 a D cy (shM cy a σ) xfM sz)) (qg_ 16 a D (shM cy a σ') (some (.long r0)) sz) 0 0 (fr_ 16 a sz) := by
  refine ent_ (by decide) rfl (Nat.le_of_ble_eq_true rfl) ?_
  intro p e s m below meth c ls hsz X I hl
  subst hsz
  exact kM_hope_0 X σ x1 x2 s.heap [] ls h I hl

def M_prove_35 (k35 : Sg → Int32 → Int32 → Int32 → Option (Int32 × Sg)) (σ : Sg) (x1 : Int32) (x2 : Int32) (x3 : Int32) : Option (Int32 × Sg) :=
  if x2 ≤ x3 then (bi_ (M_copyRow_3_1_0 σ) fun _ σ_3 =>
  lt_ (wr_ σ_3 0 15 x2) fun σ_4 =>
  some (x2, σ_4))
  else (bi_ (M_goesOn_0 σ) fun _ σ_7 =>
  bi_ (M_its_0 σ_7 x1 (1 : Int32)) fun r_10 σ_9 =>
  gd_ (in_ ((3 : Int32) * x3) 30) (
  lt_ (wr_ σ_9 8 ((3 : Int32) * x3).toNatClampNeg r_10) fun σ_12 =>
  bi_ (M_its_0 σ_12 x1 (4 : Int32)) fun r_16 σ_15 =>
  gd_ (in_ (((3 : Int32) * x3) + (1 : Int32)) 30) (
  lt_ (wr_ σ_15 8 (((3 : Int32) * x3) + (1 : Int32)).toNatClampNeg r_16) fun σ_18 =>
  bi_ (M_farNow_0 σ_18 x1) fun r_22 σ_21 =>
  gd_ (in_ (((3 : Int32) * x3) + (2 : Int32)) 30) (
  lt_ (wr_ σ_21 8 (((3 : Int32) * x3) + (2 : Int32)).toNatClampNeg r_22) fun σ_24 =>
  lt_ (x3 + (1 : Int32)) fun y_26 =>
  k35 σ_24 x1 x2 y_26))))
set_option maxRecDepth 100000 in
theorem kM_prove_35 {p : Program} {l : Launch} {e : Env} {s : State} {m : MethodId} {args : Array Value} {below : List Frame} {meth : Method} {c : Code} {D : va_G} {cy : Nat → ClassId} {a : Nat → Nat} (X : cx_ cX12_prove RX12 wsX12_prove 4 (some .int) 16 a D cy xfM p s m args meth c) {k35 : Sg → Int32 → Int32 → Int32 → Option (Int32 × Sg)} {r0 : Int32} {σ' : Sg} (hk35 : ∀ (σ : Sg) (x1 : Int32) (x2 : Int32) (x3 : Int32) (H : Heap) (locs : List Loc) (ls : Array Slot), k35 σ x1 x2 x3 = some (r0, σ') → iv_ 16 a D (shM cy a σ) s H locs → lv_has ls 4 [(0, .ref (a 0)), (1, .int x1), (2, .int x2), (3, .int x3)] → W p l e ({ frames := 4, cells := 0, slots := 0, locals := 89 }) s m args below meth c H locs 0 0 (MQ below (qg_ 16 a D (shM cy a σ') (some (.int r0)) s.heap.size) args s 0 0 (fr_ 16 a s.heap.size)) (F0 m 35 ls [])) : ∀ (σ : Sg) (x1 : Int32) (x2 : Int32) (x3 : Int32) (H : Heap) (locs : List Loc) (ls : Array Slot), M_prove_35 k35 σ x1 x2 x3 = some (r0, σ') → iv_ 16 a D (shM cy a σ) s H locs → lv_has ls 4 [(0, .ref (a 0)), (1, .int x1), (2, .int x2), (3, .int x3)] → W p l e ({ frames := 4, cells := 0, slots := 0, locals := 89 }) s m args below meth c H locs 0 0 (MQ below (qg_ 16 a D (shM cy a σ') (some (.int r0)) s.heap.size) args s 0 0 (fr_ 16 a s.heap.size)) (F0 m 35 ls []) := by
  obtain ⟨hx, hb, hr, hml, hown, hts, hlk, hK, hA, hXf⟩ := id X
  intro σ x1 x2 x3 H locs ls h I hl
  unfold M_prove_35 at h
  refine lv_iload_n hx hb dX12_prove_35 rfl (lv_at hl 3 rfl) ?_
  refine lv_iload_n hx hb dX12_prove_36 rfl (lv_at hl 2 rfl) ?_
  refine lv_icmp_ge (tgt := 95) hx hb dX12_prove_37 (by decide) (fun c_1 => ?_) (fun c_1 => ?_)
  · have h := if_t h c_1
    refine lv_aload_n hx hb dX12_prove_95 rfl (lv_at hl 0 rfl) ?_
    refine ig_ (index := 16) X I (fun _ q => List.mem_cons_of_mem _ (List.mem_append_right _ q)) 0 (by decide) shM_0 rfl 2 (by decide) (by decide +kernel) rfl (v := .ref (a 3)) rfl dX12_prove_96 ?_
    refine lv_aload_n hx hb dX12_prove_99 rfl (lv_at hl 0 rfl) ?_
    refine ig_ (index := 7) X I (fun _ q => List.mem_cons_of_mem _ (List.mem_append_right _ q)) 0 (by decide) shM_0 rfl 0 (by decide) (by decide +kernel) rfl (v := .ref (a 1)) rfl dX12_prove_100 ?_
    obtain ⟨_, σ_3, hc_2, h⟩ := bi_of h
    refine cv_ (rS_ (nn := 2) (As := [.ref (a 3), .ref (a 1)]) (rest := []) X xkM I (c_M_copyRow_3_1 hc_2 H.size) gX12_prove_X12_copyRow rfl ⟨rfl, rfl⟩ (by decide +kernel) ⟨Nat.le_of_ble_eq_true rfl, Nat.le_of_ble_eq_true rfl⟩ rfl hl.1 rfl (Nat.le_of_ble_eq_true rfl) dX12_prove_103) I (fun H locs I => ?_)
    refine lv_aload_n hx hb dX12_prove_106 rfl (lv_at hl 0 rfl) ?_
    refine lv_iload_n hx hb dX12_prove_107 rfl (lv_at hl 2 rfl) ?_
    refine ip_ (index := 158) (ty := .int) X I (fun _ q => List.mem_cons_of_mem _ (List.mem_append_right _ q)) tyX12 tyX12_ok nmX12 0 (by decide) shM_0 rfl 15 (by decide) (by decide +kernel) rfl rfl (by decide +kernel) rfl rfl (Nat.le_of_ble_eq_true rfl) shM_pt_15 dX12_prove_108 (fun σ_4 H locs e_5 I => ?_)
    have h := lt_at h e_5
    refine lv_iload_n hx hb dX12_prove_111 rfl (lv_at hl 2 rfl) ?_
    obtain ⟨rfl, rfl⟩ := re_s h
    exact rti_ X I dX12_prove_112
  · have h := if_f h c_1
    refine lv_aload_n hx hb dX12_prove_40 rfl (lv_at hl 0 rfl) ?_
    obtain ⟨_, σ_7, hc_6, h⟩ := bi_of h
    refine cv_ (rV_ (nn := 0) (As := []) (rest := []) X xkM I (c_M_goesOn hc_6 H.size) gX12_prove_X12_goesOn rfl ⟨rfl, rfl⟩ (by decide +kernel) ⟨Nat.le_of_ble_eq_true rfl, Nat.le_of_ble_eq_true rfl⟩ (by decide) shM_0 rfl rfl hl.1 rfl (Nat.le_of_ble_eq_true rfl) dX12_prove_41) I (fun H locs I => ?_)
    refine lv_aload_n hx hb dX12_prove_44 rfl (lv_at hl 0 rfl) ?_
    refine ig_ (index := 31) X I (fun _ q => List.mem_cons_of_mem _ (List.mem_append_right _ q)) 0 (by decide) shM_0 rfl 14 (by decide) (by decide +kernel) rfl (v := .ref (a 8)) rfl dX12_prove_45 ?_
    refine lv_iconst (v := 3) hx hb dX12_prove_48 (by decide) ?_
    refine lv_iload_n hx hb dX12_prove_49 rfl (lv_at hl 3 rfl) ?_
    refine lv_imul hx hb dX12_prove_50 ?_
    refine lv_aload_n hx hb dX12_prove_51 rfl (lv_at hl 0 rfl) ?_
    refine lv_iload_n hx hb dX12_prove_52 rfl (lv_at hl 1 rfl) ?_
    refine lv_iconst (v := 1) hx hb dX12_prove_53 (by decide) ?_
    obtain ⟨r_10, σ_9, hc_8, h⟩ := bi_of h
    refine cg_ (rV_ (nn := 2) (As := [.int x1, .int (1 : Int32)]) (rest := [.int ((3 : Int32) * x3), .ref (a 8)]) X xkM I (c_M_its hc_8 H.size) gX12_prove_X12_its rfl ⟨rfl, rfl⟩ (by decide +kernel) ⟨Nat.le_of_ble_eq_true rfl, Nat.le_of_ble_eq_true rfl⟩ (by decide) shM_0 rfl rfl hl.1 rfl (Nat.le_of_ble_eq_true rfl) dX12_prove_54) I (fun H locs I => ?_)
    obtain ⟨g_11, h⟩ := gd_of h
    refine is_ (σ2 := wr_ σ_9 8 ((3 : Int32) * x3).toNatClampNeg r_10) X I 8 (by decide) shM_8 (in_of g_11) shM_st_8 dX12_prove_57 (fun σ_12 H locs e_13 I => ?_)
    have h := lt_at h e_13
    refine lv_aload_n hx hb dX12_prove_58 rfl (lv_at hl 0 rfl) ?_
    refine ig_ (index := 31) X I (fun _ q => List.mem_cons_of_mem _ (List.mem_append_right _ q)) 0 (by decide) shM_0 rfl 14 (by decide) (by decide +kernel) rfl (v := .ref (a 8)) rfl dX12_prove_59 ?_
    refine lv_iconst (v := 3) hx hb dX12_prove_62 (by decide) ?_
    refine lv_iload_n hx hb dX12_prove_63 rfl (lv_at hl 3 rfl) ?_
    refine lv_imul hx hb dX12_prove_64 ?_
    refine lv_iconst (v := 1) hx hb dX12_prove_65 (by decide) ?_
    refine lv_iadd hx hb dX12_prove_66 ?_
    refine lv_aload_n hx hb dX12_prove_67 rfl (lv_at hl 0 rfl) ?_
    refine lv_iload_n hx hb dX12_prove_68 rfl (lv_at hl 1 rfl) ?_
    refine lv_iconst (v := 4) hx hb dX12_prove_69 (by decide) ?_
    obtain ⟨r_16, σ_15, hc_14, h⟩ := bi_of h
    refine cg_ (rV_ (nn := 2) (As := [.int x1, .int (4 : Int32)]) (rest := [.int (((3 : Int32) * x3) + (1 : Int32)), .ref (a 8)]) X xkM I (c_M_its hc_14 H.size) gX12_prove_X12_its rfl ⟨rfl, rfl⟩ (by decide +kernel) ⟨Nat.le_of_ble_eq_true rfl, Nat.le_of_ble_eq_true rfl⟩ (by decide) shM_0 rfl rfl hl.1 rfl (Nat.le_of_ble_eq_true rfl) dX12_prove_70) I (fun H locs I => ?_)
    obtain ⟨g_17, h⟩ := gd_of h
    refine is_ (σ2 := wr_ σ_15 8 (((3 : Int32) * x3) + (1 : Int32)).toNatClampNeg r_16) X I 8 (by decide) shM_8 (in_of g_17) shM_st_8 dX12_prove_73 (fun σ_18 H locs e_19 I => ?_)
    have h := lt_at h e_19
    refine lv_aload_n hx hb dX12_prove_74 rfl (lv_at hl 0 rfl) ?_
    refine ig_ (index := 31) X I (fun _ q => List.mem_cons_of_mem _ (List.mem_append_right _ q)) 0 (by decide) shM_0 rfl 14 (by decide) (by decide +kernel) rfl (v := .ref (a 8)) rfl dX12_prove_75 ?_
    refine lv_iconst (v := 3) hx hb dX12_prove_78 (by decide) ?_
    refine lv_iload_n hx hb dX12_prove_79 rfl (lv_at hl 3 rfl) ?_
    refine lv_imul hx hb dX12_prove_80 ?_
    refine lv_iconst (v := 2) hx hb dX12_prove_81 (by decide) ?_
    refine lv_iadd hx hb dX12_prove_82 ?_
    refine lv_aload_n hx hb dX12_prove_83 rfl (lv_at hl 0 rfl) ?_
    refine lv_iload_n hx hb dX12_prove_84 rfl (lv_at hl 1 rfl) ?_
    obtain ⟨r_22, σ_21, hc_20, h⟩ := bi_of h
    refine cg_ (rV_ (nn := 1) (As := [.int x1]) (rest := [.int (((3 : Int32) * x3) + (2 : Int32)), .ref (a 8)]) X xkM I (c_M_farNow hc_20 H.size) gX12_prove_X12_farNow rfl ⟨rfl, rfl⟩ (by decide +kernel) ⟨Nat.le_of_ble_eq_true rfl, Nat.le_of_ble_eq_true rfl⟩ (by decide) shM_0 rfl rfl hl.1 rfl (Nat.le_of_ble_eq_true rfl) dX12_prove_85) I (fun H locs I => ?_)
    obtain ⟨g_23, h⟩ := gd_of h
    refine is_ (σ2 := wr_ σ_21 8 (((3 : Int32) * x3) + (2 : Int32)).toNatClampNeg r_22) X I 8 (by decide) shM_8 (in_of g_23) shM_st_8 dX12_prove_88 (fun σ_24 H locs e_25 I => ?_)
    have h := lt_at h e_25
    obtain ⟨y_26, e_27⟩ : ∃ q : Int32, q = x3 + (1 : Int32) := ⟨_, rfl⟩
    have h := lt_at h e_27
    refine lv_iinc (v := y_26) (lv' := [(3, .int y_26), (0, .ref (a 0)), (1, .int x1), (2, .int x2)]) hx hb dX12_prove_89 hl (k := 3) rfl (by rw [e_27]; rfl) (by decide) rfl (fun ls hl => ?_)
    refine lv_goto (tgt := 35) hx hb dX12_prove_92 (by decide) ?_
    exact hk35 σ_24 x1 x2 y_26 H locs ls h I (lv_sub hl [1, 2, 3, 0] rfl)
set_option maxRecDepth 100000 in
theorem kM_prove_35L {p : Program} {l : Launch} {e : Env} {s : State} {m : MethodId} {args : Array Value} {below : List Frame} {meth : Method} {c : Code} {D : va_G} {cy : Nat → ClassId} {a : Nat → Nat} (X : cx_ cX12_prove RX12 wsX12_prove 4 (some .int) 16 a D cy xfM p s m args meth c)  {r0 : Int32} {σ' : Sg}  : ∀ (n : Nat), ∀ (σ : Sg) (x1 : Int32) (x2 : Int32) (x3 : Int32) (H : Heap) (locs : List Loc) (ls : Array Slot), lp_ (M_prove_35) (fun _ _ _ _ => none) n σ x1 x2 x3 = some (r0, σ') → iv_ 16 a D (shM cy a σ) s H locs → lv_has ls 4 [(0, .ref (a 0)), (1, .int x1), (2, .int x2), (3, .int x3)] → W p l e ({ frames := 4, cells := 0, slots := 0, locals := 89 }) s m args below meth c H locs 0 0 (MQ below (qg_ 16 a D (shM cy a σ') (some (.int r0)) s.heap.size) args s 0 0 (fr_ 16 a s.heap.size)) (F0 m 35 ls []) := by
  intro n
  induction n with
  | zero =>
    intro _ _ _ _ _ _ _ h
    exact absurd h (fun q => by cases (show (none : Option _) = some _ from q))
  | succ n ih => exact kM_prove_35 X ih

def M_prove_0  (σ : Sg) (x1 : Int32) (x2 : Int32) : Option (Int32 × Sg) :=
  bi_ (M_isOne_0 σ x1) fun r_3 σ_2 =>
  if r_3 = 0 then (some ((-1 : Int32), σ_2))
  else (bp_ (M_isIn_0 (x2).toInt64 (1 : Int64) (10 : Int64)) fun r_6 =>
  if r_6 = 0 then (some ((-1 : Int32), σ_2))
  else (bi_ (M_copyRow_1_3_0 σ_2) fun _ σ_9 =>
  lp_ M_prove_35 (fun _ _ _ _ => none) FU σ_9 x1 x2 (0 : Int32)))
set_option maxRecDepth 100000 in
theorem kM_prove_0 {p : Program} {l : Launch} {e : Env} {s : State} {m : MethodId} {args : Array Value} {below : List Frame} {meth : Method} {c : Code} {D : va_G} {cy : Nat → ClassId} {a : Nat → Nat} (X : cx_ cX12_prove RX12 wsX12_prove 4 (some .int) 16 a D cy xfM p s m args meth c)  {r0 : Int32} {σ' : Sg}  : ∀ (σ : Sg) (x1 : Int32) (x2 : Int32) (H : Heap) (locs : List Loc) (ls : Array Slot), M_prove_0 σ x1 x2 = some (r0, σ') → iv_ 16 a D (shM cy a σ) s H locs → lv_has ls 4 [(0, .ref (a 0)), (1, .int x1), (2, .int x2)] → W p l e ({ frames := 4, cells := 0, slots := 0, locals := 89 }) s m args below meth c H locs 0 0 (MQ below (qg_ 16 a D (shM cy a σ') (some (.int r0)) s.heap.size) args s 0 0 (fr_ 16 a s.heap.size)) (F0 m 0 ls []) := by
  obtain ⟨hx, hb, hr, hml, hown, hts, hlk, hK, hA, hXf⟩ := id X
  intro σ x1 x2 H locs ls h I hl
  unfold M_prove_0 at h
  refine lv_aload_n hx hb dX12_prove_0 rfl (lv_at hl 0 rfl) ?_
  refine lv_iload_n hx hb dX12_prove_1 rfl (lv_at hl 1 rfl) ?_
  obtain ⟨r_3, σ_2, hc_1, h⟩ := bi_of h
  refine cg_ (rV_ (nn := 1) (As := [.int x1]) (rest := []) X xkM I (c_M_isOne hc_1 H.size) gX12_prove_X12_isOne rfl ⟨rfl, rfl⟩ (by decide +kernel) ⟨Nat.le_of_ble_eq_true rfl, Nat.le_of_ble_eq_true rfl⟩ (by decide) shM_0 rfl rfl hl.1 rfl (Nat.le_of_ble_eq_true rfl) dX12_prove_2) I (fun H locs I => ?_)
  refine lv_if_eq (tgt := 20) hx hb dX12_prove_5 (by decide) (fun c_4 => ?_) (fun c_4 => ?_)
  · have h := if_t h c_4
    refine lv_iconst (v := (-1)) hx hb dX12_prove_20 (by decide) ?_
    obtain ⟨rfl, rfl⟩ := re_s h
    exact rti_ X I dX12_prove_21
  · have h := if_f h c_4
    refine lv_iload_n hx hb dX12_prove_8 rfl (lv_at hl 2 rfl) ?_
    refine lv_i2l hx hb dX12_prove_9 rfl ?_
    refine lv_lconst (v := 1) hx hb dX12_prove_10 (by decide) ?_
    refine lv_ldc2 (v := 10) hx hb hown (hts (.constantLong RX12 281 (10)) (by decide +kernel)) dX12_prove_11 ?_
    obtain ⟨r_6, hc_5, h⟩ := bp_of h
    refine cp_ (rP_ (nn := 3) (As := [.long (x2).toInt64, .long (1 : Int64), .long (10 : Int64)]) (rest := []) ⟨hx, hb, hml, hown, hts⟩ (c_M_isIn hc_5) gX12_prove_X12_isIn rfl ⟨rfl, rfl⟩ (by decide +kernel) ⟨Nat.le_of_ble_eq_true rfl, Nat.le_of_ble_eq_true rfl⟩ rfl hl.1 rfl (Nat.le_of_ble_eq_true rfl) dX12_prove_14 ⟨Nat.zero_le _, Nat.zero_le _⟩) ?_
    refine lv_if_ne (tgt := 22) hx hb dX12_prove_17 (by decide) (fun c_7 => ?_) (fun c_7 => ?_)
    · have h := if_f h c_7
      refine lv_aload_n hx hb dX12_prove_22 rfl (lv_at hl 0 rfl) ?_
      refine ig_ (index := 7) X I (fun _ q => List.mem_cons_of_mem _ (List.mem_append_right _ q)) 0 (by decide) shM_0 rfl 0 (by decide) (by decide +kernel) rfl (v := .ref (a 1)) rfl dX12_prove_23 ?_
      refine lv_aload_n hx hb dX12_prove_26 rfl (lv_at hl 0 rfl) ?_
      refine ig_ (index := 16) X I (fun _ q => List.mem_cons_of_mem _ (List.mem_append_right _ q)) 0 (by decide) shM_0 rfl 2 (by decide) (by decide +kernel) rfl (v := .ref (a 3)) rfl dX12_prove_27 ?_
      obtain ⟨_, σ_9, hc_8, h⟩ := bi_of h
      refine cv_ (rS_ (nn := 2) (As := [.ref (a 1), .ref (a 3)]) (rest := []) X xkM I (c_M_copyRow_1_3 hc_8 H.size) gX12_prove_X12_copyRow rfl ⟨rfl, rfl⟩ (by decide +kernel) ⟨Nat.le_of_ble_eq_true rfl, Nat.le_of_ble_eq_true rfl⟩ rfl hl.1 rfl (Nat.le_of_ble_eq_true rfl) dX12_prove_30) I (fun H locs I => ?_)
      refine lv_iconst (v := 0) hx hb dX12_prove_33 (by decide) ?_
      refine lv_istore_n (lv' := [(3, .int (0 : Int32)), (0, .ref (a 0)), (1, .int x1), (2, .int x2)]) hx hb dX12_prove_34 rfl hl (by decide) rfl (fun ls hl => ?_)
      exact kM_prove_35L X  FU σ_9 x1 x2 (0 : Int32) H locs ls h I (lv_sub hl [1, 2, 3, 0] rfl)
    · have h := if_t h c_7
      refine lv_iconst (v := (-1)) hx hb dX12_prove_20 (by decide) ?_
      obtain ⟨rfl, rfl⟩ := re_s h
      exact rti_ X I dX12_prove_21
theorem c_M_prove {l : Launch} {D : va_G} {cy : Nat → ClassId} {a : Nat → Nat} {σ : Sg} {x1 : Int32} {x2 : Int32} {r0 : Int32} {σ' : Sg} (h : M_prove_0 σ x1 x2 = some (r0, σ')) (sz : Nat) : Met l yX12_prove wsX12_prove ({ frames := 4, cells := 0, slots := 0, locals := 89 }) (va_Pc [.ref (a 0), .int x1, .int x2] (pr_ 16 a D cy (shM cy a σ) xfM sz)) (qg_ 16 a D (shM cy a σ') (some (.int r0)) sz) 0 0 (fr_ 16 a sz) := by
  refine ent_ (by decide) rfl (Nat.le_of_ble_eq_true rfl) ?_
  intro p e s m below meth c ls hsz X I hl
  subst hsz
  exact kM_prove_0 X σ x1 x2 s.heap [] ls h I hl

def M_isRow_0  (σ : Sg) (x1 : Int32) (x2 : Int32) : Option (Int32 × Sg) :=
  bp_ (M_isIn_0 (x1).toInt64 (0 : Int64) ((rd_ σ 0 15) - (1 : Int32)).toInt64) fun r_2 =>
  if r_2 = 0 then (some ((0 : Int32), σ))
  else (bp_ (M_isIn_0 (x2).toInt64 (0 : Int64) (2 : Int64)) fun r_5 =>
  if r_5 = 0 then (some ((0 : Int32), σ))
  else (some ((1 : Int32), σ)))
set_option maxRecDepth 100000 in
theorem kM_isRow_0 {p : Program} {l : Launch} {e : Env} {s : State} {m : MethodId} {args : Array Value} {below : List Frame} {meth : Method} {c : Code} {D : va_G} {cy : Nat → ClassId} {a : Nat → Nat} (X : cx_ cX12_isRow RX12 wsX12_isRow 3 (some .boolean) 16 a D cy xfM p s m args meth c)  {r0 : Int32} {σ' : Sg}  : ∀ (σ : Sg) (x1 : Int32) (x2 : Int32) (H : Heap) (locs : List Loc) (ls : Array Slot), M_isRow_0 σ x1 x2 = some (r0, σ') → iv_ 16 a D (shM cy a σ) s H locs → lv_has ls 3 [(0, .ref (a 0)), (1, .int x1), (2, .int x2)] → W p l e ({ frames := 1, cells := 0, slots := 0, locals := 25 }) s m args below meth c H locs 0 0 (MQ below (qg_ 16 a D (shM cy a σ') (some (.int r0)) s.heap.size) args s 0 0 (fr_ 16 a s.heap.size)) (F0 m 0 ls []) := by
  obtain ⟨hx, hb, hr, hml, hown, hts, hlk, hK, hA, hXf⟩ := id X
  intro σ x1 x2 H locs ls h I hl
  unfold M_isRow_0 at h
  refine lv_iload_n hx hb dX12_isRow_0 rfl (lv_at hl 1 rfl) ?_
  refine lv_i2l hx hb dX12_isRow_1 rfl ?_
  refine lv_lconst (v := 0) hx hb dX12_isRow_2 (by decide) ?_
  refine lv_aload_n hx hb dX12_isRow_3 rfl (lv_at hl 0 rfl) ?_
  refine ig_ (index := 158) X I (fun _ q => List.mem_cons_of_mem _ (List.mem_append_right _ q)) 0 (by decide) shM_0 rfl 15 (by decide) (by decide +kernel) rfl (v := .int (rd_ σ 0 15)) rfl dX12_isRow_4 ?_
  refine lv_iconst (v := 1) hx hb dX12_isRow_7 (by decide) ?_
  refine lv_isub hx hb dX12_isRow_8 ?_
  refine lv_i2l hx hb dX12_isRow_9 rfl ?_
  obtain ⟨r_2, hc_1, h⟩ := bp_of h
  refine cp_ (rP_ (nn := 3) (As := [.long (x1).toInt64, .long (0 : Int64), .long ((rd_ σ 0 15) - (1 : Int32)).toInt64]) (rest := []) ⟨hx, hb, hml, hown, hts⟩ (c_M_isIn hc_1) gX12_isRow_X12_isIn rfl ⟨rfl, rfl⟩ (by decide +kernel) ⟨Nat.le_of_ble_eq_true rfl, Nat.le_of_ble_eq_true rfl⟩ rfl hl.1 rfl (Nat.le_of_ble_eq_true rfl) dX12_isRow_10 ⟨Nat.zero_le _, Nat.zero_le _⟩) ?_
  refine lv_if_eq (tgt := 32) hx hb dX12_isRow_13 (by decide) (fun c_3 => ?_) (fun c_3 => ?_)
  · have h := if_t h c_3
    refine lv_iconst (v := 0) hx hb dX12_isRow_32 (by decide) ?_
    obtain ⟨rfl, rfl⟩ := re_s h
    exact rtz_ X I (by decide) dX12_isRow_33
  · have h := if_f h c_3
    refine lv_iload_n hx hb dX12_isRow_16 rfl (lv_at hl 2 rfl) ?_
    refine lv_i2l hx hb dX12_isRow_17 rfl ?_
    refine lv_lconst (v := 0) hx hb dX12_isRow_18 (by decide) ?_
    refine lv_ldc2 (v := 2) hx hb hown (hts (.constantLong RX12 188 (2)) (by decide +kernel)) dX12_isRow_19 ?_
    obtain ⟨r_5, hc_4, h⟩ := bp_of h
    refine cp_ (rP_ (nn := 3) (As := [.long (x2).toInt64, .long (0 : Int64), .long (2 : Int64)]) (rest := []) ⟨hx, hb, hml, hown, hts⟩ (c_M_isIn hc_4) gX12_isRow_X12_isIn rfl ⟨rfl, rfl⟩ (by decide +kernel) ⟨Nat.le_of_ble_eq_true rfl, Nat.le_of_ble_eq_true rfl⟩ rfl hl.1 rfl (Nat.le_of_ble_eq_true rfl) dX12_isRow_22 ⟨Nat.zero_le _, Nat.zero_le _⟩) ?_
    refine lv_if_eq (tgt := 32) hx hb dX12_isRow_25 (by decide) (fun c_6 => ?_) (fun c_6 => ?_)
    · have h := if_t h c_6
      refine lv_iconst (v := 0) hx hb dX12_isRow_32 (by decide) ?_
      obtain ⟨rfl, rfl⟩ := re_s h
      exact rtz_ X I (by decide) dX12_isRow_33
    · have h := if_f h c_6
      refine lv_iconst (v := 1) hx hb dX12_isRow_28 (by decide) ?_
      refine lv_goto (tgt := 33) hx hb dX12_isRow_29 (by decide) ?_
      obtain ⟨rfl, rfl⟩ := re_s h
      exact rtz_ X I (by decide) dX12_isRow_33
theorem c_M_isRow {l : Launch} {D : va_G} {cy : Nat → ClassId} {a : Nat → Nat} {σ : Sg} {x1 : Int32} {x2 : Int32} {r0 : Int32} {σ' : Sg} (h : M_isRow_0 σ x1 x2 = some (r0, σ')) (sz : Nat) : Met l yX12_isRow wsX12_isRow ({ frames := 1, cells := 0, slots := 0, locals := 25 }) (va_Pc [.ref (a 0), .int x1, .int x2] (pr_ 16 a D cy (shM cy a σ) xfM sz)) (qg_ 16 a D (shM cy a σ') (some (.int r0)) sz) 0 0 (fr_ 16 a sz) := by
  refine ent_ (by decide) rfl (Nat.le_of_ble_eq_true rfl) ?_
  intro p e s m below meth c ls hsz X I hl
  subst hsz
  exact kM_isRow_0 X σ x1 x2 s.heap [] ls h I hl

def M_row_0  (σ : Sg) (x1 : Int32) (x2 : Int32) : Option (Int32 × Sg) :=
  bi_ (M_isRow_0 σ x1 x2) fun r_3 σ_2 =>
  if r_3 = 0 then (some ((-9 : Int32), σ_2))
  else (lt_ ((((3 : Int32) * x1) + x2)) fun y_5 =>
  gd_ (in_ y_5 30) (
  some ((rd_ σ_2 8 y_5.toNatClampNeg), σ_2)))
set_option maxRecDepth 100000 in
theorem kM_row_0 {p : Program} {l : Launch} {e : Env} {s : State} {m : MethodId} {args : Array Value} {below : List Frame} {meth : Method} {c : Code} {D : va_G} {cy : Nat → ClassId} {a : Nat → Nat} (X : cx_ cX12_row RX12 wsX12_row 3 (some .int) 16 a D cy xfM p s m args meth c)  {r0 : Int32} {σ' : Sg}  : ∀ (σ : Sg) (x1 : Int32) (x2 : Int32) (H : Heap) (locs : List Loc) (ls : Array Slot), M_row_0 σ x1 x2 = some (r0, σ') → iv_ 16 a D (shM cy a σ) s H locs → lv_has ls 3 [(0, .ref (a 0)), (1, .int x1), (2, .int x2)] → W p l e ({ frames := 2, cells := 0, slots := 0, locals := 47 }) s m args below meth c H locs 0 0 (MQ below (qg_ 16 a D (shM cy a σ') (some (.int r0)) s.heap.size) args s 0 0 (fr_ 16 a s.heap.size)) (F0 m 0 ls []) := by
  obtain ⟨hx, hb, hr, hml, hown, hts, hlk, hK, hA, hXf⟩ := id X
  intro σ x1 x2 H locs ls h I hl
  unfold M_row_0 at h
  refine lv_aload_n hx hb dX12_row_0 rfl (lv_at hl 0 rfl) ?_
  refine lv_iload_n hx hb dX12_row_1 rfl (lv_at hl 1 rfl) ?_
  refine lv_iload_n hx hb dX12_row_2 rfl (lv_at hl 2 rfl) ?_
  obtain ⟨r_3, σ_2, hc_1, h⟩ := bi_of h
  refine cg_ (rV_ (nn := 2) (As := [.int x1, .int x2]) (rest := []) X xkM I (c_M_isRow hc_1 H.size) gX12_row_X12_isRow rfl ⟨rfl, rfl⟩ (by decide +kernel) ⟨Nat.le_of_ble_eq_true rfl, Nat.le_of_ble_eq_true rfl⟩ (by decide) shM_0 rfl rfl hl.1 rfl (Nat.le_of_ble_eq_true rfl) dX12_row_3) I (fun H locs I => ?_)
  refine lv_if_eq (tgt := 22) hx hb dX12_row_6 (by decide) (fun c_4 => ?_) (fun c_4 => ?_)
  · have h := if_t h c_4
    refine lv_bipush (v := (-9)) hx hb dX12_row_22 (by decide) ?_
    obtain ⟨rfl, rfl⟩ := re_s h
    exact rti_ X I dX12_row_24
  · have h := if_f h c_4
    refine lv_aload_n hx hb dX12_row_9 rfl (lv_at hl 0 rfl) ?_
    refine ig_ (index := 31) X I (fun _ q => List.mem_cons_of_mem _ (List.mem_append_right _ q)) 0 (by decide) shM_0 rfl 14 (by decide) (by decide +kernel) rfl (v := .ref (a 8)) rfl dX12_row_10 ?_
    refine lv_iconst (v := 3) hx hb dX12_row_13 (by decide) ?_
    refine lv_iload_n hx hb dX12_row_14 rfl (lv_at hl 1 rfl) ?_
    refine lv_imul hx hb dX12_row_15 ?_
    refine lv_iload_n hx hb dX12_row_16 rfl (lv_at hl 2 rfl) ?_
    refine lv_iadd hx hb dX12_row_17 ?_
    refine lv_topi (fun y_5 e_6 => ?_)
    have h := lt_at h e_6
    obtain ⟨g_7, h⟩ := gd_of h
    refine ia_ X I 8 (by decide) shM_8 (in_of g_7) (v0 := rd_ σ_2 8 y_5.toNatClampNeg) rfl dX12_row_18 ?_
    refine lv_goto (tgt := 24) hx hb dX12_row_19 (by decide) ?_
    obtain ⟨rfl, rfl⟩ := re_s h
    exact rti_ X I dX12_row_24
theorem c_M_row {l : Launch} {D : va_G} {cy : Nat → ClassId} {a : Nat → Nat} {σ : Sg} {x1 : Int32} {x2 : Int32} {r0 : Int32} {σ' : Sg} (h : M_row_0 σ x1 x2 = some (r0, σ')) (sz : Nat) : Met l yX12_row wsX12_row ({ frames := 2, cells := 0, slots := 0, locals := 47 }) (va_Pc [.ref (a 0), .int x1, .int x2] (pr_ 16 a D cy (shM cy a σ) xfM sz)) (qg_ 16 a D (shM cy a σ') (some (.int r0)) sz) 0 0 (fr_ 16 a sz) := by
  refine ent_ (by decide) rfl (Nat.le_of_ble_eq_true rfl) ?_
  intro p e s m below meth c ls hsz X I hl
  subst hsz
  exact kM_row_0 X σ x1 x2 s.heap [] ls h I hl

def M_alterRow_0  (σ : Sg) (x1 : Int32) (x2 : Int32) (x3 : Int32) : Option (Int32 × Sg) :=
  bi_ (M_isRow_0 σ x1 x2) fun r_3 σ_2 =>
  if r_3 = 0 then (some ((-9 : Int32), σ_2))
  else (lt_ ((((3 : Int32) * x1) + x2)) fun y_5 =>
  gd_ (in_ y_5 30) (
  lt_ ((rd_ σ_2 8 y_5.toNatClampNeg)) fun y_8 =>
  gd_ (in_ (((3 : Int32) * x1) + x2) 30) (
  lt_ (wr_ σ_2 8 (((3 : Int32) * x1) + x2).toNatClampNeg x3) fun σ_11 =>
  some (y_8, σ_11))))
set_option maxRecDepth 100000 in
theorem kM_alterRow_0 {p : Program} {l : Launch} {e : Env} {s : State} {m : MethodId} {args : Array Value} {below : List Frame} {meth : Method} {c : Code} {D : va_G} {cy : Nat → ClassId} {a : Nat → Nat} (X : cx_ cX12_alterRow RX12 wsX12_alterRow 5 (some .int) 16 a D cy xfM p s m args meth c)  {r0 : Int32} {σ' : Sg}  : ∀ (σ : Sg) (x1 : Int32) (x2 : Int32) (x3 : Int32) (H : Heap) (locs : List Loc) (ls : Array Slot), M_alterRow_0 σ x1 x2 x3 = some (r0, σ') → iv_ 16 a D (shM cy a σ) s H locs → lv_has ls 5 [(0, .ref (a 0)), (1, .int x1), (2, .int x2), (3, .int x3)] → W p l e ({ frames := 2, cells := 0, slots := 0, locals := 47 }) s m args below meth c H locs 0 0 (MQ below (qg_ 16 a D (shM cy a σ') (some (.int r0)) s.heap.size) args s 0 0 (fr_ 16 a s.heap.size)) (F0 m 0 ls []) := by
  obtain ⟨hx, hb, hr, hml, hown, hts, hlk, hK, hA, hXf⟩ := id X
  intro σ x1 x2 x3 H locs ls h I hl
  unfold M_alterRow_0 at h
  refine lv_aload_n hx hb dX12_alterRow_0 rfl (lv_at hl 0 rfl) ?_
  refine lv_iload_n hx hb dX12_alterRow_1 rfl (lv_at hl 1 rfl) ?_
  refine lv_iload_n hx hb dX12_alterRow_2 rfl (lv_at hl 2 rfl) ?_
  obtain ⟨r_3, σ_2, hc_1, h⟩ := bi_of h
  refine cg_ (rV_ (nn := 2) (As := [.int x1, .int x2]) (rest := []) X xkM I (c_M_isRow hc_1 H.size) gX12_alterRow_X12_isRow rfl ⟨rfl, rfl⟩ (by decide +kernel) ⟨Nat.le_of_ble_eq_true rfl, Nat.le_of_ble_eq_true rfl⟩ (by decide) shM_0 rfl rfl hl.1 rfl (Nat.le_of_ble_eq_true rfl) dX12_alterRow_3) I (fun H locs I => ?_)
  refine lv_if_ne (tgt := 12) hx hb dX12_alterRow_6 (by decide) (fun c_4 => ?_) (fun c_4 => ?_)
  · have h := if_f h c_4
    refine lv_aload_n hx hb dX12_alterRow_12 rfl (lv_at hl 0 rfl) ?_
    refine ig_ (index := 31) X I (fun _ q => List.mem_cons_of_mem _ (List.mem_append_right _ q)) 0 (by decide) shM_0 rfl 14 (by decide) (by decide +kernel) rfl (v := .ref (a 8)) rfl dX12_alterRow_13 ?_
    refine lv_iconst (v := 3) hx hb dX12_alterRow_16 (by decide) ?_
    refine lv_iload_n hx hb dX12_alterRow_17 rfl (lv_at hl 1 rfl) ?_
    refine lv_imul hx hb dX12_alterRow_18 ?_
    refine lv_iload_n hx hb dX12_alterRow_19 rfl (lv_at hl 2 rfl) ?_
    refine lv_iadd hx hb dX12_alterRow_20 ?_
    refine lv_topi (fun y_5 e_6 => ?_)
    have h := lt_at h e_6
    obtain ⟨g_7, h⟩ := gd_of h
    refine ia_ X I 8 (by decide) shM_8 (in_of g_7) (v0 := rd_ σ_2 8 y_5.toNatClampNeg) rfl dX12_alterRow_21 ?_
    refine lv_topi (fun y_8 e_9 => ?_)
    have h := lt_at h e_9
    refine lv_istore (lv' := [(4, .int y_8), (0, .ref (a 0)), (1, .int x1), (2, .int x2), (3, .int x3)]) hx hb dX12_alterRow_22 hl (by decide) rfl (fun ls hl => ?_)
    refine lv_aload_n hx hb dX12_alterRow_24 rfl (lv_at hl 1 rfl) ?_
    refine ig_ (index := 31) X I (fun _ q => List.mem_cons_of_mem _ (List.mem_append_right _ q)) 0 (by decide) shM_0 rfl 14 (by decide) (by decide +kernel) rfl (v := .ref (a 8)) rfl dX12_alterRow_25 ?_
    refine lv_iconst (v := 3) hx hb dX12_alterRow_28 (by decide) ?_
    refine lv_iload_n hx hb dX12_alterRow_29 rfl (lv_at hl 2 rfl) ?_
    refine lv_imul hx hb dX12_alterRow_30 ?_
    refine lv_iload_n hx hb dX12_alterRow_31 rfl (lv_at hl 3 rfl) ?_
    refine lv_iadd hx hb dX12_alterRow_32 ?_
    refine lv_iload_n hx hb dX12_alterRow_33 rfl (lv_at hl 4 rfl) ?_
    obtain ⟨g_10, h⟩ := gd_of h
    refine is_ (σ2 := wr_ σ_2 8 (((3 : Int32) * x1) + x2).toNatClampNeg x3) X I 8 (by decide) shM_8 (in_of g_10) shM_st_8 dX12_alterRow_34 (fun σ_11 H locs e_12 I => ?_)
    have h := lt_at h e_12
    refine lv_iload hx hb dX12_alterRow_35 (lv_at hl 0 rfl) ?_
    obtain ⟨rfl, rfl⟩ := re_s h
    exact rti_ X I dX12_alterRow_37
  · have h := if_t h c_4
    refine lv_bipush (v := (-9)) hx hb dX12_alterRow_9 (by decide) ?_
    obtain ⟨rfl, rfl⟩ := re_s h
    exact rti_ X I dX12_alterRow_11
theorem c_M_alterRow {l : Launch} {D : va_G} {cy : Nat → ClassId} {a : Nat → Nat} {σ : Sg} {x1 : Int32} {x2 : Int32} {x3 : Int32} {r0 : Int32} {σ' : Sg} (h : M_alterRow_0 σ x1 x2 x3 = some (r0, σ')) (sz : Nat) : Met l yX12_alterRow wsX12_alterRow ({ frames := 2, cells := 0, slots := 0, locals := 47 }) (va_Pc [.ref (a 0), .int x1, .int x2, .int x3] (pr_ 16 a D cy (shM cy a σ) xfM sz)) (qg_ 16 a D (shM cy a σ') (some (.int r0)) sz) 0 0 (fr_ 16 a sz) := by
  refine ent_ (by decide) rfl (Nat.le_of_ble_eq_true rfl) ?_
  intro p e s m below meth c ls hsz X I hl
  subst hsz
  exact kM_alterRow_0 X σ x1 x2 x3 s.heap [] ls h I hl

def M_judge_100 (k25 : Sg → Int32 → Int32 → Int32 → Option (Int32 × Sg)) (σ : Sg) (x1 : Int32) (x2 : Int32) (t0 : Int32) : Option (Int32 × Sg) :=
  lt_ (x2 + (1 : Int32)) fun y_1 =>
  k25 σ x1 y_1 t0
set_option maxRecDepth 100000 in
theorem kM_judge_100 {p : Program} {l : Launch} {e : Env} {s : State} {m : MethodId} {args : Array Value} {below : List Frame} {meth : Method} {c : Code} {D : va_G} {cy : Nat → ClassId} {a : Nat → Nat} (X : cx_ cX12_judge RX12 wsX12_judge 4 (some .int) 16 a D cy xfM p s m args meth c) {k25 : Sg → Int32 → Int32 → Int32 → Option (Int32 × Sg)} {r0 : Int32} {σ' : Sg} (hk25 : ∀ (σ : Sg) (x1 : Int32) (x2 : Int32) (x3 : Int32) (H : Heap) (locs : List Loc) (ls : Array Slot), k25 σ x1 x2 x3 = some (r0, σ') → iv_ 16 a D (shM cy a σ) s H locs → lv_has ls 4 [(0, .ref (a 0)), (1, .int x1), (2, .int x2), (3, .int x3)] → W p l e ({ frames := 4, cells := 0, slots := 0, locals := 89 }) s m args below meth c H locs 0 0 (MQ below (qg_ 16 a D (shM cy a σ') (some (.int r0)) s.heap.size) args s 0 0 (fr_ 16 a s.heap.size)) (F0 m 25 ls [])) : ∀ (σ : Sg) (x1 : Int32) (x2 : Int32) (t0 : Int32) (H : Heap) (locs : List Loc) (ls : Array Slot), M_judge_100 k25 σ x1 x2 t0 = some (r0, σ') → iv_ 16 a D (shM cy a σ) s H locs → lv_has ls 4 [(0, .ref (a 0)), (1, .int x1), (2, .int x2)] → W p l e ({ frames := 4, cells := 0, slots := 0, locals := 89 }) s m args below meth c H locs 0 0 (MQ below (qg_ 16 a D (shM cy a σ') (some (.int r0)) s.heap.size) args s 0 0 (fr_ 16 a s.heap.size)) (F0 m 100 ls [.int t0]) := by
  obtain ⟨hx, hb, hr, hml, hown, hts, hlk, hK, hA, hXf⟩ := id X
  intro σ x1 x2 t0 H locs ls h I hl
  unfold M_judge_100 at h
  refine lv_istore_n (lv' := [(3, .int t0), (0, .ref (a 0)), (1, .int x1), (2, .int x2)]) hx hb dX12_judge_100 rfl hl (by decide) rfl (fun ls hl => ?_)
  obtain ⟨y_1, e_2⟩ : ∃ q : Int32, q = x2 + (1 : Int32) := ⟨_, rfl⟩
  have h := lt_at h e_2
  refine lv_iinc (v := y_1) (lv' := [(2, .int y_1), (3, .int t0), (0, .ref (a 0)), (1, .int x1)]) hx hb dX12_judge_101 hl (k := 3) rfl (by rw [e_2]; rfl) (by decide) rfl (fun ls hl => ?_)
  refine lv_goto (tgt := 25) hx hb dX12_judge_104 (by decide) ?_
  exact hk25 σ x1 y_1 t0 H locs ls h I (lv_sub hl [2, 3, 0, 1] rfl)
def M_judge_99 (k25 : Sg → Int32 → Int32 → Int32 → Option (Int32 × Sg)) (σ : Sg) (x1 : Int32) (x2 : Int32) : Option (Int32 × Sg) :=
  M_judge_100 k25 σ x1 x2 (0 : Int32)
set_option maxRecDepth 100000 in
theorem kM_judge_99 {p : Program} {l : Launch} {e : Env} {s : State} {m : MethodId} {args : Array Value} {below : List Frame} {meth : Method} {c : Code} {D : va_G} {cy : Nat → ClassId} {a : Nat → Nat} (X : cx_ cX12_judge RX12 wsX12_judge 4 (some .int) 16 a D cy xfM p s m args meth c) {k25 : Sg → Int32 → Int32 → Int32 → Option (Int32 × Sg)} {r0 : Int32} {σ' : Sg} (hk25 : ∀ (σ : Sg) (x1 : Int32) (x2 : Int32) (x3 : Int32) (H : Heap) (locs : List Loc) (ls : Array Slot), k25 σ x1 x2 x3 = some (r0, σ') → iv_ 16 a D (shM cy a σ) s H locs → lv_has ls 4 [(0, .ref (a 0)), (1, .int x1), (2, .int x2), (3, .int x3)] → W p l e ({ frames := 4, cells := 0, slots := 0, locals := 89 }) s m args below meth c H locs 0 0 (MQ below (qg_ 16 a D (shM cy a σ') (some (.int r0)) s.heap.size) args s 0 0 (fr_ 16 a s.heap.size)) (F0 m 25 ls [])) : ∀ (σ : Sg) (x1 : Int32) (x2 : Int32) (H : Heap) (locs : List Loc) (ls : Array Slot), M_judge_99 k25 σ x1 x2 = some (r0, σ') → iv_ 16 a D (shM cy a σ) s H locs → lv_has ls 4 [(0, .ref (a 0)), (1, .int x1), (2, .int x2)] → W p l e ({ frames := 4, cells := 0, slots := 0, locals := 89 }) s m args below meth c H locs 0 0 (MQ below (qg_ 16 a D (shM cy a σ') (some (.int r0)) s.heap.size) args s 0 0 (fr_ 16 a s.heap.size)) (F0 m 99 ls []) := by
  obtain ⟨hx, hb, hr, hml, hown, hts, hlk, hK, hA, hXf⟩ := id X
  intro σ x1 x2 H locs ls h I hl
  unfold M_judge_99 at h
  refine lv_iconst (v := 0) hx hb dX12_judge_99 (by decide) ?_
  exact kM_judge_100 X hk25 σ x1 x2 (0 : Int32) H locs ls h I (lv_sub hl [0, 1, 2] rfl)
def M_judge_107  (σ : Sg) (x2 : Int32) (x3 : Int32) : Option (Int32 × Sg) :=
  bi_ (M_copyRow_3_1_0 σ) fun _ σ_2 =>
  if x3 = 0 then (some (x2, σ_2))
  else (some ((0 : Int32), σ_2))
set_option maxRecDepth 100000 in
theorem kM_judge_107 {p : Program} {l : Launch} {e : Env} {s : State} {m : MethodId} {args : Array Value} {below : List Frame} {meth : Method} {c : Code} {D : va_G} {cy : Nat → ClassId} {a : Nat → Nat} (X : cx_ cX12_judge RX12 wsX12_judge 4 (some .int) 16 a D cy xfM p s m args meth c)  {r0 : Int32} {σ' : Sg}  : ∀ (σ : Sg) (x2 : Int32) (x3 : Int32) (H : Heap) (locs : List Loc) (ls : Array Slot), M_judge_107 σ x2 x3 = some (r0, σ') → iv_ 16 a D (shM cy a σ) s H locs → lv_has ls 4 [(0, .ref (a 0)), (2, .int x2), (3, .int x3)] → W p l e ({ frames := 4, cells := 0, slots := 0, locals := 89 }) s m args below meth c H locs 0 0 (MQ below (qg_ 16 a D (shM cy a σ') (some (.int r0)) s.heap.size) args s 0 0 (fr_ 16 a s.heap.size)) (F0 m 107 ls []) := by
  obtain ⟨hx, hb, hr, hml, hown, hts, hlk, hK, hA, hXf⟩ := id X
  intro σ x2 x3 H locs ls h I hl
  unfold M_judge_107 at h
  refine lv_aload_n hx hb dX12_judge_107 rfl (lv_at hl 0 rfl) ?_
  refine ig_ (index := 16) X I (fun _ q => List.mem_cons_of_mem _ (List.mem_append_right _ q)) 0 (by decide) shM_0 rfl 2 (by decide) (by decide +kernel) rfl (v := .ref (a 3)) rfl dX12_judge_108 ?_
  refine lv_aload_n hx hb dX12_judge_111 rfl (lv_at hl 0 rfl) ?_
  refine ig_ (index := 7) X I (fun _ q => List.mem_cons_of_mem _ (List.mem_append_right _ q)) 0 (by decide) shM_0 rfl 0 (by decide) (by decide +kernel) rfl (v := .ref (a 1)) rfl dX12_judge_112 ?_
  obtain ⟨_, σ_2, hc_1, h⟩ := bi_of h
  refine cv_ (rS_ (nn := 2) (As := [.ref (a 3), .ref (a 1)]) (rest := []) X xkM I (c_M_copyRow_3_1 hc_1 H.size) gX12_judge_X12_copyRow rfl ⟨rfl, rfl⟩ (by decide +kernel) ⟨Nat.le_of_ble_eq_true rfl, Nat.le_of_ble_eq_true rfl⟩ rfl hl.1 rfl (Nat.le_of_ble_eq_true rfl) dX12_judge_115) I (fun H locs I => ?_)
  refine lv_iload_n hx hb dX12_judge_118 rfl (lv_at hl 2 rfl) ?_
  refine lv_if_eq (tgt := 126) hx hb dX12_judge_119 (by decide) (fun c_3 => ?_) (fun c_3 => ?_)
  · have h := if_t h c_3
    refine lv_iload_n hx hb dX12_judge_126 rfl (lv_at hl 1 rfl) ?_
    obtain ⟨rfl, rfl⟩ := re_s h
    exact rti_ X I dX12_judge_127
  · have h := if_f h c_3
    refine lv_iconst (v := 0) hx hb dX12_judge_122 (by decide) ?_
    refine lv_goto (tgt := 127) hx hb dX12_judge_123 (by decide) ?_
    obtain ⟨rfl, rfl⟩ := re_s h
    exact rti_ X I dX12_judge_127
def M_judge_25 (k25 : Sg → Int32 → Int32 → Int32 → Option (Int32 × Sg)) (σ : Sg) (x1 : Int32) (x2 : Int32) (x3 : Int32) : Option (Int32 × Sg) :=
  if (rd_ σ 0 15) ≤ x2 then (M_judge_107 σ x2 x3)
  else (if x3 = 0 then (M_judge_107 σ x2 x3)
  else (bi_ (M_goesOn_0 σ) fun _ σ_4 =>
  lt_ (((3 : Int32) * x2)) fun y_5 =>
  gd_ (in_ y_5 30) (
  bi_ (M_its_0 σ_4 x1 (1 : Int32)) fun r_10 σ_9 =>
  if (rd_ σ_4 8 y_5.toNatClampNeg) = r_10 then (lt_ ((((3 : Int32) * x2) + (1 : Int32))) fun y_12 =>
  gd_ (in_ y_12 30) (
  bi_ (M_its_0 σ_9 x1 (4 : Int32)) fun r_17 σ_16 =>
  if (rd_ σ_9 8 y_12.toNatClampNeg) = r_17 then (lt_ ((((3 : Int32) * x2) + (2 : Int32))) fun y_19 =>
  gd_ (in_ y_19 30) (
  bi_ (M_farNow_0 σ_16 x1) fun r_24 σ_23 =>
  if (rd_ σ_16 8 y_19.toNatClampNeg) = r_24 then (M_judge_100 k25 σ_23 x1 x2 (1 : Int32))
  else (M_judge_99 k25 σ_23 x1 x2)))
  else (M_judge_99 k25 σ_16 x1 x2)))
  else (M_judge_99 k25 σ_9 x1 x2))))
set_option maxRecDepth 100000 in
theorem kM_judge_25 {p : Program} {l : Launch} {e : Env} {s : State} {m : MethodId} {args : Array Value} {below : List Frame} {meth : Method} {c : Code} {D : va_G} {cy : Nat → ClassId} {a : Nat → Nat} (X : cx_ cX12_judge RX12 wsX12_judge 4 (some .int) 16 a D cy xfM p s m args meth c) {k25 : Sg → Int32 → Int32 → Int32 → Option (Int32 × Sg)} {r0 : Int32} {σ' : Sg} (hk25 : ∀ (σ : Sg) (x1 : Int32) (x2 : Int32) (x3 : Int32) (H : Heap) (locs : List Loc) (ls : Array Slot), k25 σ x1 x2 x3 = some (r0, σ') → iv_ 16 a D (shM cy a σ) s H locs → lv_has ls 4 [(0, .ref (a 0)), (1, .int x1), (2, .int x2), (3, .int x3)] → W p l e ({ frames := 4, cells := 0, slots := 0, locals := 89 }) s m args below meth c H locs 0 0 (MQ below (qg_ 16 a D (shM cy a σ') (some (.int r0)) s.heap.size) args s 0 0 (fr_ 16 a s.heap.size)) (F0 m 25 ls [])) : ∀ (σ : Sg) (x1 : Int32) (x2 : Int32) (x3 : Int32) (H : Heap) (locs : List Loc) (ls : Array Slot), M_judge_25 k25 σ x1 x2 x3 = some (r0, σ') → iv_ 16 a D (shM cy a σ) s H locs → lv_has ls 4 [(0, .ref (a 0)), (1, .int x1), (2, .int x2), (3, .int x3)] → W p l e ({ frames := 4, cells := 0, slots := 0, locals := 89 }) s m args below meth c H locs 0 0 (MQ below (qg_ 16 a D (shM cy a σ') (some (.int r0)) s.heap.size) args s 0 0 (fr_ 16 a s.heap.size)) (F0 m 25 ls []) := by
  obtain ⟨hx, hb, hr, hml, hown, hts, hlk, hK, hA, hXf⟩ := id X
  intro σ x1 x2 x3 H locs ls h I hl
  unfold M_judge_25 at h
  refine lv_iload_n hx hb dX12_judge_25 rfl (lv_at hl 2 rfl) ?_
  refine lv_aload_n hx hb dX12_judge_26 rfl (lv_at hl 0 rfl) ?_
  refine ig_ (index := 158) X I (fun _ q => List.mem_cons_of_mem _ (List.mem_append_right _ q)) 0 (by decide) shM_0 rfl 15 (by decide) (by decide +kernel) rfl (v := .int (rd_ σ 0 15)) rfl dX12_judge_27 ?_
  refine lv_icmp_ge (tgt := 107) hx hb dX12_judge_30 (by decide) (fun c_1 => ?_) (fun c_1 => ?_)
  · have h := if_t h c_1
    exact kM_judge_107 X  σ x2 x3 H locs ls h I (lv_sub hl [0, 2, 3] rfl)
  · have h := if_f h c_1
    refine lv_iload_n hx hb dX12_judge_33 rfl (lv_at hl 3 rfl) ?_
    refine lv_if_eq (tgt := 107) hx hb dX12_judge_34 (by decide) (fun c_2 => ?_) (fun c_2 => ?_)
    · have h := if_t h c_2
      exact kM_judge_107 X  σ x2 x3 H locs ls h I (lv_sub hl [0, 2, 3] rfl)
    · have h := if_f h c_2
      refine lv_aload_n hx hb dX12_judge_37 rfl (lv_at hl 0 rfl) ?_
      obtain ⟨_, σ_4, hc_3, h⟩ := bi_of h
      refine cv_ (rV_ (nn := 0) (As := []) (rest := []) X xkM I (c_M_goesOn hc_3 H.size) gX12_judge_X12_goesOn rfl ⟨rfl, rfl⟩ (by decide +kernel) ⟨Nat.le_of_ble_eq_true rfl, Nat.le_of_ble_eq_true rfl⟩ (by decide) shM_0 rfl rfl hl.1 rfl (Nat.le_of_ble_eq_true rfl) dX12_judge_38) I (fun H locs I => ?_)
      refine lv_aload_n hx hb dX12_judge_41 rfl (lv_at hl 0 rfl) ?_
      refine ig_ (index := 31) X I (fun _ q => List.mem_cons_of_mem _ (List.mem_append_right _ q)) 0 (by decide) shM_0 rfl 14 (by decide) (by decide +kernel) rfl (v := .ref (a 8)) rfl dX12_judge_42 ?_
      refine lv_iconst (v := 3) hx hb dX12_judge_45 (by decide) ?_
      refine lv_iload_n hx hb dX12_judge_46 rfl (lv_at hl 2 rfl) ?_
      refine lv_imul hx hb dX12_judge_47 ?_
      refine lv_topi (fun y_5 e_6 => ?_)
      have h := lt_at h e_6
      obtain ⟨g_7, h⟩ := gd_of h
      refine ia_ X I 8 (by decide) shM_8 (in_of g_7) (v0 := rd_ σ_4 8 y_5.toNatClampNeg) rfl dX12_judge_48 ?_
      refine lv_aload_n hx hb dX12_judge_49 rfl (lv_at hl 0 rfl) ?_
      refine lv_iload_n hx hb dX12_judge_50 rfl (lv_at hl 1 rfl) ?_
      refine lv_iconst (v := 1) hx hb dX12_judge_51 (by decide) ?_
      obtain ⟨r_10, σ_9, hc_8, h⟩ := bi_of h
      refine cg_ (rV_ (nn := 2) (As := [.int x1, .int (1 : Int32)]) (rest := [.int (rd_ σ_4 8 y_5.toNatClampNeg)]) X xkM I (c_M_its hc_8 H.size) gX12_judge_X12_its rfl ⟨rfl, rfl⟩ (by decide +kernel) ⟨Nat.le_of_ble_eq_true rfl, Nat.le_of_ble_eq_true rfl⟩ (by decide) shM_0 rfl rfl hl.1 rfl (Nat.le_of_ble_eq_true rfl) dX12_judge_52) I (fun H locs I => ?_)
      refine lv_icmp_ne (tgt := 99) hx hb dX12_judge_55 (by decide) (fun c_11 => ?_) (fun c_11 => ?_)
      · have h := if_f h c_11
        exact kM_judge_99 X hk25 σ_9 x1 x2 H locs ls h I (lv_sub hl [0, 1, 2] rfl)
      · have h := if_t h c_11
        refine lv_aload_n hx hb dX12_judge_58 rfl (lv_at hl 0 rfl) ?_
        refine ig_ (index := 31) X I (fun _ q => List.mem_cons_of_mem _ (List.mem_append_right _ q)) 0 (by decide) shM_0 rfl 14 (by decide) (by decide +kernel) rfl (v := .ref (a 8)) rfl dX12_judge_59 ?_
        refine lv_iconst (v := 3) hx hb dX12_judge_62 (by decide) ?_
        refine lv_iload_n hx hb dX12_judge_63 rfl (lv_at hl 2 rfl) ?_
        refine lv_imul hx hb dX12_judge_64 ?_
        refine lv_iconst (v := 1) hx hb dX12_judge_65 (by decide) ?_
        refine lv_iadd hx hb dX12_judge_66 ?_
        refine lv_topi (fun y_12 e_13 => ?_)
        have h := lt_at h e_13
        obtain ⟨g_14, h⟩ := gd_of h
        refine ia_ X I 8 (by decide) shM_8 (in_of g_14) (v0 := rd_ σ_9 8 y_12.toNatClampNeg) rfl dX12_judge_67 ?_
        refine lv_aload_n hx hb dX12_judge_68 rfl (lv_at hl 0 rfl) ?_
        refine lv_iload_n hx hb dX12_judge_69 rfl (lv_at hl 1 rfl) ?_
        refine lv_iconst (v := 4) hx hb dX12_judge_70 (by decide) ?_
        obtain ⟨r_17, σ_16, hc_15, h⟩ := bi_of h
        refine cg_ (rV_ (nn := 2) (As := [.int x1, .int (4 : Int32)]) (rest := [.int (rd_ σ_9 8 y_12.toNatClampNeg)]) X xkM I (c_M_its hc_15 H.size) gX12_judge_X12_its rfl ⟨rfl, rfl⟩ (by decide +kernel) ⟨Nat.le_of_ble_eq_true rfl, Nat.le_of_ble_eq_true rfl⟩ (by decide) shM_0 rfl rfl hl.1 rfl (Nat.le_of_ble_eq_true rfl) dX12_judge_71) I (fun H locs I => ?_)
        refine lv_icmp_ne (tgt := 99) hx hb dX12_judge_74 (by decide) (fun c_18 => ?_) (fun c_18 => ?_)
        · have h := if_f h c_18
          exact kM_judge_99 X hk25 σ_16 x1 x2 H locs ls h I (lv_sub hl [0, 1, 2] rfl)
        · have h := if_t h c_18
          refine lv_aload_n hx hb dX12_judge_77 rfl (lv_at hl 0 rfl) ?_
          refine ig_ (index := 31) X I (fun _ q => List.mem_cons_of_mem _ (List.mem_append_right _ q)) 0 (by decide) shM_0 rfl 14 (by decide) (by decide +kernel) rfl (v := .ref (a 8)) rfl dX12_judge_78 ?_
          refine lv_iconst (v := 3) hx hb dX12_judge_81 (by decide) ?_
          refine lv_iload_n hx hb dX12_judge_82 rfl (lv_at hl 2 rfl) ?_
          refine lv_imul hx hb dX12_judge_83 ?_
          refine lv_iconst (v := 2) hx hb dX12_judge_84 (by decide) ?_
          refine lv_iadd hx hb dX12_judge_85 ?_
          refine lv_topi (fun y_19 e_20 => ?_)
          have h := lt_at h e_20
          obtain ⟨g_21, h⟩ := gd_of h
          refine ia_ X I 8 (by decide) shM_8 (in_of g_21) (v0 := rd_ σ_16 8 y_19.toNatClampNeg) rfl dX12_judge_86 ?_
          refine lv_aload_n hx hb dX12_judge_87 rfl (lv_at hl 0 rfl) ?_
          refine lv_iload_n hx hb dX12_judge_88 rfl (lv_at hl 1 rfl) ?_
          obtain ⟨r_24, σ_23, hc_22, h⟩ := bi_of h
          refine cg_ (rV_ (nn := 1) (As := [.int x1]) (rest := [.int (rd_ σ_16 8 y_19.toNatClampNeg)]) X xkM I (c_M_farNow hc_22 H.size) gX12_judge_X12_farNow rfl ⟨rfl, rfl⟩ (by decide +kernel) ⟨Nat.le_of_ble_eq_true rfl, Nat.le_of_ble_eq_true rfl⟩ (by decide) shM_0 rfl rfl hl.1 rfl (Nat.le_of_ble_eq_true rfl) dX12_judge_89) I (fun H locs I => ?_)
          refine lv_icmp_ne (tgt := 99) hx hb dX12_judge_92 (by decide) (fun c_25 => ?_) (fun c_25 => ?_)
          · have h := if_f h c_25
            exact kM_judge_99 X hk25 σ_23 x1 x2 H locs ls h I (lv_sub hl [0, 1, 2] rfl)
          · have h := if_t h c_25
            refine lv_iconst (v := 1) hx hb dX12_judge_95 (by decide) ?_
            refine lv_goto (tgt := 100) hx hb dX12_judge_96 (by decide) ?_
            exact kM_judge_100 X hk25 σ_23 x1 x2 (1 : Int32) H locs ls h I (lv_sub hl [0, 1, 2] rfl)
set_option maxRecDepth 100000 in
theorem kM_judge_25L {p : Program} {l : Launch} {e : Env} {s : State} {m : MethodId} {args : Array Value} {below : List Frame} {meth : Method} {c : Code} {D : va_G} {cy : Nat → ClassId} {a : Nat → Nat} (X : cx_ cX12_judge RX12 wsX12_judge 4 (some .int) 16 a D cy xfM p s m args meth c)  {r0 : Int32} {σ' : Sg}  : ∀ (n : Nat), ∀ (σ : Sg) (x1 : Int32) (x2 : Int32) (x3 : Int32) (H : Heap) (locs : List Loc) (ls : Array Slot), lp_ (M_judge_25) (fun _ _ _ _ => none) n σ x1 x2 x3 = some (r0, σ') → iv_ 16 a D (shM cy a σ) s H locs → lv_has ls 4 [(0, .ref (a 0)), (1, .int x1), (2, .int x2), (3, .int x3)] → W p l e ({ frames := 4, cells := 0, slots := 0, locals := 89 }) s m args below meth c H locs 0 0 (MQ below (qg_ 16 a D (shM cy a σ') (some (.int r0)) s.heap.size) args s 0 0 (fr_ 16 a s.heap.size)) (F0 m 25 ls []) := by
  intro n
  induction n with
  | zero =>
    intro _ _ _ _ _ _ _ h
    exact absurd h (fun q => by cases (show (none : Option _) = some _ from q))
  | succ n ih => exact kM_judge_25 X ih

def M_judge_0  (σ : Sg) (x1 : Int32) : Option (Int32 × Sg) :=
  bi_ (M_isOne_0 σ x1) fun r_3 σ_2 =>
  if r_3 = 0 then (some ((-1 : Int32), σ_2))
  else (bi_ (M_copyRow_1_3_0 σ_2) fun _ σ_6 =>
  lp_ M_judge_25 (fun _ _ _ _ => none) FU σ_6 x1 (0 : Int32) (1 : Int32))
set_option maxRecDepth 100000 in
theorem kM_judge_0 {p : Program} {l : Launch} {e : Env} {s : State} {m : MethodId} {args : Array Value} {below : List Frame} {meth : Method} {c : Code} {D : va_G} {cy : Nat → ClassId} {a : Nat → Nat} (X : cx_ cX12_judge RX12 wsX12_judge 4 (some .int) 16 a D cy xfM p s m args meth c)  {r0 : Int32} {σ' : Sg}  : ∀ (σ : Sg) (x1 : Int32) (H : Heap) (locs : List Loc) (ls : Array Slot), M_judge_0 σ x1 = some (r0, σ') → iv_ 16 a D (shM cy a σ) s H locs → lv_has ls 4 [(0, .ref (a 0)), (1, .int x1)] → W p l e ({ frames := 4, cells := 0, slots := 0, locals := 89 }) s m args below meth c H locs 0 0 (MQ below (qg_ 16 a D (shM cy a σ') (some (.int r0)) s.heap.size) args s 0 0 (fr_ 16 a s.heap.size)) (F0 m 0 ls []) := by
  obtain ⟨hx, hb, hr, hml, hown, hts, hlk, hK, hA, hXf⟩ := id X
  intro σ x1 H locs ls h I hl
  unfold M_judge_0 at h
  refine lv_aload_n hx hb dX12_judge_0 rfl (lv_at hl 0 rfl) ?_
  refine lv_iload_n hx hb dX12_judge_1 rfl (lv_at hl 1 rfl) ?_
  obtain ⟨r_3, σ_2, hc_1, h⟩ := bi_of h
  refine cg_ (rV_ (nn := 1) (As := [.int x1]) (rest := []) X xkM I (c_M_isOne hc_1 H.size) gX12_judge_X12_isOne rfl ⟨rfl, rfl⟩ (by decide +kernel) ⟨Nat.le_of_ble_eq_true rfl, Nat.le_of_ble_eq_true rfl⟩ (by decide) shM_0 rfl rfl hl.1 rfl (Nat.le_of_ble_eq_true rfl) dX12_judge_2) I (fun H locs I => ?_)
  refine lv_if_ne (tgt := 10) hx hb dX12_judge_5 (by decide) (fun c_4 => ?_) (fun c_4 => ?_)
  · have h := if_f h c_4
    refine lv_aload_n hx hb dX12_judge_10 rfl (lv_at hl 0 rfl) ?_
    refine ig_ (index := 7) X I (fun _ q => List.mem_cons_of_mem _ (List.mem_append_right _ q)) 0 (by decide) shM_0 rfl 0 (by decide) (by decide +kernel) rfl (v := .ref (a 1)) rfl dX12_judge_11 ?_
    refine lv_aload_n hx hb dX12_judge_14 rfl (lv_at hl 0 rfl) ?_
    refine ig_ (index := 16) X I (fun _ q => List.mem_cons_of_mem _ (List.mem_append_right _ q)) 0 (by decide) shM_0 rfl 2 (by decide) (by decide +kernel) rfl (v := .ref (a 3)) rfl dX12_judge_15 ?_
    obtain ⟨_, σ_6, hc_5, h⟩ := bi_of h
    refine cv_ (rS_ (nn := 2) (As := [.ref (a 1), .ref (a 3)]) (rest := []) X xkM I (c_M_copyRow_1_3 hc_5 H.size) gX12_judge_X12_copyRow rfl ⟨rfl, rfl⟩ (by decide +kernel) ⟨Nat.le_of_ble_eq_true rfl, Nat.le_of_ble_eq_true rfl⟩ rfl hl.1 rfl (Nat.le_of_ble_eq_true rfl) dX12_judge_18) I (fun H locs I => ?_)
    refine lv_iconst (v := 0) hx hb dX12_judge_21 (by decide) ?_
    refine lv_istore_n (lv' := [(2, .int (0 : Int32)), (0, .ref (a 0)), (1, .int x1)]) hx hb dX12_judge_22 rfl hl (by decide) rfl (fun ls hl => ?_)
    refine lv_iconst (v := 1) hx hb dX12_judge_23 (by decide) ?_
    refine lv_istore_n (lv' := [(3, .int (1 : Int32)), (2, .int (0 : Int32)), (0, .ref (a 0)), (1, .int x1)]) hx hb dX12_judge_24 rfl hl (by decide) rfl (fun ls hl => ?_)
    exact kM_judge_25L X  FU σ_6 x1 (0 : Int32) (1 : Int32) H locs ls h I (lv_sub hl [2, 3, 1, 0] rfl)
  · have h := if_t h c_4
    refine lv_iconst (v := (-1)) hx hb dX12_judge_8 (by decide) ?_
    obtain ⟨rfl, rfl⟩ := re_s h
    exact rti_ X I dX12_judge_9
theorem c_M_judge {l : Launch} {D : va_G} {cy : Nat → ClassId} {a : Nat → Nat} {σ : Sg} {x1 : Int32} {r0 : Int32} {σ' : Sg} (h : M_judge_0 σ x1 = some (r0, σ')) (sz : Nat) : Met l yX12_judge wsX12_judge ({ frames := 4, cells := 0, slots := 0, locals := 89 }) (va_Pc [.ref (a 0), .int x1] (pr_ 16 a D cy (shM cy a σ) xfM sz)) (qg_ 16 a D (shM cy a σ') (some (.int r0)) sz) 0 0 (fr_ 16 a sz) := by
  refine ent_ (by decide) rfl (Nat.le_of_ble_eq_true rfl) ?_
  intro p e s m below meth c ls hsz X I hl
  subst hsz
  exact kM_judge_0 X σ x1 s.heap [] ls h I hl

def M_lacks_0  (σ : Sg) (x1 : Int32) (x2 : Int32) : Option (Int32 × Sg) :=
  gd_ (in_ x1 4) (
  if 0 ≤ (rd_ σ 9 x1.toNatClampNeg) then (gd_ (in_ x1 4) (
  if (rd_ σ 9 x1.toNatClampNeg) = x2 then (some ((0 : Int32), σ))
  else (some ((-13 : Int32), σ))))
  else (some ((-11 : Int32), σ)))
set_option maxRecDepth 100000 in
theorem kM_lacks_0 {p : Program} {l : Launch} {e : Env} {s : State} {m : MethodId} {args : Array Value} {below : List Frame} {meth : Method} {c : Code} {D : va_G} {cy : Nat → ClassId} {a : Nat → Nat} (X : cx_ cX12_lacks RX12 wsX12_lacks 3 (some .int) 16 a D cy xfM p s m args meth c)  {r0 : Int32} {σ' : Sg}  : ∀ (σ : Sg) (x1 : Int32) (x2 : Int32) (H : Heap) (locs : List Loc) (ls : Array Slot), M_lacks_0 σ x1 x2 = some (r0, σ') → iv_ 16 a D (shM cy a σ) s H locs → lv_has ls 3 [(0, .ref (a 0)), (1, .int x1), (2, .int x2)] → W p l e ({ frames := 0, cells := 0, slots := 0, locals := 0 }) s m args below meth c H locs 0 0 (MQ below (qg_ 16 a D (shM cy a σ') (some (.int r0)) s.heap.size) args s 0 0 (fr_ 16 a s.heap.size)) (F0 m 0 ls []) := by
  obtain ⟨hx, hb, hr, hml, hown, hts, hlk, hK, hA, hXf⟩ := id X
  intro σ x1 x2 H locs ls h I hl
  unfold M_lacks_0 at h
  refine lv_aload_n hx hb dX12_lacks_0 rfl (lv_at hl 0 rfl) ?_
  refine ig_ (index := 34) X I (fun _ q => List.mem_cons_of_mem _ (List.mem_append_right _ q)) 0 (by decide) shM_0 rfl 16 (by decide) (by decide +kernel) rfl (v := .ref (a 9)) rfl dX12_lacks_1 ?_
  refine lv_iload_n hx hb dX12_lacks_4 rfl (lv_at hl 1 rfl) ?_
  obtain ⟨g_1, h⟩ := gd_of h
  refine ia_ X I 9 (by decide) shM_9 (in_of g_1) (v0 := rd_ σ 9 x1.toNatClampNeg) rfl dX12_lacks_5 ?_
  refine lv_if_ge (tgt := 14) hx hb dX12_lacks_6 (by decide) (fun c_2 => ?_) (fun c_2 => ?_)
  · have h := if_t h c_2
    refine lv_aload_n hx hb dX12_lacks_14 rfl (lv_at hl 0 rfl) ?_
    refine ig_ (index := 34) X I (fun _ q => List.mem_cons_of_mem _ (List.mem_append_right _ q)) 0 (by decide) shM_0 rfl 16 (by decide) (by decide +kernel) rfl (v := .ref (a 9)) rfl dX12_lacks_15 ?_
    refine lv_iload_n hx hb dX12_lacks_18 rfl (lv_at hl 1 rfl) ?_
    obtain ⟨g_3, h⟩ := gd_of h
    refine ia_ X I 9 (by decide) shM_9 (in_of g_3) (v0 := rd_ σ 9 x1.toNatClampNeg) rfl dX12_lacks_19 ?_
    refine lv_iload_n hx hb dX12_lacks_20 rfl (lv_at hl 2 rfl) ?_
    refine lv_icmp_eq (tgt := 29) hx hb dX12_lacks_21 (by decide) (fun c_4 => ?_) (fun c_4 => ?_)
    · have h := if_t h c_4
      refine lv_iconst (v := 0) hx hb dX12_lacks_29 (by decide) ?_
      obtain ⟨rfl, rfl⟩ := re_s h
      exact rti_ X I dX12_lacks_30
    · have h := if_f h c_4
      refine lv_bipush (v := (-13)) hx hb dX12_lacks_24 (by decide) ?_
      refine lv_goto (tgt := 30) hx hb dX12_lacks_26 (by decide) ?_
      obtain ⟨rfl, rfl⟩ := re_s h
      exact rti_ X I dX12_lacks_30
  · have h := if_f h c_2
    refine lv_bipush (v := (-11)) hx hb dX12_lacks_9 (by decide) ?_
    refine lv_goto (tgt := 30) hx hb dX12_lacks_11 (by decide) ?_
    obtain ⟨rfl, rfl⟩ := re_s h
    exact rti_ X I dX12_lacks_30
theorem c_M_lacks {l : Launch} {D : va_G} {cy : Nat → ClassId} {a : Nat → Nat} {σ : Sg} {x1 : Int32} {x2 : Int32} {r0 : Int32} {σ' : Sg} (h : M_lacks_0 σ x1 x2 = some (r0, σ')) (sz : Nat) : Met l yX12_lacks wsX12_lacks ({ frames := 0, cells := 0, slots := 0, locals := 0 }) (va_Pc [.ref (a 0), .int x1, .int x2] (pr_ 16 a D cy (shM cy a σ) xfM sz)) (qg_ 16 a D (shM cy a σ') (some (.int r0)) sz) 0 0 (fr_ 16 a sz) := by
  refine ent_ (by decide) rfl (Nat.le_of_ble_eq_true rfl) ?_
  intro p e s m below meth c ls hsz X I hl
  subst hsz
  exact kM_lacks_0 X σ x1 x2 s.heap [] ls h I hl
