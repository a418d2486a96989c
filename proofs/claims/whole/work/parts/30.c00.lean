def C_within_0  (x0 : Int32) (x1 : Int32) : Option Int32 :=
  if x0 < 0 then (some ((0 : Int32)))
  else (if x1 < x0 then (some ((0 : Int32)))
  else (some ((1 : Int32))))
set_option maxRecDepth 100000 in
theorem kC_within_0 {p : Program} {l : Launch} {e : Env} {s : State} {m : MethodId} {args : Array Value} {below : List Frame} {meth : Method} {c : Code} (X : px_ cX11_within RX11 wsX11_within 2 (some .boolean) p s m args meth c)  {r0 : Int32}  : ∀ (x0 : Int32) (x1 : Int32) (ls : Array Slot), C_within_0 x0 x1 = some r0 → lv_has ls 2 [(0, .int x0), (1, .int x1)] → W p l e ({ frames := 0, cells := 0, slots := 0, locals := 0 }) s m args below meth c s.heap [] 0 0 (MQ below (qp_ (some (.int r0))) args s 0 0 (fun _ => False)) (F0 m 0 ls []) := by
  obtain ⟨hx, hb, hr, hml, hown, hts, hlk⟩ := id X
  intro x0 x1 ls h hl
  unfold C_within_0 at h
  refine lv_iload_n hx hb dX11_within_0 rfl (lv_at hl 0 rfl) ?_
  refine lv_if_lt (tgt := 13) hx hb dX11_within_1 (by decide) (fun c_1 => ?_) (fun c_1 => ?_)
  · have h := if_t h c_1
    refine lv_iconst (v := 0) hx hb dX11_within_13 (by decide) ?_
    obtain rfl := re_p h
    exact rpz_ X (by decide) dX11_within_14
  · have h := if_f h c_1
    refine lv_iload_n hx hb dX11_within_4 rfl (lv_at hl 0 rfl) ?_
    refine lv_iload_n hx hb dX11_within_5 rfl (lv_at hl 1 rfl) ?_
    refine lv_icmp_gt (tgt := 13) hx hb dX11_within_6 (by decide) (fun c_2 => ?_) (fun c_2 => ?_)
    · have h := if_t h c_2
      refine lv_iconst (v := 0) hx hb dX11_within_13 (by decide) ?_
      obtain rfl := re_p h
      exact rpz_ X (by decide) dX11_within_14
    · have h := if_f h c_2
      refine lv_iconst (v := 1) hx hb dX11_within_9 (by decide) ?_
      refine lv_goto (tgt := 14) hx hb dX11_within_10 (by decide) ?_
      obtain rfl := re_p h
      exact rpz_ X (by decide) dX11_within_14
theorem c_C_within {l : Launch} {x0 : Int32} {x1 : Int32} {r0 : Int32} (h : C_within_0 x0 x1 = some r0) : Met l yX11_within wsX11_within ({ frames := 0, cells := 0, slots := 0, locals := 0 }) (pp_ [.int x0, .int x1]) (qp_ (some (.int r0))) 0 0 (fun _ => False) := by
  refine enp_ (by decide) rfl (Nat.le_of_ble_eq_true rfl) ?_
  intro p e s m below meth c ls X hl
  exact kC_within_0 X x0 x1 ls h hl

def C8_takes_58 (k21 : Sg → Int64 → Int32 → Int32 → Option (Int32 × Sg)) (σ : Sg) (x1 : Int64) (x3 : Int32) (x4 : Int32) : Option (Int32 × Sg) :=
  lt_ (wr_ σ 20 0 ((rd_ σ 20 0) + (1 : Int32))) fun σ_1 =>
  lt_ (x4 + (1 : Int32)) fun y_3 =>
  k21 σ_1 x1 x3 y_3
set_option maxRecDepth 100000 in
theorem kC8_takes_58 {p : Program} {l : Launch} {e : Env} {s : State} {m : MethodId} {args : Array Value} {below : List Frame} {meth : Method} {c : Code} {D : va_G} {cy : Nat → ClassId} {a gs : Nat → Nat} (X : cx_ cX8_takes RX8 wsX8_takes 5 (some .boolean) 59 a D cy (xfC gs) p s m args meth c) {k21 : Sg → Int64 → Int32 → Int32 → Option (Int32 × Sg)} {r0 : Int32} {σ' : Sg} (hk21 : ∀ (σ : Sg) (x1 : Int64) (x3 : Int32) (x4 : Int32) (H : Heap) (locs : List Loc) (ls : Array Slot), k21 σ x1 x3 x4 = some (r0, σ') → iv_ 59 a D (shC cy a σ) s H locs → lv_has ls 5 [(0, .ref (a 20)), (1, .long x1), (3, .int x3), (4, .int x4)] → W p l e ({ frames := 1, cells := 0, slots := 0, locals := 21 }) s m args below meth c H locs 0 0 (MQ below (qg_ 59 a D (shC cy a σ') (some (.int r0)) s.heap.size) args s 0 0 (fr_ 59 a s.heap.size)) (F0 m 21 ls [])) : ∀ (σ : Sg) (x1 : Int64) (x3 : Int32) (x4 : Int32) (H : Heap) (locs : List Loc) (ls : Array Slot), C8_takes_58 k21 σ x1 x3 x4 = some (r0, σ') → iv_ 59 a D (shC cy a σ) s H locs → lv_has ls 5 [(0, .ref (a 20)), (1, .long x1), (3, .int x3), (4, .int x4)] → W p l e ({ frames := 1, cells := 0, slots := 0, locals := 21 }) s m args below meth c H locs 0 0 (MQ below (qg_ 59 a D (shC cy a σ') (some (.int r0)) s.heap.size) args s 0 0 (fr_ 59 a s.heap.size)) (F0 m 58 ls []) := by
  obtain ⟨hx, hb, hr, hml, hown, hts, hlk, hK, hA, hXf⟩ := id X
  intro σ x1 x3 x4 H locs ls h I hl
  unfold C8_takes_58 at h
  refine lv_aload_n hx hb dX8_takes_58 rfl (lv_at hl 0 rfl) ?_
  refine lv_dup hx hb dX8_takes_59 rfl ?_
  refine ig_ (index := 15) X I (fun _ q => List.mem_cons_of_mem _ (List.mem_append_right _ q)) 20 (by decide) shC_20 rfl 0 (by decide) (by decide +kernel) rfl (v := .int (rd_ σ 20 0)) rfl dX8_takes_60 ?_
  refine lv_iconst (v := 1) hx hb dX8_takes_63 (by decide) ?_
  refine lv_iadd hx hb dX8_takes_64 ?_
  refine ip_ (index := 15) (ty := .int) X I (fun _ q => List.mem_cons_of_mem _ (List.mem_append_right _ q)) tyX8 tyX8_ok nmX8 20 (by decide) shC_20 rfl 0 (by decide) (by decide +kernel) rfl rfl (by decide +kernel) rfl rfl (Nat.le_of_ble_eq_true rfl) shC_pt_20_0 dX8_takes_65 (fun σ_1 H locs e_2 I => ?_)
  have h := lt_at h e_2
  obtain ⟨y_3, e_4⟩ : ∃ q : Int32, q = x4 + (1 : Int32) := ⟨_, rfl⟩
  have h := lt_at h e_4
  refine lv_iinc (v := y_3) (lv' := [(4, .int y_3), (0, .ref (a 20)), (1, .long x1), (3, .int x3)]) hx hb dX8_takes_68 hl (k := 3) rfl (by rw [e_4]; rfl) (by decide) rfl (fun ls hl => ?_)
  refine lv_goto (tgt := 21) hx hb dX8_takes_71 (by decide) ?_
  exact hk21 σ_1 x1 x3 y_3 H locs ls h I (lv_sub hl [1, 2, 3, 0] rfl)
def C8_takes_21 (k21 : Sg → Int64 → Int32 → Int32 → Option (Int32 × Sg)) (σ : Sg) (x1 : Int64) (x3 : Int32) (x4 : Int32) : Option (Int32 × Sg) :=
  if x3 ≤ x4 then (some ((1 : Int32), σ))
  else (bp_ (C_within_0 (rd_ σ 20 0) (199 : Int32)) fun r_3 =>
  if r_3 = 0 then (C8_takes_58 k21 σ x1 x3 x4)
  else (gd_ (in_ (rd_ σ 20 0) 200) (
  lt_ (wr_ σ 21 (rd_ σ 20 0).toNatClampNeg (x1 >>> (((8 : Int32) * x4).toInt64 &&& 63)).toInt32.toInt8.toInt32.toInt8.toInt32) fun σ_5 =>
  C8_takes_58 k21 σ_5 x1 x3 x4)))
set_option maxRecDepth 100000 in
theorem kC8_takes_21 {p : Program} {l : Launch} {e : Env} {s : State} {m : MethodId} {args : Array Value} {below : List Frame} {meth : Method} {c : Code} {D : va_G} {cy : Nat → ClassId} {a gs : Nat → Nat} (X : cx_ cX8_takes RX8 wsX8_takes 5 (some .boolean) 59 a D cy (xfC gs) p s m args meth c) {k21 : Sg → Int64 → Int32 → Int32 → Option (Int32 × Sg)} {r0 : Int32} {σ' : Sg} (hk21 : ∀ (σ : Sg) (x1 : Int64) (x3 : Int32) (x4 : Int32) (H : Heap) (locs : List Loc) (ls : Array Slot), k21 σ x1 x3 x4 = some (r0, σ') → iv_ 59 a D (shC cy a σ) s H locs → lv_has ls 5 [(0, .ref (a 20)), (1, .long x1), (3, .int x3), (4, .int x4)] → W p l e ({ frames := 1, cells := 0, slots := 0, locals := 21 }) s m args below meth c H locs 0 0 (MQ below (qg_ 59 a D (shC cy a σ') (some (.int r0)) s.heap.size) args s 0 0 (fr_ 59 a s.heap.size)) (F0 m 21 ls [])) : ∀ (σ : Sg) (x1 : Int64) (x3 : Int32) (x4 : Int32) (H : Heap) (locs : List Loc) (ls : Array Slot), C8_takes_21 k21 σ x1 x3 x4 = some (r0, σ') → iv_ 59 a D (shC cy a σ) s H locs → lv_has ls 5 [(0, .ref (a 20)), (1, .long x1), (3, .int x3), (4, .int x4)] → W p l e ({ frames := 1, cells := 0, slots := 0, locals := 21 }) s m args below meth c H locs 0 0 (MQ below (qg_ 59 a D (shC cy a σ') (some (.int r0)) s.heap.size) args s 0 0 (fr_ 59 a s.heap.size)) (F0 m 21 ls []) := by
  obtain ⟨hx, hb, hr, hml, hown, hts, hlk, hK, hA, hXf⟩ := id X
  intro σ x1 x3 x4 H locs ls h I hl
  unfold C8_takes_21 at h
  refine lv_iload hx hb dX8_takes_21 (lv_at hl 3 rfl) ?_
  refine lv_iload_n hx hb dX8_takes_23 rfl (lv_at hl 2 rfl) ?_
  refine lv_icmp_ge (tgt := 74) hx hb dX8_takes_24 (by decide) (fun c_1 => ?_) (fun c_1 => ?_)
  · have h := if_t h c_1
    refine lv_iconst (v := 1) hx hb dX8_takes_74 (by decide) ?_
    obtain ⟨rfl, rfl⟩ := re_s h
    exact rtz_ X I (by decide) dX8_takes_75
  · have h := if_f h c_1
    refine lv_aload_n hx hb dX8_takes_27 rfl (lv_at hl 0 rfl) ?_
    refine ig_ (index := 15) X I (fun _ q => List.mem_cons_of_mem _ (List.mem_append_right _ q)) 20 (by decide) shC_20 rfl 0 (by decide) (by decide +kernel) rfl (v := .int (rd_ σ 20 0)) rfl dX8_takes_28 ?_
    refine lv_sipush (v := 199) hx hb dX8_takes_31 (by decide) ?_
    obtain ⟨r_3, hc_2, h⟩ := bp_of h
    refine cp_ (rN_ (host := "BoundGodmothers") (nn := 2) (As := [.int (rd_ σ 20 0), .int (199 : Int32)]) (rest := []) ⟨hx, hb, hml, hown, hts⟩ (c_C_within hc_2) gX8_takes_X11_within_n19 (xC_nw8 hXf) (by decide +kernel) (by decide +kernel) rfl ⟨rfl, rfl⟩ (by decide +kernel) ⟨Nat.le_of_ble_eq_true rfl, Nat.le_of_ble_eq_true rfl⟩ rfl hl.1 rfl (Nat.le_of_ble_eq_true rfl) dX8_takes_34 ⟨Nat.zero_le _, Nat.zero_le _⟩) ?_
    refine lv_if_eq (tgt := 58) hx hb dX8_takes_37 (by decide) (fun c_4 => ?_) (fun c_4 => ?_)
    · have h := if_t h c_4
      exact kC8_takes_58 X hk21 σ x1 x3 x4 H locs ls h I (lv_sub hl [0, 1, 2, 3] rfl)
    · have h := if_f h c_4
      refine lv_aload_n hx hb dX8_takes_40 rfl (lv_at hl 0 rfl) ?_
      refine ig_ (index := 11) X I (fun _ q => List.mem_cons_of_mem _ (List.mem_append_right _ q)) 20 (by decide) shC_20 rfl 1 (by decide) (by decide +kernel) rfl (v := .ref (a 21)) rfl dX8_takes_41 ?_
      refine lv_aload_n hx hb dX8_takes_44 rfl (lv_at hl 0 rfl) ?_
      refine ig_ (index := 15) X I (fun _ q => List.mem_cons_of_mem _ (List.mem_append_right _ q)) 20 (by decide) shC_20 rfl 0 (by decide) (by decide +kernel) rfl (v := .int (rd_ σ 20 0)) rfl dX8_takes_45 ?_
      refine lv_lload_n hx hb dX8_takes_48 rfl (lv_at hl 1 rfl) ?_
      refine lv_bipush (v := 8) hx hb dX8_takes_49 (by decide) ?_
      refine lv_iload hx hb dX8_takes_51 (lv_at hl 3 rfl) ?_
      refine lv_imul hx hb dX8_takes_53 ?_
      refine lv_lshr hx hb dX8_takes_54 rfl ?_
      refine lv_l2i hx hb dX8_takes_55 rfl ?_
      refine lv_i2b hx hb dX8_takes_56 rfl ?_
      obtain ⟨g_7, h⟩ := gd_of h
      refine bs_ (σ2 := wr_ σ 21 (rd_ σ 20 0).toNatClampNeg (x1 >>> (((8 : Int32) * x4).toInt64 &&& 63)).toInt32.toInt8.toInt32.toInt8.toInt32) X I 21 (by decide) shC_21 (in_of g_7) shC_st_21 dX8_takes_57 (fun σ_5 H locs e_6 I => ?_)
      have h := lt_at h e_6
      exact kC8_takes_58 X hk21 σ_5 x1 x3 x4 H locs ls h I (lv_sub hl [0, 1, 2, 3] rfl)
set_option maxRecDepth 100000 in
theorem kC8_takes_21L {p : Program} {l : Launch} {e : Env} {s : State} {m : MethodId} {args : Array Value} {below : List Frame} {meth : Method} {c : Code} {D : va_G} {cy : Nat → ClassId} {a gs : Nat → Nat} (X : cx_ cX8_takes RX8 wsX8_takes 5 (some .boolean) 59 a D cy (xfC gs) p s m args meth c)  {r0 : Int32} {σ' : Sg}  : ∀ (n : Nat), ∀ (σ : Sg) (x1 : Int64) (x3 : Int32) (x4 : Int32) (H : Heap) (locs : List Loc) (ls : Array Slot), lp_ (C8_takes_21) (fun _ _ _ _ => none) n σ x1 x3 x4 = some (r0, σ') → iv_ 59 a D (shC cy a σ) s H locs → lv_has ls 5 [(0, .ref (a 20)), (1, .long x1), (3, .int x3), (4, .int x4)] → W p l e ({ frames := 1, cells := 0, slots := 0, locals := 21 }) s m args below meth c H locs 0 0 (MQ below (qg_ 59 a D (shC cy a σ') (some (.int r0)) s.heap.size) args s 0 0 (fr_ 59 a s.heap.size)) (F0 m 21 ls []) := by
  intro n
  induction n with
  | zero =>
    intro _ _ _ _ _ _ _ h
    exact absurd h (fun q => by cases (show (none : Option _) = some _ from q))
  | succ n ih => exact kC8_takes_21 X ih

def C8_takes_0  (σ : Sg) (x1 : Int64) (x3 : Int32) : Option (Int32 × Sg) :=
  if x3 < 0 then (some ((0 : Int32), σ))
  else (if x3 ≤ ((200 : Int32) - (rd_ σ 20 0)) then (lp_ C8_takes_21 (fun _ _ _ _ => none) FU σ x1 x3 (0 : Int32))
  else (some ((0 : Int32), σ)))
set_option maxRecDepth 100000 in
theorem kC8_takes_0 {p : Program} {l : Launch} {e : Env} {s : State} {m : MethodId} {args : Array Value} {below : List Frame} {meth : Method} {c : Code} {D : va_G} {cy : Nat → ClassId} {a gs : Nat → Nat} (X : cx_ cX8_takes RX8 wsX8_takes 5 (some .boolean) 59 a D cy (xfC gs) p s m args meth c)  {r0 : Int32} {σ' : Sg}  : ∀ (σ : Sg) (x1 : Int64) (x3 : Int32) (H : Heap) (locs : List Loc) (ls : Array Slot), C8_takes_0 σ x1 x3 = some (r0, σ') → iv_ 59 a D (shC cy a σ) s H locs → lv_has ls 5 [(0, .ref (a 20)), (1, .long x1), (3, .int x3)] → W p l e ({ frames := 1, cells := 0, slots := 0, locals := 21 }) s m args below meth c H locs 0 0 (MQ below (qg_ 59 a D (shC cy a σ') (some (.int r0)) s.heap.size) args s 0 0 (fr_ 59 a s.heap.size)) (F0 m 0 ls []) := by
  obtain ⟨hx, hb, hr, hml, hown, hts, hlk, hK, hA, hXf⟩ := id X
  intro σ x1 x3 H locs ls h I hl
  unfold C8_takes_0 at h
  refine lv_iload_n hx hb dX8_takes_0 rfl (lv_at hl 2 rfl) ?_
  refine lv_if_lt (tgt := 16) hx hb dX8_takes_1 (by decide) (fun c_1 => ?_) (fun c_1 => ?_)
  · have h := if_t h c_1
    refine lv_iconst (v := 0) hx hb dX8_takes_16 (by decide) ?_
    obtain ⟨rfl, rfl⟩ := re_s h
    exact rtz_ X I (by decide) dX8_takes_17
  · have h := if_f h c_1
    refine lv_iload_n hx hb dX8_takes_4 rfl (lv_at hl 2 rfl) ?_
    refine lv_sipush (v := 200) hx hb dX8_takes_5 (by decide) ?_
    refine lv_aload_n hx hb dX8_takes_8 rfl (lv_at hl 0 rfl) ?_
    refine ig_ (index := 15) X I (fun _ q => List.mem_cons_of_mem _ (List.mem_append_right _ q)) 20 (by decide) shC_20 rfl 0 (by decide) (by decide +kernel) rfl (v := .int (rd_ σ 20 0)) rfl dX8_takes_9 ?_
    refine lv_isub hx hb dX8_takes_12 ?_
    refine lv_icmp_le (tgt := 18) hx hb dX8_takes_13 (by decide) (fun c_2 => ?_) (fun c_2 => ?_)
    · have h := if_t h c_2
      refine lv_iconst (v := 0) hx hb dX8_takes_18 (by decide) ?_
      refine lv_istore (lv' := [(4, .int (0 : Int32)), (0, .ref (a 20)), (1, .long x1), (3, .int x3)]) hx hb dX8_takes_19 hl (by decide) rfl (fun ls hl => ?_)
      exact kC8_takes_21L X  FU σ x1 x3 (0 : Int32) H locs ls h I (lv_sub hl [1, 2, 3, 0] rfl)
    · have h := if_f h c_2
      refine lv_iconst (v := 0) hx hb dX8_takes_16 (by decide) ?_
      obtain ⟨rfl, rfl⟩ := re_s h
      exact rtz_ X I (by decide) dX8_takes_17
theorem c_C8_takes {l : Launch} {D : va_G} {cy : Nat → ClassId} {a gs : Nat → Nat} {σ : Sg} {x1 : Int64} {x3 : Int32} {r0 : Int32} {σ' : Sg} (h : C8_takes_0 σ x1 x3 = some (r0, σ')) (sz : Nat) : Met l yX8_takes wsX8_takes ({ frames := 1, cells := 0, slots := 0, locals := 21 }) (va_Pc [.ref (a 20), .long x1, .int x3] (pr_ 59 a D cy (shC cy a σ) (xfC gs) sz)) (qg_ 59 a D (shC cy a σ') (some (.int r0)) sz) 0 0 (fr_ 59 a sz) := by
  refine ent_ (by decide) rfl (Nat.le_of_ble_eq_true rfl) ?_
  intro p e s m below meth c ls hsz X I hl
  subst hsz
  exact kC8_takes_0 X σ x1 x3 s.heap [] ls h I hl

def C_feed_0  (σ : Sg) (x1 : Int64) (x3 : Int32) : Option (Int32 × Sg) :=
  if x3 < (1 : Int32) then (some ((-1 : Int32), σ))
  else (if x3 ≤ (8 : Int32) then (bi_ (C8_takes_0 σ x1 x3) fun r_5 σ_4 =>
  if r_5 = 0 then (some ((-2 : Int32), σ_4))
  else (some ((rd_ σ_4 20 0), σ_4)))
  else (some ((-1 : Int32), σ)))
set_option maxRecDepth 100000 in
theorem kC_feed_0 {p : Program} {l : Launch} {e : Env} {s : State} {m : MethodId} {args : Array Value} {below : List Frame} {meth : Method} {c : Code} {D : va_G} {cy : Nat → ClassId} {a gs : Nat → Nat} (X : cx_ cX11_feed RX11 wsX11_feed 4 (some .int) 59 a D cy (xfC gs) p s m args meth c)  {r0 : Int32} {σ' : Sg}  : ∀ (σ : Sg) (x1 : Int64) (x3 : Int32) (H : Heap) (locs : List Loc) (ls : Array Slot), C_feed_0 σ x1 x3 = some (r0, σ') → iv_ 59 a D (shC cy a σ) s H locs → lv_has ls 4 [(0, .ref (a 0)), (1, .long x1), (3, .int x3)] → W p l e ({ frames := 2, cells := 0, slots := 0, locals := 45 }) s m args below meth c H locs 0 0 (MQ below (qg_ 59 a D (shC cy a σ') (some (.int r0)) s.heap.size) args s 0 0 (fr_ 59 a s.heap.size)) (F0 m 0 ls []) := by
  obtain ⟨hx, hb, hr, hml, hown, hts, hlk, hK, hA, hXf⟩ := id X
  intro σ x1 x3 H locs ls h I hl
  unfold C_feed_0 at h
  refine lv_iload_n hx hb dX11_feed_0 rfl (lv_at hl 2 rfl) ?_
  refine lv_iconst (v := 1) hx hb dX11_feed_1 (by decide) ?_
  refine lv_icmp_lt (tgt := 11) hx hb dX11_feed_2 (by decide) (fun c_1 => ?_) (fun c_1 => ?_)
  · have h := if_t h c_1
    refine lv_iconst (v := (-1)) hx hb dX11_feed_11 (by decide) ?_
    obtain ⟨rfl, rfl⟩ := re_s h
    exact rti_ X I dX11_feed_12
  · have h := if_f h c_1
    refine lv_iload_n hx hb dX11_feed_5 rfl (lv_at hl 2 rfl) ?_
    refine lv_bipush (v := 8) hx hb dX11_feed_6 (by decide) ?_
    refine lv_icmp_le (tgt := 13) hx hb dX11_feed_8 (by decide) (fun c_2 => ?_) (fun c_2 => ?_)
    · have h := if_t h c_2
      refine lv_aload_n hx hb dX11_feed_13 rfl (lv_at hl 0 rfl) ?_
      refine ig_ (index := 52) X I (fun _ q => List.mem_cons_of_mem _ (List.mem_append_left _ (List.mem_append_right _ q))) 0 (by decide) shC_0 rfl 4 (by decide) (by decide +kernel) rfl (v := .ref (a 20)) rfl dX11_feed_14 ?_
      refine lv_lload_n hx hb dX11_feed_17 rfl (lv_at hl 1 rfl) ?_
      refine lv_iload_n hx hb dX11_feed_18 rfl (lv_at hl 2 rfl) ?_
      obtain ⟨r_5, σ_4, hc_3, h⟩ := bi_of h
      refine cg_ (v := .int r_5) (rV_ (nn := 2) (As := [.long x1, .int x3]) (rest := []) X xkC I (c_C8_takes hc_3 H.size) gX11_feed_X8_takes rfl ⟨rfl, rfl⟩ (by decide +kernel) ⟨Nat.le_of_ble_eq_true rfl, Nat.le_of_ble_eq_true rfl⟩ (by decide) shC_20 rfl rfl hl.1 rfl (Nat.le_of_ble_eq_true rfl) dX11_feed_19) I (fun H locs I => ?_)
      refine lv_if_eq (tgt := 35) hx hb dX11_feed_22 (by decide) (fun c_6 => ?_) (fun c_6 => ?_)
      · have h := if_t h c_6
        refine lv_bipush (v := (-2)) hx hb dX11_feed_35 (by decide) ?_
        obtain ⟨rfl, rfl⟩ := re_s h
        exact rti_ X I dX11_feed_37
      · have h := if_f h c_6
        refine lv_aload_n hx hb dX11_feed_25 rfl (lv_at hl 0 rfl) ?_
        refine ig_ (index := 52) X I (fun _ q => List.mem_cons_of_mem _ (List.mem_append_left _ (List.mem_append_right _ q))) 0 (by decide) shC_0 rfl 4 (by decide) (by decide +kernel) rfl (v := .ref (a 20)) rfl dX11_feed_26 ?_
        refine ig_ (index := 84) X I (fun _ q => List.mem_cons_of_mem _ (List.mem_append_right _ q)) 20 (by decide) shC_20 rfl 0 (by decide) (by decide +kernel) rfl (v := .int (rd_ σ_4 20 0)) rfl dX11_feed_29 ?_
        refine lv_goto (tgt := 37) hx hb dX11_feed_32 (by decide) ?_
        obtain ⟨rfl, rfl⟩ := re_s h
        exact rti_ X I dX11_feed_37
    · have h := if_f h c_2
      refine lv_iconst (v := (-1)) hx hb dX11_feed_11 (by decide) ?_
      obtain ⟨rfl, rfl⟩ := re_s h
      exact rti_ X I dX11_feed_12
theorem c_C_feed {l : Launch} {D : va_G} {cy : Nat → ClassId} {a gs : Nat → Nat} {σ : Sg} {x1 : Int64} {x3 : Int32} {r0 : Int32} {σ' : Sg} (h : C_feed_0 σ x1 x3 = some (r0, σ')) (sz : Nat) : Met l yX11_feed wsX11_feed ({ frames := 2, cells := 0, slots := 0, locals := 45 }) (va_Pc [.ref (a 0), .long x1, .int x3] (pr_ 59 a D cy (shC cy a σ) (xfC gs) sz)) (qg_ 59 a D (shC cy a σ') (some (.int r0)) sz) 0 0 (fr_ 59 a sz) := by
  refine ent_ (by decide) rfl (Nat.le_of_ble_eq_true rfl) ?_
  intro p e s m below meth c ls hsz X I hl
  subst hsz
  exact kC_feed_0 X σ x1 x3 s.heap [] ls h I hl

def C1_beAsAtFirst_3_26 (k26 : Sg → Int32 → Option (Unit × Sg)) (σ : Sg) (x1 : Int32) : Option (Unit × Sg) :=
  if (8 : Int32) ≤ x1 then (lt_ (wr_ σ 3 2 (0 : Int32)) fun σ_2 =>
  lt_ (wr_ σ_2 3 3 (0 : Int32)) fun σ_4 =>
  lt_ (wr_ σ_4 3 4 (0 : Int32)) fun σ_6 =>
  some ((), σ_6))
  else (gd_ (in_ x1 8) (
  lt_ (wr_ σ 9 x1.toNatClampNeg (50 : Int32)) fun σ_8 =>
  lt_ (x1 + (1 : Int32)) fun y_11 =>
  k26 σ_8 y_11))
set_option maxRecDepth 100000 in
theorem kC1_beAsAtFirst_3_26 {p : Program} {l : Launch} {e : Env} {s : State} {m : MethodId} {args : Array Value} {below : List Frame} {meth : Method} {c : Code} {D : va_G} {cy : Nat → ClassId} {a gs : Nat → Nat} (X : cx_ cX1_beAsAtFirst RX1 wsX1_beAsAtFirst 2 none 59 a D cy (xfC gs) p s m args meth c) {k26 : Sg → Int32 → Option (Unit × Sg)}  {σ' : Sg} (hk26 : ∀ (σ : Sg) (x1 : Int32) (H : Heap) (locs : List Loc) (ls : Array Slot), k26 σ x1 = some ((), σ') → iv_ 59 a D (shC cy a σ) s H locs → lv_has ls 2 [(0, .ref (a 3)), (1, .int x1)] → W p l e ({ frames := 0, cells := 0, slots := 0, locals := 0 }) s m args below meth c H locs 0 0 (MQ below (qg_ 59 a D (shC cy a σ') none s.heap.size) args s 0 0 (fr_ 59 a s.heap.size)) (F0 m 26 ls [])) : ∀ (σ : Sg) (x1 : Int32) (H : Heap) (locs : List Loc) (ls : Array Slot), C1_beAsAtFirst_3_26 k26 σ x1 = some ((), σ') → iv_ 59 a D (shC cy a σ) s H locs → lv_has ls 2 [(0, .ref (a 3)), (1, .int x1)] → W p l e ({ frames := 0, cells := 0, slots := 0, locals := 0 }) s m args below meth c H locs 0 0 (MQ below (qg_ 59 a D (shC cy a σ') none s.heap.size) args s 0 0 (fr_ 59 a s.heap.size)) (F0 m 26 ls []) := by
  obtain ⟨hx, hb, hr, hml, hown, hts, hlk, hK, hA, hXf⟩ := id X
  intro σ x1 H locs ls h I hl
  unfold C1_beAsAtFirst_3_26 at h
  refine lv_iload_n hx hb dX1_beAsAtFirst_26 rfl (lv_at hl 1 rfl) ?_
  refine lv_bipush (v := 8) hx hb dX1_beAsAtFirst_27 (by decide) ?_
  refine lv_icmp_ge (tgt := 46) hx hb dX1_beAsAtFirst_29 (by decide) (fun c_1 => ?_) (fun c_1 => ?_)
  · have h := if_t h c_1
    refine lv_aload_n hx hb dX1_beAsAtFirst_46 rfl (lv_at hl 0 rfl) ?_
    refine lv_iconst (v := 0) hx hb dX1_beAsAtFirst_47 (by decide) ?_
    refine ip_ (index := 39) (ty := .int) X I (fun _ q => List.mem_cons_of_mem _ (List.mem_append_right _ q)) tyX1 tyX1_ok nmX1 3 (by decide) shC_3 rfl 2 (by decide) (by decide +kernel) rfl rfl (by decide +kernel) rfl rfl (Nat.le_of_ble_eq_true rfl) shC_pt_3_2 dX1_beAsAtFirst_48 (fun σ_2 H locs e_3 I => ?_)
    have h := lt_at h e_3
    refine lv_aload_n hx hb dX1_beAsAtFirst_51 rfl (lv_at hl 0 rfl) ?_
    refine lv_iconst (v := 0) hx hb dX1_beAsAtFirst_52 (by decide) ?_
    refine ip_ (index := 42) (ty := .int) X I (fun _ q => List.mem_cons_of_mem _ (List.mem_append_right _ q)) tyX1 tyX1_ok nmX1 3 (by decide) shC_3 rfl 3 (by decide) (by decide +kernel) rfl rfl (by decide +kernel) rfl rfl (Nat.le_of_ble_eq_true rfl) shC_pt_3_3 dX1_beAsAtFirst_53 (fun σ_4 H locs e_5 I => ?_)
    have h := lt_at h e_5
    refine lv_aload_n hx hb dX1_beAsAtFirst_56 rfl (lv_at hl 0 rfl) ?_
    refine lv_iconst (v := 0) hx hb dX1_beAsAtFirst_57 (by decide) ?_
    refine ip_ (index := 45) (ty := .int) X I (fun _ q => List.mem_cons_of_mem _ (List.mem_append_right _ q)) tyX1 tyX1_ok nmX1 3 (by decide) shC_3 rfl 4 (by decide) (by decide +kernel) rfl rfl (by decide +kernel) rfl rfl (Nat.le_of_ble_eq_true rfl) shC_pt_3_4 dX1_beAsAtFirst_58 (fun σ_6 H locs e_7 I => ?_)
    have h := lt_at h e_7
    obtain rfl := re_v h
    exact rtv_ X I dX1_beAsAtFirst_61
  · have h := if_f h c_1
    refine lv_aload_n hx hb dX1_beAsAtFirst_32 rfl (lv_at hl 0 rfl) ?_
    refine ig_ (index := 19) X I (fun _ q => List.mem_cons_of_mem _ (List.mem_append_right _ q)) 3 (by decide) shC_3 rfl 1 (by decide) (by decide +kernel) rfl (v := .ref (a 9)) rfl dX1_beAsAtFirst_33 ?_
    refine lv_iload_n hx hb dX1_beAsAtFirst_36 rfl (lv_at hl 1 rfl) ?_
    refine lv_bipush (v := 50) hx hb dX1_beAsAtFirst_37 (by decide) ?_
    obtain ⟨g_10, h⟩ := gd_of h
    refine is_ (σ2 := wr_ σ 9 x1.toNatClampNeg (50 : Int32)) X I 9 (by decide) shC_9 (in_of g_10) shC_st_9 dX1_beAsAtFirst_39 (fun σ_8 H locs e_9 I => ?_)
    have h := lt_at h e_9
    obtain ⟨y_11, e_12⟩ : ∃ q : Int32, q = x1 + (1 : Int32) := ⟨_, rfl⟩
    have h := lt_at h e_12
    refine lv_iinc (v := y_11) (lv' := [(1, .int y_11), (0, .ref (a 3))]) hx hb dX1_beAsAtFirst_40 hl (k := 1) rfl (by rw [e_12]; rfl) (by decide) rfl (fun ls hl => ?_)
    refine lv_goto (tgt := 26) hx hb dX1_beAsAtFirst_43 (by decide) ?_
    exact hk26 σ_8 y_11 H locs ls h I (lv_sub hl [1, 0] rfl)
set_option maxRecDepth 100000 in
theorem kC1_beAsAtFirst_3_26L {p : Program} {l : Launch} {e : Env} {s : State} {m : MethodId} {args : Array Value} {below : List Frame} {meth : Method} {c : Code} {D : va_G} {cy : Nat → ClassId} {a gs : Nat → Nat} (X : cx_ cX1_beAsAtFirst RX1 wsX1_beAsAtFirst 2 none 59 a D cy (xfC gs) p s m args meth c)   {σ' : Sg}  : ∀ (n : Nat), ∀ (σ : Sg) (x1 : Int32) (H : Heap) (locs : List Loc) (ls : Array Slot), lp_ (C1_beAsAtFirst_3_26) (fun _ _ => none) n σ x1 = some ((), σ') → iv_ 59 a D (shC cy a σ) s H locs → lv_has ls 2 [(0, .ref (a 3)), (1, .int x1)] → W p l e ({ frames := 0, cells := 0, slots := 0, locals := 0 }) s m args below meth c H locs 0 0 (MQ below (qg_ 59 a D (shC cy a σ') none s.heap.size) args s 0 0 (fr_ 59 a s.heap.size)) (F0 m 26 ls []) := by
  intro n
  induction n with
  | zero =>
    intro _ _ _ _ _ h
    exact absurd h (fun q => by cases (show (none : Option _) = some _ from q))
  | succ n ih => exact kC1_beAsAtFirst_3_26 X ih

def C1_beAsAtFirst_3_2 (k2 : Sg → Int32 → Option (Unit × Sg)) (σ : Sg) (x1 : Int32) : Option (Unit × Sg) :=
  if (4 : Int32) ≤ x1 then (lp_ C1_beAsAtFirst_3_26 (fun _ _ => none) FU σ (0 : Int32))
  else (gd_ (in_ x1 4) (
  gd_ (in_ x1 4) (
  lt_ (wr_ σ 6 x1.toNatClampNeg (lfA x1.toNatClampNeg)) fun σ_3 =>
  lt_ (x1 + (1 : Int32)) fun y_6 =>
  k2 σ_3 y_6)))
set_option maxRecDepth 100000 in
theorem kC1_beAsAtFirst_3_2 {p : Program} {l : Launch} {e : Env} {s : State} {m : MethodId} {args : Array Value} {below : List Frame} {meth : Method} {c : Code} {D : va_G} {cy : Nat → ClassId} {a gs : Nat → Nat} (X : cx_ cX1_beAsAtFirst RX1 wsX1_beAsAtFirst 2 none 59 a D cy (xfC gs) p s m args meth c) {k2 : Sg → Int32 → Option (Unit × Sg)}  {σ' : Sg} (hk2 : ∀ (σ : Sg) (x1 : Int32) (H : Heap) (locs : List Loc) (ls : Array Slot), k2 σ x1 = some ((), σ') → iv_ 59 a D (shC cy a σ) s H locs → lv_has ls 2 [(0, .ref (a 3)), (1, .int x1)] → W p l e ({ frames := 0, cells := 0, slots := 0, locals := 0 }) s m args below meth c H locs 0 0 (MQ below (qg_ 59 a D (shC cy a σ') none s.heap.size) args s 0 0 (fr_ 59 a s.heap.size)) (F0 m 2 ls [])) : ∀ (σ : Sg) (x1 : Int32) (H : Heap) (locs : List Loc) (ls : Array Slot), C1_beAsAtFirst_3_2 k2 σ x1 = some ((), σ') → iv_ 59 a D (shC cy a σ) s H locs → lv_has ls 2 [(0, .ref (a 3)), (1, .int x1)] → W p l e ({ frames := 0, cells := 0, slots := 0, locals := 0 }) s m args below meth c H locs 0 0 (MQ below (qg_ 59 a D (shC cy a σ') none s.heap.size) args s 0 0 (fr_ 59 a s.heap.size)) (F0 m 2 ls []) := by
  obtain ⟨hx, hb, hr, hml, hown, hts, hlk, hK, hA, hXf⟩ := id X
  intro σ x1 H locs ls h I hl
  unfold C1_beAsAtFirst_3_2 at h
  refine lv_iload_n hx hb dX1_beAsAtFirst_2 rfl (lv_at hl 1 rfl) ?_
  refine lv_iconst (v := 4) hx hb dX1_beAsAtFirst_3 (by decide) ?_
  refine lv_icmp_ge (tgt := 24) hx hb dX1_beAsAtFirst_4 (by decide) (fun c_1 => ?_) (fun c_1 => ?_)
  · have h := if_t h c_1
    refine lv_iconst (v := 0) hx hb dX1_beAsAtFirst_24 (by decide) ?_
    refine lv_istore_n (lv' := [(1, .int (0 : Int32)), (0, .ref (a 3))]) hx hb dX1_beAsAtFirst_25 rfl hl (by decide) rfl (fun ls hl => ?_)
    exact kC1_beAsAtFirst_3_26L X  FU σ (0 : Int32) H locs ls h I (lv_sub hl [1, 0] rfl)
  · have h := if_f h c_1
    refine lv_aload_n hx hb dX1_beAsAtFirst_7 rfl (lv_at hl 0 rfl) ?_
    refine ig_ (index := 15) X I (fun _ q => List.mem_cons_of_mem _ (List.mem_append_right _ q)) 3 (by decide) shC_3 rfl 0 (by decide) (by decide +kernel) rfl (v := .ref (a 6)) rfl dX1_beAsAtFirst_8 ?_
    refine lv_iload_n hx hb dX1_beAsAtFirst_11 rfl (lv_at hl 1 rfl) ?_
    refine va_getsN hx hb (xC_fz hXf) I.2 hown (va_Nw.use rfl (xC_nf1 hXf)) (fun _ q => q) dX1_beAsAtFirst_12 ?_
    refine lv_iload_n hx hb dX1_beAsAtFirst_15 rfl (lv_at hl 1 rfl) ?_
    obtain ⟨g_2, h⟩ := gd_of h
    refine va_ti hx hb (xC_ft hXf) I.2 (in_of g_2) (v := .int (lfA x1.toNatClampNeg)) rfl dX1_beAsAtFirst_16 ?_
    obtain ⟨g_5, h⟩ := gd_of h
    refine is_ (σ2 := wr_ σ 6 x1.toNatClampNeg (lfA x1.toNatClampNeg)) X I 6 (by decide) shC_6 (in_of g_5) shC_st_6 dX1_beAsAtFirst_17 (fun σ_3 H locs e_4 I => ?_)
    have h := lt_at h e_4
    obtain ⟨y_6, e_7⟩ : ∃ q : Int32, q = x1 + (1 : Int32) := ⟨_, rfl⟩
    have h := lt_at h e_7
    refine lv_iinc (v := y_6) (lv' := [(1, .int y_6), (0, .ref (a 3))]) hx hb dX1_beAsAtFirst_18 hl (k := 1) rfl (by rw [e_7]; rfl) (by decide) rfl (fun ls hl => ?_)
    refine lv_goto (tgt := 2) hx hb dX1_beAsAtFirst_21 (by decide) ?_
    exact hk2 σ_3 y_6 H locs ls h I (lv_sub hl [1, 0] rfl)
set_option maxRecDepth 100000 in
theorem kC1_beAsAtFirst_3_2L {p : Program} {l : Launch} {e : Env} {s : State} {m : MethodId} {args : Array Value} {below : List Frame} {meth : Method} {c : Code} {D : va_G} {cy : Nat → ClassId} {a gs : Nat → Nat} (X : cx_ cX1_beAsAtFirst RX1 wsX1_beAsAtFirst 2 none 59 a D cy (xfC gs) p s m args meth c)   {σ' : Sg}  : ∀ (n : Nat), ∀ (σ : Sg) (x1 : Int32) (H : Heap) (locs : List Loc) (ls : Array Slot), lp_ (C1_beAsAtFirst_3_2) (fun _ _ => none) n σ x1 = some ((), σ') → iv_ 59 a D (shC cy a σ) s H locs → lv_has ls 2 [(0, .ref (a 3)), (1, .int x1)] → W p l e ({ frames := 0, cells := 0, slots := 0, locals := 0 }) s m args below meth c H locs 0 0 (MQ below (qg_ 59 a D (shC cy a σ') none s.heap.size) args s 0 0 (fr_ 59 a s.heap.size)) (F0 m 2 ls []) := by
  intro n
  induction n with
  | zero =>
    intro _ _ _ _ _ h
    exact absurd h (fun q => by cases (show (none : Option _) = some _ from q))
  | succ n ih => exact kC1_beAsAtFirst_3_2 X ih

def C1_beAsAtFirst_3_0  (σ : Sg)  : Option (Unit × Sg) :=
  lp_ C1_beAsAtFirst_3_2 (fun _ _ => none) FU σ (0 : Int32)
set_option maxRecDepth 100000 in
theorem kC1_beAsAtFirst_3_0 {p : Program} {l : Launch} {e : Env} {s : State} {m : MethodId} {args : Array Value} {below : List Frame} {meth : Method} {c : Code} {D : va_G} {cy : Nat → ClassId} {a gs : Nat → Nat} (X : cx_ cX1_beAsAtFirst RX1 wsX1_beAsAtFirst 2 none 59 a D cy (xfC gs) p s m args meth c)   {σ' : Sg}  : ∀ (σ : Sg)  (H : Heap) (locs : List Loc) (ls : Array Slot), C1_beAsAtFirst_3_0 σ = some ((), σ') → iv_ 59 a D (shC cy a σ) s H locs → lv_has ls 2 [(0, .ref (a 3))] → W p l e ({ frames := 0, cells := 0, slots := 0, locals := 0 }) s m args below meth c H locs 0 0 (MQ below (qg_ 59 a D (shC cy a σ') none s.heap.size) args s 0 0 (fr_ 59 a s.heap.size)) (F0 m 0 ls []) := by
  obtain ⟨hx, hb, hr, hml, hown, hts, hlk, hK, hA, hXf⟩ := id X
  intro σ  H locs ls h I hl
  unfold C1_beAsAtFirst_3_0 at h
  refine lv_iconst (v := 0) hx hb dX1_beAsAtFirst_0 (by decide) ?_
  refine lv_istore_n (lv' := [(1, .int (0 : Int32)), (0, .ref (a 3))]) hx hb dX1_beAsAtFirst_1 rfl hl (by decide) rfl (fun ls hl => ?_)
  exact kC1_beAsAtFirst_3_2L X  FU σ (0 : Int32) H locs ls h I (lv_sub hl [1, 0] rfl)
theorem c_C1_beAsAtFirst_3 {l : Launch} {D : va_G} {cy : Nat → ClassId} {a gs : Nat → Nat} {σ : Sg}   {σ' : Sg} (h : C1_beAsAtFirst_3_0 σ  = some ((), σ')) (sz : Nat) : Met l yX1_beAsAtFirst wsX1_beAsAtFirst ({ frames := 0, cells := 0, slots := 0, locals := 0 }) (va_Pc [.ref (a 3)] (pr_ 59 a D cy (shC cy a σ) (xfC gs) sz)) (qg_ 59 a D (shC cy a σ') none sz) 0 0 (fr_ 59 a sz) := by
  refine ent_ (by decide) rfl (Nat.le_of_ble_eq_true rfl) ?_
  intro p e s m below meth c ls hsz X I hl
  subst hsz
  exact kC1_beAsAtFirst_3_0 X σ  s.heap [] ls h I hl

def C8_byteAt_0  (σ : Sg) (x1 : Int32) : Option (Int32 × Sg) :=
  if x1 < 0 then (some ((0 : Int32), σ))
  else (if (rd_ σ 20 0) ≤ x1 then (some ((0 : Int32), σ))
  else (if (200 : Int32) ≤ x1 then (some ((0 : Int32), σ))
  else (gd_ (in_ x1 200) (
  some ((rd_ σ 21 x1.toNatClampNeg), σ)))))
set_option maxRecDepth 100000 in
theorem kC8_byteAt_0 {p : Program} {l : Launch} {e : Env} {s : State} {m : MethodId} {args : Array Value} {below : List Frame} {meth : Method} {c : Code} {D : va_G} {cy : Nat → ClassId} {a gs : Nat → Nat} (X : cx_ cX8_byteAt RX8 wsX8_byteAt 2 (some .int) 59 a D cy (xfC gs) p s m args meth c)  {r0 : Int32} {σ' : Sg}  : ∀ (σ : Sg) (x1 : Int32) (H : Heap) (locs : List Loc) (ls : Array Slot), C8_byteAt_0 σ x1 = some (r0, σ') → iv_ 59 a D (shC cy a σ) s H locs → lv_has ls 2 [(0, .ref (a 20)), (1, .int x1)] → W p l e ({ frames := 0, cells := 0, slots := 0, locals := 0 }) s m args below meth c H locs 0 0 (MQ below (qg_ 59 a D (shC cy a σ') (some (.int r0)) s.heap.size) args s 0 0 (fr_ 59 a s.heap.size)) (F0 m 0 ls []) := by
  obtain ⟨hx, hb, hr, hml, hown, hts, hlk, hK, hA, hXf⟩ := id X
  intro σ x1 H locs ls h I hl
  unfold C8_byteAt_0 at h
  refine lv_iload_n hx hb dX8_byteAt_0 rfl (lv_at hl 1 rfl) ?_
  refine lv_if_lt (tgt := 28) hx hb dX8_byteAt_1 (by decide) (fun c_1 => ?_) (fun c_1 => ?_)
  · have h := if_t h c_1
    refine lv_iconst (v := 0) hx hb dX8_byteAt_28 (by decide) ?_
    obtain ⟨rfl, rfl⟩ := re_s h
    exact rti_ X I dX8_byteAt_29
  · have h := if_f h c_1
    refine lv_iload_n hx hb dX8_byteAt_4 rfl (lv_at hl 1 rfl) ?_
    refine lv_aload_n hx hb dX8_byteAt_5 rfl (lv_at hl 0 rfl) ?_
    refine ig_ (index := 15) X I (fun _ q => List.mem_cons_of_mem _ (List.mem_append_right _ q)) 20 (by decide) shC_20 rfl 0 (by decide) (by decide +kernel) rfl (v := .int (rd_ σ 20 0)) rfl dX8_byteAt_6 ?_
    refine lv_icmp_ge (tgt := 28) hx hb dX8_byteAt_9 (by decide) (fun c_2 => ?_) (fun c_2 => ?_)
    · have h := if_t h c_2
      refine lv_iconst (v := 0) hx hb dX8_byteAt_28 (by decide) ?_
      obtain ⟨rfl, rfl⟩ := re_s h
      exact rti_ X I dX8_byteAt_29
    · have h := if_f h c_2
      refine lv_iload_n hx hb dX8_byteAt_12 rfl (lv_at hl 1 rfl) ?_
      refine lv_sipush (v := 200) hx hb dX8_byteAt_13 (by decide) ?_
      refine lv_icmp_ge (tgt := 28) hx hb dX8_byteAt_16 (by decide) (fun c_3 => ?_) (fun c_3 => ?_)
      · have h := if_t h c_3
        refine lv_iconst (v := 0) hx hb dX8_byteAt_28 (by decide) ?_
        obtain ⟨rfl, rfl⟩ := re_s h
        exact rti_ X I dX8_byteAt_29
      · have h := if_f h c_3
        refine lv_aload_n hx hb dX8_byteAt_19 rfl (lv_at hl 0 rfl) ?_
        refine ig_ (index := 11) X I (fun _ q => List.mem_cons_of_mem _ (List.mem_append_right _ q)) 20 (by decide) shC_20 rfl 1 (by decide) (by decide +kernel) rfl (v := .ref (a 21)) rfl dX8_byteAt_20 ?_
        refine lv_iload_n hx hb dX8_byteAt_23 rfl (lv_at hl 1 rfl) ?_
        obtain ⟨g_4, h⟩ := gd_of h
        refine ib_ X I 21 (by decide) shC_21 (in_of g_4) (v0 := (rd_ σ 21 x1.toNatClampNeg)) rfl dX8_byteAt_24 ?_
        refine lv_goto (tgt := 29) hx hb dX8_byteAt_25 (by decide) ?_
        obtain ⟨rfl, rfl⟩ := re_s h
        exact rti_ X I dX8_byteAt_29
theorem c_C8_byteAt {l : Launch} {D : va_G} {cy : Nat → ClassId} {a gs : Nat → Nat} {σ : Sg} {x1 : Int32} {r0 : Int32} {σ' : Sg} (h : C8_byteAt_0 σ x1 = some (r0, σ')) (sz : Nat) : Met l yX8_byteAt wsX8_byteAt ({ frames := 0, cells := 0, slots := 0, locals := 0 }) (va_Pc [.ref (a 20), .int x1] (pr_ 59 a D cy (shC cy a σ) (xfC gs) sz)) (qg_ 59 a D (shC cy a σ') (some (.int r0)) sz) 0 0 (fr_ 59 a sz) := by
  refine ent_ (by decide) rfl (Nat.le_of_ble_eq_true rfl) ?_
  intro p e s m below meth c ls hsz X I hl
  subst hsz
  exact kC8_byteAt_0 X σ x1 s.heap [] ls h I hl

def C8_sortAt_42  (σ : Sg) (x2 : Int32) : Option (Int32 × Sg) :=
  if x2 < (48 : Int32) then (some ((3 : Int32), σ))
  else (if (57 : Int32) < x2 then (some ((3 : Int32), σ))
  else (some ((2 : Int32), σ)))
set_option maxRecDepth 100000 in
theorem kC8_sortAt_42 {p : Program} {l : Launch} {e : Env} {s : State} {m : MethodId} {args : Array Value} {below : List Frame} {meth : Method} {c : Code} {D : va_G} {cy : Nat → ClassId} {a gs : Nat → Nat} (X : cx_ cX8_sortAt RX8 wsX8_sortAt 3 (some .int) 59 a D cy (xfC gs) p s m args meth c)  {r0 : Int32} {σ' : Sg}  : ∀ (σ : Sg) (x2 : Int32) (H : Heap) (locs : List Loc) (ls : Array Slot), C8_sortAt_42 σ x2 = some (r0, σ') → iv_ 59 a D (shC cy a σ) s H locs → lv_has ls 3 [(2, .int x2)] → W p l e ({ frames := 0, cells := 0, slots := 0, locals := 0 }) s m args below meth c H locs 0 0 (MQ below (qg_ 59 a D (shC cy a σ') (some (.int r0)) s.heap.size) args s 0 0 (fr_ 59 a s.heap.size)) (F0 m 42 ls []) := by
  obtain ⟨hx, hb, hr, hml, hown, hts, hlk, hK, hA, hXf⟩ := id X
  intro σ x2 H locs ls h I hl
  unfold C8_sortAt_42 at h
  refine lv_iload_n hx hb dX8_sortAt_42 rfl (lv_at hl 0 rfl) ?_
  refine lv_bipush (v := 48) hx hb dX8_sortAt_43 (by decide) ?_
  refine lv_icmp_lt (tgt := 58) hx hb dX8_sortAt_45 (by decide) (fun c_1 => ?_) (fun c_1 => ?_)
  · have h := if_t h c_1
    refine lv_iconst (v := 3) hx hb dX8_sortAt_58 (by decide) ?_
    obtain ⟨rfl, rfl⟩ := re_s h
    exact rti_ X I dX8_sortAt_59
  · have h := if_f h c_1
    refine lv_iload_n hx hb dX8_sortAt_48 rfl (lv_at hl 0 rfl) ?_
    refine lv_bipush (v := 57) hx hb dX8_sortAt_49 (by decide) ?_
    refine lv_icmp_gt (tgt := 58) hx hb dX8_sortAt_51 (by decide) (fun c_2 => ?_) (fun c_2 => ?_)
    · have h := if_t h c_2
      refine lv_iconst (v := 3) hx hb dX8_sortAt_58 (by decide) ?_
      obtain ⟨rfl, rfl⟩ := re_s h
      exact rti_ X I dX8_sortAt_59
    · have h := if_f h c_2
      refine lv_iconst (v := 2) hx hb dX8_sortAt_54 (by decide) ?_
      refine lv_goto (tgt := 59) hx hb dX8_sortAt_55 (by decide) ?_
      obtain ⟨rfl, rfl⟩ := re_s h
      exact rti_ X I dX8_sortAt_59
def C8_sortAt_0  (σ : Sg) (x1 : Int32) : Option (Int32 × Sg) :=
  if x1 < 0 then (some ((0 : Int32), σ))
  else (if (rd_ σ 20 0) ≤ x1 then (some ((0 : Int32), σ))
  else (if x1 < (200 : Int32) then (gd_ (in_ x1 200) (
  lt_ ((rd_ σ 21 x1.toNatClampNeg)) fun y_5 =>
  if y_5 < (97 : Int32) then (C8_sortAt_42 σ y_5)
  else (if (122 : Int32) < y_5 then (C8_sortAt_42 σ y_5)
  else (some ((1 : Int32), σ)))))
  else (some ((0 : Int32), σ))))
set_option maxRecDepth 100000 in
theorem kC8_sortAt_0 {p : Program} {l : Launch} {e : Env} {s : State} {m : MethodId} {args : Array Value} {below : List Frame} {meth : Method} {c : Code} {D : va_G} {cy : Nat → ClassId} {a gs : Nat → Nat} (X : cx_ cX8_sortAt RX8 wsX8_sortAt 3 (some .int) 59 a D cy (xfC gs) p s m args meth c)  {r0 : Int32} {σ' : Sg}  : ∀ (σ : Sg) (x1 : Int32) (H : Heap) (locs : List Loc) (ls : Array Slot), C8_sortAt_0 σ x1 = some (r0, σ') → iv_ 59 a D (shC cy a σ) s H locs → lv_has ls 3 [(0, .ref (a 20)), (1, .int x1)] → W p l e ({ frames := 0, cells := 0, slots := 0, locals := 0 }) s m args below meth c H locs 0 0 (MQ below (qg_ 59 a D (shC cy a σ') (some (.int r0)) s.heap.size) args s 0 0 (fr_ 59 a s.heap.size)) (F0 m 0 ls []) := by
  obtain ⟨hx, hb, hr, hml, hown, hts, hlk, hK, hA, hXf⟩ := id X
  intro σ x1 H locs ls h I hl
  unfold C8_sortAt_0 at h
  refine lv_iload_n hx hb dX8_sortAt_0 rfl (lv_at hl 1 rfl) ?_
  refine lv_if_lt (tgt := 19) hx hb dX8_sortAt_1 (by decide) (fun c_1 => ?_) (fun c_1 => ?_)
  · have h := if_t h c_1
    refine lv_iconst (v := 0) hx hb dX8_sortAt_19 (by decide) ?_
    obtain ⟨rfl, rfl⟩ := re_s h
    exact rti_ X I dX8_sortAt_20
  · have h := if_f h c_1
    refine lv_iload_n hx hb dX8_sortAt_4 rfl (lv_at hl 1 rfl) ?_
    refine lv_aload_n hx hb dX8_sortAt_5 rfl (lv_at hl 0 rfl) ?_
    refine ig_ (index := 15) X I (fun _ q => List.mem_cons_of_mem _ (List.mem_append_right _ q)) 20 (by decide) shC_20 rfl 0 (by decide) (by decide +kernel) rfl (v := .int (rd_ σ 20 0)) rfl dX8_sortAt_6 ?_
    refine lv_icmp_ge (tgt := 19) hx hb dX8_sortAt_9 (by decide) (fun c_2 => ?_) (fun c_2 => ?_)
    · have h := if_t h c_2
      refine lv_iconst (v := 0) hx hb dX8_sortAt_19 (by decide) ?_
      obtain ⟨rfl, rfl⟩ := re_s h
      exact rti_ X I dX8_sortAt_20
    · have h := if_f h c_2
      refine lv_iload_n hx hb dX8_sortAt_12 rfl (lv_at hl 1 rfl) ?_
      refine lv_sipush (v := 200) hx hb dX8_sortAt_13 (by decide) ?_
      refine lv_icmp_lt (tgt := 21) hx hb dX8_sortAt_16 (by decide) (fun c_3 => ?_) (fun c_3 => ?_)
      · have h := if_t h c_3
        refine lv_aload_n hx hb dX8_sortAt_21 rfl (lv_at hl 0 rfl) ?_
        refine ig_ (index := 11) X I (fun _ q => List.mem_cons_of_mem _ (List.mem_append_right _ q)) 20 (by decide) shC_20 rfl 1 (by decide) (by decide +kernel) rfl (v := .ref (a 21)) rfl dX8_sortAt_22 ?_
        refine lv_iload_n hx hb dX8_sortAt_25 rfl (lv_at hl 1 rfl) ?_
        obtain ⟨g_4, h⟩ := gd_of h
        refine ib_ X I 21 (by decide) shC_21 (in_of g_4) (v0 := (rd_ σ 21 x1.toNatClampNeg)) rfl dX8_sortAt_26 ?_
        refine lv_topi (fun y_5 e_6 => ?_)
        have h := lt_at h e_6
        refine lv_istore_n (lv' := [(2, .int y_5), (0, .ref (a 20)), (1, .int x1)]) hx hb dX8_sortAt_27 rfl hl (by decide) rfl (fun ls hl => ?_)
        refine lv_iload_n hx hb dX8_sortAt_28 rfl (lv_at hl 0 rfl) ?_
        refine lv_bipush (v := 97) hx hb dX8_sortAt_29 (by decide) ?_
        refine lv_icmp_lt (tgt := 42) hx hb dX8_sortAt_31 (by decide) (fun c_7 => ?_) (fun c_7 => ?_)
        · have h := if_t h c_7
          exact kC8_sortAt_42 X  σ y_5 H locs ls h I (lv_sub hl [0] rfl)
        · have h := if_f h c_7
          refine lv_iload_n hx hb dX8_sortAt_34 rfl (lv_at hl 0 rfl) ?_
          refine lv_bipush (v := 122) hx hb dX8_sortAt_35 (by decide) ?_
          refine lv_icmp_gt (tgt := 42) hx hb dX8_sortAt_37 (by decide) (fun c_8 => ?_) (fun c_8 => ?_)
          · have h := if_t h c_8
            exact kC8_sortAt_42 X  σ y_5 H locs ls h I (lv_sub hl [0] rfl)
          · have h := if_f h c_8
            refine lv_iconst (v := 1) hx hb dX8_sortAt_40 (by decide) ?_
            obtain ⟨rfl, rfl⟩ := re_s h
            exact rti_ X I dX8_sortAt_41
      · have h := if_f h c_3
        refine lv_iconst (v := 0) hx hb dX8_sortAt_19 (by decide) ?_
        obtain ⟨rfl, rfl⟩ := re_s h
        exact rti_ X I dX8_sortAt_20
theorem c_C8_sortAt {l : Launch} {D : va_G} {cy : Nat → ClassId} {a gs : Nat → Nat} {σ : Sg} {x1 : Int32} {r0 : Int32} {σ' : Sg} (h : C8_sortAt_0 σ x1 = some (r0, σ')) (sz : Nat) : Met l yX8_sortAt wsX8_sortAt ({ frames := 0, cells := 0, slots := 0, locals := 0 }) (va_Pc [.ref (a 20), .int x1] (pr_ 59 a D cy (shC cy a σ) (xfC gs) sz)) (qg_ 59 a D (shC cy a σ') (some (.int r0)) sz) 0 0 (fr_ 59 a sz) := by
  refine ent_ (by decide) rfl (Nat.le_of_ble_eq_true rfl) ?_
  intro p e s m below meth c ls hsz X I hl
  subst hsz
  exact kC8_sortAt_0 X σ x1 s.heap [] ls h I hl

def C8_step_106 (k106 : Sg → Int32 → Int32 → Option (Unit × Sg)) (σ : Sg) (x1 : Int32) (x2 : Int32) : Option (Unit × Sg) :=
  if (200 : Int32) ≤ x2 then (some ((), σ))
  else (if x1 = 0 then (some ((), σ))
  else (bi_ (C8_sortAt_0 σ (rd_ σ 20 3)) fun r_5 σ_4 =>
  if r_5 = (rd_ σ_4 20 4) then (lt_ (wr_ σ_4 20 3 ((rd_ σ_4 20 3) + (1 : Int32))) fun σ_7 =>
  lt_ (x2 + (1 : Int32)) fun y_9 =>
  k106 σ_7 x1 y_9)
  else (some ((), σ_4))))
set_option maxRecDepth 100000 in
theorem kC8_step_106 {p : Program} {l : Launch} {e : Env} {s : State} {m : MethodId} {args : Array Value} {below : List Frame} {meth : Method} {c : Code} {D : va_G} {cy : Nat → ClassId} {a gs : Nat → Nat} (X : cx_ cX8_step RX8 wsX8_step 3 none 59 a D cy (xfC gs) p s m args meth c) {k106 : Sg → Int32 → Int32 → Option (Unit × Sg)}  {σ' : Sg} (hk106 : ∀ (σ : Sg) (x1 : Int32) (x2 : Int32) (H : Heap) (locs : List Loc) (ls : Array Slot), k106 σ x1 x2 = some ((), σ') → iv_ 59 a D (shC cy a σ) s H locs → lv_has ls 3 [(0, .ref (a 20)), (1, .int x1), (2, .int x2)] → W p l e ({ frames := 1, cells := 0, slots := 0, locals := 22 }) s m args below meth c H locs 0 0 (MQ below (qg_ 59 a D (shC cy a σ') none s.heap.size) args s 0 0 (fr_ 59 a s.heap.size)) (F0 m 106 ls [])) : ∀ (σ : Sg) (x1 : Int32) (x2 : Int32) (H : Heap) (locs : List Loc) (ls : Array Slot), C8_step_106 k106 σ x1 x2 = some ((), σ') → iv_ 59 a D (shC cy a σ) s H locs → lv_has ls 3 [(0, .ref (a 20)), (1, .int x1), (2, .int x2)] → W p l e ({ frames := 1, cells := 0, slots := 0, locals := 22 }) s m args below meth c H locs 0 0 (MQ below (qg_ 59 a D (shC cy a σ') none s.heap.size) args s 0 0 (fr_ 59 a s.heap.size)) (F0 m 106 ls []) := by
  obtain ⟨hx, hb, hr, hml, hown, hts, hlk, hK, hA, hXf⟩ := id X
  intro σ x1 x2 H locs ls h I hl
  unfold C8_step_106 at h
  refine lv_iload_n hx hb dX8_step_106 rfl (lv_at hl 2 rfl) ?_
  refine lv_sipush (v := 200) hx hb dX8_step_107 (by decide) ?_
  refine lv_icmp_ge (tgt := 148) hx hb dX8_step_110 (by decide) (fun c_1 => ?_) (fun c_1 => ?_)
  · have h := if_t h c_1
    obtain rfl := re_v h
    exact rtv_ X I dX8_step_148
  · have h := if_f h c_1
    refine lv_iload_n hx hb dX8_step_113 rfl (lv_at hl 1 rfl) ?_
    refine lv_if_eq (tgt := 148) hx hb dX8_step_114 (by decide) (fun c_2 => ?_) (fun c_2 => ?_)
    · have h := if_t h c_2
      obtain rfl := re_v h
      exact rtv_ X I dX8_step_148
    · have h := if_f h c_2
      refine lv_aload_n hx hb dX8_step_117 rfl (lv_at hl 0 rfl) ?_
      refine lv_aload_n hx hb dX8_step_118 rfl (lv_at hl 0 rfl) ?_
      refine ig_ (index := 23) X I (fun _ q => List.mem_cons_of_mem _ (List.mem_append_right _ q)) 20 (by decide) shC_20 rfl 3 (by decide) (by decide +kernel) rfl (v := .int (rd_ σ 20 3)) rfl dX8_step_119 ?_
      obtain ⟨r_5, σ_4, hc_3, h⟩ := bi_of h
      refine cg_ (v := .int r_5) (rV_ (nn := 1) (As := [.int (rd_ σ 20 3)]) (rest := []) X xkC I (c_C8_sortAt hc_3 H.size) gX8_step_X8_sortAt rfl ⟨rfl, rfl⟩ (by decide +kernel) ⟨Nat.le_of_ble_eq_true rfl, Nat.le_of_ble_eq_true rfl⟩ (by decide) shC_20 rfl rfl hl.1 rfl (Nat.le_of_ble_eq_true rfl) dX8_step_122) I (fun H locs I => ?_)
      refine lv_aload_n hx hb dX8_step_125 rfl (lv_at hl 0 rfl) ?_
      refine ig_ (index := 32) X I (fun _ q => List.mem_cons_of_mem _ (List.mem_append_right _ q)) 20 (by decide) shC_20 rfl 4 (by decide) (by decide +kernel) rfl (v := .int (rd_ σ_4 20 4)) rfl dX8_step_126 ?_
      refine lv_icmp_ne (tgt := 148) hx hb dX8_step_129 (by decide) (fun c_6 => ?_) (fun c_6 => ?_)
      · have h := if_f h c_6
        obtain rfl := re_v h
        exact rtv_ X I dX8_step_148
      · have h := if_t h c_6
        refine lv_aload_n hx hb dX8_step_132 rfl (lv_at hl 0 rfl) ?_
        refine lv_dup hx hb dX8_step_133 rfl ?_
        refine ig_ (index := 23) X I (fun _ q => List.mem_cons_of_mem _ (List.mem_append_right _ q)) 20 (by decide) shC_20 rfl 3 (by decide) (by decide +kernel) rfl (v := .int (rd_ σ_4 20 3)) rfl dX8_step_134 ?_
        refine lv_iconst (v := 1) hx hb dX8_step_137 (by decide) ?_
        refine lv_iadd hx hb dX8_step_138 ?_
        refine ip_ (index := 23) (ty := .int) X I (fun _ q => List.mem_cons_of_mem _ (List.mem_append_right _ q)) tyX8 tyX8_ok nmX8 20 (by decide) shC_20 rfl 3 (by decide) (by decide +kernel) rfl rfl (by decide +kernel) rfl rfl (Nat.le_of_ble_eq_true rfl) shC_pt_20_3 dX8_step_139 (fun σ_7 H locs e_8 I => ?_)
        have h := lt_at h e_8
        obtain ⟨y_9, e_10⟩ : ∃ q : Int32, q = x2 + (1 : Int32) := ⟨_, rfl⟩
        have h := lt_at h e_10
        refine lv_iinc (v := y_9) (lv' := [(2, .int y_9), (0, .ref (a 20)), (1, .int x1)]) hx hb dX8_step_142 hl (k := 2) rfl (by rw [e_10]; rfl) (by decide) rfl (fun ls hl => ?_)
        refine lv_goto (tgt := 106) hx hb dX8_step_145 (by decide) ?_
        exact hk106 σ_7 x1 y_9 H locs ls h I (lv_sub hl [1, 2, 0] rfl)
set_option maxRecDepth 100000 in
theorem kC8_step_106L {p : Program} {l : Launch} {e : Env} {s : State} {m : MethodId} {args : Array Value} {below : List Frame} {meth : Method} {c : Code} {D : va_G} {cy : Nat → ClassId} {a gs : Nat → Nat} (X : cx_ cX8_step RX8 wsX8_step 3 none 59 a D cy (xfC gs) p s m args meth c)   {σ' : Sg}  : ∀ (n : Nat), ∀ (σ : Sg) (x1 : Int32) (x2 : Int32) (H : Heap) (locs : List Loc) (ls : Array Slot), lp_ (C8_step_106) (fun _ _ _ => none) n σ x1 x2 = some ((), σ') → iv_ 59 a D (shC cy a σ) s H locs → lv_has ls 3 [(0, .ref (a 20)), (1, .int x1), (2, .int x2)] → W p l e ({ frames := 1, cells := 0, slots := 0, locals := 22 }) s m args below meth c H locs 0 0 (MQ below (qg_ 59 a D (shC cy a σ') none s.heap.size) args s 0 0 (fr_ 59 a s.heap.size)) (F0 m 106 ls []) := by
  intro n
  induction n with
  | zero =>
    intro _ _ _ _ _ _ h
    exact absurd h (fun q => by cases (show (none : Option _) = some _ from q))
  | succ n ih => exact kC8_step_106 X ih

def C8_step_103  (σ : Sg) (t0 : Int32) : Option (Unit × Sg) :=
  lp_ C8_step_106 (fun _ _ _ => none) FU σ t0 (0 : Int32)
set_option maxRecDepth 100000 in
theorem kC8_step_103 {p : Program} {l : Launch} {e : Env} {s : State} {m : MethodId} {args : Array Value} {below : List Frame} {meth : Method} {c : Code} {D : va_G} {cy : Nat → ClassId} {a gs : Nat → Nat} (X : cx_ cX8_step RX8 wsX8_step 3 none 59 a D cy (xfC gs) p s m args meth c)   {σ' : Sg}  : ∀ (σ : Sg) (t0 : Int32) (H : Heap) (locs : List Loc) (ls : Array Slot), C8_step_103 σ t0 = some ((), σ') → iv_ 59 a D (shC cy a σ) s H locs → lv_has ls 3 [(0, .ref (a 20))] → W p l e ({ frames := 1, cells := 0, slots := 0, locals := 22 }) s m args below meth c H locs 0 0 (MQ below (qg_ 59 a D (shC cy a σ') none s.heap.size) args s 0 0 (fr_ 59 a s.heap.size)) (F0 m 103 ls [.int t0]) := by
  obtain ⟨hx, hb, hr, hml, hown, hts, hlk, hK, hA, hXf⟩ := id X
  intro σ t0 H locs ls h I hl
  unfold C8_step_103 at h
  refine lv_istore_n (lv' := [(1, .int t0), (0, .ref (a 20))]) hx hb dX8_step_103 rfl hl (by decide) rfl (fun ls hl => ?_)
  refine lv_iconst (v := 0) hx hb dX8_step_104 (by decide) ?_
  refine lv_istore_n (lv' := [(2, .int (0 : Int32)), (1, .int t0), (0, .ref (a 20))]) hx hb dX8_step_105 rfl hl (by decide) rfl (fun ls hl => ?_)
  exact kC8_step_106L X  FU σ t0 (0 : Int32) H locs ls h I (lv_sub hl [2, 1, 0] rfl)
def C8_step_98  (σ : Sg)  : Option (Unit × Sg) :=
  C8_step_103 σ (1 : Int32)
set_option maxRecDepth 100000 in
theorem kC8_step_98 {p : Program} {l : Launch} {e : Env} {s : State} {m : MethodId} {args : Array Value} {below : List Frame} {meth : Method} {c : Code} {D : va_G} {cy : Nat → ClassId} {a gs : Nat → Nat} (X : cx_ cX8_step RX8 wsX8_step 3 none 59 a D cy (xfC gs) p s m args meth c)   {σ' : Sg}  : ∀ (σ : Sg)  (H : Heap) (locs : List Loc) (ls : Array Slot), C8_step_98 σ = some ((), σ') → iv_ 59 a D (shC cy a σ) s H locs → lv_has ls 3 [(0, .ref (a 20))] → W p l e ({ frames := 1, cells := 0, slots := 0, locals := 22 }) s m args below meth c H locs 0 0 (MQ below (qg_ 59 a D (shC cy a σ') none s.heap.size) args s 0 0 (fr_ 59 a s.heap.size)) (F0 m 98 ls []) := by
  obtain ⟨hx, hb, hr, hml, hown, hts, hlk, hK, hA, hXf⟩ := id X
  intro σ  H locs ls h I hl
  unfold C8_step_98 at h
  refine lv_iconst (v := 1) hx hb dX8_step_98 (by decide) ?_
  refine lv_goto (tgt := 103) hx hb dX8_step_99 (by decide) ?_
  exact kC8_step_103 X  σ (1 : Int32) H locs ls h I (lv_sub hl [0] rfl)
def C8_step_79  (σ : Sg) (t1 : Int32) : Option (Unit × Sg) :=
  lt_ (wr_ σ 20 3 t1) fun σ_1 =>
  if (rd_ σ_1 20 4) = (1 : Int32) then (C8_step_98 σ_1)
  else (if (rd_ σ_1 20 4) = (2 : Int32) then (C8_step_98 σ_1)
  else (C8_step_103 σ_1 (0 : Int32)))
set_option maxRecDepth 100000 in
theorem kC8_step_79 {p : Program} {l : Launch} {e : Env} {s : State} {m : MethodId} {args : Array Value} {below : List Frame} {meth : Method} {c : Code} {D : va_G} {cy : Nat → ClassId} {a gs : Nat → Nat} (X : cx_ cX8_step RX8 wsX8_step 3 none 59 a D cy (xfC gs) p s m args meth c)   {σ' : Sg}  : ∀ (σ : Sg) (t1 : Int32) (H : Heap) (locs : List Loc) (ls : Array Slot), C8_step_79 σ t1 = some ((), σ') → iv_ 59 a D (shC cy a σ) s H locs → lv_has ls 3 [(0, .ref (a 20))] → W p l e ({ frames := 1, cells := 0, slots := 0, locals := 22 }) s m args below meth c H locs 0 0 (MQ below (qg_ 59 a D (shC cy a σ') none s.heap.size) args s 0 0 (fr_ 59 a s.heap.size)) (F0 m 79 ls [.int t1, .ref (a 20)]) := by
  obtain ⟨hx, hb, hr, hml, hown, hts, hlk, hK, hA, hXf⟩ := id X
  intro σ t1 H locs ls h I hl
  unfold C8_step_79 at h
  refine ip_ (index := 23) (ty := .int) X I (fun _ q => List.mem_cons_of_mem _ (List.mem_append_right _ q)) tyX8 tyX8_ok nmX8 20 (by decide) shC_20 rfl 3 (by decide) (by decide +kernel) rfl rfl (by decide +kernel) rfl rfl (Nat.le_of_ble_eq_true rfl) shC_pt_20_3 dX8_step_79 (fun σ_1 H locs e_2 I => ?_)
  have h := lt_at h e_2
  refine lv_aload_n hx hb dX8_step_82 rfl (lv_at hl 0 rfl) ?_
  refine ig_ (index := 32) X I (fun _ q => List.mem_cons_of_mem _ (List.mem_append_right _ q)) 20 (by decide) shC_20 rfl 4 (by decide) (by decide +kernel) rfl (v := .int (rd_ σ_1 20 4)) rfl dX8_step_83 ?_
  refine lv_iconst (v := 1) hx hb dX8_step_86 (by decide) ?_
  refine lv_icmp_eq (tgt := 98) hx hb dX8_step_87 (by decide) (fun c_3 => ?_) (fun c_3 => ?_)
  · have h := if_t h c_3
    exact kC8_step_98 X  σ_1 H locs ls h I (lv_sub hl [0] rfl)
  · have h := if_f h c_3
    refine lv_aload_n hx hb dX8_step_90 rfl (lv_at hl 0 rfl) ?_
    refine ig_ (index := 32) X I (fun _ q => List.mem_cons_of_mem _ (List.mem_append_right _ q)) 20 (by decide) shC_20 rfl 4 (by decide) (by decide +kernel) rfl (v := .int (rd_ σ_1 20 4)) rfl dX8_step_91 ?_
    refine lv_iconst (v := 2) hx hb dX8_step_94 (by decide) ?_
    refine lv_icmp_ne (tgt := 102) hx hb dX8_step_95 (by decide) (fun c_4 => ?_) (fun c_4 => ?_)
    · have h := if_f h c_4
      refine lv_iconst (v := 0) hx hb dX8_step_102 (by decide) ?_
      exact kC8_step_103 X  σ_1 (0 : Int32) H locs ls h I (lv_sub hl [0] rfl)
    · have h := if_t h c_4
      exact kC8_step_98 X  σ_1 H locs ls h I (lv_sub hl [0] rfl)
def C8_step_46  (σ : Sg)  : Option (Unit × Sg) :=
  bi_ (C8_sortAt_0 σ (rd_ σ 20 2)) fun r_3 σ_2 =>
  lt_ (wr_ σ_2 20 4 r_3) fun σ_4 =>
  if (rd_ σ_4 20 4) = 0 then (C8_step_79 σ_4 (rd_ σ_4 20 2))
  else (C8_step_79 σ_4 ((rd_ σ_4 20 2) + (1 : Int32)))
set_option maxRecDepth 100000 in
theorem kC8_step_46 {p : Program} {l : Launch} {e : Env} {s : State} {m : MethodId} {args : Array Value} {below : List Frame} {meth : Method} {c : Code} {D : va_G} {cy : Nat → ClassId} {a gs : Nat → Nat} (X : cx_ cX8_step RX8 wsX8_step 3 none 59 a D cy (xfC gs) p s m args meth c)   {σ' : Sg}  : ∀ (σ : Sg)  (H : Heap) (locs : List Loc) (ls : Array Slot), C8_step_46 σ = some ((), σ') → iv_ 59 a D (shC cy a σ) s H locs → lv_has ls 3 [(0, .ref (a 20))] → W p l e ({ frames := 1, cells := 0, slots := 0, locals := 22 }) s m args below meth c H locs 0 0 (MQ below (qg_ 59 a D (shC cy a σ') none s.heap.size) args s 0 0 (fr_ 59 a s.heap.size)) (F0 m 46 ls []) := by
  obtain ⟨hx, hb, hr, hml, hown, hts, hlk, hK, hA, hXf⟩ := id X
  intro σ  H locs ls h I hl
  unfold C8_step_46 at h
  refine lv_aload_n hx hb dX8_step_46 rfl (lv_at hl 0 rfl) ?_
  refine lv_aload_n hx hb dX8_step_47 rfl (lv_at hl 0 rfl) ?_
  refine lv_aload_n hx hb dX8_step_48 rfl (lv_at hl 0 rfl) ?_
  refine ig_ (index := 137) X I (fun _ q => List.mem_cons_of_mem _ (List.mem_append_right _ q)) 20 (by decide) shC_20 rfl 2 (by decide) (by decide +kernel) rfl (v := .int (rd_ σ 20 2)) rfl dX8_step_49 ?_
  obtain ⟨r_3, σ_2, hc_1, h⟩ := bi_of h
  refine cg_ (v := .int r_3) (rV_ (nn := 1) (As := [.int (rd_ σ 20 2)]) (rest := [.ref (a 20)]) X xkC I (c_C8_sortAt hc_1 H.size) gX8_step_X8_sortAt rfl ⟨rfl, rfl⟩ (by decide +kernel) ⟨Nat.le_of_ble_eq_true rfl, Nat.le_of_ble_eq_true rfl⟩ (by decide) shC_20 rfl rfl hl.1 rfl (Nat.le_of_ble_eq_true rfl) dX8_step_52) I (fun H locs I => ?_)
  refine ip_ (index := 32) (ty := .int) X I (fun _ q => List.mem_cons_of_mem _ (List.mem_append_right _ q)) tyX8 tyX8_ok nmX8 20 (by decide) shC_20 rfl 4 (by decide) (by decide +kernel) rfl rfl (by decide +kernel) rfl rfl (Nat.le_of_ble_eq_true rfl) shC_pt_20_4 dX8_step_55 (fun σ_4 H locs e_5 I => ?_)
  have h := lt_at h e_5
  refine lv_aload_n hx hb dX8_step_58 rfl (lv_at hl 0 rfl) ?_
  refine lv_aload_n hx hb dX8_step_59 rfl (lv_at hl 0 rfl) ?_
  refine ig_ (index := 32) X I (fun _ q => List.mem_cons_of_mem _ (List.mem_append_right _ q)) 20 (by decide) shC_20 rfl 4 (by decide) (by decide +kernel) rfl (v := .int (rd_ σ_4 20 4)) rfl dX8_step_60 ?_
  refine lv_if_ne (tgt := 73) hx hb dX8_step_63 (by decide) (fun c_6 => ?_) (fun c_6 => ?_)
  · have h := if_f h c_6
    refine lv_aload_n hx hb dX8_step_73 rfl (lv_at hl 0 rfl) ?_
    refine ig_ (index := 137) X I (fun _ q => List.mem_cons_of_mem _ (List.mem_append_right _ q)) 20 (by decide) shC_20 rfl 2 (by decide) (by decide +kernel) rfl (v := .int (rd_ σ_4 20 2)) rfl dX8_step_74 ?_
    refine lv_iconst (v := 1) hx hb dX8_step_77 (by decide) ?_
    refine lv_iadd hx hb dX8_step_78 ?_
    exact kC8_step_79 X  σ_4 ((rd_ σ_4 20 2) + (1 : Int32)) H locs ls h I (lv_sub hl [0] rfl)
  · have h := if_t h c_6
    refine lv_aload_n hx hb dX8_step_66 rfl (lv_at hl 0 rfl) ?_
    refine ig_ (index := 137) X I (fun _ q => List.mem_cons_of_mem _ (List.mem_append_right _ q)) 20 (by decide) shC_20 rfl 2 (by decide) (by decide +kernel) rfl (v := .int (rd_ σ_4 20 2)) rfl dX8_step_67 ?_
    refine lv_goto (tgt := 79) hx hb dX8_step_70 (by decide) ?_
    exact kC8_step_79 X  σ_4 (rd_ σ_4 20 2) H locs ls h I (lv_sub hl [0] rfl)
def C8_step_10 (k10 : Sg → Int32 → Option (Unit × Sg)) (σ : Sg) (x1 : Int32) : Option (Unit × Sg) :=
  if (200 : Int32) ≤ x1 then (C8_step_46 σ)
  else (bi_ (C8_byteAt_0 σ (rd_ σ 20 2)) fun r_4 σ_3 =>
  if r_4 = (32 : Int32) then (lt_ (wr_ σ_3 20 2 ((rd_ σ_3 20 2) + (1 : Int32))) fun σ_6 =>
  lt_ (x1 + (1 : Int32)) fun y_8 =>
  k10 σ_6 y_8)
  else (C8_step_46 σ_3))
set_option maxRecDepth 100000 in
theorem kC8_step_10 {p : Program} {l : Launch} {e : Env} {s : State} {m : MethodId} {args : Array Value} {below : List Frame} {meth : Method} {c : Code} {D : va_G} {cy : Nat → ClassId} {a gs : Nat → Nat} (X : cx_ cX8_step RX8 wsX8_step 3 none 59 a D cy (xfC gs) p s m args meth c) {k10 : Sg → Int32 → Option (Unit × Sg)}  {σ' : Sg} (hk10 : ∀ (σ : Sg) (x1 : Int32) (H : Heap) (locs : List Loc) (ls : Array Slot), k10 σ x1 = some ((), σ') → iv_ 59 a D (shC cy a σ) s H locs → lv_has ls 3 [(0, .ref (a 20)), (1, .int x1)] → W p l e ({ frames := 1, cells := 0, slots := 0, locals := 22 }) s m args below meth c H locs 0 0 (MQ below (qg_ 59 a D (shC cy a σ') none s.heap.size) args s 0 0 (fr_ 59 a s.heap.size)) (F0 m 10 ls [])) : ∀ (σ : Sg) (x1 : Int32) (H : Heap) (locs : List Loc) (ls : Array Slot), C8_step_10 k10 σ x1 = some ((), σ') → iv_ 59 a D (shC cy a σ) s H locs → lv_has ls 3 [(0, .ref (a 20)), (1, .int x1)] → W p l e ({ frames := 1, cells := 0, slots := 0, locals := 22 }) s m args below meth c H locs 0 0 (MQ below (qg_ 59 a D (shC cy a σ') none s.heap.size) args s 0 0 (fr_ 59 a s.heap.size)) (F0 m 10 ls []) := by
  obtain ⟨hx, hb, hr, hml, hown, hts, hlk, hK, hA, hXf⟩ := id X
  intro σ x1 H locs ls h I hl
  unfold C8_step_10 at h
  refine lv_iload_n hx hb dX8_step_10 rfl (lv_at hl 1 rfl) ?_
  refine lv_sipush (v := 200) hx hb dX8_step_11 (by decide) ?_
  refine lv_icmp_ge (tgt := 46) hx hb dX8_step_14 (by decide) (fun c_1 => ?_) (fun c_1 => ?_)
  · have h := if_t h c_1
    exact kC8_step_46 X  σ H locs ls h I (lv_sub hl [0] rfl)
  · have h := if_f h c_1
    refine lv_aload_n hx hb dX8_step_17 rfl (lv_at hl 0 rfl) ?_
    refine lv_aload_n hx hb dX8_step_18 rfl (lv_at hl 0 rfl) ?_
    refine ig_ (index := 137) X I (fun _ q => List.mem_cons_of_mem _ (List.mem_append_right _ q)) 20 (by decide) shC_20 rfl 2 (by decide) (by decide +kernel) rfl (v := .int (rd_ σ 20 2)) rfl dX8_step_19 ?_
    obtain ⟨r_4, σ_3, hc_2, h⟩ := bi_of h
    refine cg_ (v := .int r_4) (rV_ (nn := 1) (As := [.int (rd_ σ 20 2)]) (rest := []) X xkC I (c_C8_byteAt hc_2 H.size) gX8_step_X8_byteAt rfl ⟨rfl, rfl⟩ (by decide +kernel) ⟨Nat.le_of_ble_eq_true rfl, Nat.le_of_ble_eq_true rfl⟩ (by decide) shC_20 rfl rfl hl.1 rfl (Nat.le_of_ble_eq_true rfl) dX8_step_22) I (fun H locs I => ?_)
    refine lv_bipush (v := 32) hx hb dX8_step_25 (by decide) ?_
    refine lv_icmp_ne (tgt := 46) hx hb dX8_step_27 (by decide) (fun c_5 => ?_) (fun c_5 => ?_)
    · have h := if_f h c_5
      exact kC8_step_46 X  σ_3 H locs ls h I (lv_sub hl [0] rfl)
    · have h := if_t h c_5
      refine lv_aload_n hx hb dX8_step_30 rfl (lv_at hl 0 rfl) ?_
      refine lv_dup hx hb dX8_step_31 rfl ?_
      refine ig_ (index := 137) X I (fun _ q => List.mem_cons_of_mem _ (List.mem_append_right _ q)) 20 (by decide) shC_20 rfl 2 (by decide) (by decide +kernel) rfl (v := .int (rd_ σ_3 20 2)) rfl dX8_step_32 ?_
      refine lv_iconst (v := 1) hx hb dX8_step_35 (by decide) ?_
      refine lv_iadd hx hb dX8_step_36 ?_
      refine ip_ (index := 137) (ty := .int) X I (fun _ q => List.mem_cons_of_mem _ (List.mem_append_right _ q)) tyX8 tyX8_ok nmX8 20 (by decide) shC_20 rfl 2 (by decide) (by decide +kernel) rfl rfl (by decide +kernel) rfl rfl (Nat.le_of_ble_eq_true rfl) shC_pt_20_2 dX8_step_37 (fun σ_6 H locs e_7 I => ?_)
      have h := lt_at h e_7
      obtain ⟨y_8, e_9⟩ : ∃ q : Int32, q = x1 + (1 : Int32) := ⟨_, rfl⟩
      have h := lt_at h e_9
      refine lv_iinc (v := y_8) (lv' := [(1, .int y_8), (0, .ref (a 20))]) hx hb dX8_step_40 hl (k := 1) rfl (by rw [e_9]; rfl) (by decide) rfl (fun ls hl => ?_)
      refine lv_goto (tgt := 10) hx hb dX8_step_43 (by decide) ?_
      exact hk10 σ_6 y_8 H locs ls h I (lv_sub hl [1, 0] rfl)
set_option maxRecDepth 100000 in
theorem kC8_step_10L {p : Program} {l : Launch} {e : Env} {s : State} {m : MethodId} {args : Array Value} {below : List Frame} {meth : Method} {c : Code} {D : va_G} {cy : Nat → ClassId} {a gs : Nat → Nat} (X : cx_ cX8_step RX8 wsX8_step 3 none 59 a D cy (xfC gs) p s m args meth c)   {σ' : Sg}  : ∀ (n : Nat), ∀ (σ : Sg) (x1 : Int32) (H : Heap) (locs : List Loc) (ls : Array Slot), lp_ (C8_step_10) (fun _ _ => none) n σ x1 = some ((), σ') → iv_ 59 a D (shC cy a σ) s H locs → lv_has ls 3 [(0, .ref (a 20)), (1, .int x1)] → W p l e ({ frames := 1, cells := 0, slots := 0, locals := 22 }) s m args below meth c H locs 0 0 (MQ below (qg_ 59 a D (shC cy a σ') none s.heap.size) args s 0 0 (fr_ 59 a s.heap.size)) (F0 m 10 ls []) := by
  intro n
  induction n with
  | zero =>
    intro _ _ _ _ _ h
    exact absurd h (fun q => by cases (show (none : Option _) = some _ from q))
  | succ n ih => exact kC8_step_10 X ih

def C8_step_0  (σ : Sg)  : Option (Unit × Sg) :=
  lt_ (wr_ σ 20 2 (rd_ σ 20 3)) fun σ_1 =>
  lp_ C8_step_10 (fun _ _ => none) FU σ_1 (0 : Int32)
set_option maxRecDepth 100000 in
theorem kC8_step_0 {p : Program} {l : Launch} {e : Env} {s : State} {m : MethodId} {args : Array Value} {below : List Frame} {meth : Method} {c : Code} {D : va_G} {cy : Nat → ClassId} {a gs : Nat → Nat} (X : cx_ cX8_step RX8 wsX8_step 3 none 59 a D cy (xfC gs) p s m args meth c)   {σ' : Sg}  : ∀ (σ : Sg)  (H : Heap) (locs : List Loc) (ls : Array Slot), C8_step_0 σ = some ((), σ') → iv_ 59 a D (shC cy a σ) s H locs → lv_has ls 3 [(0, .ref (a 20))] → W p l e ({ frames := 1, cells := 0, slots := 0, locals := 22 }) s m args below meth c H locs 0 0 (MQ below (qg_ 59 a D (shC cy a σ') none s.heap.size) args s 0 0 (fr_ 59 a s.heap.size)) (F0 m 0 ls []) := by
  obtain ⟨hx, hb, hr, hml, hown, hts, hlk, hK, hA, hXf⟩ := id X
  intro σ  H locs ls h I hl
  unfold C8_step_0 at h
  refine lv_aload_n hx hb dX8_step_0 rfl (lv_at hl 0 rfl) ?_
  refine lv_aload_n hx hb dX8_step_1 rfl (lv_at hl 0 rfl) ?_
  refine ig_ (index := 23) X I (fun _ q => List.mem_cons_of_mem _ (List.mem_append_right _ q)) 20 (by decide) shC_20 rfl 3 (by decide) (by decide +kernel) rfl (v := .int (rd_ σ 20 3)) rfl dX8_step_2 ?_
  refine ip_ (index := 137) (ty := .int) X I (fun _ q => List.mem_cons_of_mem _ (List.mem_append_right _ q)) tyX8 tyX8_ok nmX8 20 (by decide) shC_20 rfl 2 (by decide) (by decide +kernel) rfl rfl (by decide +kernel) rfl rfl (Nat.le_of_ble_eq_true rfl) shC_pt_20_2 dX8_step_5 (fun σ_1 H locs e_2 I => ?_)
  have h := lt_at h e_2
  refine lv_iconst (v := 0) hx hb dX8_step_8 (by decide) ?_
  refine lv_istore_n (lv' := [(1, .int (0 : Int32)), (0, .ref (a 20))]) hx hb dX8_step_9 rfl hl (by decide) rfl (fun ls hl => ?_)
  exact kC8_step_10L X  FU σ_1 (0 : Int32) H locs ls h I (lv_sub hl [1, 0] rfl)
theorem c_C8_step {l : Launch} {D : va_G} {cy : Nat → ClassId} {a gs : Nat → Nat} {σ : Sg}   {σ' : Sg} (h : C8_step_0 σ  = some ((), σ')) (sz : Nat) : Met l yX8_step wsX8_step ({ frames := 1, cells := 0, slots := 0, locals := 22 }) (va_Pc [.ref (a 20)] (pr_ 59 a D cy (shC cy a σ) (xfC gs) sz)) (qg_ 59 a D (shC cy a σ') none sz) 0 0 (fr_ 59 a sz) := by
  refine ent_ (by decide) rfl (Nat.le_of_ble_eq_true rfl) ?_
  intro p e s m below meth c ls hsz X I hl
  subst hsz
  exact kC8_step_0 X σ  s.heap [] ls h I hl

def C8_isName_28 (k28 : Sg → Nat → Int32 → Option (Int32 × Sg)) (σ : Sg) (x1 : Nat) (x2 : Int32) : Option (Int32 × Sg) :=
  gd_ (lf_ x1 18) (
  if (sln x1) ≤ x2 then (some ((1 : Int32), σ))
  else (bi_ (C8_byteAt_0 σ ((rd_ σ 20 2) + x2)) fun r_5 σ_4 =>
  gd_ (ck_ x1 x2) (
  if r_5 = (sch x1 x2.toNatClampNeg) then (lt_ (x2 + (1 : Int32)) fun y_8 =>
  k28 σ_4 x1 y_8)
  else (some ((0 : Int32), σ_4)))))
set_option maxRecDepth 100000 in
theorem kC8_isName_28 {p : Program} {l : Launch} {e : Env} {s : State} {m : MethodId} {args : Array Value} {below : List Frame} {meth : Method} {c : Code} {D : va_G} {cy : Nat → ClassId} {a gs : Nat → Nat} (X : cx_ cX8_isName RX8 wsX8_isName 3 (some .boolean) 59 a D cy (xfC gs) p s m args meth c) {k28 : Sg → Nat → Int32 → Option (Int32 × Sg)} {r0 : Int32} {σ' : Sg} (hk28 : ∀ (σ : Sg) (x1 : Nat) (x2 : Int32) (H : Heap) (locs : List Loc) (ls : Array Slot), k28 σ x1 x2 = some (r0, σ') → iv_ 59 a D (shC cy a σ) s H locs → lv_has ls 3 [(0, .ref (a 20)), (1, .ref (gs (2 + x1))), (2, .int x2)] → W p l e ({ frames := 4, cells := 0, slots := 0, locals := 85 }) s m args below meth c H locs 0 0 (MQ below (qg_ 59 a D (shC cy a σ') (some (.int r0)) s.heap.size) args s 0 0 (fr_ 59 a s.heap.size)) (F0 m 28 ls [])) : ∀ (σ : Sg) (x1 : Nat) (x2 : Int32) (H : Heap) (locs : List Loc) (ls : Array Slot), C8_isName_28 k28 σ x1 x2 = some (r0, σ') → iv_ 59 a D (shC cy a σ) s H locs → lv_has ls 3 [(0, .ref (a 20)), (1, .ref (gs (2 + x1))), (2, .int x2)] → W p l e ({ frames := 4, cells := 0, slots := 0, locals := 85 }) s m args below meth c H locs 0 0 (MQ below (qg_ 59 a D (shC cy a σ') (some (.int r0)) s.heap.size) args s 0 0 (fr_ 59 a s.heap.size)) (F0 m 28 ls []) := by
  obtain ⟨hx, hb, hr, hml, hown, hts, hlk, hK, hA, hXf⟩ := id X
  intro σ x1 x2 H locs ls h I hl
  unfold C8_isName_28 at h
  refine lv_iload_n hx hb dX8_isName_28 rfl (lv_at hl 2 rfl) ?_
  refine lv_aload_n hx hb dX8_isName_29 rfl (lv_at hl 1 rfl) ?_
  obtain ⟨g_1, h⟩ := gd_of h
  refine cg_ (v := .int (sln x1)) (rVs_ (nn := 0) (As := []) (rest := [.int x2]) X I (c_len (lf_of g_1) _) gX8_isName_J0_length_8abf5 rfl ⟨rfl, rfl⟩ (by decide +kernel) ⟨Nat.le_of_ble_eq_true rfl, Nat.le_of_ble_eq_true rfl⟩ (lf_of g_1) rfl hl.1 rfl (Nat.le_of_ble_eq_true rfl) dX8_isName_30) I (fun H locs I => ?_)
  refine lv_icmp_ge (tgt := 62) hx hb dX8_isName_33 (by decide) (fun c_2 => ?_) (fun c_2 => ?_)
  · have h := if_t h c_2
    refine lv_iconst (v := 1) hx hb dX8_isName_62 (by decide) ?_
    obtain ⟨rfl, rfl⟩ := re_s h
    exact rtz_ X I (by decide) dX8_isName_63
  · have h := if_f h c_2
    refine lv_aload_n hx hb dX8_isName_36 rfl (lv_at hl 0 rfl) ?_
    refine lv_aload_n hx hb dX8_isName_37 rfl (lv_at hl 0 rfl) ?_
    refine ig_ (index := 137) X I (fun _ q => List.mem_cons_of_mem _ (List.mem_append_right _ q)) 20 (by decide) shC_20 rfl 2 (by decide) (by decide +kernel) rfl (v := .int (rd_ σ 20 2)) rfl dX8_isName_38 ?_
    refine lv_iload_n hx hb dX8_isName_41 rfl (lv_at hl 2 rfl) ?_
    refine lv_iadd hx hb dX8_isName_42 ?_
    obtain ⟨r_5, σ_4, hc_3, h⟩ := bi_of h
    refine cg_ (v := .int r_5) (rV_ (nn := 1) (As := [.int ((rd_ σ 20 2) + x2)]) (rest := []) X xkC I (c_C8_byteAt hc_3 H.size) gX8_isName_X8_byteAt rfl ⟨rfl, rfl⟩ (by decide +kernel) ⟨Nat.le_of_ble_eq_true rfl, Nat.le_of_ble_eq_true rfl⟩ (by decide) shC_20 rfl rfl hl.1 rfl (Nat.le_of_ble_eq_true rfl) dX8_isName_43) I (fun H locs I => ?_)
    refine lv_aload_n hx hb dX8_isName_46 rfl (lv_at hl 1 rfl) ?_
    refine lv_iload_n hx hb dX8_isName_47 rfl (lv_at hl 2 rfl) ?_
    obtain ⟨g_6, h⟩ := gd_of h
    refine cg_ (v := .int (sch x1 x2.toNatClampNeg)) (rVs_ (nn := 1) (As := [.int x2]) (rest := [.int r_5]) X I (c_chr (lf_of g_1) (in_of g_6) _) gX8_isName_J0_charAt_5068e rfl ⟨rfl, rfl⟩ (by decide +kernel) ⟨Nat.le_of_ble_eq_true rfl, Nat.le_of_ble_eq_true rfl⟩ (lf_of g_1) rfl hl.1 rfl (Nat.le_of_ble_eq_true rfl) dX8_isName_48) I (fun H locs I => ?_)
    refine lv_icmp_eq (tgt := 56) hx hb dX8_isName_51 (by decide) (fun c_7 => ?_) (fun c_7 => ?_)
    · have h := if_t h c_7
      obtain ⟨y_8, e_9⟩ : ∃ q : Int32, q = x2 + (1 : Int32) := ⟨_, rfl⟩
      have h := lt_at h e_9
      refine lv_iinc (v := y_8) (lv' := [(2, .int y_8), (0, .ref (a 20)), (1, .ref (gs (2 + x1)))]) hx hb dX8_isName_56 hl (k := 2) rfl (by rw [e_9]; rfl) (by decide) rfl (fun ls hl => ?_)
      refine lv_goto (tgt := 28) hx hb dX8_isName_59 (by decide) ?_
      exact hk28 σ_4 x1 y_8 H locs ls h I (lv_sub hl [1, 2, 0] rfl)
    · have h := if_f h c_7
      refine lv_iconst (v := 0) hx hb dX8_isName_54 (by decide) ?_
      obtain ⟨rfl, rfl⟩ := re_s h
      exact rtz_ X I (by decide) dX8_isName_55
set_option maxRecDepth 100000 in
theorem kC8_isName_28L {p : Program} {l : Launch} {e : Env} {s : State} {m : MethodId} {args : Array Value} {below : List Frame} {meth : Method} {c : Code} {D : va_G} {cy : Nat → ClassId} {a gs : Nat → Nat} (X : cx_ cX8_isName RX8 wsX8_isName 3 (some .boolean) 59 a D cy (xfC gs) p s m args meth c)  {r0 : Int32} {σ' : Sg}  : ∀ (n : Nat), ∀ (σ : Sg) (x1 : Nat) (x2 : Int32) (H : Heap) (locs : List Loc) (ls : Array Slot), lp_ (C8_isName_28) (fun _ _ _ => none) n σ x1 x2 = some (r0, σ') → iv_ 59 a D (shC cy a σ) s H locs → lv_has ls 3 [(0, .ref (a 20)), (1, .ref (gs (2 + x1))), (2, .int x2)] → W p l e ({ frames := 4, cells := 0, slots := 0, locals := 85 }) s m args below meth c H locs 0 0 (MQ below (qg_ 59 a D (shC cy a σ') (some (.int r0)) s.heap.size) args s 0 0 (fr_ 59 a s.heap.size)) (F0 m 28 ls []) := by
  intro n
  induction n with
  | zero =>
    intro _ _ _ _ _ _ h
    exact absurd h (fun q => by cases (show (none : Option _) = some _ from q))
  | succ n ih => exact kC8_isName_28 X ih

def C8_isName_0  (σ : Sg) (x1 : Nat) : Option (Int32 × Sg) :=
  if (rd_ σ 20 4) = (1 : Int32) then (gd_ (lf_ x1 18) (
  if ((rd_ σ 20 3) - (rd_ σ 20 2)) = (sln x1) then (lp_ C8_isName_28 (fun _ _ _ => none) FU σ x1 (0 : Int32))
  else (some ((0 : Int32), σ))))
  else (some ((0 : Int32), σ))
set_option maxRecDepth 100000 in
theorem kC8_isName_0 {p : Program} {l : Launch} {e : Env} {s : State} {m : MethodId} {args : Array Value} {below : List Frame} {meth : Method} {c : Code} {D : va_G} {cy : Nat → ClassId} {a gs : Nat → Nat} (X : cx_ cX8_isName RX8 wsX8_isName 3 (some .boolean) 59 a D cy (xfC gs) p s m args meth c)  {r0 : Int32} {σ' : Sg}  : ∀ (σ : Sg) (x1 : Nat) (H : Heap) (locs : List Loc) (ls : Array Slot), C8_isName_0 σ x1 = some (r0, σ') → iv_ 59 a D (shC cy a σ) s H locs → lv_has ls 3 [(0, .ref (a 20)), (1, .ref (gs (2 + x1)))] → W p l e ({ frames := 4, cells := 0, slots := 0, locals := 85 }) s m args below meth c H locs 0 0 (MQ below (qg_ 59 a D (shC cy a σ') (some (.int r0)) s.heap.size) args s 0 0 (fr_ 59 a s.heap.size)) (F0 m 0 ls []) := by
  obtain ⟨hx, hb, hr, hml, hown, hts, hlk, hK, hA, hXf⟩ := id X
  intro σ x1 H locs ls h I hl
  unfold C8_isName_0 at h
  refine lv_aload_n hx hb dX8_isName_0 rfl (lv_at hl 0 rfl) ?_
  refine ig_ (index := 32) X I (fun _ q => List.mem_cons_of_mem _ (List.mem_append_right _ q)) 20 (by decide) shC_20 rfl 4 (by decide) (by decide +kernel) rfl (v := .int (rd_ σ 20 4)) rfl dX8_isName_1 ?_
  refine lv_iconst (v := 1) hx hb dX8_isName_4 (by decide) ?_
  refine lv_icmp_ne (tgt := 24) hx hb dX8_isName_5 (by decide) (fun c_1 => ?_) (fun c_1 => ?_)
  · have h := if_f h c_1
    refine lv_iconst (v := 0) hx hb dX8_isName_24 (by decide) ?_
    obtain ⟨rfl, rfl⟩ := re_s h
    exact rtz_ X I (by decide) dX8_isName_25
  · have h := if_t h c_1
    refine lv_aload_n hx hb dX8_isName_8 rfl (lv_at hl 0 rfl) ?_
    refine ig_ (index := 23) X I (fun _ q => List.mem_cons_of_mem _ (List.mem_append_right _ q)) 20 (by decide) shC_20 rfl 3 (by decide) (by decide +kernel) rfl (v := .int (rd_ σ 20 3)) rfl dX8_isName_9 ?_
    refine lv_aload_n hx hb dX8_isName_12 rfl (lv_at hl 0 rfl) ?_
    refine ig_ (index := 137) X I (fun _ q => List.mem_cons_of_mem _ (List.mem_append_right _ q)) 20 (by decide) shC_20 rfl 2 (by decide) (by decide +kernel) rfl (v := .int (rd_ σ 20 2)) rfl dX8_isName_13 ?_
    refine lv_isub hx hb dX8_isName_16 ?_
    refine lv_aload_n hx hb dX8_isName_17 rfl (lv_at hl 1 rfl) ?_
    obtain ⟨g_2, h⟩ := gd_of h
    refine cg_ (v := .int (sln x1)) (rVs_ (nn := 0) (As := []) (rest := [.int ((rd_ σ 20 3) - (rd_ σ 20 2))]) X I (c_len (lf_of g_2) _) gX8_isName_J0_length_8abf5 rfl ⟨rfl, rfl⟩ (by decide +kernel) ⟨Nat.le_of_ble_eq_true rfl, Nat.le_of_ble_eq_true rfl⟩ (lf_of g_2) rfl hl.1 rfl (Nat.le_of_ble_eq_true rfl) dX8_isName_18) I (fun H locs I => ?_)
    refine lv_icmp_eq (tgt := 26) hx hb dX8_isName_21 (by decide) (fun c_3 => ?_) (fun c_3 => ?_)
    · have h := if_t h c_3
      refine lv_iconst (v := 0) hx hb dX8_isName_26 (by decide) ?_
      refine lv_istore_n (lv' := [(2, .int (0 : Int32)), (0, .ref (a 20)), (1, .ref (gs (2 + x1)))]) hx hb dX8_isName_27 rfl hl (by decide) rfl (fun ls hl => ?_)
      exact kC8_isName_28L X  FU σ x1 (0 : Int32) H locs ls h I (lv_sub hl [1, 2, 0] rfl)
    · have h := if_f h c_3
      refine lv_iconst (v := 0) hx hb dX8_isName_24 (by decide) ?_
      obtain ⟨rfl, rfl⟩ := re_s h
      exact rtz_ X I (by decide) dX8_isName_25
theorem c_C8_isName {l : Launch} {D : va_G} {cy : Nat → ClassId} {a gs : Nat → Nat} {σ : Sg} {x1 : Nat} {r0 : Int32} {σ' : Sg} (h : C8_isName_0 σ x1 = some (r0, σ')) (sz : Nat) : Met l yX8_isName wsX8_isName ({ frames := 4, cells := 0, slots := 0, locals := 85 }) (va_Pc [.ref (a 20), .ref (gs (2 + x1))] (pr_ 59 a D cy (shC cy a σ) (xfC gs) sz)) (qg_ 59 a D (shC cy a σ') (some (.int r0)) sz) 0 0 (fr_ 59 a sz) := by
  refine ent_ (by decide) rfl (Nat.le_of_ble_eq_true rfl) ?_
  intro p e s m below meth c ls hsz X I hl
  subst hsz
  exact kC8_isName_0 X σ x1 s.heap [] ls h I hl

def C8_kindTold_0  (σ : Sg)  : Option (Int32 × Sg) :=
  bi_ (C8_isName_0 σ 8) fun r_3 σ_2 =>
  if r_3 = 0 then (bi_ (C8_isName_0 σ_2 9) fun r_7 σ_6 =>
  if r_7 = 0 then (bi_ (C8_isName_0 σ_6 10) fun r_11 σ_10 =>
  if r_11 = 0 then (bi_ (C8_isName_0 σ_10 11) fun r_15 σ_14 =>
  if r_15 = 0 then (bi_ (C8_isName_0 σ_14 12) fun r_19 σ_18 =>
  if r_19 = 0 then (bi_ (C8_isName_0 σ_18 13) fun r_23 σ_22 =>
  if r_23 = 0 then (some ((-3 : Int32), σ_22))
  else (some ((5 : Int32), σ_22)))
  else (some ((4 : Int32), σ_18)))
  else (some ((3 : Int32), σ_14)))
  else (some ((2 : Int32), σ_10)))
  else (some ((1 : Int32), σ_6)))
  else (some ((0 : Int32), σ_2))
set_option maxRecDepth 100000 in
theorem kC8_kindTold_0 {p : Program} {l : Launch} {e : Env} {s : State} {m : MethodId} {args : Array Value} {below : List Frame} {meth : Method} {c : Code} {D : va_G} {cy : Nat → ClassId} {a gs : Nat → Nat} (X : cx_ cX8_kindTold RX8 wsX8_kindTold 1 (some .int) 59 a D cy (xfC gs) p s m args meth c)  {r0 : Int32} {σ' : Sg}  : ∀ (σ : Sg)  (H : Heap) (locs : List Loc) (ls : Array Slot), C8_kindTold_0 σ = some (r0, σ') → iv_ 59 a D (shC cy a σ) s H locs → lv_has ls 1 [(0, .ref (a 20))] → W p l e ({ frames := 5, cells := 0, slots := 0, locals := 107 }) s m args below meth c H locs 0 0 (MQ below (qg_ 59 a D (shC cy a σ') (some (.int r0)) s.heap.size) args s 0 0 (fr_ 59 a s.heap.size)) (F0 m 0 ls []) := by
  obtain ⟨hx, hb, hr, hml, hown, hts, hlk, hK, hA, hXf⟩ := id X
  intro σ  H locs ls h I hl
  unfold C8_kindTold_0 at h
  refine lv_aload_n hx hb dX8_kindTold_0 rfl (lv_at hl 0 rfl) ?_
  refine va_ldcS hx hb hown (xC_sr hXf 8 (by decide)) dX8_kindTold_1 ?_
  obtain ⟨r_3, σ_2, hc_1, h⟩ := bi_of h
  refine cg_ (v := .int r_3) (rV_ (nn := 1) (As := [.ref (gs (2 + 8))]) (rest := []) X xkC I (c_C8_isName hc_1 H.size) gX8_kindTold_X8_isName rfl ⟨rfl, rfl⟩ (by decide +kernel) ⟨Nat.le_of_ble_eq_true rfl, Nat.le_of_ble_eq_true rfl⟩ (by decide) shC_20 rfl rfl hl.1 rfl (Nat.le_of_ble_eq_true rfl) dX8_kindTold_3) I (fun H locs I => ?_)
  refine lv_if_eq (tgt := 11) hx hb dX8_kindTold_6 (by decide) (fun c_4 => ?_) (fun c_4 => ?_)
  · have h := if_t h c_4
    refine lv_aload_n hx hb dX8_kindTold_11 rfl (lv_at hl 0 rfl) ?_
    refine va_ldcS hx hb hown (xC_sr hXf 9 (by decide)) dX8_kindTold_12 ?_
    obtain ⟨r_7, σ_6, hc_5, h⟩ := bi_of h
    refine cg_ (v := .int r_7) (rV_ (nn := 1) (As := [.ref (gs (2 + 9))]) (rest := []) X xkC I (c_C8_isName hc_5 H.size) gX8_kindTold_X8_isName rfl ⟨rfl, rfl⟩ (by decide +kernel) ⟨Nat.le_of_ble_eq_true rfl, Nat.le_of_ble_eq_true rfl⟩ (by decide) shC_20 rfl rfl hl.1 rfl (Nat.le_of_ble_eq_true rfl) dX8_kindTold_14) I (fun H locs I => ?_)
    refine lv_if_eq (tgt := 22) hx hb dX8_kindTold_17 (by decide) (fun c_8 => ?_) (fun c_8 => ?_)
    · have h := if_t h c_8
      refine lv_aload_n hx hb dX8_kindTold_22 rfl (lv_at hl 0 rfl) ?_
      refine va_ldcS hx hb hown (xC_sr hXf 10 (by decide)) dX8_kindTold_23 ?_
      obtain ⟨r_11, σ_10, hc_9, h⟩ := bi_of h
      refine cg_ (v := .int r_11) (rV_ (nn := 1) (As := [.ref (gs (2 + 10))]) (rest := []) X xkC I (c_C8_isName hc_9 H.size) gX8_kindTold_X8_isName rfl ⟨rfl, rfl⟩ (by decide +kernel) ⟨Nat.le_of_ble_eq_true rfl, Nat.le_of_ble_eq_true rfl⟩ (by decide) shC_20 rfl rfl hl.1 rfl (Nat.le_of_ble_eq_true rfl) dX8_kindTold_25) I (fun H locs I => ?_)
      refine lv_if_eq (tgt := 33) hx hb dX8_kindTold_28 (by decide) (fun c_12 => ?_) (fun c_12 => ?_)
      · have h := if_t h c_12
        refine lv_aload_n hx hb dX8_kindTold_33 rfl (lv_at hl 0 rfl) ?_
        refine va_ldcS hx hb hown (xC_sr hXf 11 (by decide)) dX8_kindTold_34 ?_
        obtain ⟨r_15, σ_14, hc_13, h⟩ := bi_of h
        refine cg_ (v := .int r_15) (rV_ (nn := 1) (As := [.ref (gs (2 + 11))]) (rest := []) X xkC I (c_C8_isName hc_13 H.size) gX8_kindTold_X8_isName rfl ⟨rfl, rfl⟩ (by decide +kernel) ⟨Nat.le_of_ble_eq_true rfl, Nat.le_of_ble_eq_true rfl⟩ (by decide) shC_20 rfl rfl hl.1 rfl (Nat.le_of_ble_eq_true rfl) dX8_kindTold_36) I (fun H locs I => ?_)
        refine lv_if_eq (tgt := 44) hx hb dX8_kindTold_39 (by decide) (fun c_16 => ?_) (fun c_16 => ?_)
        · have h := if_t h c_16
          refine lv_aload_n hx hb dX8_kindTold_44 rfl (lv_at hl 0 rfl) ?_
          refine va_ldcS hx hb hown (xC_sr hXf 12 (by decide)) dX8_kindTold_45 ?_
          obtain ⟨r_19, σ_18, hc_17, h⟩ := bi_of h
          refine cg_ (v := .int r_19) (rV_ (nn := 1) (As := [.ref (gs (2 + 12))]) (rest := []) X xkC I (c_C8_isName hc_17 H.size) gX8_kindTold_X8_isName rfl ⟨rfl, rfl⟩ (by decide +kernel) ⟨Nat.le_of_ble_eq_true rfl, Nat.le_of_ble_eq_true rfl⟩ (by decide) shC_20 rfl rfl hl.1 rfl (Nat.le_of_ble_eq_true rfl) dX8_kindTold_47) I (fun H locs I => ?_)
          refine lv_if_eq (tgt := 55) hx hb dX8_kindTold_50 (by decide) (fun c_20 => ?_) (fun c_20 => ?_)
          · have h := if_t h c_20
            refine lv_aload_n hx hb dX8_kindTold_55 rfl (lv_at hl 0 rfl) ?_
            refine va_ldcS hx hb hown (xC_sr hXf 13 (by decide)) dX8_kindTold_56 ?_
            obtain ⟨r_23, σ_22, hc_21, h⟩ := bi_of h
            refine cg_ (v := .int r_23) (rV_ (nn := 1) (As := [.ref (gs (2 + 13))]) (rest := []) X xkC I (c_C8_isName hc_21 H.size) gX8_kindTold_X8_isName rfl ⟨rfl, rfl⟩ (by decide +kernel) ⟨Nat.le_of_ble_eq_true rfl, Nat.le_of_ble_eq_true rfl⟩ (by decide) shC_20 rfl rfl hl.1 rfl (Nat.le_of_ble_eq_true rfl) dX8_kindTold_58) I (fun H locs I => ?_)
            refine lv_if_eq (tgt := 66) hx hb dX8_kindTold_61 (by decide) (fun c_24 => ?_) (fun c_24 => ?_)
            · have h := if_t h c_24
              refine lv_bipush (v := (-3)) hx hb dX8_kindTold_66 (by decide) ?_
              obtain ⟨rfl, rfl⟩ := re_s h
              exact rti_ X I dX8_kindTold_68
            · have h := if_f h c_24
              refine lv_iconst (v := 5) hx hb dX8_kindTold_64 (by decide) ?_
              obtain ⟨rfl, rfl⟩ := re_s h
              exact rti_ X I dX8_kindTold_65
          · have h := if_f h c_20
            refine lv_iconst (v := 4) hx hb dX8_kindTold_53 (by decide) ?_
            obtain ⟨rfl, rfl⟩ := re_s h
            exact rti_ X I dX8_kindTold_54
        · have h := if_f h c_16
          refine lv_iconst (v := 3) hx hb dX8_kindTold_42 (by decide) ?_
          obtain ⟨rfl, rfl⟩ := re_s h
          exact rti_ X I dX8_kindTold_43
      · have h := if_f h c_12
        refine lv_iconst (v := 2) hx hb dX8_kindTold_31 (by decide) ?_
        obtain ⟨rfl, rfl⟩ := re_s h
        exact rti_ X I dX8_kindTold_32
    · have h := if_f h c_8
      refine lv_iconst (v := 1) hx hb dX8_kindTold_20 (by decide) ?_
      obtain ⟨rfl, rfl⟩ := re_s h
      exact rti_ X I dX8_kindTold_21
  · have h := if_f h c_4
    refine lv_iconst (v := 0) hx hb dX8_kindTold_9 (by decide) ?_
    obtain ⟨rfl, rfl⟩ := re_s h
    exact rti_ X I dX8_kindTold_10
theorem c_C8_kindTold {l : Launch} {D : va_G} {cy : Nat → ClassId} {a gs : Nat → Nat} {σ : Sg}  {r0 : Int32} {σ' : Sg} (h : C8_kindTold_0 σ  = some (r0, σ')) (sz : Nat) : Met l yX8_kindTold wsX8_kindTold ({ frames := 5, cells := 0, slots := 0, locals := 107 }) (va_Pc [.ref (a 20)] (pr_ 59 a D cy (shC cy a σ) (xfC gs) sz)) (qg_ 59 a D (shC cy a σ') (some (.int r0)) sz) 0 0 (fr_ 59 a sz) := by
  refine ent_ (by decide) rfl (Nat.le_of_ble_eq_true rfl) ?_
  intro p e s m below meth c ls hsz X I hl
  subst hsz
  exact kC8_kindTold_0 X σ  s.heap [] ls h I hl

def C8_lawTold_0  (σ : Sg)  : Option (Int32 × Sg) :=
  bi_ (C8_isName_0 σ 14) fun r_3 σ_2 =>
  if r_3 = 0 then (bi_ (C8_isName_0 σ_2 15) fun r_7 σ_6 =>
  if r_7 = 0 then (bi_ (C8_isName_0 σ_6 16) fun r_11 σ_10 =>
  if r_11 = 0 then (bi_ (C8_isName_0 σ_10 17) fun r_15 σ_14 =>
  if r_15 = 0 then (some ((-3 : Int32), σ_14))
  else (some ((3 : Int32), σ_14)))
  else (some ((2 : Int32), σ_10)))
  else (some ((1 : Int32), σ_6)))
  else (some ((0 : Int32), σ_2))
set_option maxRecDepth 100000 in
theorem kC8_lawTold_0 {p : Program} {l : Launch} {e : Env} {s : State} {m : MethodId} {args : Array Value} {below : List Frame} {meth : Method} {c : Code} {D : va_G} {cy : Nat → ClassId} {a gs : Nat → Nat} (X : cx_ cX8_lawTold RX8 wsX8_lawTold 1 (some .int) 59 a D cy (xfC gs) p s m args meth c)  {r0 : Int32} {σ' : Sg}  : ∀ (σ : Sg)  (H : Heap) (locs : List Loc) (ls : Array Slot), C8_lawTold_0 σ = some (r0, σ') → iv_ 59 a D (shC cy a σ) s H locs → lv_has ls 1 [(0, .ref (a 20))] → W p l e ({ frames := 5, cells := 0, slots := 0, locals := 107 }) s m args below meth c H locs 0 0 (MQ below (qg_ 59 a D (shC cy a σ') (some (.int r0)) s.heap.size) args s 0 0 (fr_ 59 a s.heap.size)) (F0 m 0 ls []) := by
  obtain ⟨hx, hb, hr, hml, hown, hts, hlk, hK, hA, hXf⟩ := id X
  intro σ  H locs ls h I hl
  unfold C8_lawTold_0 at h
  refine lv_aload_n hx hb dX8_lawTold_0 rfl (lv_at hl 0 rfl) ?_
  refine va_ldcS hx hb hown (xC_sr hXf 14 (by decide)) dX8_lawTold_1 ?_
  obtain ⟨r_3, σ_2, hc_1, h⟩ := bi_of h
  refine cg_ (v := .int r_3) (rV_ (nn := 1) (As := [.ref (gs (2 + 14))]) (rest := []) X xkC I (c_C8_isName hc_1 H.size) gX8_lawTold_X8_isName rfl ⟨rfl, rfl⟩ (by decide +kernel) ⟨Nat.le_of_ble_eq_true rfl, Nat.le_of_ble_eq_true rfl⟩ (by decide) shC_20 rfl rfl hl.1 rfl (Nat.le_of_ble_eq_true rfl) dX8_lawTold_3) I (fun H locs I => ?_)
  refine lv_if_eq (tgt := 11) hx hb dX8_lawTold_6 (by decide) (fun c_4 => ?_) (fun c_4 => ?_)
  · have h := if_t h c_4
    refine lv_aload_n hx hb dX8_lawTold_11 rfl (lv_at hl 0 rfl) ?_
    refine va_ldcS hx hb hown (xC_sr hXf 15 (by decide)) dX8_lawTold_12 ?_
    obtain ⟨r_7, σ_6, hc_5, h⟩ := bi_of h
    refine cg_ (v := .int r_7) (rV_ (nn := 1) (As := [.ref (gs (2 + 15))]) (rest := []) X xkC I (c_C8_isName hc_5 H.size) gX8_lawTold_X8_isName rfl ⟨rfl, rfl⟩ (by decide +kernel) ⟨Nat.le_of_ble_eq_true rfl, Nat.le_of_ble_eq_true rfl⟩ (by decide) shC_20 rfl rfl hl.1 rfl (Nat.le_of_ble_eq_true rfl) dX8_lawTold_14) I (fun H locs I => ?_)
    refine lv_if_eq (tgt := 22) hx hb dX8_lawTold_17 (by decide) (fun c_8 => ?_) (fun c_8 => ?_)
    · have h := if_t h c_8
      refine lv_aload_n hx hb dX8_lawTold_22 rfl (lv_at hl 0 rfl) ?_
      refine va_ldcS hx hb hown (xC_sr hXf 16 (by decide)) dX8_lawTold_23 ?_
      obtain ⟨r_11, σ_10, hc_9, h⟩ := bi_of h
      refine cg_ (v := .int r_11) (rV_ (nn := 1) (As := [.ref (gs (2 + 16))]) (rest := []) X xkC I (c_C8_isName hc_9 H.size) gX8_lawTold_X8_isName rfl ⟨rfl, rfl⟩ (by decide +kernel) ⟨Nat.le_of_ble_eq_true rfl, Nat.le_of_ble_eq_true rfl⟩ (by decide) shC_20 rfl rfl hl.1 rfl (Nat.le_of_ble_eq_true rfl) dX8_lawTold_25) I (fun H locs I => ?_)
      refine lv_if_eq (tgt := 33) hx hb dX8_lawTold_28 (by decide) (fun c_12 => ?_) (fun c_12 => ?_)
      · have h := if_t h c_12
        refine lv_aload_n hx hb dX8_lawTold_33 rfl (lv_at hl 0 rfl) ?_
        refine va_ldcS hx hb hown (xC_sr hXf 17 (by decide)) dX8_lawTold_34 ?_
        obtain ⟨r_15, σ_14, hc_13, h⟩ := bi_of h
        refine cg_ (v := .int r_15) (rV_ (nn := 1) (As := [.ref (gs (2 + 17))]) (rest := []) X xkC I (c_C8_isName hc_13 H.size) gX8_lawTold_X8_isName rfl ⟨rfl, rfl⟩ (by decide +kernel) ⟨Nat.le_of_ble_eq_true rfl, Nat.le_of_ble_eq_true rfl⟩ (by decide) shC_20 rfl rfl hl.1 rfl (Nat.le_of_ble_eq_true rfl) dX8_lawTold_36) I (fun H locs I => ?_)
        refine lv_if_eq (tgt := 44) hx hb dX8_lawTold_39 (by decide) (fun c_16 => ?_) (fun c_16 => ?_)
        · have h := if_t h c_16
          refine lv_bipush (v := (-3)) hx hb dX8_lawTold_44 (by decide) ?_
          obtain ⟨rfl, rfl⟩ := re_s h
          exact rti_ X I dX8_lawTold_46
        · have h := if_f h c_16
          refine lv_iconst (v := 3) hx hb dX8_lawTold_42 (by decide) ?_
          obtain ⟨rfl, rfl⟩ := re_s h
          exact rti_ X I dX8_lawTold_43
      · have h := if_f h c_12
        refine lv_iconst (v := 2) hx hb dX8_lawTold_31 (by decide) ?_
        obtain ⟨rfl, rfl⟩ := re_s h
        exact rti_ X I dX8_lawTold_32
    · have h := if_f h c_8
      refine lv_iconst (v := 1) hx hb dX8_lawTold_20 (by decide) ?_
      obtain ⟨rfl, rfl⟩ := re_s h
      exact rti_ X I dX8_lawTold_21
  · have h := if_f h c_4
    refine lv_iconst (v := 0) hx hb dX8_lawTold_9 (by decide) ?_
    obtain ⟨rfl, rfl⟩ := re_s h
    exact rti_ X I dX8_lawTold_10
theorem c_C8_lawTold {l : Launch} {D : va_G} {cy : Nat → ClassId} {a gs : Nat → Nat} {σ : Sg}  {r0 : Int32} {σ' : Sg} (h : C8_lawTold_0 σ  = some (r0, σ')) (sz : Nat) : Met l yX8_lawTold wsX8_lawTold ({ frames := 5, cells := 0, slots := 0, locals := 107 }) (va_Pc [.ref (a 20)] (pr_ 59 a D cy (shC cy a σ) (xfC gs) sz)) (qg_ 59 a D (shC cy a σ') (some (.int r0)) sz) 0 0 (fr_ 59 a sz) := by
  refine ent_ (by decide) rfl (Nat.le_of_ble_eq_true rfl) ?_
  intro p e s m below meth c ls hsz X I hl
  subst hsz
  exact kC8_lawTold_0 X σ  s.heap [] ls h I hl

def C8_failHere_0  (σ : Sg)  : Option (Unit × Sg) :=
  if 0 ≤ (rd_ σ 20 5) then (some ((), σ))
  else (lt_ (wr_ σ 20 5 (rd_ σ 20 2)) fun σ_2 =>
  some ((), σ_2))
set_option maxRecDepth 100000 in
theorem kC8_failHere_0 {p : Program} {l : Launch} {e : Env} {s : State} {m : MethodId} {args : Array Value} {below : List Frame} {meth : Method} {c : Code} {D : va_G} {cy : Nat → ClassId} {a gs : Nat → Nat} (X : cx_ cX8_failHere RX8 wsX8_failHere 1 none 59 a D cy (xfC gs) p s m args meth c)   {σ' : Sg}  : ∀ (σ : Sg)  (H : Heap) (locs : List Loc) (ls : Array Slot), C8_failHere_0 σ = some ((), σ') → iv_ 59 a D (shC cy a σ) s H locs → lv_has ls 1 [(0, .ref (a 20))] → W p l e ({ frames := 0, cells := 0, slots := 0, locals := 0 }) s m args below meth c H locs 0 0 (MQ below (qg_ 59 a D (shC cy a σ') none s.heap.size) args s 0 0 (fr_ 59 a s.heap.size)) (F0 m 0 ls []) := by
  obtain ⟨hx, hb, hr, hml, hown, hts, hlk, hK, hA, hXf⟩ := id X
  intro σ  H locs ls h I hl
  unfold C8_failHere_0 at h
  refine lv_aload_n hx hb dX8_failHere_0 rfl (lv_at hl 0 rfl) ?_
  refine ig_ (index := 26) X I (fun _ q => List.mem_cons_of_mem _ (List.mem_append_right _ q)) 20 (by decide) shC_20 rfl 5 (by decide) (by decide +kernel) rfl (v := .int (rd_ σ 20 5)) rfl dX8_failHere_1 ?_
  refine lv_if_ge (tgt := 15) hx hb dX8_failHere_4 (by decide) (fun c_1 => ?_) (fun c_1 => ?_)
  · have h := if_t h c_1
    obtain rfl := re_v h
    exact rtv_ X I dX8_failHere_15
  · have h := if_f h c_1
    refine lv_aload_n hx hb dX8_failHere_7 rfl (lv_at hl 0 rfl) ?_
    refine lv_aload_n hx hb dX8_failHere_8 rfl (lv_at hl 0 rfl) ?_
    refine ig_ (index := 137) X I (fun _ q => List.mem_cons_of_mem _ (List.mem_append_right _ q)) 20 (by decide) shC_20 rfl 2 (by decide) (by decide +kernel) rfl (v := .int (rd_ σ 20 2)) rfl dX8_failHere_9 ?_
    refine ip_ (index := 26) (ty := .int) X I (fun _ q => List.mem_cons_of_mem _ (List.mem_append_right _ q)) tyX8 tyX8_ok nmX8 20 (by decide) shC_20 rfl 5 (by decide) (by decide +kernel) rfl rfl (by decide +kernel) rfl rfl (Nat.le_of_ble_eq_true rfl) shC_pt_20_5 dX8_failHere_12 (fun σ_2 H locs e_3 I => ?_)
    have h := lt_at h e_3
    obtain rfl := re_v h
    exact rtv_ X I dX8_failHere_15
theorem c_C8_failHere {l : Launch} {D : va_G} {cy : Nat → ClassId} {a gs : Nat → Nat} {σ : Sg}   {σ' : Sg} (h : C8_failHere_0 σ  = some ((), σ')) (sz : Nat) : Met l yX8_failHere wsX8_failHere ({ frames := 0, cells := 0, slots := 0, locals := 0 }) (va_Pc [.ref (a 20)] (pr_ 59 a D cy (shC cy a σ) (xfC gs) sz)) (qg_ 59 a D (shC cy a σ') none sz) 0 0 (fr_ 59 a sz) := by
  refine ent_ (by decide) rfl (Nat.le_of_ble_eq_true rfl) ?_
  intro p e s m below meth c ls hsz X I hl
  subst hsz
  exact kC8_failHere_0 X σ  s.heap [] ls h I hl

def C8_valueTold_30 (k30 : Sg → Int32 → Int32 → Option (Int32 × Sg)) (σ : Sg) (x1 : Int32) (x2 : Int32) : Option (Int32 × Sg) :=
  if (rd_ σ 20 3) ≤ x2 then (some (x1, σ))
  else (bi_ (C8_byteAt_0 σ x2) fun r_4 σ_3 =>
  lt_ ((((x1 * (10 : Int32)) + r_4) - (48 : Int32))) fun y_5 =>
  lt_ (x2 + (1 : Int32)) fun y_7 =>
  k30 σ_3 y_5 y_7)
set_option maxRecDepth 100000 in
theorem kC8_valueTold_30 {p : Program} {l : Launch} {e : Env} {s : State} {m : MethodId} {args : Array Value} {below : List Frame} {meth : Method} {c : Code} {D : va_G} {cy : Nat → ClassId} {a gs : Nat → Nat} (X : cx_ cX8_valueTold RX8 wsX8_valueTold 3 (some .int) 59 a D cy (xfC gs) p s m args meth c) {k30 : Sg → Int32 → Int32 → Option (Int32 × Sg)} {r0 : Int32} {σ' : Sg} (hk30 : ∀ (σ : Sg) (x1 : Int32) (x2 : Int32) (H : Heap) (locs : List Loc) (ls : Array Slot), k30 σ x1 x2 = some (r0, σ') → iv_ 59 a D (shC cy a σ) s H locs → lv_has ls 3 [(0, .ref (a 20)), (1, .int x1), (2, .int x2)] → W p l e ({ frames := 1, cells := 0, slots := 0, locals := 21 }) s m args below meth c H locs 0 0 (MQ below (qg_ 59 a D (shC cy a σ') (some (.int r0)) s.heap.size) args s 0 0 (fr_ 59 a s.heap.size)) (F0 m 30 ls [])) : ∀ (σ : Sg) (x1 : Int32) (x2 : Int32) (H : Heap) (locs : List Loc) (ls : Array Slot), C8_valueTold_30 k30 σ x1 x2 = some (r0, σ') → iv_ 59 a D (shC cy a σ) s H locs → lv_has ls 3 [(0, .ref (a 20)), (1, .int x1), (2, .int x2)] → W p l e ({ frames := 1, cells := 0, slots := 0, locals := 21 }) s m args below meth c H locs 0 0 (MQ below (qg_ 59 a D (shC cy a σ') (some (.int r0)) s.heap.size) args s 0 0 (fr_ 59 a s.heap.size)) (F0 m 30 ls []) := by
  obtain ⟨hx, hb, hr, hml, hown, hts, hlk, hK, hA, hXf⟩ := id X
  intro σ x1 x2 H locs ls h I hl
  unfold C8_valueTold_30 at h
  refine lv_iload_n hx hb dX8_valueTold_30 rfl (lv_at hl 2 rfl) ?_
  refine lv_aload_n hx hb dX8_valueTold_31 rfl (lv_at hl 0 rfl) ?_
  refine ig_ (index := 23) X I (fun _ q => List.mem_cons_of_mem _ (List.mem_append_right _ q)) 20 (by decide) shC_20 rfl 3 (by decide) (by decide +kernel) rfl (v := .int (rd_ σ 20 3)) rfl dX8_valueTold_32 ?_
  refine lv_icmp_ge (tgt := 58) hx hb dX8_valueTold_35 (by decide) (fun c_1 => ?_) (fun c_1 => ?_)
  · have h := if_t h c_1
    refine lv_iload_n hx hb dX8_valueTold_58 rfl (lv_at hl 1 rfl) ?_
    obtain ⟨rfl, rfl⟩ := re_s h
    exact rti_ X I dX8_valueTold_59
  · have h := if_f h c_1
    refine lv_iload_n hx hb dX8_valueTold_38 rfl (lv_at hl 1 rfl) ?_
    refine lv_bipush (v := 10) hx hb dX8_valueTold_39 (by decide) ?_
    refine lv_imul hx hb dX8_valueTold_41 ?_
    refine lv_aload_n hx hb dX8_valueTold_42 rfl (lv_at hl 0 rfl) ?_
    refine lv_iload_n hx hb dX8_valueTold_43 rfl (lv_at hl 2 rfl) ?_
    obtain ⟨r_4, σ_3, hc_2, h⟩ := bi_of h
    refine cg_ (v := .int r_4) (rV_ (nn := 1) (As := [.int x2]) (rest := [.int (x1 * (10 : Int32))]) X xkC I (c_C8_byteAt hc_2 H.size) gX8_valueTold_X8_byteAt rfl ⟨rfl, rfl⟩ (by decide +kernel) ⟨Nat.le_of_ble_eq_true rfl, Nat.le_of_ble_eq_true rfl⟩ (by decide) shC_20 rfl rfl hl.1 rfl (Nat.le_of_ble_eq_true rfl) dX8_valueTold_44) I (fun H locs I => ?_)
    refine lv_iadd hx hb dX8_valueTold_47 ?_
    refine lv_bipush (v := 48) hx hb dX8_valueTold_48 (by decide) ?_
    refine lv_isub hx hb dX8_valueTold_50 ?_
    refine lv_topi (fun y_5 e_6 => ?_)
    have h := lt_at h e_6
    refine lv_istore_n (lv' := [(1, .int y_5), (0, .ref (a 20)), (2, .int x2)]) hx hb dX8_valueTold_51 rfl hl (by decide) rfl (fun ls hl => ?_)
    obtain ⟨y_7, e_8⟩ : ∃ q : Int32, q = x2 + (1 : Int32) := ⟨_, rfl⟩
    have h := lt_at h e_8
    refine lv_iinc (v := y_7) (lv' := [(2, .int y_7), (1, .int y_5), (0, .ref (a 20))]) hx hb dX8_valueTold_52 hl (k := 2) rfl (by rw [e_8]; rfl) (by decide) rfl (fun ls hl => ?_)
    refine lv_goto (tgt := 30) hx hb dX8_valueTold_55 (by decide) ?_
    exact hk30 σ_3 y_5 y_7 H locs ls h I (lv_sub hl [2, 1, 0] rfl)
set_option maxRecDepth 100000 in
theorem kC8_valueTold_30L {p : Program} {l : Launch} {e : Env} {s : State} {m : MethodId} {args : Array Value} {below : List Frame} {meth : Method} {c : Code} {D : va_G} {cy : Nat → ClassId} {a gs : Nat → Nat} (X : cx_ cX8_valueTold RX8 wsX8_valueTold 3 (some .int) 59 a D cy (xfC gs) p s m args meth c)  {r0 : Int32} {σ' : Sg}  : ∀ (n : Nat), ∀ (σ : Sg) (x1 : Int32) (x2 : Int32) (H : Heap) (locs : List Loc) (ls : Array Slot), lp_ (C8_valueTold_30) (fun _ _ _ => none) n σ x1 x2 = some (r0, σ') → iv_ 59 a D (shC cy a σ) s H locs → lv_has ls 3 [(0, .ref (a 20)), (1, .int x1), (2, .int x2)] → W p l e ({ frames := 1, cells := 0, slots := 0, locals := 21 }) s m args below meth c H locs 0 0 (MQ below (qg_ 59 a D (shC cy a σ') (some (.int r0)) s.heap.size) args s 0 0 (fr_ 59 a s.heap.size)) (F0 m 30 ls []) := by
  intro n
  induction n with
  | zero =>
    intro _ _ _ _ _ _ h
    exact absurd h (fun q => by cases (show (none : Option _) = some _ from q))
  | succ n ih => exact kC8_valueTold_30 X ih

def C8_valueTold_0  (σ : Sg)  : Option (Int32 × Sg) :=
  if (rd_ σ 20 4) = (2 : Int32) then (if ((rd_ σ 20 3) - (rd_ σ 20 2)) ≤ (3 : Int32) then (lt_ ((rd_ σ 20 2)) fun y_3 =>
  lp_ C8_valueTold_30 (fun _ _ _ => none) FU σ (0 : Int32) y_3)
  else (some ((-1 : Int32), σ)))
  else (some ((-1 : Int32), σ))
set_option maxRecDepth 100000 in
theorem kC8_valueTold_0 {p : Program} {l : Launch} {e : Env} {s : State} {m : MethodId} {args : Array Value} {below : List Frame} {meth : Method} {c : Code} {D : va_G} {cy : Nat → ClassId} {a gs : Nat → Nat} (X : cx_ cX8_valueTold RX8 wsX8_valueTold 3 (some .int) 59 a D cy (xfC gs) p s m args meth c)  {r0 : Int32} {σ' : Sg}  : ∀ (σ : Sg)  (H : Heap) (locs : List Loc) (ls : Array Slot), C8_valueTold_0 σ = some (r0, σ') → iv_ 59 a D (shC cy a σ) s H locs → lv_has ls 3 [(0, .ref (a 20))] → W p l e ({ frames := 1, cells := 0, slots := 0, locals := 21 }) s m args below meth c H locs 0 0 (MQ below (qg_ 59 a D (shC cy a σ') (some (.int r0)) s.heap.size) args s 0 0 (fr_ 59 a s.heap.size)) (F0 m 0 ls []) := by
  obtain ⟨hx, hb, hr, hml, hown, hts, hlk, hK, hA, hXf⟩ := id X
  intro σ  H locs ls h I hl
  unfold C8_valueTold_0 at h
  refine lv_aload_n hx hb dX8_valueTold_0 rfl (lv_at hl 0 rfl) ?_
  refine ig_ (index := 32) X I (fun _ q => List.mem_cons_of_mem _ (List.mem_append_right _ q)) 20 (by decide) shC_20 rfl 4 (by decide) (by decide +kernel) rfl (v := .int (rd_ σ 20 4)) rfl dX8_valueTold_1 ?_
  refine lv_iconst (v := 2) hx hb dX8_valueTold_4 (by decide) ?_
  refine lv_icmp_ne (tgt := 21) hx hb dX8_valueTold_5 (by decide) (fun c_1 => ?_) (fun c_1 => ?_)
  · have h := if_f h c_1
    refine lv_iconst (v := (-1)) hx hb dX8_valueTold_21 (by decide) ?_
    obtain ⟨rfl, rfl⟩ := re_s h
    exact rti_ X I dX8_valueTold_22
  · have h := if_t h c_1
    refine lv_aload_n hx hb dX8_valueTold_8 rfl (lv_at hl 0 rfl) ?_
    refine ig_ (index := 23) X I (fun _ q => List.mem_cons_of_mem _ (List.mem_append_right _ q)) 20 (by decide) shC_20 rfl 3 (by decide) (by decide +kernel) rfl (v := .int (rd_ σ 20 3)) rfl dX8_valueTold_9 ?_
    refine lv_aload_n hx hb dX8_valueTold_12 rfl (lv_at hl 0 rfl) ?_
    refine ig_ (index := 137) X I (fun _ q => List.mem_cons_of_mem _ (List.mem_append_right _ q)) 20 (by decide) shC_20 rfl 2 (by decide) (by decide +kernel) rfl (v := .int (rd_ σ 20 2)) rfl dX8_valueTold_13 ?_
    refine lv_isub hx hb dX8_valueTold_16 ?_
    refine lv_iconst (v := 3) hx hb dX8_valueTold_17 (by decide) ?_
    refine lv_icmp_le (tgt := 23) hx hb dX8_valueTold_18 (by decide) (fun c_2 => ?_) (fun c_2 => ?_)
    · have h := if_t h c_2
      refine lv_iconst (v := 0) hx hb dX8_valueTold_23 (by decide) ?_
      refine lv_istore_n (lv' := [(1, .int (0 : Int32)), (0, .ref (a 20))]) hx hb dX8_valueTold_24 rfl hl (by decide) rfl (fun ls hl => ?_)
      refine lv_aload_n hx hb dX8_valueTold_25 rfl (lv_at hl 1 rfl) ?_
      refine ig_ (index := 137) X I (fun _ q => List.mem_cons_of_mem _ (List.mem_append_right _ q)) 20 (by decide) shC_20 rfl 2 (by decide) (by decide +kernel) rfl (v := .int (rd_ σ 20 2)) rfl dX8_valueTold_26 ?_
      refine lv_topi (fun y_3 e_4 => ?_)
      have h := lt_at h e_4
      refine lv_istore_n (lv' := [(2, .int y_3), (1, .int (0 : Int32)), (0, .ref (a 20))]) hx hb dX8_valueTold_29 rfl hl (by decide) rfl (fun ls hl => ?_)
      exact kC8_valueTold_30L X  FU σ (0 : Int32) y_3 H locs ls h I (lv_sub hl [2, 1, 0] rfl)
    · have h := if_f h c_2
      refine lv_iconst (v := (-1)) hx hb dX8_valueTold_21 (by decide) ?_
      obtain ⟨rfl, rfl⟩ := re_s h
      exact rti_ X I dX8_valueTold_22
theorem c_C8_valueTold {l : Launch} {D : va_G} {cy : Nat → ClassId} {a gs : Nat → Nat} {σ : Sg}  {r0 : Int32} {σ' : Sg} (h : C8_valueTold_0 σ  = some (r0, σ')) (sz : Nat) : Met l yX8_valueTold wsX8_valueTold ({ frames := 1, cells := 0, slots := 0, locals := 21 }) (va_Pc [.ref (a 20)] (pr_ 59 a D cy (shC cy a σ) (xfC gs) sz)) (qg_ 59 a D (shC cy a σ') (some (.int r0)) sz) 0 0 (fr_ 59 a sz) := by
  refine ent_ (by decide) rfl (Nat.le_of_ble_eq_true rfl) ?_
  intro p e s m below meth c ls hsz X I hl
  subst hsz
  exact kC8_valueTold_0 X σ  s.heap [] ls h I hl

def C8_number_17  (σ : Sg) (x2 : Int32) : Option (Int32 × Sg) :=
  if (rd_ σ 20 5) < 0 then (bi_ (C8_step_0 σ) fun _ σ_3 =>
  some (x2, σ_3))
  else (some ((0 : Int32), σ))
set_option maxRecDepth 100000 in
theorem kC8_number_17 {p : Program} {l : Launch} {e : Env} {s : State} {m : MethodId} {args : Array Value} {below : List Frame} {meth : Method} {c : Code} {D : va_G} {cy : Nat → ClassId} {a gs : Nat → Nat} (X : cx_ cX8_number RX8 wsX8_number 3 (some .int) 59 a D cy (xfC gs) p s m args meth c)  {r0 : Int32} {σ' : Sg}  : ∀ (σ : Sg) (x2 : Int32) (H : Heap) (locs : List Loc) (ls : Array Slot), C8_number_17 σ x2 = some (r0, σ') → iv_ 59 a D (shC cy a σ) s H locs → lv_has ls 3 [(0, .ref (a 20)), (2, .int x2)] → W p l e ({ frames := 2, cells := 0, slots := 0, locals := 44 }) s m args below meth c H locs 0 0 (MQ below (qg_ 59 a D (shC cy a σ') (some (.int r0)) s.heap.size) args s 0 0 (fr_ 59 a s.heap.size)) (F0 m 17 ls []) := by
  obtain ⟨hx, hb, hr, hml, hown, hts, hlk, hK, hA, hXf⟩ := id X
  intro σ x2 H locs ls h I hl
  unfold C8_number_17 at h
  refine lv_aload_n hx hb dX8_number_17 rfl (lv_at hl 0 rfl) ?_
  refine ig_ (index := 26) X I (fun _ q => List.mem_cons_of_mem _ (List.mem_append_right _ q)) 20 (by decide) shC_20 rfl 5 (by decide) (by decide +kernel) rfl (v := .int (rd_ σ 20 5)) rfl dX8_number_18 ?_
  refine lv_if_lt (tgt := 26) hx hb dX8_number_21 (by decide) (fun c_1 => ?_) (fun c_1 => ?_)
  · have h := if_t h c_1
    refine lv_aload_n hx hb dX8_number_26 rfl (lv_at hl 0 rfl) ?_
    obtain ⟨_, σ_3, hc_2, h⟩ := bi_of h
    refine cv_ (rV_ (nn := 0) (As := []) (rest := []) X xkC I (c_C8_step hc_2 H.size) gX8_number_X8_step rfl ⟨rfl, rfl⟩ (by decide +kernel) ⟨Nat.le_of_ble_eq_true rfl, Nat.le_of_ble_eq_true rfl⟩ (by decide) shC_20 rfl rfl hl.1 rfl (Nat.le_of_ble_eq_true rfl) dX8_number_27) I (fun H locs I => ?_)
    refine lv_iload_n hx hb dX8_number_30 rfl (lv_at hl 1 rfl) ?_
    obtain ⟨rfl, rfl⟩ := re_s h
    exact rti_ X I dX8_number_31
  · have h := if_f h c_1
    refine lv_iconst (v := 0) hx hb dX8_number_24 (by decide) ?_
    obtain ⟨rfl, rfl⟩ := re_s h
    exact rti_ X I dX8_number_25
def C8_number_0  (σ : Sg) (x1 : Int32) : Option (Int32 × Sg) :=
  bi_ (C8_valueTold_0 σ) fun r_3 σ_2 =>
  bp_ (C_within_0 r_3 x1) fun r_5 =>
  if r_5 = 0 then (bi_ (C8_failHere_0 σ_2) fun _ σ_8 =>
  C8_number_17 σ_8 r_3)
  else (C8_number_17 σ_2 r_3)
set_option maxRecDepth 100000 in
theorem kC8_number_0 {p : Program} {l : Launch} {e : Env} {s : State} {m : MethodId} {args : Array Value} {below : List Frame} {meth : Method} {c : Code} {D : va_G} {cy : Nat → ClassId} {a gs : Nat → Nat} (X : cx_ cX8_number RX8 wsX8_number 3 (some .int) 59 a D cy (xfC gs) p s m args meth c)  {r0 : Int32} {σ' : Sg}  : ∀ (σ : Sg) (x1 : Int32) (H : Heap) (locs : List Loc) (ls : Array Slot), C8_number_0 σ x1 = some (r0, σ') → iv_ 59 a D (shC cy a σ) s H locs → lv_has ls 3 [(0, .ref (a 20)), (1, .int x1)] → W p l e ({ frames := 2, cells := 0, slots := 0, locals := 44 }) s m args below meth c H locs 0 0 (MQ below (qg_ 59 a D (shC cy a σ') (some (.int r0)) s.heap.size) args s 0 0 (fr_ 59 a s.heap.size)) (F0 m 0 ls []) := by
  obtain ⟨hx, hb, hr, hml, hown, hts, hlk, hK, hA, hXf⟩ := id X
  intro σ x1 H locs ls h I hl
  unfold C8_number_0 at h
  refine lv_aload_n hx hb dX8_number_0 rfl (lv_at hl 0 rfl) ?_
  obtain ⟨r_3, σ_2, hc_1, h⟩ := bi_of h
  refine cg_ (v := .int r_3) (rV_ (nn := 0) (As := []) (rest := []) X xkC I (c_C8_valueTold hc_1 H.size) gX8_number_X8_valueTold rfl ⟨rfl, rfl⟩ (by decide +kernel) ⟨Nat.le_of_ble_eq_true rfl, Nat.le_of_ble_eq_true rfl⟩ (by decide) shC_20 rfl rfl hl.1 rfl (Nat.le_of_ble_eq_true rfl) dX8_number_1) I (fun H locs I => ?_)
  refine lv_istore_n (lv' := [(2, .int r_3), (0, .ref (a 20)), (1, .int x1)]) hx hb dX8_number_4 rfl hl (by decide) rfl (fun ls hl => ?_)
  refine lv_iload_n hx hb dX8_number_5 rfl (lv_at hl 0 rfl) ?_
  refine lv_iload_n hx hb dX8_number_6 rfl (lv_at hl 2 rfl) ?_
  obtain ⟨r_5, hc_4, h⟩ := bp_of h
  refine cp_ (rN_ (host := "BoundGodmothers") (nn := 2) (As := [.int r_3, .int x1]) (rest := []) ⟨hx, hb, hml, hown, hts⟩ (c_C_within hc_4) gX8_number_X11_within_n19 (xC_nw8 hXf) (by decide +kernel) (by decide +kernel) rfl ⟨rfl, rfl⟩ (by decide +kernel) ⟨Nat.le_of_ble_eq_true rfl, Nat.le_of_ble_eq_true rfl⟩ rfl hl.1 rfl (Nat.le_of_ble_eq_true rfl) dX8_number_7 ⟨Nat.zero_le _, Nat.zero_le _⟩) ?_
  refine lv_if_ne (tgt := 17) hx hb dX8_number_10 (by decide) (fun c_6 => ?_) (fun c_6 => ?_)
  · have h := if_f h c_6
    exact kC8_number_17 X  σ_2 r_3 H locs ls h I (lv_sub hl [1, 0] rfl)
  · have h := if_t h c_6
    refine lv_aload_n hx hb dX8_number_13 rfl (lv_at hl 1 rfl) ?_
    obtain ⟨_, σ_8, hc_7, h⟩ := bi_of h
    refine cv_ (rV_ (nn := 0) (As := []) (rest := []) X xkC I (c_C8_failHere hc_7 H.size) gX8_number_X8_failHere rfl ⟨rfl, rfl⟩ (by decide +kernel) ⟨Nat.le_of_ble_eq_true rfl, Nat.le_of_ble_eq_true rfl⟩ (by decide) shC_20 rfl rfl hl.1 rfl (Nat.le_of_ble_eq_true rfl) dX8_number_14) I (fun H locs I => ?_)
    exact kC8_number_17 X  σ_8 r_3 H locs ls h I (lv_sub hl [1, 0] rfl)
theorem c_C8_number {l : Launch} {D : va_G} {cy : Nat → ClassId} {a gs : Nat → Nat} {σ : Sg} {x1 : Int32} {r0 : Int32} {σ' : Sg} (h : C8_number_0 σ x1 = some (r0, σ')) (sz : Nat) : Met l yX8_number wsX8_number ({ frames := 2, cells := 0, slots := 0, locals := 44 }) (va_Pc [.ref (a 20), .int x1] (pr_ 59 a D cy (shC cy a σ) (xfC gs) sz)) (qg_ 59 a D (shC cy a σ') (some (.int r0)) sz) 0 0 (fr_ 59 a sz) := by
  refine ent_ (by decide) rfl (Nat.le_of_ble_eq_true rfl) ?_
  intro p e s m below meth c ls hsz X I hl
  subst hsz
  exact kC8_number_0 X σ x1 s.heap [] ls h I hl

def C8_name_0  (σ : Sg) (x1 : Nat) : Option (Unit × Sg) :=
  bi_ (C8_isName_0 σ x1) fun r_3 σ_2 =>
  if r_3 = 0 then (bi_ (C8_failHere_0 σ_2) fun _ σ_6 =>
  some ((), σ_6))
  else (bi_ (C8_step_0 σ_2) fun _ σ_8 =>
  some ((), σ_8))
set_option maxRecDepth 100000 in
theorem kC8_name_0 {p : Program} {l : Launch} {e : Env} {s : State} {m : MethodId} {args : Array Value} {below : List Frame} {meth : Method} {c : Code} {D : va_G} {cy : Nat → ClassId} {a gs : Nat → Nat} (X : cx_ cX8_name RX8 wsX8_name 2 none 59 a D cy (xfC gs) p s m args meth c)   {σ' : Sg}  : ∀ (σ : Sg) (x1 : Nat) (H : Heap) (locs : List Loc) (ls : Array Slot), C8_name_0 σ x1 = some ((), σ') → iv_ 59 a D (shC cy a σ) s H locs → lv_has ls 2 [(0, .ref (a 20)), (1, .ref (gs (2 + x1)))] → W p l e ({ frames := 5, cells := 0, slots := 0, locals := 107 }) s m args below meth c H locs 0 0 (MQ below (qg_ 59 a D (shC cy a σ') none s.heap.size) args s 0 0 (fr_ 59 a s.heap.size)) (F0 m 0 ls []) := by
  obtain ⟨hx, hb, hr, hml, hown, hts, hlk, hK, hA, hXf⟩ := id X
  intro σ x1 H locs ls h I hl
  unfold C8_name_0 at h
  refine lv_aload_n hx hb dX8_name_0 rfl (lv_at hl 0 rfl) ?_
  refine lv_aload_n hx hb dX8_name_1 rfl (lv_at hl 1 rfl) ?_
  obtain ⟨r_3, σ_2, hc_1, h⟩ := bi_of h
  refine cg_ (v := .int r_3) (rV_ (nn := 1) (As := [.ref (gs (2 + x1))]) (rest := []) X xkC I (c_C8_isName hc_1 H.size) gX8_name_X8_isName rfl ⟨rfl, rfl⟩ (by decide +kernel) ⟨Nat.le_of_ble_eq_true rfl, Nat.le_of_ble_eq_true rfl⟩ (by decide) shC_20 rfl rfl hl.1 rfl (Nat.le_of_ble_eq_true rfl) dX8_name_2) I (fun H locs I => ?_)
  refine lv_if_eq (tgt := 15) hx hb dX8_name_5 (by decide) (fun c_4 => ?_) (fun c_4 => ?_)
  · have h := if_t h c_4
    refine lv_aload_n hx hb dX8_name_15 rfl (lv_at hl 0 rfl) ?_
    obtain ⟨_, σ_6, hc_5, h⟩ := bi_of h
    refine cv_ (rV_ (nn := 0) (As := []) (rest := []) X xkC I (c_C8_failHere hc_5 H.size) gX8_name_X8_failHere rfl ⟨rfl, rfl⟩ (by decide +kernel) ⟨Nat.le_of_ble_eq_true rfl, Nat.le_of_ble_eq_true rfl⟩ (by decide) shC_20 rfl rfl hl.1 rfl (Nat.le_of_ble_eq_true rfl) dX8_name_16) I (fun H locs I => ?_)
    obtain rfl := re_v h
    exact rtv_ X I dX8_name_19
  · have h := if_f h c_4
    refine lv_aload_n hx hb dX8_name_8 rfl (lv_at hl 0 rfl) ?_
    obtain ⟨_, σ_8, hc_7, h⟩ := bi_of h
    refine cv_ (rV_ (nn := 0) (As := []) (rest := []) X xkC I (c_C8_step hc_7 H.size) gX8_name_X8_step rfl ⟨rfl, rfl⟩ (by decide +kernel) ⟨Nat.le_of_ble_eq_true rfl, Nat.le_of_ble_eq_true rfl⟩ (by decide) shC_20 rfl rfl hl.1 rfl (Nat.le_of_ble_eq_true rfl) dX8_name_9) I (fun H locs I => ?_)
    refine lv_goto (tgt := 19) hx hb dX8_name_12 (by decide) ?_
    obtain rfl := re_v h
    exact rtv_ X I dX8_name_19
theorem c_C8_name {l : Launch} {D : va_G} {cy : Nat → ClassId} {a gs : Nat → Nat} {σ : Sg} {x1 : Nat}  {σ' : Sg} (h : C8_name_0 σ x1 = some ((), σ')) (sz : Nat) : Met l yX8_name wsX8_name ({ frames := 5, cells := 0, slots := 0, locals := 107 }) (va_Pc [.ref (a 20), .ref (gs (2 + x1))] (pr_ 59 a D cy (shC cy a σ) (xfC gs) sz)) (qg_ 59 a D (shC cy a σ') none sz) 0 0 (fr_ 59 a sz) := by
  refine ent_ (by decide) rfl (Nat.le_of_ble_eq_true rfl) ?_
  intro p e s m below meth c ls hsz X I hl
  subst hsz
  exact kC8_name_0 X σ x1 s.heap [] ls h I hl

def C1_life_3_0  (σ : Sg) (x1 : Int32) : Option (Option Nat × Sg) :=
  bp_ (C_within_0 x1 ((if (8 : Int32) < (rd_ σ 3 3) then (8 : Int32) else (rd_ σ 3 3)) - (1 : Int32))) fun r_2 =>
  if r_2 = 0 then (some (none, σ))
  else (gd_ (in_ x1 8) (
  some ((some (16 + x1.toNatClampNeg)), σ)))
set_option maxRecDepth 100000 in
theorem kC1_life_3_0 {p : Program} {l : Launch} {e : Env} {s : State} {m : MethodId} {args : Array Value} {below : List Frame} {meth : Method} {c : Code} {D : va_G} {cy : Nat → ClassId} {a gs : Nat → Nat} (X : cx_ cX1_life RX1 wsX1_life 2 (some (.object "BoundGodmothers$Life")) 59 a D cy (xfC gs) p s m args meth c)  {r0 : Option Nat} {σ' : Sg}  : ∀ (σ : Sg) (x1 : Int32) (H : Heap) (locs : List Loc) (ls : Array Slot), C1_life_3_0 σ x1 = some (r0, σ') → iv_ 59 a D (shC cy a σ) s H locs → lv_has ls 2 [(0, .ref (a 3)), (1, .int x1)] → W p l e ({ frames := 1, cells := 0, slots := 0, locals := 21 }) s m args below meth c H locs 0 0 (MQ below (qg_ 59 a D (shC cy a σ') (some (va_re (fun j => a (34 + j)) r0)) s.heap.size) args s 0 0 (fr_ 59 a s.heap.size)) (F0 m 0 ls []) := by
  obtain ⟨hx, hb, hr, hml, hown, hts, hlk, hK, hA, hXf⟩ := id X
  intro σ x1 H locs ls h I hl
  unfold C1_life_3_0 at h
  refine lv_iload_n hx hb dX1_life_0 rfl (lv_at hl 1 rfl) ?_
  refine lv_aload_n hx hb dX1_life_1 rfl (lv_at hl 0 rfl) ?_
  refine ig_ (index := 42) X I (fun _ q => List.mem_cons_of_mem _ (List.mem_append_right _ q)) 3 (by decide) shC_3 rfl 3 (by decide) (by decide +kernel) rfl (v := .int (rd_ σ 3 3)) rfl dX1_life_2 ?_
  refine lv_bipush (v := 8) hx hb dX1_life_5 (by decide) ?_
  refine va_mmin hx hb (by rw [hml]; exact hl.1.symm) hown (hts (.methodLink RX1 52 Lib.Math.min.name) (by decide +kernel)) (hts (.static Lib.Math.min.name) (by decide +kernel)) (hts (.initialized "java/lang/Math") (by decide +kernel)) (hts (.code Lib.Math.min.name Lib.Math.min.code 2 (some .int)) (by decide +kernel)) (Nat.le_of_ble_eq_true rfl) (Nat.le_of_ble_eq_true rfl) (Nat.zero_le _) (Nat.zero_le _) dX1_life_7 ?_
  refine lv_iconst (v := 1) hx hb dX1_life_10 (by decide) ?_
  refine lv_isub hx hb dX1_life_11 ?_
  obtain ⟨r_2, hc_1, h⟩ := bp_of h
  refine cp_ (rN_ (host := "BoundGodmothers") (nn := 2) (As := [.int x1, .int ((if (8 : Int32) < (rd_ σ 3 3) then (8 : Int32) else (rd_ σ 3 3)) - (1 : Int32))]) (rest := []) ⟨hx, hb, hml, hown, hts⟩ (c_C_within hc_1) gX1_life_X11_within_n58 (xC_nw1 hXf) (by decide +kernel) (by decide +kernel) rfl ⟨rfl, rfl⟩ (by decide +kernel) ⟨Nat.le_of_ble_eq_true rfl, Nat.le_of_ble_eq_true rfl⟩ rfl hl.1 rfl (Nat.le_of_ble_eq_true rfl) dX1_life_12 ⟨Nat.zero_le _, Nat.zero_le _⟩) ?_
  refine lv_if_eq (tgt := 27) hx hb dX1_life_15 (by decide) (fun c_3 => ?_) (fun c_3 => ?_)
  · have h := if_t h c_3
    refine lv_null hx hb dX1_life_27 ?_
    obtain ⟨rfl, rfl⟩ := re_s h
    exact rta_ X I (Or.inl rfl) dX1_life_28
  · have h := if_f h c_3
    refine lv_aload_n hx hb dX1_life_18 rfl (lv_at hl 0 rfl) ?_
    refine ig_ (index := 24) X I (fun _ q => List.mem_cons_of_mem _ (List.mem_append_right _ q)) 3 (by decide) shC_3 rfl 6 (by decide) (by decide +kernel) rfl (v := .ref (a 12)) rfl dX1_life_19 ?_
    refine lv_iload_n hx hb dX1_life_22 rfl (lv_at hl 1 rfl) ?_
    obtain ⟨g_4, h⟩ := gd_of h
    refine aq_ (t := 4) (b := (a (34 + (16 + x1.toNatClampNeg)))) X I 12 (by decide) shC_12 rfl (in_of g_4) rfl dX1_life_23 ?_
    refine lv_goto (tgt := 28) hx hb dX1_life_24 (by decide) ?_
    obtain ⟨rfl, rfl⟩ := re_s h
    exact rta_ X I (Or.inr ⟨_, rfl⟩) dX1_life_28
theorem c_C1_life_3 {l : Launch} {D : va_G} {cy : Nat → ClassId} {a gs : Nat → Nat} {σ : Sg} {x1 : Int32} {r0 : Option Nat} {σ' : Sg} (h : C1_life_3_0 σ x1 = some (r0, σ')) (sz : Nat) : Met l yX1_life wsX1_life ({ frames := 1, cells := 0, slots := 0, locals := 21 }) (va_Pc [.ref (a 3), .int x1] (pr_ 59 a D cy (shC cy a σ) (xfC gs) sz)) (qg_ 59 a D (shC cy a σ') (some (va_re (fun j => a (34 + j)) r0)) sz) 0 0 (fr_ 59 a sz) := by
  refine ent_ (by decide) rfl (Nat.le_of_ble_eq_true rfl) ?_
  intro p e s m below meth c ls hsz X I hl
  subst hsz
  exact kC1_life_3_0 X σ x1 s.heap [] ls h I hl

def C1_added_3_0  (σ : Sg)  : Option (Option Nat × Sg) :=
  if (rd_ σ 3 3) < (8 : Int32) then (lt_ (wr_ σ 3 3 ((rd_ σ 3 3) + (1 : Int32))) fun σ_2 =>
  bi_ (C1_life_3_0 σ_2 ((rd_ σ_2 3 3) - (1 : Int32))) fun r_6 σ_5 =>
  on_ r_6 (some (none, σ_5)) fun j_7 =>
  some ((some j_7), σ_5))
  else (some (none, σ))
set_option maxRecDepth 100000 in
theorem kC1_added_3_0 {p : Program} {l : Launch} {e : Env} {s : State} {m : MethodId} {args : Array Value} {below : List Frame} {meth : Method} {c : Code} {D : va_G} {cy : Nat → ClassId} {a gs : Nat → Nat} (X : cx_ cX1_added RX1 wsX1_added 1 (some (.object "BoundGodmothers$Life")) 59 a D cy (xfC gs) p s m args meth c)  {r0 : Option Nat} {σ' : Sg}  : ∀ (σ : Sg)  (H : Heap) (locs : List Loc) (ls : Array Slot), C1_added_3_0 σ = some (r0, σ') → iv_ 59 a D (shC cy a σ) s H locs → lv_has ls 1 [(0, .ref (a 3))] → W p l e ({ frames := 2, cells := 0, slots := 0, locals := 42 }) s m args below meth c H locs 0 0 (MQ below (qg_ 59 a D (shC cy a σ') (some (va_re (fun j => a (34 + j)) r0)) s.heap.size) args s 0 0 (fr_ 59 a s.heap.size)) (F0 m 0 ls []) := by
  obtain ⟨hx, hb, hr, hml, hown, hts, hlk, hK, hA, hXf⟩ := id X
  intro σ  H locs ls h I hl
  unfold C1_added_3_0 at h
  refine lv_aload_n hx hb dX1_added_0 rfl (lv_at hl 0 rfl) ?_
  refine ig_ (index := 42) X I (fun _ q => List.mem_cons_of_mem _ (List.mem_append_right _ q)) 3 (by decide) shC_3 rfl 3 (by decide) (by decide +kernel) rfl (v := .int (rd_ σ 3 3)) rfl dX1_added_1 ?_
  refine lv_bipush (v := 8) hx hb dX1_added_4 (by decide) ?_
  refine lv_icmp_lt (tgt := 11) hx hb dX1_added_6 (by decide) (fun c_1 => ?_) (fun c_1 => ?_)
  · have h := if_t h c_1
    refine lv_aload_n hx hb dX1_added_11 rfl (lv_at hl 0 rfl) ?_
    refine lv_dup hx hb dX1_added_12 rfl ?_
    refine ig_ (index := 42) X I (fun _ q => List.mem_cons_of_mem _ (List.mem_append_right _ q)) 3 (by decide) shC_3 rfl 3 (by decide) (by decide +kernel) rfl (v := .int (rd_ σ 3 3)) rfl dX1_added_13 ?_
    refine lv_iconst (v := 1) hx hb dX1_added_16 (by decide) ?_
    refine lv_iadd hx hb dX1_added_17 ?_
    refine ip_ (index := 42) (ty := .int) X I (fun _ q => List.mem_cons_of_mem _ (List.mem_append_right _ q)) tyX1 tyX1_ok nmX1 3 (by decide) shC_3 rfl 3 (by decide) (by decide +kernel) rfl rfl (by decide +kernel) rfl rfl (Nat.le_of_ble_eq_true rfl) shC_pt_3_3 dX1_added_18 (fun σ_2 H locs e_3 I => ?_)
    have h := lt_at h e_3
    refine lv_aload_n hx hb dX1_added_21 rfl (lv_at hl 0 rfl) ?_
    refine lv_aload_n hx hb dX1_added_22 rfl (lv_at hl 0 rfl) ?_
    refine ig_ (index := 42) X I (fun _ q => List.mem_cons_of_mem _ (List.mem_append_right _ q)) 3 (by decide) shC_3 rfl 3 (by decide) (by decide +kernel) rfl (v := .int (rd_ σ_2 3 3)) rfl dX1_added_23 ?_
    refine lv_iconst (v := 1) hx hb dX1_added_26 (by decide) ?_
    refine lv_isub hx hb dX1_added_27 ?_
    obtain ⟨r_6, σ_5, hc_4, h⟩ := bi_of h
    refine cg_ (v := va_re (fun j => a (34 + j)) r_6) (rV_ (nn := 1) (As := [.int ((rd_ σ_2 3 3) - (1 : Int32))]) (rest := []) X xkC I (c_C1_life_3 hc_4 H.size) gX1_added_X1_life rfl ⟨rfl, rfl⟩ (by decide +kernel) ⟨Nat.le_of_ble_eq_true rfl, Nat.le_of_ble_eq_true rfl⟩ (by decide) shC_3 rfl rfl hl.1 rfl (Nat.le_of_ble_eq_true rfl) dX1_added_28) I (fun H locs I => ?_)
    rcases r_6 with _ | j_7
    · have h := on_n h
      refine W.eq (g2 := F0 m 31 ls [.null]) rfl ?_
      obtain ⟨rfl, rfl⟩ := re_s h
      exact rta_ X I (Or.inl rfl) dX1_added_31
    · have h := on_s h
      refine W.eq (g2 := F0 m 31 ls [.ref (a (34 + j_7))]) rfl ?_
      obtain ⟨rfl, rfl⟩ := re_s h
      exact rta_ X I (Or.inr ⟨_, rfl⟩) dX1_added_31
  · have h := if_f h c_1
    refine lv_null hx hb dX1_added_9 ?_
    obtain ⟨rfl, rfl⟩ := re_s h
    exact rta_ X I (Or.inl rfl) dX1_added_10
theorem c_C1_added_3 {l : Launch} {D : va_G} {cy : Nat → ClassId} {a gs : Nat → Nat} {σ : Sg}  {r0 : Option Nat} {σ' : Sg} (h : C1_added_3_0 σ  = some (r0, σ')) (sz : Nat) : Met l yX1_added wsX1_added ({ frames := 2, cells := 0, slots := 0, locals := 42 }) (va_Pc [.ref (a 3)] (pr_ 59 a D cy (shC cy a σ) (xfC gs) sz)) (qg_ 59 a D (shC cy a σ') (some (va_re (fun j => a (34 + j)) r0)) sz) 0 0 (fr_ 59 a sz) := by
  refine ent_ (by decide) rfl (Nat.le_of_ble_eq_true rfl) ?_
  intro p e s m below meth c ls hsz X I hl
  subst hsz
  exact kC1_added_3_0 X σ  s.heap [] ls h I hl
