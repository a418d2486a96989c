def C_isEnough_63 (k2 : Sg → Int32 → Int32 → Option (Int32 × Sg)) (k18 : Sg → Int32 → Int32 → Int32 → Int32 → Option (Int32 × Sg)) (σ : Sg) (x1 : Int32) (x2 : Int32) (x4 : Int32) (t0 : Int32) : Option (Int32 × Sg) :=
  lt_ (x4 + (1 : Int32)) fun y_1 =>
  k18 σ x1 x2 t0 y_1
set_option maxRecDepth 100000 in
theorem kC_isEnough_63 {p : Program} {l : Launch} {e : Env} {s : State} {m : MethodId} {args : Array Value} {below : List Frame} {meth : Method} {c : Code} {D : va_G} {cy : Nat → ClassId} {a gs : Nat → Nat} (X : cx_ cX11_isEnough RX11 wsX11_isEnough 5 (some .boolean) 59 a D cy (xfC gs) p s m args meth c) {k2 : Sg → Int32 → Int32 → Option (Int32 × Sg)} {k18 : Sg → Int32 → Int32 → Int32 → Int32 → Option (Int32 × Sg)} {r0 : Int32} {σ' : Sg} (hk2 : ∀ (σ : Sg) (x1 : Int32) (x2 : Int32) (H : Heap) (locs : List Loc) (ls : Array Slot), k2 σ x1 x2 = some (r0, σ') → iv_ 59 a D (shC cy a σ) s H locs → lv_has ls 5 [(0, .ref (a 0)), (1, .int x1), (2, .int x2)] → W p l e ({ frames := 2, cells := 0, slots := 0, locals := 44 }) s m args below meth c H locs 0 0 (MQ below (qg_ 59 a D (shC cy a σ') (some (.int r0)) s.heap.size) args s 0 0 (fr_ 59 a s.heap.size)) (F0 m 2 ls [])) (hk18 : ∀ (σ : Sg) (x1 : Int32) (x2 : Int32) (x3 : Int32) (x4 : Int32) (H : Heap) (locs : List Loc) (ls : Array Slot), k18 σ x1 x2 x3 x4 = some (r0, σ') → iv_ 59 a D (shC cy a σ) s H locs → lv_has ls 5 [(0, .ref (a 0)), (1, .int x1), (2, .int x2), (3, .int x3), (4, .int x4)] → W p l e ({ frames := 2, cells := 0, slots := 0, locals := 44 }) s m args below meth c H locs 0 0 (MQ below (qg_ 59 a D (shC cy a σ') (some (.int r0)) s.heap.size) args s 0 0 (fr_ 59 a s.heap.size)) (F0 m 18 ls [])) : ∀ (σ : Sg) (x1 : Int32) (x2 : Int32) (x4 : Int32) (t0 : Int32) (H : Heap) (locs : List Loc) (ls : Array Slot), C_isEnough_63 k2 k18 σ x1 x2 x4 t0 = some (r0, σ') → iv_ 59 a D (shC cy a σ) s H locs → lv_has ls 5 [(0, .ref (a 0)), (1, .int x1), (2, .int x2), (4, .int x4)] → W p l e ({ frames := 2, cells := 0, slots := 0, locals := 44 }) s m args below meth c H locs 0 0 (MQ below (qg_ 59 a D (shC cy a σ') (some (.int r0)) s.heap.size) args s 0 0 (fr_ 59 a s.heap.size)) (F0 m 63 ls [.int t0]) := by
  obtain ⟨hx, hb, hr, hml, hown, hts, hlk, hK, hA, hXf⟩ := id X
  intro σ x1 x2 x4 t0 H locs ls h I hl
  unfold C_isEnough_63 at h
  refine lv_istore_n (lv' := [(3, .int t0), (0, .ref (a 0)), (1, .int x1), (2, .int x2), (4, .int x4)]) hx hb dX11_isEnough_63 rfl hl (by decide) rfl (fun ls hl => ?_)
  obtain ⟨y_1, e_2⟩ : ∃ q : Int32, q = x4 + (1 : Int32) := ⟨_, rfl⟩
  have h := lt_at h e_2
  refine lv_iinc (v := y_1) (lv' := [(4, .int y_1), (3, .int t0), (0, .ref (a 0)), (1, .int x1), (2, .int x2)]) hx hb dX11_isEnough_64 hl (k := 4) rfl (by rw [e_2]; rfl) (by decide) rfl (fun ls hl => ?_)
  refine lv_goto (tgt := 18) hx hb dX11_isEnough_67 (by decide) ?_
  exact hk18 σ x1 x2 t0 y_1 H locs ls h I (lv_sub hl [2, 3, 4, 1, 0] rfl)
def C_isEnough_62 (k2 : Sg → Int32 → Int32 → Option (Int32 × Sg)) (k18 : Sg → Int32 → Int32 → Int32 → Int32 → Option (Int32 × Sg)) (σ : Sg) (x1 : Int32) (x2 : Int32) (x4 : Int32) : Option (Int32 × Sg) :=
  C_isEnough_63 k2 k18 σ x1 x2 x4 (0 : Int32)
set_option maxRecDepth 100000 in
theorem kC_isEnough_62 {p : Program} {l : Launch} {e : Env} {s : State} {m : MethodId} {args : Array Value} {below : List Frame} {meth : Method} {c : Code} {D : va_G} {cy : Nat → ClassId} {a gs : Nat → Nat} (X : cx_ cX11_isEnough RX11 wsX11_isEnough 5 (some .boolean) 59 a D cy (xfC gs) p s m args meth c) {k2 : Sg → Int32 → Int32 → Option (Int32 × Sg)} {k18 : Sg → Int32 → Int32 → Int32 → Int32 → Option (Int32 × Sg)} {r0 : Int32} {σ' : Sg} (hk2 : ∀ (σ : Sg) (x1 : Int32) (x2 : Int32) (H : Heap) (locs : List Loc) (ls : Array Slot), k2 σ x1 x2 = some (r0, σ') → iv_ 59 a D (shC cy a σ) s H locs → lv_has ls 5 [(0, .ref (a 0)), (1, .int x1), (2, .int x2)] → W p l e ({ frames := 2, cells := 0, slots := 0, locals := 44 }) s m args below meth c H locs 0 0 (MQ below (qg_ 59 a D (shC cy a σ') (some (.int r0)) s.heap.size) args s 0 0 (fr_ 59 a s.heap.size)) (F0 m 2 ls [])) (hk18 : ∀ (σ : Sg) (x1 : Int32) (x2 : Int32) (x3 : Int32) (x4 : Int32) (H : Heap) (locs : List Loc) (ls : Array Slot), k18 σ x1 x2 x3 x4 = some (r0, σ') → iv_ 59 a D (shC cy a σ) s H locs → lv_has ls 5 [(0, .ref (a 0)), (1, .int x1), (2, .int x2), (3, .int x3), (4, .int x4)] → W p l e ({ frames := 2, cells := 0, slots := 0, locals := 44 }) s m args below meth c H locs 0 0 (MQ below (qg_ 59 a D (shC cy a σ') (some (.int r0)) s.heap.size) args s 0 0 (fr_ 59 a s.heap.size)) (F0 m 18 ls [])) : ∀ (σ : Sg) (x1 : Int32) (x2 : Int32) (x4 : Int32) (H : Heap) (locs : List Loc) (ls : Array Slot), C_isEnough_62 k2 k18 σ x1 x2 x4 = some (r0, σ') → iv_ 59 a D (shC cy a σ) s H locs → lv_has ls 5 [(0, .ref (a 0)), (1, .int x1), (2, .int x2), (4, .int x4)] → W p l e ({ frames := 2, cells := 0, slots := 0, locals := 44 }) s m args below meth c H locs 0 0 (MQ below (qg_ 59 a D (shC cy a σ') (some (.int r0)) s.heap.size) args s 0 0 (fr_ 59 a s.heap.size)) (F0 m 62 ls []) := by
  obtain ⟨hx, hb, hr, hml, hown, hts, hlk, hK, hA, hXf⟩ := id X
  intro σ x1 x2 x4 H locs ls h I hl
  unfold C_isEnough_62 at h
  refine lv_iconst (v := 0) hx hb dX11_isEnough_62 (by decide) ?_
  exact kC_isEnough_63 X hk2 hk18 σ x1 x2 x4 (0 : Int32) H locs ls h I (lv_sub hl [0, 1, 2, 3] rfl)
def C_isEnough_70 (k2 : Sg → Int32 → Int32 → Option (Int32 × Sg)) (σ : Sg) (x1 : Int32) (x2 : Int32) (x3 : Int32) : Option (Int32 × Sg) :=
  if x3 = 0 then (some ((0 : Int32), σ))
  else (lt_ (x2 + (1 : Int32)) fun y_2 =>
  k2 σ x1 y_2)
set_option maxRecDepth 100000 in
theorem kC_isEnough_70 {p : Program} {l : Launch} {e : Env} {s : State} {m : MethodId} {args : Array Value} {below : List Frame} {meth : Method} {c : Code} {D : va_G} {cy : Nat → ClassId} {a gs : Nat → Nat} (X : cx_ cX11_isEnough RX11 wsX11_isEnough 5 (some .boolean) 59 a D cy (xfC gs) p s m args meth c) {k2 : Sg → Int32 → Int32 → Option (Int32 × Sg)} {r0 : Int32} {σ' : Sg} (hk2 : ∀ (σ : Sg) (x1 : Int32) (x2 : Int32) (H : Heap) (locs : List Loc) (ls : Array Slot), k2 σ x1 x2 = some (r0, σ') → iv_ 59 a D (shC cy a σ) s H locs → lv_has ls 5 [(0, .ref (a 0)), (1, .int x1), (2, .int x2)] → W p l e ({ frames := 2, cells := 0, slots := 0, locals := 44 }) s m args below meth c H locs 0 0 (MQ below (qg_ 59 a D (shC cy a σ') (some (.int r0)) s.heap.size) args s 0 0 (fr_ 59 a s.heap.size)) (F0 m 2 ls [])) : ∀ (σ : Sg) (x1 : Int32) (x2 : Int32) (x3 : Int32) (H : Heap) (locs : List Loc) (ls : Array Slot), C_isEnough_70 k2 σ x1 x2 x3 = some (r0, σ') → iv_ 59 a D (shC cy a σ) s H locs → lv_has ls 5 [(0, .ref (a 0)), (1, .int x1), (2, .int x2), (3, .int x3)] → W p l e ({ frames := 2, cells := 0, slots := 0, locals := 44 }) s m args below meth c H locs 0 0 (MQ below (qg_ 59 a D (shC cy a σ') (some (.int r0)) s.heap.size) args s 0 0 (fr_ 59 a s.heap.size)) (F0 m 70 ls []) := by
  obtain ⟨hx, hb, hr, hml, hown, hts, hlk, hK, hA, hXf⟩ := id X
  intro σ x1 x2 x3 H locs ls h I hl
  unfold C_isEnough_70 at h
  refine lv_iload_n hx hb dX11_isEnough_70 rfl (lv_at hl 3 rfl) ?_
  refine lv_if_ne (tgt := 76) hx hb dX11_isEnough_71 (by decide) (fun c_1 => ?_) (fun c_1 => ?_)
  · have h := if_f h c_1
    obtain ⟨y_2, e_3⟩ : ∃ q : Int32, q = x2 + (1 : Int32) := ⟨_, rfl⟩
    have h := lt_at h e_3
    refine lv_iinc (v := y_2) (lv' := [(2, .int y_2), (0, .ref (a 0)), (1, .int x1), (3, .int x3)]) hx hb dX11_isEnough_76 hl (k := 2) rfl (by rw [e_3]; rfl) (by decide) rfl (fun ls hl => ?_)
    refine lv_goto (tgt := 2) hx hb dX11_isEnough_79 (by decide) ?_
    exact hk2 σ x1 y_2 H locs ls h I (lv_sub hl [1, 2, 0] rfl)
  · have h := if_t h c_1
    refine lv_iconst (v := 0) hx hb dX11_isEnough_74 (by decide) ?_
    obtain ⟨rfl, rfl⟩ := re_s h
    exact rtz_ X I (by decide) dX11_isEnough_75
def C_isEnough_18 (k2 : Sg → Int32 → Int32 → Option (Int32 × Sg)) (k18 : Sg → Int32 → Int32 → Int32 → Int32 → Option (Int32 × Sg)) (σ : Sg) (x1 : Int32) (x2 : Int32) (x3 : Int32) (x4 : Int32) : Option (Int32 × Sg) :=
  if (8 : Int32) ≤ x4 then (C_isEnough_70 k2 σ x1 x2 x3)
  else (if x3 = 0 then (if ((x1 >>> (x4 &&& 31)) &&& (1 : Int32)) = (1 : Int32) then (bi_ (C_farAt_0 σ x2 x4) fun r_6 σ_5 =>
  if (rd_ σ_5 4 2) < r_6 then (C_isEnough_62 k2 k18 σ_5 x1 x2 x4)
  else (C_isEnough_63 k2 k18 σ_5 x1 x2 x4 (1 : Int32)))
  else (C_isEnough_62 k2 k18 σ x1 x2 x4))
  else (C_isEnough_70 k2 σ x1 x2 x3))
set_option maxRecDepth 100000 in
theorem kC_isEnough_18 {p : Program} {l : Launch} {e : Env} {s : State} {m : MethodId} {args : Array Value} {below : List Frame} {meth : Method} {c : Code} {D : va_G} {cy : Nat → ClassId} {a gs : Nat → Nat} (X : cx_ cX11_isEnough RX11 wsX11_isEnough 5 (some .boolean) 59 a D cy (xfC gs) p s m args meth c) {k2 : Sg → Int32 → Int32 → Option (Int32 × Sg)} {k18 : Sg → Int32 → Int32 → Int32 → Int32 → Option (Int32 × Sg)} {r0 : Int32} {σ' : Sg} (hk2 : ∀ (σ : Sg) (x1 : Int32) (x2 : Int32) (H : Heap) (locs : List Loc) (ls : Array Slot), k2 σ x1 x2 = some (r0, σ') → iv_ 59 a D (shC cy a σ) s H locs → lv_has ls 5 [(0, .ref (a 0)), (1, .int x1), (2, .int x2)] → W p l e ({ frames := 2, cells := 0, slots := 0, locals := 44 }) s m args below meth c H locs 0 0 (MQ below (qg_ 59 a D (shC cy a σ') (some (.int r0)) s.heap.size) args s 0 0 (fr_ 59 a s.heap.size)) (F0 m 2 ls [])) (hk18 : ∀ (σ : Sg) (x1 : Int32) (x2 : Int32) (x3 : Int32) (x4 : Int32) (H : Heap) (locs : List Loc) (ls : Array Slot), k18 σ x1 x2 x3 x4 = some (r0, σ') → iv_ 59 a D (shC cy a σ) s H locs → lv_has ls 5 [(0, .ref (a 0)), (1, .int x1), (2, .int x2), (3, .int x3), (4, .int x4)] → W p l e ({ frames := 2, cells := 0, slots := 0, locals := 44 }) s m args below meth c H locs 0 0 (MQ below (qg_ 59 a D (shC cy a σ') (some (.int r0)) s.heap.size) args s 0 0 (fr_ 59 a s.heap.size)) (F0 m 18 ls [])) : ∀ (σ : Sg) (x1 : Int32) (x2 : Int32) (x3 : Int32) (x4 : Int32) (H : Heap) (locs : List Loc) (ls : Array Slot), C_isEnough_18 k2 k18 σ x1 x2 x3 x4 = some (r0, σ') → iv_ 59 a D (shC cy a σ) s H locs → lv_has ls 5 [(0, .ref (a 0)), (1, .int x1), (2, .int x2), (3, .int x3), (4, .int x4)] → W p l e ({ frames := 2, cells := 0, slots := 0, locals := 44 }) s m args below meth c H locs 0 0 (MQ below (qg_ 59 a D (shC cy a σ') (some (.int r0)) s.heap.size) args s 0 0 (fr_ 59 a s.heap.size)) (F0 m 18 ls []) := by
  obtain ⟨hx, hb, hr, hml, hown, hts, hlk, hK, hA, hXf⟩ := id X
  intro σ x1 x2 x3 x4 H locs ls h I hl
  unfold C_isEnough_18 at h
  refine lv_iload hx hb dX11_isEnough_18 (lv_at hl 4 rfl) ?_
  refine lv_bipush (v := 8) hx hb dX11_isEnough_20 (by decide) ?_
  refine lv_icmp_ge (tgt := 70) hx hb dX11_isEnough_22 (by decide) (fun c_1 => ?_) (fun c_1 => ?_)
  · have h := if_t h c_1
    exact kC_isEnough_70 X hk2 σ x1 x2 x3 H locs ls h I (lv_sub hl [0, 1, 2, 3] rfl)
  · have h := if_f h c_1
    refine lv_iload_n hx hb dX11_isEnough_25 rfl (lv_at hl 3 rfl) ?_
    refine lv_if_ne (tgt := 70) hx hb dX11_isEnough_26 (by decide) (fun c_2 => ?_) (fun c_2 => ?_)
    · have h := if_f h c_2
      exact kC_isEnough_70 X hk2 σ x1 x2 x3 H locs ls h I (lv_sub hl [0, 1, 2, 3] rfl)
    · have h := if_t h c_2
      refine lv_iload_n hx hb dX11_isEnough_29 rfl (lv_at hl 1 rfl) ?_
      refine lv_iload hx hb dX11_isEnough_30 (lv_at hl 4 rfl) ?_
      refine lv_ishr hx hb dX11_isEnough_32 ?_
      refine lv_iconst (v := 1) hx hb dX11_isEnough_33 (by decide) ?_
      refine lv_iand hx hb dX11_isEnough_34 ?_
      refine lv_iconst (v := 1) hx hb dX11_isEnough_35 (by decide) ?_
      refine lv_icmp_ne (tgt := 62) hx hb dX11_isEnough_36 (by decide) (fun c_3 => ?_) (fun c_3 => ?_)
      · have h := if_f h c_3
        exact kC_isEnough_62 X hk2 hk18 σ x1 x2 x4 H locs ls h I (lv_sub hl [0, 1, 2, 4] rfl)
      · have h := if_t h c_3
        refine lv_aload_n hx hb dX11_isEnough_39 rfl (lv_at hl 0 rfl) ?_
        refine lv_iload_n hx hb dX11_isEnough_40 rfl (lv_at hl 2 rfl) ?_
        refine lv_iload hx hb dX11_isEnough_41 (lv_at hl 4 rfl) ?_
        obtain ⟨r_6, σ_5, hc_4, h⟩ := bi_of h
        refine cg_ (v := .int r_6) (rV_ (nn := 2) (As := [.int x2, .int x4]) (rest := []) X xkC I (c_C_farAt hc_4 H.size) gX11_isEnough_X11_farAt rfl ⟨rfl, rfl⟩ (by decide +kernel) ⟨Nat.le_of_ble_eq_true rfl, Nat.le_of_ble_eq_true rfl⟩ (by decide) shC_0 rfl rfl hl.1 rfl (Nat.le_of_ble_eq_true rfl) dX11_isEnough_43) I (fun H locs I => ?_)
        refine lv_aload_n hx hb dX11_isEnough_46 rfl (lv_at hl 0 rfl) ?_
        refine ig_ (index := 30) X I (fun _ q => List.mem_cons_of_mem _ (List.mem_append_left _ (List.mem_append_right _ q))) 0 (by decide) shC_0 rfl 0 (by decide) (by decide +kernel) rfl (v := .ref (a 1)) rfl dX11_isEnough_47 ?_
        refine ig_ (index := 113) X I (fun _ q => List.mem_cons_of_mem _ (List.mem_append_right _ q)) 1 (by decide) shC_1 rfl 0 (by decide) (by decide +kernel) rfl (v := .ref (a 4)) rfl dX11_isEnough_50 ?_
        refine lv_iconst (v := 2) hx hb dX11_isEnough_53 (by decide) ?_
        refine ia_ X I 4 (by decide) shC_4 (in_of (by decide)) (v0 := (rd_ σ_5 4 2)) rfl dX11_isEnough_54 ?_
        refine lv_icmp_gt (tgt := 62) hx hb dX11_isEnough_55 (by decide) (fun c_7 => ?_) (fun c_7 => ?_)
        · have h := if_t h c_7
          exact kC_isEnough_62 X hk2 hk18 σ_5 x1 x2 x4 H locs ls h I (lv_sub hl [0, 1, 2, 4] rfl)
        · have h := if_f h c_7
          refine lv_iconst (v := 1) hx hb dX11_isEnough_58 (by decide) ?_
          refine lv_goto (tgt := 63) hx hb dX11_isEnough_59 (by decide) ?_
          exact kC_isEnough_63 X hk2 hk18 σ_5 x1 x2 x4 (1 : Int32) H locs ls h I (lv_sub hl [0, 1, 2, 4] rfl)
set_option maxRecDepth 100000 in
theorem kC_isEnough_18L {p : Program} {l : Launch} {e : Env} {s : State} {m : MethodId} {args : Array Value} {below : List Frame} {meth : Method} {c : Code} {D : va_G} {cy : Nat → ClassId} {a gs : Nat → Nat} (X : cx_ cX11_isEnough RX11 wsX11_isEnough 5 (some .boolean) 59 a D cy (xfC gs) p s m args meth c) {k2 : Sg → Int32 → Int32 → Option (Int32 × Sg)} {r0 : Int32} {σ' : Sg} (hk2 : ∀ (σ : Sg) (x1 : Int32) (x2 : Int32) (H : Heap) (locs : List Loc) (ls : Array Slot), k2 σ x1 x2 = some (r0, σ') → iv_ 59 a D (shC cy a σ) s H locs → lv_has ls 5 [(0, .ref (a 0)), (1, .int x1), (2, .int x2)] → W p l e ({ frames := 2, cells := 0, slots := 0, locals := 44 }) s m args below meth c H locs 0 0 (MQ below (qg_ 59 a D (shC cy a σ') (some (.int r0)) s.heap.size) args s 0 0 (fr_ 59 a s.heap.size)) (F0 m 2 ls [])) : ∀ (n : Nat), ∀ (σ : Sg) (x1 : Int32) (x2 : Int32) (x3 : Int32) (x4 : Int32) (H : Heap) (locs : List Loc) (ls : Array Slot), lp_ (C_isEnough_18 k2) (fun _ _ _ _ _ => none) n σ x1 x2 x3 x4 = some (r0, σ') → iv_ 59 a D (shC cy a σ) s H locs → lv_has ls 5 [(0, .ref (a 0)), (1, .int x1), (2, .int x2), (3, .int x3), (4, .int x4)] → W p l e ({ frames := 2, cells := 0, slots := 0, locals := 44 }) s m args below meth c H locs 0 0 (MQ below (qg_ 59 a D (shC cy a σ') (some (.int r0)) s.heap.size) args s 0 0 (fr_ 59 a s.heap.size)) (F0 m 18 ls []) := by
  intro n
  induction n with
  | zero =>
    intro _ _ _ _ _ _ _ _ h
    exact absurd h (fun q => by cases (show (none : Option _) = some _ from q))
  | succ n ih => exact kC_isEnough_18 X hk2 ih

def C_isEnough_2 (k2 : Sg → Int32 → Int32 → Option (Int32 × Sg)) (σ : Sg) (x1 : Int32) (x2 : Int32) : Option (Int32 × Sg) :=
  if (rd_ σ 1 3) ≤ x2 then (some ((1 : Int32), σ))
  else (lp_ (C_isEnough_18 k2) (fun _ _ _ _ _ => none) FU σ x1 x2 (0 : Int32) (0 : Int32))
set_option maxRecDepth 100000 in
theorem kC_isEnough_2 {p : Program} {l : Launch} {e : Env} {s : State} {m : MethodId} {args : Array Value} {below : List Frame} {meth : Method} {c : Code} {D : va_G} {cy : Nat → ClassId} {a gs : Nat → Nat} (X : cx_ cX11_isEnough RX11 wsX11_isEnough 5 (some .boolean) 59 a D cy (xfC gs) p s m args meth c) {k2 : Sg → Int32 → Int32 → Option (Int32 × Sg)} {r0 : Int32} {σ' : Sg} (hk2 : ∀ (σ : Sg) (x1 : Int32) (x2 : Int32) (H : Heap) (locs : List Loc) (ls : Array Slot), k2 σ x1 x2 = some (r0, σ') → iv_ 59 a D (shC cy a σ) s H locs → lv_has ls 5 [(0, .ref (a 0)), (1, .int x1), (2, .int x2)] → W p l e ({ frames := 2, cells := 0, slots := 0, locals := 44 }) s m args below meth c H locs 0 0 (MQ below (qg_ 59 a D (shC cy a σ') (some (.int r0)) s.heap.size) args s 0 0 (fr_ 59 a s.heap.size)) (F0 m 2 ls [])) : ∀ (σ : Sg) (x1 : Int32) (x2 : Int32) (H : Heap) (locs : List Loc) (ls : Array Slot), C_isEnough_2 k2 σ x1 x2 = some (r0, σ') → iv_ 59 a D (shC cy a σ) s H locs → lv_has ls 5 [(0, .ref (a 0)), (1, .int x1), (2, .int x2)] → W p l e ({ frames := 2, cells := 0, slots := 0, locals := 44 }) s m args below meth c H locs 0 0 (MQ below (qg_ 59 a D (shC cy a σ') (some (.int r0)) s.heap.size) args s 0 0 (fr_ 59 a s.heap.size)) (F0 m 2 ls []) := by
  obtain ⟨hx, hb, hr, hml, hown, hts, hlk, hK, hA, hXf⟩ := id X
  intro σ x1 x2 H locs ls h I hl
  unfold C_isEnough_2 at h
  refine lv_iload_n hx hb dX11_isEnough_2 rfl (lv_at hl 2 rfl) ?_
  refine lv_aload_n hx hb dX11_isEnough_3 rfl (lv_at hl 0 rfl) ?_
  refine ig_ (index := 30) X I (fun _ q => List.mem_cons_of_mem _ (List.mem_append_left _ (List.mem_append_right _ q))) 0 (by decide) shC_0 rfl 0 (by decide) (by decide +kernel) rfl (v := .ref (a 1)) rfl dX11_isEnough_4 ?_
  refine ig_ (index := 105) X I (fun _ q => List.mem_cons_of_mem _ (List.mem_append_right _ q)) 1 (by decide) shC_1 rfl 3 (by decide) (by decide +kernel) rfl (v := .int (rd_ σ 1 3)) rfl dX11_isEnough_7 ?_
  refine lv_icmp_ge (tgt := 82) hx hb dX11_isEnough_10 (by decide) (fun c_1 => ?_) (fun c_1 => ?_)
  · have h := if_t h c_1
    refine lv_iconst (v := 1) hx hb dX11_isEnough_82 (by decide) ?_
    obtain ⟨rfl, rfl⟩ := re_s h
    exact rtz_ X I (by decide) dX11_isEnough_83
  · have h := if_f h c_1
    refine lv_iconst (v := 0) hx hb dX11_isEnough_13 (by decide) ?_
    refine lv_istore_n (lv' := [(3, .int (0 : Int32)), (0, .ref (a 0)), (1, .int x1), (2, .int x2)]) hx hb dX11_isEnough_14 rfl hl (by decide) rfl (fun ls hl => ?_)
    refine lv_iconst (v := 0) hx hb dX11_isEnough_15 (by decide) ?_
    refine lv_istore (lv' := [(4, .int (0 : Int32)), (3, .int (0 : Int32)), (0, .ref (a 0)), (1, .int x1), (2, .int x2)]) hx hb dX11_isEnough_16 hl (by decide) rfl (fun ls hl => ?_)
    exact kC_isEnough_18L X hk2 FU σ x1 x2 (0 : Int32) (0 : Int32) H locs ls h I (lv_sub hl [2, 3, 4, 1, 0] rfl)
set_option maxRecDepth 100000 in
theorem kC_isEnough_2L {p : Program} {l : Launch} {e : Env} {s : State} {m : MethodId} {args : Array Value} {below : List Frame} {meth : Method} {c : Code} {D : va_G} {cy : Nat → ClassId} {a gs : Nat → Nat} (X : cx_ cX11_isEnough RX11 wsX11_isEnough 5 (some .boolean) 59 a D cy (xfC gs) p s m args meth c)  {r0 : Int32} {σ' : Sg}  : ∀ (n : Nat), ∀ (σ : Sg) (x1 : Int32) (x2 : Int32) (H : Heap) (locs : List Loc) (ls : Array Slot), lp_ (C_isEnough_2) (fun _ _ _ => none) n σ x1 x2 = some (r0, σ') → iv_ 59 a D (shC cy a σ) s H locs → lv_has ls 5 [(0, .ref (a 0)), (1, .int x1), (2, .int x2)] → W p l e ({ frames := 2, cells := 0, slots := 0, locals := 44 }) s m args below meth c H locs 0 0 (MQ below (qg_ 59 a D (shC cy a σ') (some (.int r0)) s.heap.size) args s 0 0 (fr_ 59 a s.heap.size)) (F0 m 2 ls []) := by
  intro n
  induction n with
  | zero =>
    intro _ _ _ _ _ _ h
    exact absurd h (fun q => by cases (show (none : Option _) = some _ from q))
  | succ n ih => exact kC_isEnough_2 X ih

def C_isEnough_0  (σ : Sg) (x1 : Int32) : Option (Int32 × Sg) :=
  lp_ C_isEnough_2 (fun _ _ _ => none) FU σ x1 (0 : Int32)
set_option maxRecDepth 100000 in
theorem kC_isEnough_0 {p : Program} {l : Launch} {e : Env} {s : State} {m : MethodId} {args : Array Value} {below : List Frame} {meth : Method} {c : Code} {D : va_G} {cy : Nat → ClassId} {a gs : Nat → Nat} (X : cx_ cX11_isEnough RX11 wsX11_isEnough 5 (some .boolean) 59 a D cy (xfC gs) p s m args meth c)  {r0 : Int32} {σ' : Sg}  : ∀ (σ : Sg) (x1 : Int32) (H : Heap) (locs : List Loc) (ls : Array Slot), C_isEnough_0 σ x1 = some (r0, σ') → iv_ 59 a D (shC cy a σ) s H locs → lv_has ls 5 [(0, .ref (a 0)), (1, .int x1)] → W p l e ({ frames := 2, cells := 0, slots := 0, locals := 44 }) s m args below meth c H locs 0 0 (MQ below (qg_ 59 a D (shC cy a σ') (some (.int r0)) s.heap.size) args s 0 0 (fr_ 59 a s.heap.size)) (F0 m 0 ls []) := by
  obtain ⟨hx, hb, hr, hml, hown, hts, hlk, hK, hA, hXf⟩ := id X
  intro σ x1 H locs ls h I hl
  unfold C_isEnough_0 at h
  refine lv_iconst (v := 0) hx hb dX11_isEnough_0 (by decide) ?_
  refine lv_istore_n (lv' := [(2, .int (0 : Int32)), (0, .ref (a 0)), (1, .int x1)]) hx hb dX11_isEnough_1 rfl hl (by decide) rfl (fun ls hl => ?_)
  exact kC_isEnough_2L X  FU σ x1 (0 : Int32) H locs ls h I (lv_sub hl [1, 2, 0] rfl)
theorem c_C_isEnough {l : Launch} {D : va_G} {cy : Nat → ClassId} {a gs : Nat → Nat} {σ : Sg} {x1 : Int32} {r0 : Int32} {σ' : Sg} (h : C_isEnough_0 σ x1 = some (r0, σ')) (sz : Nat) : Met l yX11_isEnough wsX11_isEnough ({ frames := 2, cells := 0, slots := 0, locals := 44 }) (va_Pc [.ref (a 0), .int x1] (pr_ 59 a D cy (shC cy a σ) (xfC gs) sz)) (qg_ 59 a D (shC cy a σ') (some (.int r0)) sz) 0 0 (fr_ 59 a sz) := by
  refine ent_ (by decide) rfl (Nat.le_of_ble_eq_true rfl) ?_
  intro p e s m below meth c ls hsz X I hl
  subst hsz
  exact kC_isEnough_0 X σ x1 s.heap [] ls h I hl

def C_enough_59 (k23 : Sg → Int32 → Int32 → Int32 → Option (Int32 × Sg)) (σ : Sg) (x2 : Int32) (x3 : Int32) (x4 : Int32) : Option (Int32 × Sg) :=
  lt_ (x4 + (1 : Int32)) fun y_1 =>
  k23 σ x2 x3 y_1
set_option maxRecDepth 100000 in
theorem kC_enough_59 {p : Program} {l : Launch} {e : Env} {s : State} {m : MethodId} {args : Array Value} {below : List Frame} {meth : Method} {c : Code} {D : va_G} {cy : Nat → ClassId} {a gs : Nat → Nat} (X : cx_ cX11_enough RX11 wsX11_enough 6 (some .int) 59 a D cy (xfC gs) p s m args meth c) {k23 : Sg → Int32 → Int32 → Int32 → Option (Int32 × Sg)} {r0 : Int32} {σ' : Sg} (hk23 : ∀ (σ : Sg) (x2 : Int32) (x3 : Int32) (x4 : Int32) (H : Heap) (locs : List Loc) (ls : Array Slot), k23 σ x2 x3 x4 = some (r0, σ') → iv_ 59 a D (shC cy a σ) s H locs → lv_has ls 6 [(0, .ref (a 0)), (2, .int x2), (3, .int x3), (4, .int x4)] → W p l e ({ frames := 7, cells := 0, slots := 0, locals := 163 }) s m args below meth c H locs 0 0 (MQ below (qg_ 59 a D (shC cy a σ') (some (.int r0)) s.heap.size) args s 0 0 (fr_ 59 a s.heap.size)) (F0 m 23 ls [])) : ∀ (σ : Sg) (x2 : Int32) (x3 : Int32) (x4 : Int32) (H : Heap) (locs : List Loc) (ls : Array Slot), C_enough_59 k23 σ x2 x3 x4 = some (r0, σ') → iv_ 59 a D (shC cy a σ) s H locs → lv_has ls 6 [(0, .ref (a 0)), (2, .int x2), (3, .int x3), (4, .int x4)] → W p l e ({ frames := 7, cells := 0, slots := 0, locals := 163 }) s m args below meth c H locs 0 0 (MQ below (qg_ 59 a D (shC cy a σ') (some (.int r0)) s.heap.size) args s 0 0 (fr_ 59 a s.heap.size)) (F0 m 59 ls []) := by
  obtain ⟨hx, hb, hr, hml, hown, hts, hlk, hK, hA, hXf⟩ := id X
  intro σ x2 x3 x4 H locs ls h I hl
  unfold C_enough_59 at h
  obtain ⟨y_1, e_2⟩ : ∃ q : Int32, q = x4 + (1 : Int32) := ⟨_, rfl⟩
  have h := lt_at h e_2
  refine lv_iinc (v := y_1) (lv' := [(4, .int y_1), (0, .ref (a 0)), (2, .int x2), (3, .int x3)]) hx hb dX11_enough_59 hl (k := 3) rfl (by rw [e_2]; rfl) (by decide) rfl (fun ls hl => ?_)
  refine lv_goto (tgt := 23) hx hb dX11_enough_62 (by decide) ?_
  exact hk23 σ x2 x3 y_1 H locs ls h I (lv_sub hl [1, 2, 3, 0] rfl)
def C_enough_23 (k23 : Sg → Int32 → Int32 → Int32 → Option (Int32 × Sg)) (σ : Sg) (x2 : Int32) (x3 : Int32) (x4 : Int32) : Option (Int32 × Sg) :=
  if (256 : Int32) ≤ x4 then (some (x2, σ))
  else (bp_ (CJ6_bitCount_0 x4) fun r_3 =>
  if x3 ≤ r_3 then (C_enough_59 k23 σ x2 x3 x4)
  else (bi_ (C_isEnough_0 σ x4) fun r_7 σ_6 =>
  if r_7 = 0 then (C_enough_59 k23 σ_6 x2 x3 x4)
  else (C_enough_59 k23 σ_6 x4 r_3 x4)))
set_option maxRecDepth 100000 in
theorem kC_enough_23 {p : Program} {l : Launch} {e : Env} {s : State} {m : MethodId} {args : Array Value} {below : List Frame} {meth : Method} {c : Code} {D : va_G} {cy : Nat → ClassId} {a gs : Nat → Nat} (X : cx_ cX11_enough RX11 wsX11_enough 6 (some .int) 59 a D cy (xfC gs) p s m args meth c) {k23 : Sg → Int32 → Int32 → Int32 → Option (Int32 × Sg)} {r0 : Int32} {σ' : Sg} (hk23 : ∀ (σ : Sg) (x2 : Int32) (x3 : Int32) (x4 : Int32) (H : Heap) (locs : List Loc) (ls : Array Slot), k23 σ x2 x3 x4 = some (r0, σ') → iv_ 59 a D (shC cy a σ) s H locs → lv_has ls 6 [(0, .ref (a 0)), (2, .int x2), (3, .int x3), (4, .int x4)] → W p l e ({ frames := 7, cells := 0, slots := 0, locals := 163 }) s m args below meth c H locs 0 0 (MQ below (qg_ 59 a D (shC cy a σ') (some (.int r0)) s.heap.size) args s 0 0 (fr_ 59 a s.heap.size)) (F0 m 23 ls [])) : ∀ (σ : Sg) (x2 : Int32) (x3 : Int32) (x4 : Int32) (H : Heap) (locs : List Loc) (ls : Array Slot), C_enough_23 k23 σ x2 x3 x4 = some (r0, σ') → iv_ 59 a D (shC cy a σ) s H locs → lv_has ls 6 [(0, .ref (a 0)), (2, .int x2), (3, .int x3), (4, .int x4)] → W p l e ({ frames := 7, cells := 0, slots := 0, locals := 163 }) s m args below meth c H locs 0 0 (MQ below (qg_ 59 a D (shC cy a σ') (some (.int r0)) s.heap.size) args s 0 0 (fr_ 59 a s.heap.size)) (F0 m 23 ls []) := by
  obtain ⟨hx, hb, hr, hml, hown, hts, hlk, hK, hA, hXf⟩ := id X
  intro σ x2 x3 x4 H locs ls h I hl
  unfold C_enough_23 at h
  refine lv_iload hx hb dX11_enough_23 (lv_at hl 3 rfl) ?_
  refine lv_sipush (v := 256) hx hb dX11_enough_25 (by decide) ?_
  refine lv_icmp_ge (tgt := 65) hx hb dX11_enough_28 (by decide) (fun c_1 => ?_) (fun c_1 => ?_)
  · have h := if_t h c_1
    refine lv_iload_n hx hb dX11_enough_65 rfl (lv_at hl 1 rfl) ?_
    obtain ⟨rfl, rfl⟩ := re_s h
    exact rti_ X I dX11_enough_66
  · have h := if_f h c_1
    refine lv_iload hx hb dX11_enough_31 (lv_at hl 3 rfl) ?_
    obtain ⟨r_3, hc_2, h⟩ := bp_of h
    refine cp_ (rP_ (nn := 1) (As := [.int x4]) (rest := []) ⟨hx, hb, hml, hown, hts⟩ (c_CJ6_bitCount hc_2) gX11_enough_J6_bitCount_0f7a4 rfl ⟨rfl, rfl⟩ (by decide +kernel) ⟨Nat.le_of_ble_eq_true rfl, Nat.le_of_ble_eq_true rfl⟩ rfl hl.1 rfl (Nat.le_of_ble_eq_true rfl) dX11_enough_33 ⟨Nat.zero_le _, Nat.zero_le _⟩) ?_
    refine lv_istore (lv' := [(5, .int r_3), (0, .ref (a 0)), (2, .int x2), (3, .int x3), (4, .int x4)]) hx hb dX11_enough_36 hl (by decide) rfl (fun ls hl => ?_)
    refine lv_iload hx hb dX11_enough_38 (lv_at hl 0 rfl) ?_
    refine lv_iload_n hx hb dX11_enough_40 rfl (lv_at hl 3 rfl) ?_
    refine lv_icmp_ge (tgt := 59) hx hb dX11_enough_41 (by decide) (fun c_4 => ?_) (fun c_4 => ?_)
    · have h := if_t h c_4
      exact kC_enough_59 X hk23 σ x2 x3 x4 H locs ls h I (lv_sub hl [1, 2, 3, 4] rfl)
    · have h := if_f h c_4
      refine lv_aload_n hx hb dX11_enough_44 rfl (lv_at hl 1 rfl) ?_
      refine lv_iload hx hb dX11_enough_45 (lv_at hl 4 rfl) ?_
      obtain ⟨r_7, σ_6, hc_5, h⟩ := bi_of h
      refine cg_ (v := .int r_7) (rV_ (nn := 1) (As := [.int x4]) (rest := []) X xkC I (c_C_isEnough hc_5 H.size) gX11_enough_X11_isEnough rfl ⟨rfl, rfl⟩ (by decide +kernel) ⟨Nat.le_of_ble_eq_true rfl, Nat.le_of_ble_eq_true rfl⟩ (by decide) shC_0 rfl rfl hl.1 rfl (Nat.le_of_ble_eq_true rfl) dX11_enough_47) I (fun H locs I => ?_)
      refine lv_if_eq (tgt := 59) hx hb dX11_enough_50 (by decide) (fun c_8 => ?_) (fun c_8 => ?_)
      · have h := if_t h c_8
        exact kC_enough_59 X hk23 σ_6 x2 x3 x4 H locs ls h I (lv_sub hl [1, 2, 3, 4] rfl)
      · have h := if_f h c_8
        refine lv_iload hx hb dX11_enough_53 (lv_at hl 4 rfl) ?_
        refine lv_istore_n (lv' := [(2, .int x4), (5, .int r_3), (0, .ref (a 0)), (3, .int x3), (4, .int x4)]) hx hb dX11_enough_55 rfl hl (by decide) rfl (fun ls hl => ?_)
        refine lv_iload hx hb dX11_enough_56 (lv_at hl 1 rfl) ?_
        refine lv_istore_n (lv' := [(3, .int r_3), (2, .int x4), (5, .int r_3), (0, .ref (a 0)), (4, .int x4)]) hx hb dX11_enough_58 rfl hl (by decide) rfl (fun ls hl => ?_)
        exact kC_enough_59 X hk23 σ_6 x4 r_3 x4 H locs ls h I (lv_sub hl [3, 1, 0, 4] rfl)
set_option maxRecDepth 100000 in
theorem kC_enough_23L {p : Program} {l : Launch} {e : Env} {s : State} {m : MethodId} {args : Array Value} {below : List Frame} {meth : Method} {c : Code} {D : va_G} {cy : Nat → ClassId} {a gs : Nat → Nat} (X : cx_ cX11_enough RX11 wsX11_enough 6 (some .int) 59 a D cy (xfC gs) p s m args meth c)  {r0 : Int32} {σ' : Sg}  : ∀ (n : Nat), ∀ (σ : Sg) (x2 : Int32) (x3 : Int32) (x4 : Int32) (H : Heap) (locs : List Loc) (ls : Array Slot), lp_ (C_enough_23) (fun _ _ _ _ => none) n σ x2 x3 x4 = some (r0, σ') → iv_ 59 a D (shC cy a σ) s H locs → lv_has ls 6 [(0, .ref (a 0)), (2, .int x2), (3, .int x3), (4, .int x4)] → W p l e ({ frames := 7, cells := 0, slots := 0, locals := 163 }) s m args below meth c H locs 0 0 (MQ below (qg_ 59 a D (shC cy a σ') (some (.int r0)) s.heap.size) args s 0 0 (fr_ 59 a s.heap.size)) (F0 m 23 ls []) := by
  intro n
  induction n with
  | zero =>
    intro _ _ _ _ _ _ _ h
    exact absurd h (fun q => by cases (show (none : Option _) = some _ from q))
  | succ n ih => exact kC_enough_23 X ih

def C_enough_0  (σ : Sg) (x1 : Int32) : Option (Int32 × Sg) :=
  bp_ (C_isPlan_0 x1) fun r_2 =>
  if r_2 = 0 then (some ((-1 : Int32), σ))
  else (bi_ (C_fillFars_0 σ x1) fun _ σ_5 =>
  lp_ C_enough_23 (fun _ _ _ _ => none) FU σ_5 (-3 : Int32) (9 : Int32) (0 : Int32))
set_option maxRecDepth 100000 in
theorem kC_enough_0 {p : Program} {l : Launch} {e : Env} {s : State} {m : MethodId} {args : Array Value} {below : List Frame} {meth : Method} {c : Code} {D : va_G} {cy : Nat → ClassId} {a gs : Nat → Nat} (X : cx_ cX11_enough RX11 wsX11_enough 6 (some .int) 59 a D cy (xfC gs) p s m args meth c)  {r0 : Int32} {σ' : Sg}  : ∀ (σ : Sg) (x1 : Int32) (H : Heap) (locs : List Loc) (ls : Array Slot), C_enough_0 σ x1 = some (r0, σ') → iv_ 59 a D (shC cy a σ) s H locs → lv_has ls 6 [(0, .ref (a 0)), (1, .int x1)] → W p l e ({ frames := 7, cells := 0, slots := 0, locals := 163 }) s m args below meth c H locs 0 0 (MQ below (qg_ 59 a D (shC cy a σ') (some (.int r0)) s.heap.size) args s 0 0 (fr_ 59 a s.heap.size)) (F0 m 0 ls []) := by
  obtain ⟨hx, hb, hr, hml, hown, hts, hlk, hK, hA, hXf⟩ := id X
  intro σ x1 H locs ls h I hl
  unfold C_enough_0 at h
  refine lv_iload_n hx hb dX11_enough_0 rfl (lv_at hl 1 rfl) ?_
  obtain ⟨r_2, hc_1, h⟩ := bp_of h
  refine cp_ (rP_ (nn := 1) (As := [.int x1]) (rest := []) ⟨hx, hb, hml, hown, hts⟩ (c_C_isPlan hc_1) gX11_enough_X11_isPlan rfl ⟨rfl, rfl⟩ (by decide +kernel) ⟨Nat.le_of_ble_eq_true rfl, Nat.le_of_ble_eq_true rfl⟩ rfl hl.1 rfl (Nat.le_of_ble_eq_true rfl) dX11_enough_1 ⟨Nat.zero_le _, Nat.zero_le _⟩) ?_
  refine lv_if_ne (tgt := 9) hx hb dX11_enough_4 (by decide) (fun c_3 => ?_) (fun c_3 => ?_)
  · have h := if_f h c_3
    refine lv_aload_n hx hb dX11_enough_9 rfl (lv_at hl 0 rfl) ?_
    refine lv_iload_n hx hb dX11_enough_10 rfl (lv_at hl 1 rfl) ?_
    obtain ⟨_, σ_5, hc_4, h⟩ := bi_of h
    refine cv_ (rV_ (nn := 1) (As := [.int x1]) (rest := []) X xkC I (c_C_fillFars hc_4 H.size) gX11_enough_X11_fillFars rfl ⟨rfl, rfl⟩ (by decide +kernel) ⟨Nat.le_of_ble_eq_true rfl, Nat.le_of_ble_eq_true rfl⟩ (by decide) shC_0 rfl rfl hl.1 rfl (Nat.le_of_ble_eq_true rfl) dX11_enough_11) I (fun H locs I => ?_)
    refine lv_bipush (v := (-3)) hx hb dX11_enough_14 (by decide) ?_
    refine lv_istore_n (lv' := [(2, .int (-3 : Int32)), (0, .ref (a 0)), (1, .int x1)]) hx hb dX11_enough_16 rfl hl (by decide) rfl (fun ls hl => ?_)
    refine lv_bipush (v := 9) hx hb dX11_enough_17 (by decide) ?_
    refine lv_istore_n (lv' := [(3, .int (9 : Int32)), (2, .int (-3 : Int32)), (0, .ref (a 0)), (1, .int x1)]) hx hb dX11_enough_19 rfl hl (by decide) rfl (fun ls hl => ?_)
    refine lv_iconst (v := 0) hx hb dX11_enough_20 (by decide) ?_
    refine lv_istore (lv' := [(4, .int (0 : Int32)), (3, .int (9 : Int32)), (2, .int (-3 : Int32)), (0, .ref (a 0)), (1, .int x1)]) hx hb dX11_enough_21 hl (by decide) rfl (fun ls hl => ?_)
    exact kC_enough_23L X  FU σ_5 (-3 : Int32) (9 : Int32) (0 : Int32) H locs ls h I (lv_sub hl [3, 2, 1, 0] rfl)
  · have h := if_t h c_3
    refine lv_iconst (v := (-1)) hx hb dX11_enough_7 (by decide) ?_
    obtain ⟨rfl, rfl⟩ := re_s h
    exact rti_ X I dX11_enough_8
theorem c_C_enough {l : Launch} {D : va_G} {cy : Nat → ClassId} {a gs : Nat → Nat} {σ : Sg} {x1 : Int32} {r0 : Int32} {σ' : Sg} (h : C_enough_0 σ x1 = some (r0, σ')) (sz : Nat) : Met l yX11_enough wsX11_enough ({ frames := 7, cells := 0, slots := 0, locals := 163 }) (va_Pc [.ref (a 0), .int x1] (pr_ 59 a D cy (shC cy a σ) (xfC gs) sz)) (qg_ 59 a D (shC cy a σ') (some (.int r0)) sz) 0 0 (fr_ 59 a sz) := by
  refine ent_ (by decide) rfl (Nat.le_of_ble_eq_true rfl) ?_
  intro p e s m below meth c ls hsz X I hl
  subst hsz
  exact kC_enough_0 X σ x1 s.heap [] ls h I hl

def C2_isSheet_0  (σ : Sg) (x1 : Int32) : Option (Int32 × Sg) :=
  bp_ (C_within_0 x1 (3 : Int32)) fun r_2 =>
  gd_ (bo_ r_2) (some (r_2, σ))
set_option maxRecDepth 100000 in
theorem kC2_isSheet_0 {p : Program} {l : Launch} {e : Env} {s : State} {m : MethodId} {args : Array Value} {below : List Frame} {meth : Method} {c : Code} {D : va_G} {cy : Nat → ClassId} {a gs : Nat → Nat} (X : cx_ cX2_isSheet RX2 wsX2_isSheet 2 (some .boolean) 59 a D cy (xfC gs) p s m args meth c)  {r0 : Int32} {σ' : Sg}  : ∀ (σ : Sg) (x1 : Int32) (H : Heap) (locs : List Loc) (ls : Array Slot), C2_isSheet_0 σ x1 = some (r0, σ') → iv_ 59 a D (shC cy a σ) s H locs → lv_has ls 2 [(0, .ref (a 22)), (1, .int x1)] → W p l e ({ frames := 1, cells := 0, slots := 0, locals := 21 }) s m args below meth c H locs 0 0 (MQ below (qg_ 59 a D (shC cy a σ') (some (.int r0)) s.heap.size) args s 0 0 (fr_ 59 a s.heap.size)) (F0 m 0 ls []) := by
  obtain ⟨hx, hb, hr, hml, hown, hts, hlk, hK, hA, hXf⟩ := id X
  intro σ x1 H locs ls h I hl
  unfold C2_isSheet_0 at h
  refine lv_iload_n hx hb dX2_isSheet_0 rfl (lv_at hl 1 rfl) ?_
  refine lv_iconst (v := 3) hx hb dX2_isSheet_1 (by decide) ?_
  obtain ⟨r_2, hc_1, h⟩ := bp_of h
  refine cp_ (rN_ (host := "BoundGodmothers") (nn := 2) (As := [.int x1, .int (3 : Int32)]) (rest := []) ⟨hx, hb, hml, hown, hts⟩ (c_C_within hc_1) gX2_isSheet_X11_within_n29 (xC_nw2 hXf) (by decide +kernel) (by decide +kernel) rfl ⟨rfl, rfl⟩ (by decide +kernel) ⟨Nat.le_of_ble_eq_true rfl, Nat.le_of_ble_eq_true rfl⟩ rfl hl.1 rfl (Nat.le_of_ble_eq_true rfl) dX2_isSheet_2 ⟨Nat.zero_le _, Nat.zero_le _⟩) ?_
  obtain ⟨g_3, h⟩ := gd_of h
  obtain ⟨rfl, rfl⟩ := re_s h
  exact rtz_ X I (bo_of g_3).1 dX2_isSheet_5
theorem c_C2_isSheet {l : Launch} {D : va_G} {cy : Nat → ClassId} {a gs : Nat → Nat} {σ : Sg} {x1 : Int32} {r0 : Int32} {σ' : Sg} (h : C2_isSheet_0 σ x1 = some (r0, σ')) (sz : Nat) : Met l yX2_isSheet wsX2_isSheet ({ frames := 1, cells := 0, slots := 0, locals := 21 }) (va_Pc [.ref (a 22), .int x1] (pr_ 59 a D cy (shC cy a σ) (xfC gs) sz)) (qg_ 59 a D (shC cy a σ') (some (.int r0)) sz) 0 0 (fr_ 59 a sz) := by
  refine ent_ (by decide) rfl (Nat.le_of_ble_eq_true rfl) ?_
  intro p e s m below meth c ls hsz X I hl
  subst hsz
  exact kC2_isSheet_0 X σ x1 s.heap [] ls h I hl

def C2_sortOf_0  (σ : Sg) (x1 : Int32) : Option (Int32 × Sg) :=
  bi_ (C2_isSheet_0 σ x1) fun r_3 σ_2 =>
  if r_3 = 0 then (some ((-1 : Int32), σ_2))
  else (gd_ (in_ x1 4) (
  some ((rd_ σ_2 23 x1.toNatClampNeg), σ_2)))
set_option maxRecDepth 100000 in
theorem kC2_sortOf_0 {p : Program} {l : Launch} {e : Env} {s : State} {m : MethodId} {args : Array Value} {below : List Frame} {meth : Method} {c : Code} {D : va_G} {cy : Nat → ClassId} {a gs : Nat → Nat} (X : cx_ cX2_sortOf RX2 wsX2_sortOf 2 (some .int) 59 a D cy (xfC gs) p s m args meth c)  {r0 : Int32} {σ' : Sg}  : ∀ (σ : Sg) (x1 : Int32) (H : Heap) (locs : List Loc) (ls : Array Slot), C2_sortOf_0 σ x1 = some (r0, σ') → iv_ 59 a D (shC cy a σ) s H locs → lv_has ls 2 [(0, .ref (a 22)), (1, .int x1)] → W p l e ({ frames := 2, cells := 0, slots := 0, locals := 42 }) s m args below meth c H locs 0 0 (MQ below (qg_ 59 a D (shC cy a σ') (some (.int r0)) s.heap.size) args s 0 0 (fr_ 59 a s.heap.size)) (F0 m 0 ls []) := by
  obtain ⟨hx, hb, hr, hml, hown, hts, hlk, hK, hA, hXf⟩ := id X
  intro σ x1 H locs ls h I hl
  unfold C2_sortOf_0 at h
  refine lv_aload_n hx hb dX2_sortOf_0 rfl (lv_at hl 0 rfl) ?_
  refine lv_iload_n hx hb dX2_sortOf_1 rfl (lv_at hl 1 rfl) ?_
  obtain ⟨r_3, σ_2, hc_1, h⟩ := bi_of h
  refine cg_ (v := .int r_3) (rV_ (nn := 1) (As := [.int x1]) (rest := []) X xkC I (c_C2_isSheet hc_1 H.size) gX2_sortOf_X2_isSheet rfl ⟨rfl, rfl⟩ (by decide +kernel) ⟨Nat.le_of_ble_eq_true rfl, Nat.le_of_ble_eq_true rfl⟩ (by decide) shC_22 rfl rfl hl.1 rfl (Nat.le_of_ble_eq_true rfl) dX2_sortOf_2) I (fun H locs I => ?_)
  refine lv_if_eq (tgt := 17) hx hb dX2_sortOf_5 (by decide) (fun c_4 => ?_) (fun c_4 => ?_)
  · have h := if_t h c_4
    refine lv_iconst (v := (-1)) hx hb dX2_sortOf_17 (by decide) ?_
    obtain ⟨rfl, rfl⟩ := re_s h
    exact rti_ X I dX2_sortOf_18
  · have h := if_f h c_4
    refine lv_aload_n hx hb dX2_sortOf_8 rfl (lv_at hl 0 rfl) ?_
    refine ig_ (index := 9) X I (fun _ q => List.mem_cons_of_mem _ (List.mem_append_right _ q)) 22 (by decide) shC_22 rfl 0 (by decide) (by decide +kernel) rfl (v := .ref (a 23)) rfl dX2_sortOf_9 ?_
    refine lv_iload_n hx hb dX2_sortOf_12 rfl (lv_at hl 1 rfl) ?_
    obtain ⟨g_5, h⟩ := gd_of h
    refine ia_ X I 23 (by decide) shC_23 (in_of g_5) (v0 := (rd_ σ_2 23 x1.toNatClampNeg)) rfl dX2_sortOf_13 ?_
    refine lv_goto (tgt := 18) hx hb dX2_sortOf_14 (by decide) ?_
    obtain ⟨rfl, rfl⟩ := re_s h
    exact rti_ X I dX2_sortOf_18
theorem c_C2_sortOf {l : Launch} {D : va_G} {cy : Nat → ClassId} {a gs : Nat → Nat} {σ : Sg} {x1 : Int32} {r0 : Int32} {σ' : Sg} (h : C2_sortOf_0 σ x1 = some (r0, σ')) (sz : Nat) : Met l yX2_sortOf wsX2_sortOf ({ frames := 2, cells := 0, slots := 0, locals := 42 }) (va_Pc [.ref (a 22), .int x1] (pr_ 59 a D cy (shC cy a σ) (xfC gs) sz)) (qg_ 59 a D (shC cy a σ') (some (.int r0)) sz) 0 0 (fr_ 59 a sz) := by
  refine ent_ (by decide) rfl (Nat.le_of_ble_eq_true rfl) ?_
  intro p e s m below meth c ls hsz X I hl
  subst hsz
  exact kC2_sortOf_0 X σ x1 s.heap [] ls h I hl

def C2_isMissing_0  (σ : Sg) (x1 : Int32) : Option (Int32 × Sg) :=
  bi_ (C2_sortOf_0 σ x1) fun r_3 σ_2 =>
  if r_3 = (-1 : Int32) then (some ((1 : Int32), σ_2))
  else (some ((0 : Int32), σ_2))
set_option maxRecDepth 100000 in
theorem kC2_isMissing_0 {p : Program} {l : Launch} {e : Env} {s : State} {m : MethodId} {args : Array Value} {below : List Frame} {meth : Method} {c : Code} {D : va_G} {cy : Nat → ClassId} {a gs : Nat → Nat} (X : cx_ cX2_isMissing RX2 wsX2_isMissing 2 (some .boolean) 59 a D cy (xfC gs) p s m args meth c)  {r0 : Int32} {σ' : Sg}  : ∀ (σ : Sg) (x1 : Int32) (H : Heap) (locs : List Loc) (ls : Array Slot), C2_isMissing_0 σ x1 = some (r0, σ') → iv_ 59 a D (shC cy a σ) s H locs → lv_has ls 2 [(0, .ref (a 22)), (1, .int x1)] → W p l e ({ frames := 3, cells := 0, slots := 0, locals := 63 }) s m args below meth c H locs 0 0 (MQ below (qg_ 59 a D (shC cy a σ') (some (.int r0)) s.heap.size) args s 0 0 (fr_ 59 a s.heap.size)) (F0 m 0 ls []) := by
  obtain ⟨hx, hb, hr, hml, hown, hts, hlk, hK, hA, hXf⟩ := id X
  intro σ x1 H locs ls h I hl
  unfold C2_isMissing_0 at h
  refine lv_aload_n hx hb dX2_isMissing_0 rfl (lv_at hl 0 rfl) ?_
  refine lv_iload_n hx hb dX2_isMissing_1 rfl (lv_at hl 1 rfl) ?_
  obtain ⟨r_3, σ_2, hc_1, h⟩ := bi_of h
  refine cg_ (v := .int r_3) (rV_ (nn := 1) (As := [.int x1]) (rest := []) X xkC I (c_C2_sortOf hc_1 H.size) gX2_isMissing_X2_sortOf rfl ⟨rfl, rfl⟩ (by decide +kernel) ⟨Nat.le_of_ble_eq_true rfl, Nat.le_of_ble_eq_true rfl⟩ (by decide) shC_22 rfl rfl hl.1 rfl (Nat.le_of_ble_eq_true rfl) dX2_isMissing_2) I (fun H locs I => ?_)
  refine lv_iconst (v := (-1)) hx hb dX2_isMissing_5 (by decide) ?_
  refine lv_icmp_ne (tgt := 13) hx hb dX2_isMissing_6 (by decide) (fun c_4 => ?_) (fun c_4 => ?_)
  · have h := if_f h c_4
    refine lv_iconst (v := 0) hx hb dX2_isMissing_13 (by decide) ?_
    obtain ⟨rfl, rfl⟩ := re_s h
    exact rtz_ X I (by decide) dX2_isMissing_14
  · have h := if_t h c_4
    refine lv_iconst (v := 1) hx hb dX2_isMissing_9 (by decide) ?_
    refine lv_goto (tgt := 14) hx hb dX2_isMissing_10 (by decide) ?_
    obtain ⟨rfl, rfl⟩ := re_s h
    exact rtz_ X I (by decide) dX2_isMissing_14
theorem c_C2_isMissing {l : Launch} {D : va_G} {cy : Nat → ClassId} {a gs : Nat → Nat} {σ : Sg} {x1 : Int32} {r0 : Int32} {σ' : Sg} (h : C2_isMissing_0 σ x1 = some (r0, σ')) (sz : Nat) : Met l yX2_isMissing wsX2_isMissing ({ frames := 3, cells := 0, slots := 0, locals := 63 }) (va_Pc [.ref (a 22), .int x1] (pr_ 59 a D cy (shC cy a σ) (xfC gs) sz)) (qg_ 59 a D (shC cy a σ') (some (.int r0)) sz) 0 0 (fr_ 59 a sz) := by
  refine ent_ (by decide) rfl (Nat.le_of_ble_eq_true rfl) ?_
  intro p e s m below meth c ls hsz X I hl
  subst hsz
  exact kC2_isMissing_0 X σ x1 s.heap [] ls h I hl

def C2_sizeOf_0  (σ : Sg) (x1 : Int32) : Option (Int32 × Sg) :=
  bi_ (C2_isSheet_0 σ x1) fun r_3 σ_2 =>
  if r_3 = 0 then (some ((0 : Int32), σ_2))
  else (gd_ (in_ x1 4) (
  some ((rd_ σ_2 24 x1.toNatClampNeg), σ_2)))
set_option maxRecDepth 100000 in
theorem kC2_sizeOf_0 {p : Program} {l : Launch} {e : Env} {s : State} {m : MethodId} {args : Array Value} {below : List Frame} {meth : Method} {c : Code} {D : va_G} {cy : Nat → ClassId} {a gs : Nat → Nat} (X : cx_ cX2_sizeOf RX2 wsX2_sizeOf 2 (some .int) 59 a D cy (xfC gs) p s m args meth c)  {r0 : Int32} {σ' : Sg}  : ∀ (σ : Sg) (x1 : Int32) (H : Heap) (locs : List Loc) (ls : Array Slot), C2_sizeOf_0 σ x1 = some (r0, σ') → iv_ 59 a D (shC cy a σ) s H locs → lv_has ls 2 [(0, .ref (a 22)), (1, .int x1)] → W p l e ({ frames := 2, cells := 0, slots := 0, locals := 42 }) s m args below meth c H locs 0 0 (MQ below (qg_ 59 a D (shC cy a σ') (some (.int r0)) s.heap.size) args s 0 0 (fr_ 59 a s.heap.size)) (F0 m 0 ls []) := by
  obtain ⟨hx, hb, hr, hml, hown, hts, hlk, hK, hA, hXf⟩ := id X
  intro σ x1 H locs ls h I hl
  unfold C2_sizeOf_0 at h
  refine lv_aload_n hx hb dX2_sizeOf_0 rfl (lv_at hl 0 rfl) ?_
  refine lv_iload_n hx hb dX2_sizeOf_1 rfl (lv_at hl 1 rfl) ?_
  obtain ⟨r_3, σ_2, hc_1, h⟩ := bi_of h
  refine cg_ (v := .int r_3) (rV_ (nn := 1) (As := [.int x1]) (rest := []) X xkC I (c_C2_isSheet hc_1 H.size) gX2_sizeOf_X2_isSheet rfl ⟨rfl, rfl⟩ (by decide +kernel) ⟨Nat.le_of_ble_eq_true rfl, Nat.le_of_ble_eq_true rfl⟩ (by decide) shC_22 rfl rfl hl.1 rfl (Nat.le_of_ble_eq_true rfl) dX2_sizeOf_2) I (fun H locs I => ?_)
  refine lv_if_eq (tgt := 17) hx hb dX2_sizeOf_5 (by decide) (fun c_4 => ?_) (fun c_4 => ?_)
  · have h := if_t h c_4
    refine lv_iconst (v := 0) hx hb dX2_sizeOf_17 (by decide) ?_
    obtain ⟨rfl, rfl⟩ := re_s h
    exact rti_ X I dX2_sizeOf_18
  · have h := if_f h c_4
    refine lv_aload_n hx hb dX2_sizeOf_8 rfl (lv_at hl 0 rfl) ?_
    refine ig_ (index := 13) X I (fun _ q => List.mem_cons_of_mem _ (List.mem_append_right _ q)) 22 (by decide) shC_22 rfl 1 (by decide) (by decide +kernel) rfl (v := .ref (a 24)) rfl dX2_sizeOf_9 ?_
    refine lv_iload_n hx hb dX2_sizeOf_12 rfl (lv_at hl 1 rfl) ?_
    obtain ⟨g_5, h⟩ := gd_of h
    refine ia_ X I 24 (by decide) shC_24 (in_of g_5) (v0 := (rd_ σ_2 24 x1.toNatClampNeg)) rfl dX2_sizeOf_13 ?_
    refine lv_goto (tgt := 18) hx hb dX2_sizeOf_14 (by decide) ?_
    obtain ⟨rfl, rfl⟩ := re_s h
    exact rti_ X I dX2_sizeOf_18
theorem c_C2_sizeOf {l : Launch} {D : va_G} {cy : Nat → ClassId} {a gs : Nat → Nat} {σ : Sg} {x1 : Int32} {r0 : Int32} {σ' : Sg} (h : C2_sizeOf_0 σ x1 = some (r0, σ')) (sz : Nat) : Met l yX2_sizeOf wsX2_sizeOf ({ frames := 2, cells := 0, slots := 0, locals := 42 }) (va_Pc [.ref (a 22), .int x1] (pr_ 59 a D cy (shC cy a σ) (xfC gs) sz)) (qg_ 59 a D (shC cy a σ') (some (.int r0)) sz) 0 0 (fr_ 59 a sz) := by
  refine ent_ (by decide) rfl (Nat.le_of_ble_eq_true rfl) ?_
  intro p e s m below meth c ls hsz X I hl
  subst hsz
  exact kC2_sizeOf_0 X σ x1 s.heap [] ls h I hl

def C2_isItem_0  (σ : Sg) (x1 : Int32) (x2 : Int32) : Option (Int32 × Sg) :=
  bi_ (C2_isSheet_0 σ x1) fun r_3 σ_2 =>
  if r_3 = 0 then (some ((0 : Int32), σ_2))
  else (gd_ (in_ x1 4) (
  bp_ (C_within_0 x2 ((rd_ σ_2 24 x1.toNatClampNeg) - (1 : Int32))) fun r_7 =>
  if r_7 = 0 then (some ((0 : Int32), σ_2))
  else (some ((1 : Int32), σ_2))))
set_option maxRecDepth 100000 in
theorem kC2_isItem_0 {p : Program} {l : Launch} {e : Env} {s : State} {m : MethodId} {args : Array Value} {below : List Frame} {meth : Method} {c : Code} {D : va_G} {cy : Nat → ClassId} {a gs : Nat → Nat} (X : cx_ cX2_isItem RX2 wsX2_isItem 3 (some .boolean) 59 a D cy (xfC gs) p s m args meth c)  {r0 : Int32} {σ' : Sg}  : ∀ (σ : Sg) (x1 : Int32) (x2 : Int32) (H : Heap) (locs : List Loc) (ls : Array Slot), C2_isItem_0 σ x1 x2 = some (r0, σ') → iv_ 59 a D (shC cy a σ) s H locs → lv_has ls 3 [(0, .ref (a 22)), (1, .int x1), (2, .int x2)] → W p l e ({ frames := 2, cells := 0, slots := 0, locals := 42 }) s m args below meth c H locs 0 0 (MQ below (qg_ 59 a D (shC cy a σ') (some (.int r0)) s.heap.size) args s 0 0 (fr_ 59 a s.heap.size)) (F0 m 0 ls []) := by
  obtain ⟨hx, hb, hr, hml, hown, hts, hlk, hK, hA, hXf⟩ := id X
  intro σ x1 x2 H locs ls h I hl
  unfold C2_isItem_0 at h
  refine lv_aload_n hx hb dX2_isItem_0 rfl (lv_at hl 0 rfl) ?_
  refine lv_iload_n hx hb dX2_isItem_1 rfl (lv_at hl 1 rfl) ?_
  obtain ⟨r_3, σ_2, hc_1, h⟩ := bi_of h
  refine cg_ (v := .int r_3) (rV_ (nn := 1) (As := [.int x1]) (rest := []) X xkC I (c_C2_isSheet hc_1 H.size) gX2_isItem_X2_isSheet rfl ⟨rfl, rfl⟩ (by decide +kernel) ⟨Nat.le_of_ble_eq_true rfl, Nat.le_of_ble_eq_true rfl⟩ (by decide) shC_22 rfl rfl hl.1 rfl (Nat.le_of_ble_eq_true rfl) dX2_isItem_2) I (fun H locs I => ?_)
  refine lv_if_eq (tgt := 27) hx hb dX2_isItem_5 (by decide) (fun c_4 => ?_) (fun c_4 => ?_)
  · have h := if_t h c_4
    refine lv_iconst (v := 0) hx hb dX2_isItem_27 (by decide) ?_
    obtain ⟨rfl, rfl⟩ := re_s h
    exact rtz_ X I (by decide) dX2_isItem_28
  · have h := if_f h c_4
    refine lv_iload_n hx hb dX2_isItem_8 rfl (lv_at hl 2 rfl) ?_
    refine lv_aload_n hx hb dX2_isItem_9 rfl (lv_at hl 0 rfl) ?_
    refine ig_ (index := 13) X I (fun _ q => List.mem_cons_of_mem _ (List.mem_append_right _ q)) 22 (by decide) shC_22 rfl 1 (by decide) (by decide +kernel) rfl (v := .ref (a 24)) rfl dX2_isItem_10 ?_
    refine lv_iload_n hx hb dX2_isItem_13 rfl (lv_at hl 1 rfl) ?_
    obtain ⟨g_5, h⟩ := gd_of h
    refine ia_ X I 24 (by decide) shC_24 (in_of g_5) (v0 := (rd_ σ_2 24 x1.toNatClampNeg)) rfl dX2_isItem_14 ?_
    refine lv_iconst (v := 1) hx hb dX2_isItem_15 (by decide) ?_
    refine lv_isub hx hb dX2_isItem_16 ?_
    obtain ⟨r_7, hc_6, h⟩ := bp_of h
    refine cp_ (rN_ (host := "BoundGodmothers") (nn := 2) (As := [.int x2, .int ((rd_ σ_2 24 x1.toNatClampNeg) - (1 : Int32))]) (rest := []) ⟨hx, hb, hml, hown, hts⟩ (c_C_within hc_6) gX2_isItem_X11_within_n29 (xC_nw2 hXf) (by decide +kernel) (by decide +kernel) rfl ⟨rfl, rfl⟩ (by decide +kernel) ⟨Nat.le_of_ble_eq_true rfl, Nat.le_of_ble_eq_true rfl⟩ rfl hl.1 rfl (Nat.le_of_ble_eq_true rfl) dX2_isItem_17 ⟨Nat.zero_le _, Nat.zero_le _⟩) ?_
    refine lv_if_eq (tgt := 27) hx hb dX2_isItem_20 (by decide) (fun c_8 => ?_) (fun c_8 => ?_)
    · have h := if_t h c_8
      refine lv_iconst (v := 0) hx hb dX2_isItem_27 (by decide) ?_
      obtain ⟨rfl, rfl⟩ := re_s h
      exact rtz_ X I (by decide) dX2_isItem_28
    · have h := if_f h c_8
      refine lv_iconst (v := 1) hx hb dX2_isItem_23 (by decide) ?_
      refine lv_goto (tgt := 28) hx hb dX2_isItem_24 (by decide) ?_
      obtain ⟨rfl, rfl⟩ := re_s h
      exact rtz_ X I (by decide) dX2_isItem_28
theorem c_C2_isItem {l : Launch} {D : va_G} {cy : Nat → ClassId} {a gs : Nat → Nat} {σ : Sg} {x1 : Int32} {x2 : Int32} {r0 : Int32} {σ' : Sg} (h : C2_isItem_0 σ x1 x2 = some (r0, σ')) (sz : Nat) : Met l yX2_isItem wsX2_isItem ({ frames := 2, cells := 0, slots := 0, locals := 42 }) (va_Pc [.ref (a 22), .int x1, .int x2] (pr_ 59 a D cy (shC cy a σ) (xfC gs) sz)) (qg_ 59 a D (shC cy a σ') (some (.int r0)) sz) 0 0 (fr_ 59 a sz) := by
  refine ent_ (by decide) rfl (Nat.le_of_ble_eq_true rfl) ?_
  intro p e s m below meth c ls hsz X I hl
  subst hsz
  exact kC2_isItem_0 X σ x1 x2 s.heap [] ls h I hl

def C2_itemAt_0  (σ : Sg) (x1 : Int32) (x2 : Int32) : Option (Int64 × Sg) :=
  bi_ (C2_isItem_0 σ x1 x2) fun r_3 σ_2 =>
  if r_3 = 0 then (some ((0 : Int64), σ_2))
  else (lt_ (((x1 * (40 : Int32)) + x2)) fun y_5 =>
  gd_ (in_ y_5 160) (
  some ((rl_ σ_2 y_5.toNatClampNeg), σ_2)))
set_option maxRecDepth 100000 in
theorem kC2_itemAt_0 {p : Program} {l : Launch} {e : Env} {s : State} {m : MethodId} {args : Array Value} {below : List Frame} {meth : Method} {c : Code} {D : va_G} {cy : Nat → ClassId} {a gs : Nat → Nat} (X : cx_ cX2_itemAt RX2 wsX2_itemAt 3 (some .long) 59 a D cy (xfC gs) p s m args meth c)  {r0 : Int64} {σ' : Sg}  : ∀ (σ : Sg) (x1 : Int32) (x2 : Int32) (H : Heap) (locs : List Loc) (ls : Array Slot), C2_itemAt_0 σ x1 x2 = some (r0, σ') → iv_ 59 a D (shC cy a σ) s H locs → lv_has ls 3 [(0, .ref (a 22)), (1, .int x1), (2, .int x2)] → W p l e ({ frames := 3, cells := 0, slots := 0, locals := 64 }) s m args below meth c H locs 0 0 (MQ below (qg_ 59 a D (shC cy a σ') (some (.long r0)) s.heap.size) args s 0 0 (fr_ 59 a s.heap.size)) (F0 m 0 ls []) := by
  obtain ⟨hx, hb, hr, hml, hown, hts, hlk, hK, hA, hXf⟩ := id X
  intro σ x1 x2 H locs ls h I hl
  unfold C2_itemAt_0 at h
  refine lv_aload_n hx hb dX2_itemAt_0 rfl (lv_at hl 0 rfl) ?_
  refine lv_iload_n hx hb dX2_itemAt_1 rfl (lv_at hl 1 rfl) ?_
  refine lv_iload_n hx hb dX2_itemAt_2 rfl (lv_at hl 2 rfl) ?_
  obtain ⟨r_3, σ_2, hc_1, h⟩ := bi_of h
  refine cg_ (v := .int r_3) (rV_ (nn := 2) (As := [.int x1, .int x2]) (rest := []) X xkC I (c_C2_isItem hc_1 H.size) gX2_itemAt_X2_isItem rfl ⟨rfl, rfl⟩ (by decide +kernel) ⟨Nat.le_of_ble_eq_true rfl, Nat.le_of_ble_eq_true rfl⟩ (by decide) shC_22 rfl rfl hl.1 rfl (Nat.le_of_ble_eq_true rfl) dX2_itemAt_3) I (fun H locs I => ?_)
  refine lv_if_eq (tgt := 23) hx hb dX2_itemAt_6 (by decide) (fun c_4 => ?_) (fun c_4 => ?_)
  · have h := if_t h c_4
    refine lv_lconst (v := 0) hx hb dX2_itemAt_23 (by decide) ?_
    obtain ⟨rfl, rfl⟩ := re_s h
    exact rtl_ X I dX2_itemAt_24
  · have h := if_f h c_4
    refine lv_aload_n hx hb dX2_itemAt_9 rfl (lv_at hl 0 rfl) ?_
    refine ig_ (index := 25) X I (fun _ q => List.mem_cons_of_mem _ (List.mem_append_right _ q)) 22 (by decide) shC_22 rfl 5 (by decide) (by decide +kernel) rfl (v := .ref (a 28)) rfl dX2_itemAt_10 ?_
    refine lv_iload_n hx hb dX2_itemAt_13 rfl (lv_at hl 1 rfl) ?_
    refine lv_bipush (v := 40) hx hb dX2_itemAt_14 (by decide) ?_
    refine lv_imul hx hb dX2_itemAt_16 ?_
    refine lv_iload_n hx hb dX2_itemAt_17 rfl (lv_at hl 2 rfl) ?_
    refine lv_iadd hx hb dX2_itemAt_18 ?_
    refine lv_topi (fun y_5 e_6 => ?_)
    have h := lt_at h e_6
    obtain ⟨g_7, h⟩ := gd_of h
    refine il_ X I 28 (by decide) shC_28 (in_of g_7) (v0 := (rl_ σ_2 y_5.toNatClampNeg)) rfl dX2_itemAt_19 ?_
    refine lv_goto (tgt := 24) hx hb dX2_itemAt_20 (by decide) ?_
    obtain ⟨rfl, rfl⟩ := re_s h
    exact rtl_ X I dX2_itemAt_24
theorem c_C2_itemAt {l : Launch} {D : va_G} {cy : Nat → ClassId} {a gs : Nat → Nat} {σ : Sg} {x1 : Int32} {x2 : Int32} {r0 : Int64} {σ' : Sg} (h : C2_itemAt_0 σ x1 x2 = some (r0, σ')) (sz : Nat) : Met l yX2_itemAt wsX2_itemAt ({ frames := 3, cells := 0, slots := 0, locals := 64 }) (va_Pc [.ref (a 22), .int x1, .int x2] (pr_ 59 a D cy (shC cy a σ) (xfC gs) sz)) (qg_ 59 a D (shC cy a σ') (some (.long r0)) sz) 0 0 (fr_ 59 a sz) := by
  refine ent_ (by decide) rfl (Nat.le_of_ble_eq_true rfl) ?_
  intro p e s m below meth c ls hsz X I hl
  subst hsz
  exact kC2_itemAt_0 X σ x1 x2 s.heap [] ls h I hl

def C_isFit_94 (k29 : Sg → Int32 → Int32 → Int32 → Option (Int32 × Sg)) (σ : Sg) (x1 : Int32) (x4 : Int32) (x5 : Int32) : Option (Int32 × Sg) :=
  lt_ (x5 + (1 : Int32)) fun y_1 =>
  k29 σ x1 x4 y_1
set_option maxRecDepth 100000 in
theorem kC_isFit_94 {p : Program} {l : Launch} {e : Env} {s : State} {m : MethodId} {args : Array Value} {below : List Frame} {meth : Method} {c : Code} {D : va_G} {cy : Nat → ClassId} {a gs : Nat → Nat} (X : cx_ cX11_isFit RX11 wsX11_isFit 8 (some .boolean) 59 a D cy (xfC gs) p s m args meth c) {k29 : Sg → Int32 → Int32 → Int32 → Option (Int32 × Sg)} {r0 : Int32} {σ' : Sg} (hk29 : ∀ (σ : Sg) (x1 : Int32) (x4 : Int32) (x5 : Int32) (H : Heap) (locs : List Loc) (ls : Array Slot), k29 σ x1 x4 x5 = some (r0, σ') → iv_ 59 a D (shC cy a σ) s H locs → lv_has ls 8 [(0, .ref (a 0)), (1, .int x1), (4, .int x4), (5, .int x5)] → W p l e ({ frames := 4, cells := 0, slots := 0, locals := 92 }) s m args below meth c H locs 0 0 (MQ below (qg_ 59 a D (shC cy a σ') (some (.int r0)) s.heap.size) args s 0 0 (fr_ 59 a s.heap.size)) (F0 m 29 ls [])) : ∀ (σ : Sg) (x1 : Int32) (x4 : Int32) (x5 : Int32) (H : Heap) (locs : List Loc) (ls : Array Slot), C_isFit_94 k29 σ x1 x4 x5 = some (r0, σ') → iv_ 59 a D (shC cy a σ) s H locs → lv_has ls 8 [(0, .ref (a 0)), (1, .int x1), (4, .int x4), (5, .int x5)] → W p l e ({ frames := 4, cells := 0, slots := 0, locals := 92 }) s m args below meth c H locs 0 0 (MQ below (qg_ 59 a D (shC cy a σ') (some (.int r0)) s.heap.size) args s 0 0 (fr_ 59 a s.heap.size)) (F0 m 94 ls []) := by
  obtain ⟨hx, hb, hr, hml, hown, hts, hlk, hK, hA, hXf⟩ := id X
  intro σ x1 x4 x5 H locs ls h I hl
  unfold C_isFit_94 at h
  obtain ⟨y_1, e_2⟩ : ∃ q : Int32, q = x5 + (1 : Int32) := ⟨_, rfl⟩
  have h := lt_at h e_2
  refine lv_iinc (v := y_1) (lv' := [(5, .int y_1), (0, .ref (a 0)), (1, .int x1), (4, .int x4)]) hx hb dX11_isFit_94 hl (k := 3) rfl (by rw [e_2]; rfl) (by decide) rfl (fun ls hl => ?_)
  refine lv_goto (tgt := 29) hx hb dX11_isFit_97 (by decide) ?_
  exact hk29 σ x1 x4 y_1 H locs ls h I (lv_sub hl [1, 2, 3, 0] rfl)
def C_isFit_29 (k29 : Sg → Int32 → Int32 → Int32 → Option (Int32 × Sg)) (σ : Sg) (x1 : Int32) (x4 : Int32) (x5 : Int32) : Option (Int32 × Sg) :=
  if x4 ≤ x5 then (some ((1 : Int32), σ))
  else (bi_ (C1_passYearOf_0 σ 24 ((rd_ σ 1 4) + x5)) fun _ σ_3 =>
  bi_ (C2_itemAt_0 σ_3 x1 x5) fun r_6 σ_5 =>
  if (lg_cmp r_6 (-1 : Int64)) = 0 then (C_isFit_94 k29 σ_5 x1 x4 x5)
  else (if (lg_cmp r_6 (rd_ σ_5 (34 + 24) 1).toInt64) = 0 then (C_isFit_94 k29 σ_5 x1 x4 x5)
  else (some ((0 : Int32), σ_5))))
set_option maxRecDepth 100000 in
theorem kC_isFit_29 {p : Program} {l : Launch} {e : Env} {s : State} {m : MethodId} {args : Array Value} {below : List Frame} {meth : Method} {c : Code} {D : va_G} {cy : Nat → ClassId} {a gs : Nat → Nat} (X : cx_ cX11_isFit RX11 wsX11_isFit 8 (some .boolean) 59 a D cy (xfC gs) p s m args meth c) {k29 : Sg → Int32 → Int32 → Int32 → Option (Int32 × Sg)} {r0 : Int32} {σ' : Sg} (hk29 : ∀ (σ : Sg) (x1 : Int32) (x4 : Int32) (x5 : Int32) (H : Heap) (locs : List Loc) (ls : Array Slot), k29 σ x1 x4 x5 = some (r0, σ') → iv_ 59 a D (shC cy a σ) s H locs → lv_has ls 8 [(0, .ref (a 0)), (1, .int x1), (4, .int x4), (5, .int x5)] → W p l e ({ frames := 4, cells := 0, slots := 0, locals := 92 }) s m args below meth c H locs 0 0 (MQ below (qg_ 59 a D (shC cy a σ') (some (.int r0)) s.heap.size) args s 0 0 (fr_ 59 a s.heap.size)) (F0 m 29 ls [])) : ∀ (σ : Sg) (x1 : Int32) (x4 : Int32) (x5 : Int32) (H : Heap) (locs : List Loc) (ls : Array Slot), C_isFit_29 k29 σ x1 x4 x5 = some (r0, σ') → iv_ 59 a D (shC cy a σ) s H locs → lv_has ls 8 [(0, .ref (a 0)), (1, .int x1), (4, .int x4), (5, .int x5)] → W p l e ({ frames := 4, cells := 0, slots := 0, locals := 92 }) s m args below meth c H locs 0 0 (MQ below (qg_ 59 a D (shC cy a σ') (some (.int r0)) s.heap.size) args s 0 0 (fr_ 59 a s.heap.size)) (F0 m 29 ls []) := by
  obtain ⟨hx, hb, hr, hml, hown, hts, hlk, hK, hA, hXf⟩ := id X
  intro σ x1 x4 x5 H locs ls h I hl
  unfold C_isFit_29 at h
  refine lv_iload hx hb dX11_isFit_29 (lv_at hl 3 rfl) ?_
  refine lv_iload hx hb dX11_isFit_31 (lv_at hl 2 rfl) ?_
  refine lv_icmp_ge (tgt := 100) hx hb dX11_isFit_33 (by decide) (fun c_1 => ?_) (fun c_1 => ?_)
  · have h := if_t h c_1
    refine lv_iconst (v := 1) hx hb dX11_isFit_100 (by decide) ?_
    obtain ⟨rfl, rfl⟩ := re_s h
    exact rtz_ X I (by decide) dX11_isFit_101
  · have h := if_f h c_1
    refine lv_aload_n hx hb dX11_isFit_36 rfl (lv_at hl 0 rfl) ?_
    refine ig_ (index := 30) X I (fun _ q => List.mem_cons_of_mem _ (List.mem_append_left _ (List.mem_append_left _ (List.mem_append_left _ (List.mem_append_right _ q))))) 0 (by decide) shC_0 rfl 0 (by decide) (by decide +kernel) rfl (v := .ref (a 1)) rfl dX11_isFit_37 ?_
    refine lv_aload_n hx hb dX11_isFit_40 rfl (lv_at hl 0 rfl) ?_
    refine ig_ (index := 45) X I (fun _ q => List.mem_cons_of_mem _ (List.mem_append_left _ (List.mem_append_left _ (List.mem_append_left _ (List.mem_append_right _ q))))) 0 (by decide) shC_0 rfl 3 (by decide) (by decide +kernel) rfl (v := .ref (a (34 + 24))) rfl dX11_isFit_41 ?_
    refine lv_aload_n hx hb dX11_isFit_44 rfl (lv_at hl 0 rfl) ?_
    refine ig_ (index := 30) X I (fun _ q => List.mem_cons_of_mem _ (List.mem_append_left _ (List.mem_append_left _ (List.mem_append_left _ (List.mem_append_right _ q))))) 0 (by decide) shC_0 rfl 0 (by decide) (by decide +kernel) rfl (v := .ref (a 1)) rfl dX11_isFit_45 ?_
    refine ig_ (index := 188) X I (fun _ q => List.mem_cons_of_mem _ (List.mem_append_left _ (List.mem_append_right _ q))) 1 (by decide) shC_1 rfl 4 (by decide) (by decide +kernel) rfl (v := .int (rd_ σ 1 4)) rfl dX11_isFit_48 ?_
    refine lv_iload hx hb dX11_isFit_51 (lv_at hl 3 rfl) ?_
    refine lv_iadd hx hb dX11_isFit_53 ?_
    obtain ⟨_, σ_3, hc_2, h⟩ := bi_of h
    refine cv_ (rV_ (nn := 2) (As := [.ref (a (34 + 24)), .int ((rd_ σ 1 4) + x5)]) (rest := []) X xkC I (c_C1_passYearOf hc_2 H.size) gX11_isFit_X1_passYearOf rfl ⟨rfl, rfl⟩ (by decide +kernel) ⟨Nat.le_of_ble_eq_true rfl, Nat.le_of_ble_eq_true rfl⟩ (by decide) shC_1 rfl rfl hl.1 rfl (Nat.le_of_ble_eq_true rfl) dX11_isFit_54) I (fun H locs I => ?_)
    refine lv_aload_n hx hb dX11_isFit_57 rfl (lv_at hl 0 rfl) ?_
    refine ig_ (index := 59) X I (fun _ q => List.mem_cons_of_mem _ (List.mem_append_left _ (List.mem_append_left _ (List.mem_append_left _ (List.mem_append_right _ q))))) 0 (by decide) shC_0 rfl 5 (by decide) (by decide +kernel) rfl (v := .ref (a 22)) rfl dX11_isFit_58 ?_
    refine lv_iload_n hx hb dX11_isFit_61 rfl (lv_at hl 1 rfl) ?_
    refine lv_iload hx hb dX11_isFit_62 (lv_at hl 3 rfl) ?_
    obtain ⟨r_6, σ_5, hc_4, h⟩ := bi_of h
    refine cg_ (v := .long r_6) (rV_ (nn := 2) (As := [.int x1, .int x5]) (rest := []) X xkC I (c_C2_itemAt hc_4 H.size) gX11_isFit_X2_itemAt rfl ⟨rfl, rfl⟩ (by decide +kernel) ⟨Nat.le_of_ble_eq_true rfl, Nat.le_of_ble_eq_true rfl⟩ (by decide) shC_22 rfl rfl hl.1 rfl (Nat.le_of_ble_eq_true rfl) dX11_isFit_64) I (fun H locs I => ?_)
    refine lv_lstore (lv' := [(6, .long r_6), (0, .ref (a 0)), (1, .int x1), (4, .int x4), (5, .int x5)]) hx hb dX11_isFit_67 hl (by decide) rfl (fun ls hl => ?_)
    refine lv_lload hx hb dX11_isFit_69 (lv_at hl 0 rfl) ?_
    refine lv_ldc2 (v := -1) hx hb hown (hts (.constantLong RX11 271 (-1)) (by decide +kernel)) dX11_isFit_71 ?_
    refine W.lcmp hx hb dX11_isFit_74 ?_
    refine lv_if_eq (tgt := 94) hx hb dX11_isFit_75 (by decide) (fun c_7 => ?_) (fun c_7 => ?_)
    · have h := if_t h c_7
      exact kC_isFit_94 X hk29 σ_5 x1 x4 x5 H locs ls h I (lv_sub hl [1, 2, 3, 4] rfl)
    · have h := if_f h c_7
      refine lv_lload hx hb dX11_isFit_78 (lv_at hl 0 rfl) ?_
      refine lv_aload_n hx hb dX11_isFit_80 rfl (lv_at hl 1 rfl) ?_
      refine ig_ (index := 45) X I (fun _ q => List.mem_cons_of_mem _ (List.mem_append_left _ (List.mem_append_left _ (List.mem_append_left _ (List.mem_append_right _ q))))) 0 (by decide) shC_0 rfl 3 (by decide) (by decide +kernel) rfl (v := .ref (a (34 + 24))) rfl dX11_isFit_81 ?_
      refine ig_ (index := 200) X I (fun _ q => List.mem_cons_of_mem _ (List.mem_append_left _ (List.mem_append_left _ (List.mem_append_right _ q)))) (34 + 24) (by decide) shC_L rfl 1 (by decide) (by decide +kernel) rfl (v := .int (rd_ σ_5 (34 + 24) 1)) rfl dX11_isFit_84 ?_
      refine lv_i2l hx hb dX11_isFit_87 rfl ?_
      refine W.lcmp hx hb dX11_isFit_88 ?_
      refine lv_if_eq (tgt := 94) hx hb dX11_isFit_89 (by decide) (fun c_8 => ?_) (fun c_8 => ?_)
      · have h := if_t h c_8
        exact kC_isFit_94 X hk29 σ_5 x1 x4 x5 H locs ls h I (lv_sub hl [1, 2, 3, 4] rfl)
      · have h := if_f h c_8
        refine lv_iconst (v := 0) hx hb dX11_isFit_92 (by decide) ?_
        obtain ⟨rfl, rfl⟩ := re_s h
        exact rtz_ X I (by decide) dX11_isFit_93
set_option maxRecDepth 100000 in
theorem kC_isFit_29L {p : Program} {l : Launch} {e : Env} {s : State} {m : MethodId} {args : Array Value} {below : List Frame} {meth : Method} {c : Code} {D : va_G} {cy : Nat → ClassId} {a gs : Nat → Nat} (X : cx_ cX11_isFit RX11 wsX11_isFit 8 (some .boolean) 59 a D cy (xfC gs) p s m args meth c)  {r0 : Int32} {σ' : Sg}  : ∀ (n : Nat), ∀ (σ : Sg) (x1 : Int32) (x4 : Int32) (x5 : Int32) (H : Heap) (locs : List Loc) (ls : Array Slot), lp_ (C_isFit_29) (fun _ _ _ _ => none) n σ x1 x4 x5 = some (r0, σ') → iv_ 59 a D (shC cy a σ) s H locs → lv_has ls 8 [(0, .ref (a 0)), (1, .int x1), (4, .int x4), (5, .int x5)] → W p l e ({ frames := 4, cells := 0, slots := 0, locals := 92 }) s m args below meth c H locs 0 0 (MQ below (qg_ 59 a D (shC cy a σ') (some (.int r0)) s.heap.size) args s 0 0 (fr_ 59 a s.heap.size)) (F0 m 29 ls []) := by
  intro n
  induction n with
  | zero =>
    intro _ _ _ _ _ _ _ h
    exact absurd h (fun q => by cases (show (none : Option _) = some _ from q))
  | succ n ih => exact kC_isFit_29 X ih

def C_isFit_0  (σ : Sg) (x1 : Int32) (x2 : Nat) (x3 : Int32) : Option (Int32 × Sg) :=
  bi_ (C6_become_0 σ 24 x2) fun _ σ_2 =>
  lt_ (wr_ σ_2 (34 + 24) 5 x3) fun σ_3 =>
  bi_ (C2_sizeOf_0 σ_3 x1) fun r_7 σ_6 =>
  lp_ C_isFit_29 (fun _ _ _ _ => none) FU σ_6 x1 r_7 (0 : Int32)
set_option maxRecDepth 100000 in
theorem kC_isFit_0 {p : Program} {l : Launch} {e : Env} {s : State} {m : MethodId} {args : Array Value} {below : List Frame} {meth : Method} {c : Code} {D : va_G} {cy : Nat → ClassId} {a gs : Nat → Nat} (X : cx_ cX11_isFit RX11 wsX11_isFit 8 (some .boolean) 59 a D cy (xfC gs) p s m args meth c)  {r0 : Int32} {σ' : Sg}  : ∀ (σ : Sg) (x1 : Int32) (x2 : Nat) (x3 : Int32) (H : Heap) (locs : List Loc) (ls : Array Slot), C_isFit_0 σ x1 x2 x3 = some (r0, σ') → iv_ 59 a D (shC cy a σ) s H locs → lv_has ls 8 [(0, .ref (a 0)), (1, .int x1), (2, .ref (a (34 + x2))), (3, .int x3)] → W p l e ({ frames := 4, cells := 0, slots := 0, locals := 92 }) s m args below meth c H locs 0 0 (MQ below (qg_ 59 a D (shC cy a σ') (some (.int r0)) s.heap.size) args s 0 0 (fr_ 59 a s.heap.size)) (F0 m 0 ls []) := by
  obtain ⟨hx, hb, hr, hml, hown, hts, hlk, hK, hA, hXf⟩ := id X
  intro σ x1 x2 x3 H locs ls h I hl
  unfold C_isFit_0 at h
  refine lv_aload_n hx hb dX11_isFit_0 rfl (lv_at hl 0 rfl) ?_
  refine ig_ (index := 45) X I (fun _ q => List.mem_cons_of_mem _ (List.mem_append_left _ (List.mem_append_left _ (List.mem_append_left _ (List.mem_append_right _ q))))) 0 (by decide) shC_0 rfl 3 (by decide) (by decide +kernel) rfl (v := .ref (a (34 + 24))) rfl dX11_isFit_1 ?_
  refine lv_aload_n hx hb dX11_isFit_4 rfl (lv_at hl 2 rfl) ?_
  obtain ⟨_, σ_2, hc_1, h⟩ := bi_of h
  refine cv_ (rV_ (nn := 1) (As := [.ref (a (34 + x2))]) (rest := []) X xkC I (c_C6_become hc_1 H.size) gX11_isFit_X6_become rfl ⟨rfl, rfl⟩ (by decide +kernel) ⟨Nat.le_of_ble_eq_true rfl, Nat.le_of_ble_eq_true rfl⟩ (by decide) shC_L rfl rfl hl.1 rfl (Nat.le_of_ble_eq_true rfl) dX11_isFit_5) I (fun H locs I => ?_)
  refine lv_aload_n hx hb dX11_isFit_8 rfl (lv_at hl 0 rfl) ?_
  refine ig_ (index := 45) X I (fun _ q => List.mem_cons_of_mem _ (List.mem_append_left _ (List.mem_append_left _ (List.mem_append_left _ (List.mem_append_right _ q))))) 0 (by decide) shC_0 rfl 3 (by decide) (by decide +kernel) rfl (v := .ref (a (34 + 24))) rfl dX11_isFit_9 ?_
  refine lv_iload_n hx hb dX11_isFit_12 rfl (lv_at hl 3 rfl) ?_
  refine ip_ (index := 156) (ty := .int) X I (fun _ q => List.mem_cons_of_mem _ (List.mem_append_left _ (List.mem_append_left _ (List.mem_append_right _ q)))) tyX6 tyX6_ok nmX6 (34 + 24) (by decide) shC_L rfl 5 (by decide) (by decide +kernel) rfl rfl (by decide +kernel) rfl rfl (Nat.le_of_ble_eq_true rfl) shC_pl_5 dX11_isFit_13 (fun σ_3 H locs e_4 I => ?_)
  have h := lt_at h e_4
  refine lv_aload_n hx hb dX11_isFit_16 rfl (lv_at hl 0 rfl) ?_
  refine ig_ (index := 59) X I (fun _ q => List.mem_cons_of_mem _ (List.mem_append_left _ (List.mem_append_left _ (List.mem_append_left _ (List.mem_append_right _ q))))) 0 (by decide) shC_0 rfl 5 (by decide) (by decide +kernel) rfl (v := .ref (a 22)) rfl dX11_isFit_17 ?_
  refine lv_iload_n hx hb dX11_isFit_20 rfl (lv_at hl 1 rfl) ?_
  obtain ⟨r_7, σ_6, hc_5, h⟩ := bi_of h
  refine cg_ (v := .int r_7) (rV_ (nn := 1) (As := [.int x1]) (rest := []) X xkC I (c_C2_sizeOf hc_5 H.size) gX11_isFit_X2_sizeOf rfl ⟨rfl, rfl⟩ (by decide +kernel) ⟨Nat.le_of_ble_eq_true rfl, Nat.le_of_ble_eq_true rfl⟩ (by decide) shC_22 rfl rfl hl.1 rfl (Nat.le_of_ble_eq_true rfl) dX11_isFit_21) I (fun H locs I => ?_)
  refine lv_istore (lv' := [(4, .int r_7), (0, .ref (a 0)), (1, .int x1), (2, .ref (a (34 + x2))), (3, .int x3)]) hx hb dX11_isFit_24 hl (by decide) rfl (fun ls hl => ?_)
  refine lv_iconst (v := 0) hx hb dX11_isFit_26 (by decide) ?_
  refine lv_istore (lv' := [(5, .int (0 : Int32)), (4, .int r_7), (0, .ref (a 0)), (1, .int x1), (2, .ref (a (34 + x2))), (3, .int x3)]) hx hb dX11_isFit_27 hl (by decide) rfl (fun ls hl => ?_)
  exact kC_isFit_29L X  FU σ_6 x1 r_7 (0 : Int32) H locs ls h I (lv_sub hl [2, 3, 1, 0] rfl)
theorem c_C_isFit {l : Launch} {D : va_G} {cy : Nat → ClassId} {a gs : Nat → Nat} {σ : Sg} {x1 : Int32} {x2 : Nat} {x3 : Int32} {r0 : Int32} {σ' : Sg} (h : C_isFit_0 σ x1 x2 x3 = some (r0, σ')) (sz : Nat) : Met l yX11_isFit wsX11_isFit ({ frames := 4, cells := 0, slots := 0, locals := 92 }) (va_Pc [.ref (a 0), .int x1, .ref (a (34 + x2)), .int x3] (pr_ 59 a D cy (shC cy a σ) (xfC gs) sz)) (qg_ 59 a D (shC cy a σ') (some (.int r0)) sz) 0 0 (fr_ 59 a sz) := by
  refine ent_ (by decide) rfl (Nat.le_of_ble_eq_true rfl) ?_
  intro p e s m below meth c ls hsz X I hl
  subst hsz
  exact kC_isFit_0 X σ x1 x2 x3 s.heap [] ls h I hl

def C_fits_85 (k61 : Sg → Int32 → Int32 → Nat → Int32 → Int32 → Int32 → Option (Int32 × Sg)) (σ : Sg) (x1 : Int32) (x3 : Int32) (x4 : Nat) (x5 : Int32) (x6 : Int32) (x7 : Int32) : Option (Int32 × Sg) :=
  lt_ (x7 + (-1 : Int32)) fun y_1 =>
  k61 σ x1 x3 x4 x5 x6 y_1
set_option maxRecDepth 100000 in
theorem kC_fits_85 {p : Program} {l : Launch} {e : Env} {s : State} {m : MethodId} {args : Array Value} {below : List Frame} {meth : Method} {c : Code} {D : va_G} {cy : Nat → ClassId} {a gs : Nat → Nat} (X : cx_ cX11_fits RX11 wsX11_fits 8 (some .int) 59 a D cy (xfC gs) p s m args meth c) {k61 : Sg → Int32 → Int32 → Nat → Int32 → Int32 → Int32 → Option (Int32 × Sg)} {r0 : Int32} {σ' : Sg} (hk61 : ∀ (σ : Sg) (x1 : Int32) (x3 : Int32) (x4 : Nat) (x5 : Int32) (x6 : Int32) (x7 : Int32) (H : Heap) (locs : List Loc) (ls : Array Slot), k61 σ x1 x3 x4 x5 x6 x7 = some (r0, σ') → iv_ 59 a D (shC cy a σ) s H locs → lv_has ls 8 [(0, .ref (a 0)), (1, .int x1), (3, .int x3), (4, .ref (a (34 + x4))), (5, .int x5), (6, .int x6), (7, .int x7)] → W p l e ({ frames := 5, cells := 0, slots := 0, locals := 119 }) s m args below meth c H locs 0 0 (MQ below (qg_ 59 a D (shC cy a σ') (some (.int r0)) s.heap.size) args s 0 0 (fr_ 59 a s.heap.size)) (F0 m 61 ls [])) : ∀ (σ : Sg) (x1 : Int32) (x3 : Int32) (x4 : Nat) (x5 : Int32) (x6 : Int32) (x7 : Int32) (H : Heap) (locs : List Loc) (ls : Array Slot), C_fits_85 k61 σ x1 x3 x4 x5 x6 x7 = some (r0, σ') → iv_ 59 a D (shC cy a σ) s H locs → lv_has ls 8 [(0, .ref (a 0)), (1, .int x1), (3, .int x3), (4, .ref (a (34 + x4))), (5, .int x5), (6, .int x6), (7, .int x7)] → W p l e ({ frames := 5, cells := 0, slots := 0, locals := 119 }) s m args below meth c H locs 0 0 (MQ below (qg_ 59 a D (shC cy a σ') (some (.int r0)) s.heap.size) args s 0 0 (fr_ 59 a s.heap.size)) (F0 m 85 ls []) := by
  obtain ⟨hx, hb, hr, hml, hown, hts, hlk, hK, hA, hXf⟩ := id X
  intro σ x1 x3 x4 x5 x6 x7 H locs ls h I hl
  unfold C_fits_85 at h
  obtain ⟨y_1, e_2⟩ : ∃ q : Int32, q = x7 + (-1 : Int32) := ⟨_, rfl⟩
  have h := lt_at h e_2
  refine lv_iinc (v := y_1) (lv' := [(7, .int y_1), (0, .ref (a 0)), (1, .int x1), (3, .int x3), (4, .ref (a (34 + x4))), (5, .int x5), (6, .int x6)]) hx hb dX11_fits_85 hl (k := 6) rfl (by rw [e_2]; rfl) (by decide) rfl (fun ls hl => ?_)
  refine lv_goto (tgt := 61) hx hb dX11_fits_88 (by decide) ?_
  exact hk61 σ x1 x3 x4 x5 x6 y_1 H locs ls h I (lv_sub hl [1, 2, 3, 4, 5, 6, 0] rfl)
def C_fits_61 (k61 : Sg → Int32 → Int32 → Nat → Int32 → Int32 → Int32 → Option (Int32 × Sg)) (σ : Sg) (x1 : Int32) (x3 : Int32) (x4 : Nat) (x5 : Int32) (x6 : Int32) (x7 : Int32) : Option (Int32 × Sg) :=
  if x7 < 0 then (if x3 = 0 then (some (x5, σ))
  else (some (x6, σ)))
  else (bi_ (C_isFit_0 σ x1 x4 x7) fun r_5 σ_4 =>
  if r_5 = 0 then (C_fits_85 k61 σ_4 x1 x3 x4 x5 x6 x7)
  else (lt_ (x5 + (1 : Int32)) fun y_7 =>
  C_fits_85 k61 σ_4 x1 x3 x4 y_7 x7 x7))
set_option maxRecDepth 100000 in
theorem kC_fits_61 {p : Program} {l : Launch} {e : Env} {s : State} {m : MethodId} {args : Array Value} {below : List Frame} {meth : Method} {c : Code} {D : va_G} {cy : Nat → ClassId} {a gs : Nat → Nat} (X : cx_ cX11_fits RX11 wsX11_fits 8 (some .int) 59 a D cy (xfC gs) p s m args meth c) {k61 : Sg → Int32 → Int32 → Nat → Int32 → Int32 → Int32 → Option (Int32 × Sg)} {r0 : Int32} {σ' : Sg} (hk61 : ∀ (σ : Sg) (x1 : Int32) (x3 : Int32) (x4 : Nat) (x5 : Int32) (x6 : Int32) (x7 : Int32) (H : Heap) (locs : List Loc) (ls : Array Slot), k61 σ x1 x3 x4 x5 x6 x7 = some (r0, σ') → iv_ 59 a D (shC cy a σ) s H locs → lv_has ls 8 [(0, .ref (a 0)), (1, .int x1), (3, .int x3), (4, .ref (a (34 + x4))), (5, .int x5), (6, .int x6), (7, .int x7)] → W p l e ({ frames := 5, cells := 0, slots := 0, locals := 119 }) s m args below meth c H locs 0 0 (MQ below (qg_ 59 a D (shC cy a σ') (some (.int r0)) s.heap.size) args s 0 0 (fr_ 59 a s.heap.size)) (F0 m 61 ls [])) : ∀ (σ : Sg) (x1 : Int32) (x3 : Int32) (x4 : Nat) (x5 : Int32) (x6 : Int32) (x7 : Int32) (H : Heap) (locs : List Loc) (ls : Array Slot), C_fits_61 k61 σ x1 x3 x4 x5 x6 x7 = some (r0, σ') → iv_ 59 a D (shC cy a σ) s H locs → lv_has ls 8 [(0, .ref (a 0)), (1, .int x1), (3, .int x3), (4, .ref (a (34 + x4))), (5, .int x5), (6, .int x6), (7, .int x7)] → W p l e ({ frames := 5, cells := 0, slots := 0, locals := 119 }) s m args below meth c H locs 0 0 (MQ below (qg_ 59 a D (shC cy a σ') (some (.int r0)) s.heap.size) args s 0 0 (fr_ 59 a s.heap.size)) (F0 m 61 ls []) := by
  obtain ⟨hx, hb, hr, hml, hown, hts, hlk, hK, hA, hXf⟩ := id X
  intro σ x1 x3 x4 x5 x6 x7 H locs ls h I hl
  unfold C_fits_61 at h
  refine lv_iload hx hb dX11_fits_61 (lv_at hl 6 rfl) ?_
  refine lv_if_lt (tgt := 91) hx hb dX11_fits_63 (by decide) (fun c_1 => ?_) (fun c_1 => ?_)
  · have h := if_t h c_1
    refine lv_iload_n hx hb dX11_fits_91 rfl (lv_at hl 2 rfl) ?_
    refine lv_if_ne (tgt := 100) hx hb dX11_fits_92 (by decide) (fun c_2 => ?_) (fun c_2 => ?_)
    · have h := if_f h c_2
      refine lv_iload hx hb dX11_fits_100 (lv_at hl 5 rfl) ?_
      obtain ⟨rfl, rfl⟩ := re_s h
      exact rti_ X I dX11_fits_102
    · have h := if_t h c_2
      refine lv_iload hx hb dX11_fits_95 (lv_at hl 4 rfl) ?_
      refine lv_goto (tgt := 102) hx hb dX11_fits_97 (by decide) ?_
      obtain ⟨rfl, rfl⟩ := re_s h
      exact rti_ X I dX11_fits_102
  · have h := if_f h c_1
    refine lv_aload_n hx hb dX11_fits_66 rfl (lv_at hl 0 rfl) ?_
    refine lv_iload_n hx hb dX11_fits_67 rfl (lv_at hl 1 rfl) ?_
    refine lv_aload hx hb dX11_fits_68 (lv_at hl 3 rfl) ?_
    refine lv_iload hx hb dX11_fits_70 (lv_at hl 6 rfl) ?_
    obtain ⟨r_5, σ_4, hc_3, h⟩ := bi_of h
    refine cg_ (v := .int r_5) (rV_ (nn := 3) (As := [.int x1, .ref (a (34 + x4)), .int x7]) (rest := []) X xkC I (c_C_isFit hc_3 H.size) gX11_fits_X11_isFit rfl ⟨rfl, rfl⟩ (by decide +kernel) ⟨Nat.le_of_ble_eq_true rfl, Nat.le_of_ble_eq_true rfl⟩ (by decide) shC_0 rfl rfl hl.1 rfl (Nat.le_of_ble_eq_true rfl) dX11_fits_72) I (fun H locs I => ?_)
    refine lv_if_eq (tgt := 85) hx hb dX11_fits_75 (by decide) (fun c_6 => ?_) (fun c_6 => ?_)
    · have h := if_t h c_6
      exact kC_fits_85 X hk61 σ_4 x1 x3 x4 x5 x6 x7 H locs ls h I (lv_sub hl [0, 1, 2, 3, 4, 5, 6] rfl)
    · have h := if_f h c_6
      obtain ⟨y_7, e_8⟩ : ∃ q : Int32, q = x5 + (1 : Int32) := ⟨_, rfl⟩
      have h := lt_at h e_8
      refine lv_iinc (v := y_7) (lv' := [(5, .int y_7), (0, .ref (a 0)), (1, .int x1), (3, .int x3), (4, .ref (a (34 + x4))), (6, .int x6), (7, .int x7)]) hx hb dX11_fits_78 hl (k := 4) rfl (by rw [e_8]; rfl) (by decide) rfl (fun ls hl => ?_)
      refine lv_iload hx hb dX11_fits_81 (lv_at hl 6 rfl) ?_
      refine lv_istore (lv' := [(6, .int x7), (5, .int y_7), (0, .ref (a 0)), (1, .int x1), (3, .int x3), (4, .ref (a (34 + x4))), (7, .int x7)]) hx hb dX11_fits_83 hl (by decide) rfl (fun ls hl => ?_)
      exact kC_fits_85 X hk61 σ_4 x1 x3 x4 y_7 x7 x7 H locs ls h I (lv_sub hl [2, 3, 4, 5, 1, 0, 6] rfl)
set_option maxRecDepth 100000 in
theorem kC_fits_61L {p : Program} {l : Launch} {e : Env} {s : State} {m : MethodId} {args : Array Value} {below : List Frame} {meth : Method} {c : Code} {D : va_G} {cy : Nat → ClassId} {a gs : Nat → Nat} (X : cx_ cX11_fits RX11 wsX11_fits 8 (some .int) 59 a D cy (xfC gs) p s m args meth c)  {r0 : Int32} {σ' : Sg}  : ∀ (n : Nat), ∀ (σ : Sg) (x1 : Int32) (x3 : Int32) (x4 : Nat) (x5 : Int32) (x6 : Int32) (x7 : Int32) (H : Heap) (locs : List Loc) (ls : Array Slot), lp_ (C_fits_61) (fun _ _ _ _ _ _ _ => none) n σ x1 x3 x4 x5 x6 x7 = some (r0, σ') → iv_ 59 a D (shC cy a σ) s H locs → lv_has ls 8 [(0, .ref (a 0)), (1, .int x1), (3, .int x3), (4, .ref (a (34 + x4))), (5, .int x5), (6, .int x6), (7, .int x7)] → W p l e ({ frames := 5, cells := 0, slots := 0, locals := 119 }) s m args below meth c H locs 0 0 (MQ below (qg_ 59 a D (shC cy a σ') (some (.int r0)) s.heap.size) args s 0 0 (fr_ 59 a s.heap.size)) (F0 m 61 ls []) := by
  intro n
  induction n with
  | zero =>
    intro _ _ _ _ _ _ _ _ _ _ h
    exact absurd h (fun q => by cases (show (none : Option _) = some _ from q))
  | succ n ih => exact kC_fits_61 X ih

def C_fits_0  (σ : Sg) (x1 : Int32) (x2 : Int32) (x3 : Int32) : Option (Int32 × Sg) :=
  bi_ (C1_life_0 σ x2) fun r_3 σ_2 =>
  on_ r_3 (bi_ (C2_isSheet_0 σ_2 x1) fun r_7 σ_6 =>
  if r_7 = 0 then (some ((-1 : Int32), σ_6))
  else (some ((-1 : Int32), σ_6))) fun j_4 =>
  bi_ (C2_isSheet_0 σ_2 x1) fun r_11 σ_10 =>
  if r_11 = 0 then (some ((-1 : Int32), σ_10))
  else (bp_ (C_within_0 x3 (1 : Int32)) fun r_14 =>
  if r_14 = 0 then (some ((-1 : Int32), σ_10))
  else (bi_ (C2_isMissing_0 σ_10 x1) fun r_18 σ_17 =>
  if r_18 = 0 then (lp_ C_fits_61 (fun _ _ _ _ _ _ _ => none) FU σ_17 x1 x3 j_4 (0 : Int32) (-3 : Int32) (7 : Int32))
  else (some ((-11 : Int32), σ_17))))
set_option maxRecDepth 100000 in
theorem kC_fits_0 {p : Program} {l : Launch} {e : Env} {s : State} {m : MethodId} {args : Array Value} {below : List Frame} {meth : Method} {c : Code} {D : va_G} {cy : Nat → ClassId} {a gs : Nat → Nat} (X : cx_ cX11_fits RX11 wsX11_fits 8 (some .int) 59 a D cy (xfC gs) p s m args meth c)  {r0 : Int32} {σ' : Sg}  : ∀ (σ : Sg) (x1 : Int32) (x2 : Int32) (x3 : Int32) (H : Heap) (locs : List Loc) (ls : Array Slot), C_fits_0 σ x1 x2 x3 = some (r0, σ') → iv_ 59 a D (shC cy a σ) s H locs → lv_has ls 8 [(0, .ref (a 0)), (1, .int x1), (2, .int x2), (3, .int x3)] → W p l e ({ frames := 5, cells := 0, slots := 0, locals := 119 }) s m args below meth c H locs 0 0 (MQ below (qg_ 59 a D (shC cy a σ') (some (.int r0)) s.heap.size) args s 0 0 (fr_ 59 a s.heap.size)) (F0 m 0 ls []) := by
  obtain ⟨hx, hb, hr, hml, hown, hts, hlk, hK, hA, hXf⟩ := id X
  intro σ x1 x2 x3 H locs ls h I hl
  unfold C_fits_0 at h
  refine lv_aload_n hx hb dX11_fits_0 rfl (lv_at hl 0 rfl) ?_
  refine ig_ (index := 30) X I (fun _ q => List.mem_cons_of_mem _ (List.mem_append_left _ (List.mem_append_left _ (List.mem_append_left _ (List.mem_append_right _ q))))) 0 (by decide) shC_0 rfl 0 (by decide) (by decide +kernel) rfl (v := .ref (a 1)) rfl dX11_fits_1 ?_
  refine lv_iload_n hx hb dX11_fits_4 rfl (lv_at hl 2 rfl) ?_
  obtain ⟨r_3, σ_2, hc_1, h⟩ := bi_of h
  refine cg_ (v := va_re (fun j => a (34 + j)) r_3) (rV_ (nn := 1) (As := [.int x2]) (rest := []) X xkC I (c_C1_life hc_1 H.size) gX11_fits_X1_life rfl ⟨rfl, rfl⟩ (by decide +kernel) ⟨Nat.le_of_ble_eq_true rfl, Nat.le_of_ble_eq_true rfl⟩ (by decide) shC_1 rfl rfl hl.1 rfl (Nat.le_of_ble_eq_true rfl) dX11_fits_5) I (fun H locs I => ?_)
  rcases r_3 with _ | j_4
  · have h := on_n h
    refine W.eq (g2 := F0 m 8 ls [.null]) rfl ?_
    refine lv_astoreN (lv' := [(4, .null), (0, .ref (a 0)), (1, .int x1), (2, .int x2), (3, .int x3)]) hx hb dX11_fits_8 hl (by decide) rfl (fun ls hl => ?_)
    refine lv_aload_n hx hb dX11_fits_10 rfl (lv_at hl 1 rfl) ?_
    refine ig_ (index := 59) X I (fun _ q => List.mem_cons_of_mem _ (List.mem_append_left _ (List.mem_append_left _ (List.mem_append_left _ (List.mem_append_right _ q))))) 0 (by decide) shC_0 rfl 5 (by decide) (by decide +kernel) rfl (v := .ref (a 22)) rfl dX11_fits_11 ?_
    refine lv_iload_n hx hb dX11_fits_14 rfl (lv_at hl 2 rfl) ?_
    obtain ⟨r_7, σ_6, hc_5, h⟩ := bi_of h
    refine cg_ (v := .int r_7) (rV_ (nn := 1) (As := [.int x1]) (rest := []) X xkC I (c_C2_isSheet hc_5 H.size) gX11_fits_X2_isSheet rfl ⟨rfl, rfl⟩ (by decide +kernel) ⟨Nat.le_of_ble_eq_true rfl, Nat.le_of_ble_eq_true rfl⟩ (by decide) shC_22 rfl rfl hl.1 rfl (Nat.le_of_ble_eq_true rfl) dX11_fits_15) I (fun H locs I => ?_)
    refine lv_if_eq (tgt := 34) hx hb dX11_fits_18 (by decide) (fun c_8 => ?_) (fun c_8 => ?_)
    · have h := if_t h c_8
      refine lv_iconst (v := (-1)) hx hb dX11_fits_34 (by decide) ?_
      obtain ⟨rfl, rfl⟩ := re_s h
      exact rti_ X I dX11_fits_35
    · have h := if_f h c_8
      refine lv_aloadN hx hb dX11_fits_21 (lv_at hl 0 rfl) ?_
      refine lv_ifnullN (tgt := 34) hx hb dX11_fits_23 (by decide) ?_
      refine lv_iconst (v := (-1)) hx hb dX11_fits_34 (by decide) ?_
      obtain ⟨rfl, rfl⟩ := re_s h
      exact rti_ X I dX11_fits_35
  · have h := on_s h
    refine W.eq (g2 := F0 m 8 ls [.ref (a (34 + j_4))]) rfl ?_
    refine lv_astore (lv' := [(4, .ref (a (34 + j_4))), (0, .ref (a 0)), (1, .int x1), (2, .int x2), (3, .int x3)]) hx hb dX11_fits_8 hl (by decide) rfl (fun ls hl => ?_)
    refine lv_aload_n hx hb dX11_fits_10 rfl (lv_at hl 1 rfl) ?_
    refine ig_ (index := 59) X I (fun _ q => List.mem_cons_of_mem _ (List.mem_append_left _ (List.mem_append_left _ (List.mem_append_left _ (List.mem_append_right _ q))))) 0 (by decide) shC_0 rfl 5 (by decide) (by decide +kernel) rfl (v := .ref (a 22)) rfl dX11_fits_11 ?_
    refine lv_iload_n hx hb dX11_fits_14 rfl (lv_at hl 2 rfl) ?_
    obtain ⟨r_11, σ_10, hc_9, h⟩ := bi_of h
    refine cg_ (v := .int r_11) (rV_ (nn := 1) (As := [.int x1]) (rest := []) X xkC I (c_C2_isSheet hc_9 H.size) gX11_fits_X2_isSheet rfl ⟨rfl, rfl⟩ (by decide +kernel) ⟨Nat.le_of_ble_eq_true rfl, Nat.le_of_ble_eq_true rfl⟩ (by decide) shC_22 rfl rfl hl.1 rfl (Nat.le_of_ble_eq_true rfl) dX11_fits_15) I (fun H locs I => ?_)
    refine lv_if_eq (tgt := 34) hx hb dX11_fits_18 (by decide) (fun c_12 => ?_) (fun c_12 => ?_)
    · have h := if_t h c_12
      refine lv_iconst (v := (-1)) hx hb dX11_fits_34 (by decide) ?_
      obtain ⟨rfl, rfl⟩ := re_s h
      exact rti_ X I dX11_fits_35
    · have h := if_f h c_12
      refine lv_aload hx hb dX11_fits_21 (lv_at hl 0 rfl) ?_
      refine lv_ifnull hx hb dX11_fits_23 ?_
      refine lv_iload_n hx hb dX11_fits_26 rfl (lv_at hl 4 rfl) ?_
      refine lv_iconst (v := 1) hx hb dX11_fits_27 (by decide) ?_
      obtain ⟨r_14, hc_13, h⟩ := bp_of h
      refine cp_ (rP_ (nn := 2) (As := [.int x3, .int (1 : Int32)]) (rest := []) ⟨hx, hb, hml, hown, hts⟩ (c_C_within hc_13) gX11_fits_X11_within rfl ⟨rfl, rfl⟩ (by decide +kernel) ⟨Nat.le_of_ble_eq_true rfl, Nat.le_of_ble_eq_true rfl⟩ rfl hl.1 rfl (Nat.le_of_ble_eq_true rfl) dX11_fits_28 ⟨Nat.zero_le _, Nat.zero_le _⟩) ?_
      refine lv_if_ne (tgt := 36) hx hb dX11_fits_31 (by decide) (fun c_15 => ?_) (fun c_15 => ?_)
      · have h := if_f h c_15
        refine lv_aload_n hx hb dX11_fits_36 rfl (lv_at hl 1 rfl) ?_
        refine ig_ (index := 59) X I (fun _ q => List.mem_cons_of_mem _ (List.mem_append_left _ (List.mem_append_left _ (List.mem_append_left _ (List.mem_append_right _ q))))) 0 (by decide) shC_0 rfl 5 (by decide) (by decide +kernel) rfl (v := .ref (a 22)) rfl dX11_fits_37 ?_
        refine lv_iload_n hx hb dX11_fits_40 rfl (lv_at hl 2 rfl) ?_
        obtain ⟨r_18, σ_17, hc_16, h⟩ := bi_of h
        refine cg_ (v := .int r_18) (rV_ (nn := 1) (As := [.int x1]) (rest := []) X xkC I (c_C2_isMissing hc_16 H.size) gX11_fits_X2_isMissing rfl ⟨rfl, rfl⟩ (by decide +kernel) ⟨Nat.le_of_ble_eq_true rfl, Nat.le_of_ble_eq_true rfl⟩ (by decide) shC_22 rfl rfl hl.1 rfl (Nat.le_of_ble_eq_true rfl) dX11_fits_41) I (fun H locs I => ?_)
        refine lv_if_eq (tgt := 50) hx hb dX11_fits_44 (by decide) (fun c_19 => ?_) (fun c_19 => ?_)
        · have h := if_t h c_19
          refine lv_iconst (v := 0) hx hb dX11_fits_50 (by decide) ?_
          refine lv_istore (lv' := [(5, .int (0 : Int32)), (4, .ref (a (34 + j_4))), (0, .ref (a 0)), (1, .int x1), (2, .int x2), (3, .int x3)]) hx hb dX11_fits_51 hl (by decide) rfl (fun ls hl => ?_)
          refine lv_bipush (v := (-3)) hx hb dX11_fits_53 (by decide) ?_
          refine lv_istore (lv' := [(6, .int (-3 : Int32)), (5, .int (0 : Int32)), (4, .ref (a (34 + j_4))), (0, .ref (a 0)), (1, .int x1), (2, .int x2), (3, .int x3)]) hx hb dX11_fits_55 hl (by decide) rfl (fun ls hl => ?_)
          refine lv_bipush (v := 7) hx hb dX11_fits_57 (by decide) ?_
          refine lv_istore (lv' := [(7, .int (7 : Int32)), (6, .int (-3 : Int32)), (5, .int (0 : Int32)), (4, .ref (a (34 + j_4))), (0, .ref (a 0)), (1, .int x1), (2, .int x2), (3, .int x3)]) hx hb dX11_fits_59 hl (by decide) rfl (fun ls hl => ?_)
          exact kC_fits_61L X  FU σ_17 x1 x3 j_4 (0 : Int32) (-3 : Int32) (7 : Int32) H locs ls h I (lv_sub hl [4, 5, 7, 3, 2, 1, 0] rfl)
        · have h := if_f h c_19
          refine lv_bipush (v := (-11)) hx hb dX11_fits_47 (by decide) ?_
          obtain ⟨rfl, rfl⟩ := re_s h
          exact rti_ X I dX11_fits_49
      · have h := if_t h c_15
        refine lv_iconst (v := (-1)) hx hb dX11_fits_34 (by decide) ?_
        obtain ⟨rfl, rfl⟩ := re_s h
        exact rti_ X I dX11_fits_35
theorem c_C_fits {l : Launch} {D : va_G} {cy : Nat → ClassId} {a gs : Nat → Nat} {σ : Sg} {x1 : Int32} {x2 : Int32} {x3 : Int32} {r0 : Int32} {σ' : Sg} (h : C_fits_0 σ x1 x2 x3 = some (r0, σ')) (sz : Nat) : Met l yX11_fits wsX11_fits ({ frames := 5, cells := 0, slots := 0, locals := 119 }) (va_Pc [.ref (a 0), .int x1, .int x2, .int x3] (pr_ 59 a D cy (shC cy a σ) (xfC gs) sz)) (qg_ 59 a D (shC cy a σ') (some (.int r0)) sz) 0 0 (fr_ 59 a sz) := by
  refine ent_ (by decide) rfl (Nat.le_of_ble_eq_true rfl) ?_
  intro p e s m below meth c ls hsz X I hl
  subst hsz
  exact kC_fits_0 X σ x1 x2 x3 s.heap [] ls h I hl

def C_ways_5 (k5 : Int32 → Int32 → Int64 → Int32 → Option Int64) (x0 : Int32) (x1 : Int32) (x2 : Int64) (x4 : Int32) : Option Int64 :=
  if x1 < x4 then (some (x2))
  else (gd_ (nl_ (x4).toInt64) (
  lt_ (((x2 * ((x0 - x1) + x4).toInt64) / (x4).toInt64)) fun y_3 =>
  lt_ (x4 + (1 : Int32)) fun y_5 =>
  k5 x0 x1 y_3 y_5))
set_option maxRecDepth 100000 in
theorem kC_ways_5 {p : Program} {l : Launch} {e : Env} {s : State} {m : MethodId} {args : Array Value} {below : List Frame} {meth : Method} {c : Code} (X : px_ cX11_ways RX11 wsX11_ways 5 (some .long) p s m args meth c) {k5 : Int32 → Int32 → Int64 → Int32 → Option Int64} {r0 : Int64} (hk5 : ∀ (x0 : Int32) (x1 : Int32) (x2 : Int64) (x4 : Int32) (ls : Array Slot), k5 x0 x1 x2 x4 = some r0 → lv_has ls 5 [(0, .int x0), (1, .int x1), (2, .long x2), (4, .int x4)] → W p l e ({ frames := 0, cells := 0, slots := 0, locals := 0 }) s m args below meth c s.heap [] 0 0 (MQ below (qp_ (some (.long r0))) args s 0 0 (fun _ => False)) (F0 m 5 ls [])) : ∀ (x0 : Int32) (x1 : Int32) (x2 : Int64) (x4 : Int32) (ls : Array Slot), C_ways_5 k5 x0 x1 x2 x4 = some r0 → lv_has ls 5 [(0, .int x0), (1, .int x1), (2, .long x2), (4, .int x4)] → W p l e ({ frames := 0, cells := 0, slots := 0, locals := 0 }) s m args below meth c s.heap [] 0 0 (MQ below (qp_ (some (.long r0))) args s 0 0 (fun _ => False)) (F0 m 5 ls []) := by
  obtain ⟨hx, hb, hr, hml, hown, hts, hlk⟩ := id X
  intro x0 x1 x2 x4 ls h hl
  unfold C_ways_5 at h
  refine lv_iload hx hb dX11_ways_5 (lv_at hl 3 rfl) ?_
  refine lv_iload_n hx hb dX11_ways_7 rfl (lv_at hl 1 rfl) ?_
  refine lv_icmp_gt (tgt := 31) hx hb dX11_ways_8 (by decide) (fun c_1 => ?_) (fun c_1 => ?_)
  · have h := if_t h c_1
    refine lv_lload_n hx hb dX11_ways_31 rfl (lv_at hl 2 rfl) ?_
    obtain rfl := re_p h
    exact rpl_ X dX11_ways_32
  · have h := if_f h c_1
    refine lv_lload_n hx hb dX11_ways_11 rfl (lv_at hl 2 rfl) ?_
    refine lv_iload_n hx hb dX11_ways_12 rfl (lv_at hl 0 rfl) ?_
    refine lv_iload_n hx hb dX11_ways_13 rfl (lv_at hl 1 rfl) ?_
    refine lv_isub hx hb dX11_ways_14 ?_
    refine lv_iload hx hb dX11_ways_15 (lv_at hl 3 rfl) ?_
    refine lv_iadd hx hb dX11_ways_17 ?_
    refine lv_i2l hx hb dX11_ways_18 rfl ?_
    refine lv_lmul hx hb dX11_ways_19 ?_
    refine lv_iload hx hb dX11_ways_20 (lv_at hl 3 rfl) ?_
    refine lv_i2l hx hb dX11_ways_22 rfl ?_
    obtain ⟨g_2, h⟩ := gd_of h
    refine lv_ldiv hx hb dX11_ways_23 (nl_of g_2) ?_
    refine lv_topl (fun y_3 e_4 => ?_)
    have h := lt_at h e_4
    refine lv_lstore_n (lv' := [(2, .long y_3), (0, .int x0), (1, .int x1), (4, .int x4)]) hx hb dX11_ways_24 rfl hl (by decide) rfl (fun ls hl => ?_)
    obtain ⟨y_5, e_6⟩ : ∃ q : Int32, q = x4 + (1 : Int32) := ⟨_, rfl⟩
    have h := lt_at h e_6
    refine lv_iinc (v := y_5) (lv' := [(4, .int y_5), (2, .long y_3), (0, .int x0), (1, .int x1)]) hx hb dX11_ways_25 hl (k := 3) rfl (by rw [e_6]; rfl) (by decide) rfl (fun ls hl => ?_)
    refine lv_goto (tgt := 5) hx hb dX11_ways_28 (by decide) ?_
    exact hk5 x0 x1 y_3 y_5 ls h (lv_sub hl [2, 3, 1, 0] rfl)
set_option maxRecDepth 100000 in
theorem kC_ways_5L {p : Program} {l : Launch} {e : Env} {s : State} {m : MethodId} {args : Array Value} {below : List Frame} {meth : Method} {c : Code} (X : px_ cX11_ways RX11 wsX11_ways 5 (some .long) p s m args meth c)  {r0 : Int64}  : ∀ (n : Nat), ∀ (x0 : Int32) (x1 : Int32) (x2 : Int64) (x4 : Int32) (ls : Array Slot), lp_ (C_ways_5) (fun _ _ _ _ => none) n x0 x1 x2 x4 = some r0 → lv_has ls 5 [(0, .int x0), (1, .int x1), (2, .long x2), (4, .int x4)] → W p l e ({ frames := 0, cells := 0, slots := 0, locals := 0 }) s m args below meth c s.heap [] 0 0 (MQ below (qp_ (some (.long r0))) args s 0 0 (fun _ => False)) (F0 m 5 ls []) := by
  intro n
  induction n with
  | zero =>
    intro _ _ _ _ _ h
    exact absurd h (fun q => by cases (show (none : Option _) = some _ from q))
  | succ n ih => exact kC_ways_5 X ih

def C_ways_0  (x0 : Int32) (x1 : Int32) : Option Int64 :=
  lp_ C_ways_5 (fun _ _ _ _ => none) FU x0 x1 (1 : Int64) (1 : Int32)
set_option maxRecDepth 100000 in
theorem kC_ways_0 {p : Program} {l : Launch} {e : Env} {s : State} {m : MethodId} {args : Array Value} {below : List Frame} {meth : Method} {c : Code} (X : px_ cX11_ways RX11 wsX11_ways 5 (some .long) p s m args meth c)  {r0 : Int64}  : ∀ (x0 : Int32) (x1 : Int32) (ls : Array Slot), C_ways_0 x0 x1 = some r0 → lv_has ls 5 [(0, .int x0), (1, .int x1)] → W p l e ({ frames := 0, cells := 0, slots := 0, locals := 0 }) s m args below meth c s.heap [] 0 0 (MQ below (qp_ (some (.long r0))) args s 0 0 (fun _ => False)) (F0 m 0 ls []) := by
  obtain ⟨hx, hb, hr, hml, hown, hts, hlk⟩ := id X
  intro x0 x1 ls h hl
  unfold C_ways_0 at h
  refine lv_lconst (v := 1) hx hb dX11_ways_0 (by decide) ?_
  refine lv_lstore_n (lv' := [(2, .long (1 : Int64)), (0, .int x0), (1, .int x1)]) hx hb dX11_ways_1 rfl hl (by decide) rfl (fun ls hl => ?_)
  refine lv_iconst (v := 1) hx hb dX11_ways_2 (by decide) ?_
  refine lv_istore (lv' := [(4, .int (1 : Int32)), (2, .long (1 : Int64)), (0, .int x0), (1, .int x1)]) hx hb dX11_ways_3 hl (by decide) rfl (fun ls hl => ?_)
  exact kC_ways_5L X  FU x0 x1 (1 : Int64) (1 : Int32) ls h (lv_sub hl [2, 3, 1, 0] rfl)
theorem c_C_ways {l : Launch} {x0 : Int32} {x1 : Int32} {r0 : Int64} (h : C_ways_0 x0 x1 = some r0) : Met l yX11_ways wsX11_ways ({ frames := 0, cells := 0, slots := 0, locals := 0 }) (pp_ [.int x0, .int x1]) (qp_ (some (.long r0))) 0 0 (fun _ => False) := by
  refine enp_ (by decide) rfl (Nat.le_of_ble_eq_true rfl) ?_
  intro p e s m below meth c ls X hl
  exact kC_ways_0 X x0 x1 ls h hl

def C_power_5 (k5 : Int64 → Int32 → Int64 → Int32 → Option Int64) (x0 : Int64) (x2 : Int32) (x3 : Int64) (x5 : Int32) : Option Int64 :=
  if x2 ≤ x5 then (some (x3))
  else (lt_ ((x3 * x0)) fun y_2 =>
  lt_ (x5 + (1 : Int32)) fun y_4 =>
  k5 x0 x2 y_2 y_4)
set_option maxRecDepth 100000 in
theorem kC_power_5 {p : Program} {l : Launch} {e : Env} {s : State} {m : MethodId} {args : Array Value} {below : List Frame} {meth : Method} {c : Code} (X : px_ cX11_power RX11 wsX11_power 6 (some .long) p s m args meth c) {k5 : Int64 → Int32 → Int64 → Int32 → Option Int64} {r0 : Int64} (hk5 : ∀ (x0 : Int64) (x2 : Int32) (x3 : Int64) (x5 : Int32) (ls : Array Slot), k5 x0 x2 x3 x5 = some r0 → lv_has ls 6 [(0, .long x0), (2, .int x2), (3, .long x3), (5, .int x5)] → W p l e ({ frames := 0, cells := 0, slots := 0, locals := 0 }) s m args below meth c s.heap [] 0 0 (MQ below (qp_ (some (.long r0))) args s 0 0 (fun _ => False)) (F0 m 5 ls [])) : ∀ (x0 : Int64) (x2 : Int32) (x3 : Int64) (x5 : Int32) (ls : Array Slot), C_power_5 k5 x0 x2 x3 x5 = some r0 → lv_has ls 6 [(0, .long x0), (2, .int x2), (3, .long x3), (5, .int x5)] → W p l e ({ frames := 0, cells := 0, slots := 0, locals := 0 }) s m args below meth c s.heap [] 0 0 (MQ below (qp_ (some (.long r0))) args s 0 0 (fun _ => False)) (F0 m 5 ls []) := by
  obtain ⟨hx, hb, hr, hml, hown, hts, hlk⟩ := id X
  intro x0 x2 x3 x5 ls h hl
  unfold C_power_5 at h
  refine lv_iload hx hb dX11_power_5 (lv_at hl 3 rfl) ?_
  refine lv_iload_n hx hb dX11_power_7 rfl (lv_at hl 1 rfl) ?_
  refine lv_icmp_ge (tgt := 21) hx hb dX11_power_8 (by decide) (fun c_1 => ?_) (fun c_1 => ?_)
  · have h := if_t h c_1
    refine lv_lload_n hx hb dX11_power_21 rfl (lv_at hl 2 rfl) ?_
    obtain rfl := re_p h
    exact rpl_ X dX11_power_22
  · have h := if_f h c_1
    refine lv_lload_n hx hb dX11_power_11 rfl (lv_at hl 2 rfl) ?_
    refine lv_lload_n hx hb dX11_power_12 rfl (lv_at hl 0 rfl) ?_
    refine lv_lmul hx hb dX11_power_13 ?_
    refine lv_topl (fun y_2 e_3 => ?_)
    have h := lt_at h e_3
    refine lv_lstore_n (lv' := [(3, .long y_2), (0, .long x0), (2, .int x2), (5, .int x5)]) hx hb dX11_power_14 rfl hl (by decide) rfl (fun ls hl => ?_)
    obtain ⟨y_4, e_5⟩ : ∃ q : Int32, q = x5 + (1 : Int32) := ⟨_, rfl⟩
    have h := lt_at h e_5
    refine lv_iinc (v := y_4) (lv' := [(5, .int y_4), (3, .long y_2), (0, .long x0), (2, .int x2)]) hx hb dX11_power_15 hl (k := 3) rfl (by rw [e_5]; rfl) (by decide) rfl (fun ls hl => ?_)
    refine lv_goto (tgt := 5) hx hb dX11_power_18 (by decide) ?_
    exact hk5 x0 x2 y_2 y_4 ls h (lv_sub hl [2, 3, 1, 0] rfl)
set_option maxRecDepth 100000 in
theorem kC_power_5L {p : Program} {l : Launch} {e : Env} {s : State} {m : MethodId} {args : Array Value} {below : List Frame} {meth : Method} {c : Code} (X : px_ cX11_power RX11 wsX11_power 6 (some .long) p s m args meth c)  {r0 : Int64}  : ∀ (n : Nat), ∀ (x0 : Int64) (x2 : Int32) (x3 : Int64) (x5 : Int32) (ls : Array Slot), lp_ (C_power_5) (fun _ _ _ _ => none) n x0 x2 x3 x5 = some r0 → lv_has ls 6 [(0, .long x0), (2, .int x2), (3, .long x3), (5, .int x5)] → W p l e ({ frames := 0, cells := 0, slots := 0, locals := 0 }) s m args below meth c s.heap [] 0 0 (MQ below (qp_ (some (.long r0))) args s 0 0 (fun _ => False)) (F0 m 5 ls []) := by
  intro n
  induction n with
  | zero =>
    intro _ _ _ _ _ h
    exact absurd h (fun q => by cases (show (none : Option _) = some _ from q))
  | succ n ih => exact kC_power_5 X ih

def C_power_0  (x0 : Int64) (x2 : Int32) : Option Int64 :=
  lp_ C_power_5 (fun _ _ _ _ => none) FU x0 x2 (1 : Int64) (0 : Int32)
set_option maxRecDepth 100000 in
theorem kC_power_0 {p : Program} {l : Launch} {e : Env} {s : State} {m : MethodId} {args : Array Value} {below : List Frame} {meth : Method} {c : Code} (X : px_ cX11_power RX11 wsX11_power 6 (some .long) p s m args meth c)  {r0 : Int64}  : ∀ (x0 : Int64) (x2 : Int32) (ls : Array Slot), C_power_0 x0 x2 = some r0 → lv_has ls 6 [(0, .long x0), (2, .int x2)] → W p l e ({ frames := 0, cells := 0, slots := 0, locals := 0 }) s m args below meth c s.heap [] 0 0 (MQ below (qp_ (some (.long r0))) args s 0 0 (fun _ => False)) (F0 m 0 ls []) := by
  obtain ⟨hx, hb, hr, hml, hown, hts, hlk⟩ := id X
  intro x0 x2 ls h hl
  unfold C_power_0 at h
  refine lv_lconst (v := 1) hx hb dX11_power_0 (by decide) ?_
  refine lv_lstore_n (lv' := [(3, .long (1 : Int64)), (0, .long x0), (2, .int x2)]) hx hb dX11_power_1 rfl hl (by decide) rfl (fun ls hl => ?_)
  refine lv_iconst (v := 0) hx hb dX11_power_2 (by decide) ?_
  refine lv_istore (lv' := [(5, .int (0 : Int32)), (3, .long (1 : Int64)), (0, .long x0), (2, .int x2)]) hx hb dX11_power_3 hl (by decide) rfl (fun ls hl => ?_)
  exact kC_power_5L X  FU x0 x2 (1 : Int64) (0 : Int32) ls h (lv_sub hl [2, 3, 1, 0] rfl)
theorem c_C_power {l : Launch} {x0 : Int64} {x2 : Int32} {r0 : Int64} (h : C_power_0 x0 x2 = some r0) : Met l yX11_power wsX11_power ({ frames := 0, cells := 0, slots := 0, locals := 0 }) (pp_ [.long x0, .int x2]) (qp_ (some (.long r0))) 0 0 (fun _ => False) := by
  refine enp_ (by decide) rfl (Nat.le_of_ble_eq_true rfl) ?_
  intro p e s m below meth c ls X hl
  exact kC_power_0 X x0 x2 ls h hl

def C_commonDivisor_9 (k9 : Int64 → Int64 → Int32 → Option Int64) (x4 : Int64) (x6 : Int64) (x8 : Int32) : Option Int64 :=
  if (200 : Int32) ≤ x8 then (some (x4))
  else (if (lg_cmp x6 (0 : Int64)) = 0 then (some (x4))
  else (gd_ (nl_ x6) (
  lt_ ((x4 - x4 / x6 * x6)) fun y_4 =>
  lt_ (x8 + (1 : Int32)) fun y_6 =>
  k9 x6 y_4 y_6)))
set_option maxRecDepth 100000 in
theorem kC_commonDivisor_9 {p : Program} {l : Launch} {e : Env} {s : State} {m : MethodId} {args : Array Value} {below : List Frame} {meth : Method} {c : Code} (X : px_ cX11_commonDivisor RX11 wsX11_commonDivisor 11 (some .long) p s m args meth c) {k9 : Int64 → Int64 → Int32 → Option Int64} {r0 : Int64} (hk9 : ∀ (x4 : Int64) (x6 : Int64) (x8 : Int32) (ls : Array Slot), k9 x4 x6 x8 = some r0 → lv_has ls 11 [(4, .long x4), (6, .long x6), (8, .int x8)] → W p l e ({ frames := 0, cells := 0, slots := 0, locals := 0 }) s m args below meth c s.heap [] 0 0 (MQ below (qp_ (some (.long r0))) args s 0 0 (fun _ => False)) (F0 m 9 ls [])) : ∀ (x4 : Int64) (x6 : Int64) (x8 : Int32) (ls : Array Slot), C_commonDivisor_9 k9 x4 x6 x8 = some r0 → lv_has ls 11 [(4, .long x4), (6, .long x6), (8, .int x8)] → W p l e ({ frames := 0, cells := 0, slots := 0, locals := 0 }) s m args below meth c s.heap [] 0 0 (MQ below (qp_ (some (.long r0))) args s 0 0 (fun _ => False)) (F0 m 9 ls []) := by
  obtain ⟨hx, hb, hr, hml, hown, hts, hlk⟩ := id X
  intro x4 x6 x8 ls h hl
  unfold C_commonDivisor_9 at h
  refine lv_iload hx hb dX11_commonDivisor_9 (lv_at hl 2 rfl) ?_
  refine lv_sipush (v := 200) hx hb dX11_commonDivisor_11 (by decide) ?_
  refine lv_icmp_ge (tgt := 45) hx hb dX11_commonDivisor_14 (by decide) (fun c_1 => ?_) (fun c_1 => ?_)
  · have h := if_t h c_1
    refine lv_lload hx hb dX11_commonDivisor_45 (lv_at hl 0 rfl) ?_
    obtain rfl := re_p h
    exact rpl_ X dX11_commonDivisor_47
  · have h := if_f h c_1
    refine lv_lload hx hb dX11_commonDivisor_17 (lv_at hl 1 rfl) ?_
    refine lv_lconst (v := 0) hx hb dX11_commonDivisor_19 (by decide) ?_
    refine W.lcmp hx hb dX11_commonDivisor_20 ?_
    refine lv_if_eq (tgt := 45) hx hb dX11_commonDivisor_21 (by decide) (fun c_2 => ?_) (fun c_2 => ?_)
    · have h := if_t h c_2
      refine lv_lload hx hb dX11_commonDivisor_45 (lv_at hl 0 rfl) ?_
      obtain rfl := re_p h
      exact rpl_ X dX11_commonDivisor_47
    · have h := if_f h c_2
      refine lv_lload hx hb dX11_commonDivisor_24 (lv_at hl 0 rfl) ?_
      refine lv_lload hx hb dX11_commonDivisor_26 (lv_at hl 1 rfl) ?_
      obtain ⟨g_3, h⟩ := gd_of h
      refine lv_lrem hx hb dX11_commonDivisor_28 (nl_of g_3) ?_
      refine lv_topl (fun y_4 e_5 => ?_)
      have h := lt_at h e_5
      refine lv_lstore (lv' := [(9, .long y_4), (4, .long x4), (6, .long x6), (8, .int x8)]) hx hb dX11_commonDivisor_29 hl (by decide) rfl (fun ls hl => ?_)
      refine lv_lload hx hb dX11_commonDivisor_31 (lv_at hl 2 rfl) ?_
      refine lv_lstore (lv' := [(4, .long x6), (9, .long y_4), (6, .long x6), (8, .int x8)]) hx hb dX11_commonDivisor_33 hl (by decide) rfl (fun ls hl => ?_)
      refine lv_lload hx hb dX11_commonDivisor_35 (lv_at hl 1 rfl) ?_
      refine lv_lstore (lv' := [(6, .long y_4), (4, .long x6), (9, .long y_4), (8, .int x8)]) hx hb dX11_commonDivisor_37 hl (by decide) rfl (fun ls hl => ?_)
      obtain ⟨y_6, e_7⟩ : ∃ q : Int32, q = x8 + (1 : Int32) := ⟨_, rfl⟩
      have h := lt_at h e_7
      refine lv_iinc (v := y_6) (lv' := [(8, .int y_6), (6, .long y_4), (4, .long x6), (9, .long y_4)]) hx hb dX11_commonDivisor_39 hl (k := 3) rfl (by rw [e_7]; rfl) (by decide) rfl (fun ls hl => ?_)
      refine lv_goto (tgt := 9) hx hb dX11_commonDivisor_42 (by decide) ?_
      exact hk9 x6 y_4 y_6 ls h (lv_sub hl [2, 1, 0] rfl)
set_option maxRecDepth 100000 in
theorem kC_commonDivisor_9L {p : Program} {l : Launch} {e : Env} {s : State} {m : MethodId} {args : Array Value} {below : List Frame} {meth : Method} {c : Code} (X : px_ cX11_commonDivisor RX11 wsX11_commonDivisor 11 (some .long) p s m args meth c)  {r0 : Int64}  : ∀ (n : Nat), ∀ (x4 : Int64) (x6 : Int64) (x8 : Int32) (ls : Array Slot), lp_ (C_commonDivisor_9) (fun _ _ _ => none) n x4 x6 x8 = some r0 → lv_has ls 11 [(4, .long x4), (6, .long x6), (8, .int x8)] → W p l e ({ frames := 0, cells := 0, slots := 0, locals := 0 }) s m args below meth c s.heap [] 0 0 (MQ below (qp_ (some (.long r0))) args s 0 0 (fun _ => False)) (F0 m 9 ls []) := by
  intro n
  induction n with
  | zero =>
    intro _ _ _ _ h
    exact absurd h (fun q => by cases (show (none : Option _) = some _ from q))
  | succ n ih => exact kC_commonDivisor_9 X ih

def C_commonDivisor_0  (x0 : Int64) (x2 : Int64) : Option Int64 :=
  lp_ C_commonDivisor_9 (fun _ _ _ => none) FU x0 x2 (0 : Int32)
set_option maxRecDepth 100000 in
theorem kC_commonDivisor_0 {p : Program} {l : Launch} {e : Env} {s : State} {m : MethodId} {args : Array Value} {below : List Frame} {meth : Method} {c : Code} (X : px_ cX11_commonDivisor RX11 wsX11_commonDivisor 11 (some .long) p s m args meth c)  {r0 : Int64}  : ∀ (x0 : Int64) (x2 : Int64) (ls : Array Slot), C_commonDivisor_0 x0 x2 = some r0 → lv_has ls 11 [(0, .long x0), (2, .long x2)] → W p l e ({ frames := 0, cells := 0, slots := 0, locals := 0 }) s m args below meth c s.heap [] 0 0 (MQ below (qp_ (some (.long r0))) args s 0 0 (fun _ => False)) (F0 m 0 ls []) := by
  obtain ⟨hx, hb, hr, hml, hown, hts, hlk⟩ := id X
  intro x0 x2 ls h hl
  unfold C_commonDivisor_0 at h
  refine lv_lload_n hx hb dX11_commonDivisor_0 rfl (lv_at hl 0 rfl) ?_
  refine lv_lstore (lv' := [(4, .long x0), (0, .long x0), (2, .long x2)]) hx hb dX11_commonDivisor_1 hl (by decide) rfl (fun ls hl => ?_)
  refine lv_lload_n hx hb dX11_commonDivisor_3 rfl (lv_at hl 2 rfl) ?_
  refine lv_lstore (lv' := [(6, .long x2), (4, .long x0), (0, .long x0), (2, .long x2)]) hx hb dX11_commonDivisor_4 hl (by decide) rfl (fun ls hl => ?_)
  refine lv_iconst (v := 0) hx hb dX11_commonDivisor_6 (by decide) ?_
  refine lv_istore (lv' := [(8, .int (0 : Int32)), (6, .long x2), (4, .long x0), (0, .long x0), (2, .long x2)]) hx hb dX11_commonDivisor_7 hl (by decide) rfl (fun ls hl => ?_)
  exact kC_commonDivisor_9L X  FU x0 x2 (0 : Int32) ls h (lv_sub hl [2, 1, 0] rfl)
theorem c_C_commonDivisor {l : Launch} {x0 : Int64} {x2 : Int64} {r0 : Int64} (h : C_commonDivisor_0 x0 x2 = some r0) : Met l yX11_commonDivisor wsX11_commonDivisor ({ frames := 0, cells := 0, slots := 0, locals := 0 }) (pp_ [.long x0, .long x2]) (qp_ (some (.long r0))) 0 0 (fun _ => False) := by
  refine enp_ (by decide) rfl (Nat.le_of_ble_eq_true rfl) ?_
  intro p e s m below meth c ls X hl
  exact kC_commonDivisor_0 X x0 x2 ls h hl

def C_partOf_0  (x0 : Int64) (x2 : Int64) (x4 : Int32) : Option Int64 :=
  bp_ (C_commonDivisor_0 x0 x2) fun r_2 =>
  if (lg_cmp r_2 (0 : Int64)) = 0 then (some ((-1 : Int64)))
  else (if x4 = 0 then (gd_ (nl_ r_2) (
  some ((x0 / r_2))))
  else (gd_ (nl_ r_2) (
  some ((x2 / r_2)))))
set_option maxRecDepth 100000 in
theorem kC_partOf_0 {p : Program} {l : Launch} {e : Env} {s : State} {m : MethodId} {args : Array Value} {below : List Frame} {meth : Method} {c : Code} (X : px_ cX11_partOf RX11 wsX11_partOf 7 (some .long) p s m args meth c)  {r0 : Int64}  : ∀ (x0 : Int64) (x2 : Int64) (x4 : Int32) (ls : Array Slot), C_partOf_0 x0 x2 x4 = some r0 → lv_has ls 7 [(0, .long x0), (2, .long x2), (4, .int x4)] → W p l e ({ frames := 1, cells := 0, slots := 0, locals := 30 }) s m args below meth c s.heap [] 0 0 (MQ below (qp_ (some (.long r0))) args s 0 0 (fun _ => False)) (F0 m 0 ls []) := by
  obtain ⟨hx, hb, hr, hml, hown, hts, hlk⟩ := id X
  intro x0 x2 x4 ls h hl
  unfold C_partOf_0 at h
  refine lv_lload_n hx hb dX11_partOf_0 rfl (lv_at hl 0 rfl) ?_
  refine lv_lload_n hx hb dX11_partOf_1 rfl (lv_at hl 1 rfl) ?_
  obtain ⟨r_2, hc_1, h⟩ := bp_of h
  refine cp_ (rP_ (nn := 2) (As := [.long x0, .long x2]) (rest := []) ⟨hx, hb, hml, hown, hts⟩ (c_C_commonDivisor hc_1) gX11_partOf_X11_commonDivisor rfl ⟨rfl, rfl⟩ (by decide +kernel) ⟨Nat.le_of_ble_eq_true rfl, Nat.le_of_ble_eq_true rfl⟩ rfl hl.1 rfl (Nat.le_of_ble_eq_true rfl) dX11_partOf_2 ⟨Nat.zero_le _, Nat.zero_le _⟩) ?_
  refine lv_lstore (lv' := [(5, .long r_2), (0, .long x0), (2, .long x2), (4, .int x4)]) hx hb dX11_partOf_5 hl (by decide) rfl (fun ls hl => ?_)
  refine lv_lload hx hb dX11_partOf_7 (lv_at hl 0 rfl) ?_
  refine lv_lconst (v := 0) hx hb dX11_partOf_9 (by decide) ?_
  refine W.lcmp hx hb dX11_partOf_10 ?_
  refine lv_if_ne (tgt := 18) hx hb dX11_partOf_11 (by decide) (fun c_3 => ?_) (fun c_3 => ?_)
  · have h := if_f h c_3
    refine lv_iload hx hb dX11_partOf_18 (lv_at hl 3 rfl) ?_
    refine lv_if_ne (tgt := 27) hx hb dX11_partOf_20 (by decide) (fun c_4 => ?_) (fun c_4 => ?_)
    · have h := if_f h c_4
      refine lv_lload_n hx hb dX11_partOf_27 rfl (lv_at hl 2 rfl) ?_
      refine lv_lload hx hb dX11_partOf_28 (lv_at hl 0 rfl) ?_
      obtain ⟨g_5, h⟩ := gd_of h
      refine lv_ldiv hx hb dX11_partOf_30 (nl_of g_5) ?_
      obtain rfl := re_p h
      exact rpl_ X dX11_partOf_31
    · have h := if_t h c_4
      refine lv_lload_n hx hb dX11_partOf_23 rfl (lv_at hl 1 rfl) ?_
      refine lv_goto (tgt := 28) hx hb dX11_partOf_24 (by decide) ?_
      refine lv_lload hx hb dX11_partOf_28 (lv_at hl 0 rfl) ?_
      obtain ⟨g_6, h⟩ := gd_of h
      refine lv_ldiv hx hb dX11_partOf_30 (nl_of g_6) ?_
      obtain rfl := re_p h
      exact rpl_ X dX11_partOf_31
  · have h := if_t h c_3
    refine lv_ldc2 (v := -1) hx hb hown (hts (.constantLong RX11 271 (-1)) (by decide +kernel)) dX11_partOf_14 ?_
    obtain rfl := re_p h
    exact rpl_ X dX11_partOf_17
theorem c_C_partOf {l : Launch} {x0 : Int64} {x2 : Int64} {x4 : Int32} {r0 : Int64} (h : C_partOf_0 x0 x2 x4 = some r0) : Met l yX11_partOf wsX11_partOf ({ frames := 1, cells := 0, slots := 0, locals := 30 }) (pp_ [.long x0, .long x2, .int x4]) (qp_ (some (.long r0))) 0 0 (fun _ => False) := by
  refine enp_ (by decide) rfl (Nat.le_of_ble_eq_true rfl) ?_
  intro p e s m below meth c ls X hl
  exact kC_partOf_0 X x0 x2 x4 ls h hl

def C_odds_0  (σ : Sg) (x1 : Int32) (x2 : Int32) (x3 : Int32) : Option (Int64 × Sg) :=
  bp_ (C_within_0 x1 (8 : Int32)) fun r_2 =>
  if r_2 = 0 then (some ((-1 : Int64), σ))
  else (bp_ (C_within_0 x2 x1) fun r_5 =>
  if r_5 = 0 then (some ((-1 : Int64), σ))
  else (bp_ (C_within_0 x3 (1 : Int32)) fun r_8 =>
  if r_8 = 0 then (some ((-1 : Int64), σ))
  else (lt_ ((rd_ σ 4 3).toInt64) fun y_10 =>
  bp_ (C_ways_0 x1 x2) fun r_13 =>
  bp_ (C_power_0 y_10 x2) fun r_15 =>
  bp_ (C_power_0 ((100 : Int64) - y_10) (x1 - x2)) fun r_17 =>
  lt_ (((r_13 * r_15) * r_17)) fun y_18 =>
  bp_ (C_power_0 (100 : Int64) x1) fun r_21 =>
  bp_ (C_partOf_0 y_18 r_21 x3) fun r_23 =>
  some (r_23, σ))))
set_option maxRecDepth 100000 in
theorem kC_odds_0 {p : Program} {l : Launch} {e : Env} {s : State} {m : MethodId} {args : Array Value} {below : List Frame} {meth : Method} {c : Code} {D : va_G} {cy : Nat → ClassId} {a gs : Nat → Nat} (X : cx_ cX11_odds RX11 wsX11_odds 8 (some .long) 59 a D cy (xfC gs) p s m args meth c)  {r0 : Int64} {σ' : Sg}  : ∀ (σ : Sg) (x1 : Int32) (x2 : Int32) (x3 : Int32) (H : Heap) (locs : List Loc) (ls : Array Slot), C_odds_0 σ x1 x2 x3 = some (r0, σ') → iv_ 59 a D (shC cy a σ) s H locs → lv_has ls 8 [(0, .ref (a 0)), (1, .int x1), (2, .int x2), (3, .int x3)] → W p l e ({ frames := 2, cells := 0, slots := 0, locals := 56 }) s m args below meth c H locs 0 0 (MQ below (qg_ 59 a D (shC cy a σ') (some (.long r0)) s.heap.size) args s 0 0 (fr_ 59 a s.heap.size)) (F0 m 0 ls []) := by
  obtain ⟨hx, hb, hr, hml, hown, hts, hlk, hK, hA, hXf⟩ := id X
  intro σ x1 x2 x3 H locs ls h I hl
  unfold C_odds_0 at h
  refine lv_iload_n hx hb dX11_odds_0 rfl (lv_at hl 1 rfl) ?_
  refine lv_bipush (v := 8) hx hb dX11_odds_1 (by decide) ?_
  obtain ⟨r_2, hc_1, h⟩ := bp_of h
  refine cp_ (rP_ (nn := 2) (As := [.int x1, .int (8 : Int32)]) (rest := []) ⟨hx, hb, hml, hown, hts⟩ (c_C_within hc_1) gX11_odds_X11_within rfl ⟨rfl, rfl⟩ (by decide +kernel) ⟨Nat.le_of_ble_eq_true rfl, Nat.le_of_ble_eq_true rfl⟩ rfl hl.1 rfl (Nat.le_of_ble_eq_true rfl) dX11_odds_3 ⟨Nat.zero_le _, Nat.zero_le _⟩) ?_
  refine lv_if_eq (tgt := 25) hx hb dX11_odds_6 (by decide) (fun c_3 => ?_) (fun c_3 => ?_)
  · have h := if_t h c_3
    refine lv_ldc2 (v := -1) hx hb hown (hts (.constantLong RX11 271 (-1)) (by decide +kernel)) dX11_odds_25 ?_
    obtain ⟨rfl, rfl⟩ := re_s h
    exact rtl_ X I dX11_odds_28
  · have h := if_f h c_3
    refine lv_iload_n hx hb dX11_odds_9 rfl (lv_at hl 2 rfl) ?_
    refine lv_iload_n hx hb dX11_odds_10 rfl (lv_at hl 1 rfl) ?_
    obtain ⟨r_5, hc_4, h⟩ := bp_of h
    refine cp_ (rP_ (nn := 2) (As := [.int x2, .int x1]) (rest := []) ⟨hx, hb, hml, hown, hts⟩ (c_C_within hc_4) gX11_odds_X11_within rfl ⟨rfl, rfl⟩ (by decide +kernel) ⟨Nat.le_of_ble_eq_true rfl, Nat.le_of_ble_eq_true rfl⟩ rfl hl.1 rfl (Nat.le_of_ble_eq_true rfl) dX11_odds_11 ⟨Nat.zero_le _, Nat.zero_le _⟩) ?_
    refine lv_if_eq (tgt := 25) hx hb dX11_odds_14 (by decide) (fun c_6 => ?_) (fun c_6 => ?_)
    · have h := if_t h c_6
      refine lv_ldc2 (v := -1) hx hb hown (hts (.constantLong RX11 271 (-1)) (by decide +kernel)) dX11_odds_25 ?_
      obtain ⟨rfl, rfl⟩ := re_s h
      exact rtl_ X I dX11_odds_28
    · have h := if_f h c_6
      refine lv_iload_n hx hb dX11_odds_17 rfl (lv_at hl 3 rfl) ?_
      refine lv_iconst (v := 1) hx hb dX11_odds_18 (by decide) ?_
      obtain ⟨r_8, hc_7, h⟩ := bp_of h
      refine cp_ (rP_ (nn := 2) (As := [.int x3, .int (1 : Int32)]) (rest := []) ⟨hx, hb, hml, hown, hts⟩ (c_C_within hc_7) gX11_odds_X11_within rfl ⟨rfl, rfl⟩ (by decide +kernel) ⟨Nat.le_of_ble_eq_true rfl, Nat.le_of_ble_eq_true rfl⟩ rfl hl.1 rfl (Nat.le_of_ble_eq_true rfl) dX11_odds_19 ⟨Nat.zero_le _, Nat.zero_le _⟩) ?_
      refine lv_if_ne (tgt := 29) hx hb dX11_odds_22 (by decide) (fun c_9 => ?_) (fun c_9 => ?_)
      · have h := if_f h c_9
        refine lv_aload_n hx hb dX11_odds_29 rfl (lv_at hl 0 rfl) ?_
        refine ig_ (index := 30) X I (fun _ q => List.mem_cons_of_mem _ (List.mem_append_left _ (List.mem_append_right _ q))) 0 (by decide) shC_0 rfl 0 (by decide) (by decide +kernel) rfl (v := .ref (a 1)) rfl dX11_odds_30 ?_
        refine ig_ (index := 113) X I (fun _ q => List.mem_cons_of_mem _ (List.mem_append_right _ q)) 1 (by decide) shC_1 rfl 0 (by decide) (by decide +kernel) rfl (v := .ref (a 4)) rfl dX11_odds_33 ?_
        refine lv_iconst (v := 3) hx hb dX11_odds_36 (by decide) ?_
        refine ia_ X I 4 (by decide) shC_4 (in_of (by decide)) (v0 := (rd_ σ 4 3)) rfl dX11_odds_37 ?_
        refine lv_i2l hx hb dX11_odds_38 rfl ?_
        refine lv_topl (fun y_10 e_11 => ?_)
        have h := lt_at h e_11
        refine lv_lstore (lv' := [(4, .long y_10), (0, .ref (a 0)), (1, .int x1), (2, .int x2), (3, .int x3)]) hx hb dX11_odds_39 hl (by decide) rfl (fun ls hl => ?_)
        refine lv_iload_n hx hb dX11_odds_41 rfl (lv_at hl 2 rfl) ?_
        refine lv_iload_n hx hb dX11_odds_42 rfl (lv_at hl 3 rfl) ?_
        obtain ⟨r_13, hc_12, h⟩ := bp_of h
        refine cp_ (rP_ (nn := 2) (As := [.int x1, .int x2]) (rest := []) ⟨hx, hb, hml, hown, hts⟩ (c_C_ways hc_12) gX11_odds_X11_ways rfl ⟨rfl, rfl⟩ (by decide +kernel) ⟨Nat.le_of_ble_eq_true rfl, Nat.le_of_ble_eq_true rfl⟩ rfl hl.1 rfl (Nat.le_of_ble_eq_true rfl) dX11_odds_43 ⟨Nat.zero_le _, Nat.zero_le _⟩) ?_
        refine lv_lload hx hb dX11_odds_46 (lv_at hl 0 rfl) ?_
        refine lv_iload_n hx hb dX11_odds_48 rfl (lv_at hl 3 rfl) ?_
        obtain ⟨r_15, hc_14, h⟩ := bp_of h
        refine cp_ (rP_ (nn := 2) (As := [.long y_10, .int x2]) (rest := [.long r_13]) ⟨hx, hb, hml, hown, hts⟩ (c_C_power hc_14) gX11_odds_X11_power rfl ⟨rfl, rfl⟩ (by decide +kernel) ⟨Nat.le_of_ble_eq_true rfl, Nat.le_of_ble_eq_true rfl⟩ rfl hl.1 rfl (Nat.le_of_ble_eq_true rfl) dX11_odds_49 ⟨Nat.zero_le _, Nat.zero_le _⟩) ?_
        refine lv_lmul hx hb dX11_odds_52 ?_
        refine lv_ldc2 (v := 100) hx hb hown (hts (.constantLong RX11 280 (100)) (by decide +kernel)) dX11_odds_53 ?_
        refine lv_lload hx hb dX11_odds_56 (lv_at hl 0 rfl) ?_
        refine lv_lsub hx hb dX11_odds_58 ?_
        refine lv_iload_n hx hb dX11_odds_59 rfl (lv_at hl 2 rfl) ?_
        refine lv_iload_n hx hb dX11_odds_60 rfl (lv_at hl 3 rfl) ?_
        refine lv_isub hx hb dX11_odds_61 ?_
        obtain ⟨r_17, hc_16, h⟩ := bp_of h
        refine cp_ (rP_ (nn := 2) (As := [.long ((100 : Int64) - y_10), .int (x1 - x2)]) (rest := [.long (r_13 * r_15)]) ⟨hx, hb, hml, hown, hts⟩ (c_C_power hc_16) gX11_odds_X11_power rfl ⟨rfl, rfl⟩ (by decide +kernel) ⟨Nat.le_of_ble_eq_true rfl, Nat.le_of_ble_eq_true rfl⟩ rfl hl.1 rfl (Nat.le_of_ble_eq_true rfl) dX11_odds_62 ⟨Nat.zero_le _, Nat.zero_le _⟩) ?_
        refine lv_lmul hx hb dX11_odds_65 ?_
        refine lv_topl (fun y_18 e_19 => ?_)
        have h := lt_at h e_19
        refine lv_lstore (lv' := [(6, .long y_18), (4, .long y_10), (0, .ref (a 0)), (1, .int x1), (2, .int x2), (3, .int x3)]) hx hb dX11_odds_66 hl (by decide) rfl (fun ls hl => ?_)
        refine lv_lload hx hb dX11_odds_68 (lv_at hl 0 rfl) ?_
        refine lv_ldc2 (v := 100) hx hb hown (hts (.constantLong RX11 280 (100)) (by decide +kernel)) dX11_odds_70 ?_
        refine lv_iload_n hx hb dX11_odds_73 rfl (lv_at hl 3 rfl) ?_
        obtain ⟨r_21, hc_20, h⟩ := bp_of h
        refine cp_ (rP_ (nn := 2) (As := [.long (100 : Int64), .int x1]) (rest := [.long y_18]) ⟨hx, hb, hml, hown, hts⟩ (c_C_power hc_20) gX11_odds_X11_power rfl ⟨rfl, rfl⟩ (by decide +kernel) ⟨Nat.le_of_ble_eq_true rfl, Nat.le_of_ble_eq_true rfl⟩ rfl hl.1 rfl (Nat.le_of_ble_eq_true rfl) dX11_odds_74 ⟨Nat.zero_le _, Nat.zero_le _⟩) ?_
        refine lv_iload_n hx hb dX11_odds_77 rfl (lv_at hl 5 rfl) ?_
        obtain ⟨r_23, hc_22, h⟩ := bp_of h
        refine cp_ (rP_ (nn := 3) (As := [.long y_18, .long r_21, .int x3]) (rest := []) ⟨hx, hb, hml, hown, hts⟩ (c_C_partOf hc_22) gX11_odds_X11_partOf rfl ⟨rfl, rfl⟩ (by decide +kernel) ⟨Nat.le_of_ble_eq_true rfl, Nat.le_of_ble_eq_true rfl⟩ rfl hl.1 rfl (Nat.le_of_ble_eq_true rfl) dX11_odds_78 ⟨Nat.zero_le _, Nat.zero_le _⟩) ?_
        obtain ⟨rfl, rfl⟩ := re_s h
        exact rtl_ X I dX11_odds_81
      · have h := if_t h c_9
        refine lv_ldc2 (v := -1) hx hb hown (hts (.constantLong RX11 271 (-1)) (by decide +kernel)) dX11_odds_25 ?_
        obtain ⟨rfl, rfl⟩ := re_s h
        exact rtl_ X I dX11_odds_28
theorem c_C_odds {l : Launch} {D : va_G} {cy : Nat → ClassId} {a gs : Nat → Nat} {σ : Sg} {x1 : Int32} {x2 : Int32} {x3 : Int32} {r0 : Int64} {σ' : Sg} (h : C_odds_0 σ x1 x2 x3 = some (r0, σ')) (sz : Nat) : Met l yX11_odds wsX11_odds ({ frames := 2, cells := 0, slots := 0, locals := 56 }) (va_Pc [.ref (a 0), .int x1, .int x2, .int x3] (pr_ 59 a D cy (shC cy a σ) (xfC gs) sz)) (qg_ 59 a D (shC cy a σ') (some (.long r0)) sz) 0 0 (fr_ 59 a sz) := by
  refine ent_ (by decide) rfl (Nat.le_of_ble_eq_true rfl) ?_
  intro p e s m below meth c ls hsz X I hl
  subst hsz
  exact kC_odds_0 X σ x1 x2 x3 s.heap [] ls h I hl

def C_hope_0  (σ : Sg) (x1 : Int32) (x2 : Int32) : Option (Int64 × Sg) :=
  bp_ (C_within_0 x1 (99 : Int32)) fun r_2 =>
  if r_2 = 0 then (some ((-1 : Int64), σ))
  else (bp_ (C_within_0 x2 (1 : Int32)) fun r_5 =>
  if r_5 = 0 then (some ((-1 : Int64), σ))
  else (bp_ (C_partOf_0 ((x1).toInt64 * (rd_ σ 4 3).toInt64) (100 : Int64) x2) fun r_8 =>
  some (r_8, σ)))
set_option maxRecDepth 100000 in
theorem kC_hope_0 {p : Program} {l : Launch} {e : Env} {s : State} {m : MethodId} {args : Array Value} {below : List Frame} {meth : Method} {c : Code} {D : va_G} {cy : Nat → ClassId} {a gs : Nat → Nat} (X : cx_ cX11_hope RX11 wsX11_hope 3 (some .long) 59 a D cy (xfC gs) p s m args meth c)  {r0 : Int64} {σ' : Sg}  : ∀ (σ : Sg) (x1 : Int32) (x2 : Int32) (H : Heap) (locs : List Loc) (ls : Array Slot), C_hope_0 σ x1 x2 = some (r0, σ') → iv_ 59 a D (shC cy a σ) s H locs → lv_has ls 3 [(0, .ref (a 0)), (1, .int x1), (2, .int x2)] → W p l e ({ frames := 2, cells := 0, slots := 0, locals := 56 }) s m args below meth c H locs 0 0 (MQ below (qg_ 59 a D (shC cy a σ') (some (.long r0)) s.heap.size) args s 0 0 (fr_ 59 a s.heap.size)) (F0 m 0 ls []) := by
  obtain ⟨hx, hb, hr, hml, hown, hts, hlk, hK, hA, hXf⟩ := id X
  intro σ x1 x2 H locs ls h I hl
  unfold C_hope_0 at h
  refine lv_iload_n hx hb dX11_hope_0 rfl (lv_at hl 1 rfl) ?_
  refine lv_bipush (v := 99) hx hb dX11_hope_1 (by decide) ?_
  obtain ⟨r_2, hc_1, h⟩ := bp_of h
  refine cp_ (rP_ (nn := 2) (As := [.int x1, .int (99 : Int32)]) (rest := []) ⟨hx, hb, hml, hown, hts⟩ (c_C_within hc_1) gX11_hope_X11_within rfl ⟨rfl, rfl⟩ (by decide +kernel) ⟨Nat.le_of_ble_eq_true rfl, Nat.le_of_ble_eq_true rfl⟩ rfl hl.1 rfl (Nat.le_of_ble_eq_true rfl) dX11_hope_3 ⟨Nat.zero_le _, Nat.zero_le _⟩) ?_
  refine lv_if_eq (tgt := 17) hx hb dX11_hope_6 (by decide) (fun c_3 => ?_) (fun c_3 => ?_)
  · have h := if_t h c_3
    refine lv_ldc2 (v := -1) hx hb hown (hts (.constantLong RX11 271 (-1)) (by decide +kernel)) dX11_hope_17 ?_
    obtain ⟨rfl, rfl⟩ := re_s h
    exact rtl_ X I dX11_hope_20
  · have h := if_f h c_3
    refine lv_iload_n hx hb dX11_hope_9 rfl (lv_at hl 2 rfl) ?_
    refine lv_iconst (v := 1) hx hb dX11_hope_10 (by decide) ?_
    obtain ⟨r_5, hc_4, h⟩ := bp_of h
    refine cp_ (rP_ (nn := 2) (As := [.int x2, .int (1 : Int32)]) (rest := []) ⟨hx, hb, hml, hown, hts⟩ (c_C_within hc_4) gX11_hope_X11_within rfl ⟨rfl, rfl⟩ (by decide +kernel) ⟨Nat.le_of_ble_eq_true rfl, Nat.le_of_ble_eq_true rfl⟩ rfl hl.1 rfl (Nat.le_of_ble_eq_true rfl) dX11_hope_11 ⟨Nat.zero_le _, Nat.zero_le _⟩) ?_
    refine lv_if_ne (tgt := 21) hx hb dX11_hope_14 (by decide) (fun c_6 => ?_) (fun c_6 => ?_)
    · have h := if_f h c_6
      refine lv_iload_n hx hb dX11_hope_21 rfl (lv_at hl 1 rfl) ?_
      refine lv_i2l hx hb dX11_hope_22 rfl ?_
      refine lv_aload_n hx hb dX11_hope_23 rfl (lv_at hl 0 rfl) ?_
      refine ig_ (index := 30) X I (fun _ q => List.mem_cons_of_mem _ (List.mem_append_left _ (List.mem_append_right _ q))) 0 (by decide) shC_0 rfl 0 (by decide) (by decide +kernel) rfl (v := .ref (a 1)) rfl dX11_hope_24 ?_
      refine ig_ (index := 113) X I (fun _ q => List.mem_cons_of_mem _ (List.mem_append_right _ q)) 1 (by decide) shC_1 rfl 0 (by decide) (by decide +kernel) rfl (v := .ref (a 4)) rfl dX11_hope_27 ?_
      refine lv_iconst (v := 3) hx hb dX11_hope_30 (by decide) ?_
      refine ia_ X I 4 (by decide) shC_4 (in_of (by decide)) (v0 := (rd_ σ 4 3)) rfl dX11_hope_31 ?_
      refine lv_i2l hx hb dX11_hope_32 rfl ?_
      refine lv_lmul hx hb dX11_hope_33 ?_
      refine lv_ldc2 (v := 100) hx hb hown (hts (.constantLong RX11 280 (100)) (by decide +kernel)) dX11_hope_34 ?_
      refine lv_iload_n hx hb dX11_hope_37 rfl (lv_at hl 2 rfl) ?_
      obtain ⟨r_8, hc_7, h⟩ := bp_of h
      refine cp_ (rP_ (nn := 3) (As := [.long ((x1).toInt64 * (rd_ σ 4 3).toInt64), .long (100 : Int64), .int x2]) (rest := []) ⟨hx, hb, hml, hown, hts⟩ (c_C_partOf hc_7) gX11_hope_X11_partOf rfl ⟨rfl, rfl⟩ (by decide +kernel) ⟨Nat.le_of_ble_eq_true rfl, Nat.le_of_ble_eq_true rfl⟩ rfl hl.1 rfl (Nat.le_of_ble_eq_true rfl) dX11_hope_38 ⟨Nat.zero_le _, Nat.zero_le _⟩) ?_
      obtain ⟨rfl, rfl⟩ := re_s h
      exact rtl_ X I dX11_hope_41
    · have h := if_t h c_6
      refine lv_ldc2 (v := -1) hx hb hown (hts (.constantLong RX11 271 (-1)) (by decide +kernel)) dX11_hope_17 ?_
      obtain ⟨rfl, rfl⟩ := re_s h
      exact rtl_ X I dX11_hope_20
theorem c_C_hope {l : Launch} {D : va_G} {cy : Nat → ClassId} {a gs : Nat → Nat} {σ : Sg} {x1 : Int32} {x2 : Int32} {r0 : Int64} {σ' : Sg} (h : C_hope_0 σ x1 x2 = some (r0, σ')) (sz : Nat) : Met l yX11_hope wsX11_hope ({ frames := 2, cells := 0, slots := 0, locals := 56 }) (va_Pc [.ref (a 0), .int x1, .int x2] (pr_ 59 a D cy (shC cy a σ) (xfC gs) sz)) (qg_ 59 a D (shC cy a σ') (some (.long r0)) sz) 0 0 (fr_ 59 a sz) := by
  refine ent_ (by decide) rfl (Nat.le_of_ble_eq_true rfl) ?_
  intro p e s m below meth c ls hsz X I hl
  subst hsz
  exact kC_hope_0 X σ x1 x2 s.heap [] ls h I hl

def C_toldOfTried_0  (σ : Sg) (x1 : Int32) : Option (Int32 × Sg) :=
  if x1 = 0 then (some ((rd_ σ (34 + 24) 1), σ))
  else (if x1 = 1 then (some ((rd_ σ (34 + 24) 4), σ))
  else (bi_ (C6_distance_0 σ 24) fun r_5 σ_4 =>
  some (r_5, σ_4)))
set_option maxRecDepth 100000 in
theorem kC_toldOfTried_0 {p : Program} {l : Launch} {e : Env} {s : State} {m : MethodId} {args : Array Value} {below : List Frame} {meth : Method} {c : Code} {D : va_G} {cy : Nat → ClassId} {a gs : Nat → Nat} (X : cx_ cX11_toldOfTried RX11 wsX11_toldOfTried 2 (some .int) 59 a D cy (xfC gs) p s m args meth c)  {r0 : Int32} {σ' : Sg}  : ∀ (σ : Sg) (x1 : Int32) (H : Heap) (locs : List Loc) (ls : Array Slot), C_toldOfTried_0 σ x1 = some (r0, σ') → iv_ 59 a D (shC cy a σ) s H locs → lv_has ls 2 [(0, .ref (a 0)), (1, .int x1)] → W p l e ({ frames := 2, cells := 0, slots := 0, locals := 41 }) s m args below meth c H locs 0 0 (MQ below (qg_ 59 a D (shC cy a σ') (some (.int r0)) s.heap.size) args s 0 0 (fr_ 59 a s.heap.size)) (F0 m 0 ls []) := by
  obtain ⟨hx, hb, hr, hml, hown, hts, hlk, hK, hA, hXf⟩ := id X
  intro σ x1 H locs ls h I hl
  unfold C_toldOfTried_0 at h
  refine lv_iload_n hx hb dX11_toldOfTried_0 rfl (lv_at hl 1 rfl) ?_
  by_cases c_1 : x1 = 0
  · have h := if_t h c_1
    refine lv_lookup (tgt := 28) (off := 27) hx hb dX11_toldOfTried_1 (by decide) (by rw [c_1]; decide) (by decide) ?_
    refine lv_aload_n hx hb dX11_toldOfTried_28 rfl (lv_at hl 0 rfl) ?_
    refine ig_ (index := 45) X I (fun _ q => List.mem_cons_of_mem _ (List.mem_append_left _ (List.mem_append_right _ q))) 0 (by decide) shC_0 rfl 3 (by decide) (by decide +kernel) rfl (v := .ref (a (34 + 24))) rfl dX11_toldOfTried_29 ?_
    refine ig_ (index := 200) X I (fun _ q => List.mem_cons_of_mem _ (List.mem_append_right _ q)) (34 + 24) (by decide) shC_L rfl 1 (by decide) (by decide +kernel) rfl (v := .int (rd_ σ (34 + 24) 1)) rfl dX11_toldOfTried_32 ?_
    obtain ⟨rfl, rfl⟩ := re_s h
    exact rti_ X I dX11_toldOfTried_35
  · have h := if_f h c_1
    by_cases c_2 : x1 = 1
    · have h := if_t h c_2
      refine lv_lookup (tgt := 36) (off := 35) hx hb dX11_toldOfTried_1 (by decide) (by rw [c_2]; decide) (by decide) ?_
      refine lv_aload_n hx hb dX11_toldOfTried_36 rfl (lv_at hl 0 rfl) ?_
      refine ig_ (index := 45) X I (fun _ q => List.mem_cons_of_mem _ (List.mem_append_left _ (List.mem_append_right _ q))) 0 (by decide) shC_0 rfl 3 (by decide) (by decide +kernel) rfl (v := .ref (a (34 + 24))) rfl dX11_toldOfTried_37 ?_
      refine ig_ (index := 293) X I (fun _ q => List.mem_cons_of_mem _ (List.mem_append_right _ q)) (34 + 24) (by decide) shC_L rfl 4 (by decide) (by decide +kernel) rfl (v := .int (rd_ σ (34 + 24) 4)) rfl dX11_toldOfTried_40 ?_
      obtain ⟨rfl, rfl⟩ := re_s h
      exact rti_ X I dX11_toldOfTried_43
    · have h := if_f h c_2
      refine lv_lookup (tgt := 44) (off := 43) hx hb dX11_toldOfTried_1 (by decide) (by rw [lv_osw (a := 0) c_1 rfl, lv_osw (a := 1) c_2 rfl]; rfl) (by decide) ?_
      refine lv_aload_n hx hb dX11_toldOfTried_44 rfl (lv_at hl 0 rfl) ?_
      refine ig_ (index := 45) X I (fun _ q => List.mem_cons_of_mem _ (List.mem_append_left _ (List.mem_append_right _ q))) 0 (by decide) shC_0 rfl 3 (by decide) (by decide +kernel) rfl (v := .ref (a (34 + 24))) rfl dX11_toldOfTried_45 ?_
      obtain ⟨r_5, σ_4, hc_3, h⟩ := bi_of h
      refine cg_ (v := .int r_5) (rV_ (nn := 0) (As := []) (rest := []) X xkC I (c_C6_distance hc_3 H.size) gX11_toldOfTried_X6_distance rfl ⟨rfl, rfl⟩ (by decide +kernel) ⟨Nat.le_of_ble_eq_true rfl, Nat.le_of_ble_eq_true rfl⟩ (by decide) shC_L rfl rfl hl.1 rfl (Nat.le_of_ble_eq_true rfl) dX11_toldOfTried_48) I (fun H locs I => ?_)
      obtain ⟨rfl, rfl⟩ := re_s h
      exact rti_ X I dX11_toldOfTried_51
theorem c_C_toldOfTried {l : Launch} {D : va_G} {cy : Nat → ClassId} {a gs : Nat → Nat} {σ : Sg} {x1 : Int32} {r0 : Int32} {σ' : Sg} (h : C_toldOfTried_0 σ x1 = some (r0, σ')) (sz : Nat) : Met l yX11_toldOfTried wsX11_toldOfTried ({ frames := 2, cells := 0, slots := 0, locals := 41 }) (va_Pc [.ref (a 0), .int x1] (pr_ 59 a D cy (shC cy a σ) (xfC gs) sz)) (qg_ 59 a D (shC cy a σ') (some (.int r0)) sz) 0 0 (fr_ 59 a sz) := by
  refine ent_ (by decide) rfl (Nat.le_of_ble_eq_true rfl) ?_
  intro p e s m below meth c ls hsz X I hl
  subst hsz
  exact kC_toldOfTried_0 X σ x1 s.heap [] ls h I hl
