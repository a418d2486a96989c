def C7_kicks_k4_0  (σ : Sg) (x1 : Int32) : Option (Int32 × Sg) :=
  bi_ (C4_runs_0 σ (40 : Int32)) fun _ σ_2 =>
  bi_ (C10_kicks_k4_0 σ_2 x1) fun r_5 σ_4 =>
  some ((r_5 ^^^ (6 : Int32)), σ_4)
set_option maxRecDepth 100000 in
theorem kC7_kicks_k4_0 {p : Program} {l : Launch} {e : Env} {s : State} {m : MethodId} {args : Array Value} {below : List Frame} {meth : Method} {c : Code} {D : va_G} {cy : Nat → ClassId} {a gs : Nat → Nat} (X : cx_ cX7_kicks RX7 wB_X7_kicks 3 (some .int) 59 a D cy (xfC gs) p s m args meth c)  {r0 : Int32} {σ' : Sg}  : ∀ (σ : Sg) (x1 : Int32) (H : Heap) (locs : List Loc) (ls : Array Slot), C7_kicks_k4_0 σ x1 = some (r0, σ') → iv_ 59 a D (shC cy a σ) s H locs → lv_has ls 3 [(0, .ref (a 18)), (1, .int x1), (2, .ref (a 29))] → W p l e ({ frames := 3, cells := 0, slots := 0, locals := 65 }) s m args below meth c H locs 0 0 (MQ below (qg_ 59 a D (shC cy a σ') (some (.int r0)) s.heap.size) args s 0 0 (fr_ 59 a s.heap.size)) (F0 m 0 ls []) := by
  obtain ⟨hx, hb, hr, hml, hown, hts, hlk, hK, hA, hXf⟩ := id X
  intro σ x1 H locs ls h I hl
  unfold C7_kicks_k4_0 at h
  refine lv_aload_n hx hb dX7_kicks_0 rfl (lv_at hl 2 rfl) ?_
  refine lv_bipush (v := 40) hx hb dX7_kicks_1 (by decide) ?_
  obtain ⟨_, σ_2, hc_1, h⟩ := bi_of h
  refine cv_ (rV_ (nn := 1) (As := [.int (40 : Int32)]) (rest := []) X xkC I (c_C4_runs hc_1 H.size) gBX7_kicks_X4_runs rfl ⟨rfl, rfl⟩ (by decide +kernel) ⟨Nat.le_of_ble_eq_true rfl, Nat.le_of_ble_eq_true rfl⟩ (by decide) shC_29 rfl rfl hl.1 rfl (Nat.le_of_ble_eq_true rfl) dX7_kicks_3) I (fun H locs I => ?_)
  refine lv_aload_n hx hb dX7_kicks_6 rfl (lv_at hl 0 rfl) ?_
  refine lv_iload_n hx hb dX7_kicks_7 rfl (lv_at hl 1 rfl) ?_
  refine lv_aload_n hx hb dX7_kicks_8 rfl (lv_at hl 2 rfl) ?_
  obtain ⟨r_5, σ_4, hc_3, h⟩ := bi_of h
  refine cg_ (v := .int r_5) (rSU_ (nn := 2) (As := [.int x1, .ref (a 29)]) (rest := []) X xkC I (c_C10_kicks_k4 hc_3 H.size) gBX7_kicks_X10_kicks_s21 rfl ⟨rfl, rfl⟩ (by decide +kernel) ⟨Nat.le_of_ble_eq_true rfl, Nat.le_of_ble_eq_true rfl⟩ (by decide) shC_18 rfl rfl hl.1 rfl (Nat.le_of_ble_eq_true rfl) dX7_kicks_9) I (fun H locs I => ?_)
  refine lv_bipush (v := 6) hx hb dX7_kicks_12 (by decide) ?_
  refine lv_ixor hx hb dX7_kicks_14 ?_
  obtain ⟨rfl, rfl⟩ := re_s h
  exact rti_ X I dX7_kicks_15
theorem c_C7_kicks_k4 {l : Launch} {D : va_G} {cy : Nat → ClassId} {a gs : Nat → Nat} {σ : Sg} {x1 : Int32} {r0 : Int32} {σ' : Sg} (h : C7_kicks_k4_0 σ x1 = some (r0, σ')) (sz : Nat) : Met l yX7_kicks wB_X7_kicks ({ frames := 3, cells := 0, slots := 0, locals := 65 }) (va_Pc [.ref (a 18), .int x1, .ref (a 29)] (pr_ 59 a D cy (shC cy a σ) (xfC gs) sz)) (qg_ 59 a D (shC cy a σ') (some (.int r0)) sz) 0 0 (fr_ 59 a sz) := by
  refine ent_ (by decide) rfl (Nat.le_of_ble_eq_true rfl) ?_
  intro p e s m below meth c ls hsz X I hl
  subst hsz
  exact kC7_kicks_k4_0 X σ x1 s.heap [] ls h I hl

def C0_kicks_k5_0  (σ : Sg) (x1 : Int32) : Option (Int32 × Sg) :=
  bi_ (C4_runs_0 σ (10 : Int32)) fun _ σ_2 =>
  some (((x1 * (9 : Int32)) - (rd_ σ_2 29 2)), σ_2)
set_option maxRecDepth 100000 in
theorem kC0_kicks_k5_0 {p : Program} {l : Launch} {e : Env} {s : State} {m : MethodId} {args : Array Value} {below : List Frame} {meth : Method} {c : Code} {D : va_G} {cy : Nat → ClassId} {a gs : Nat → Nat} (X : cx_ cX0_kicks RX0 wB_X0_kicks 3 (some .int) 59 a D cy (xfC gs) p s m args meth c)  {r0 : Int32} {σ' : Sg}  : ∀ (σ : Sg) (x1 : Int32) (H : Heap) (locs : List Loc) (ls : Array Slot), C0_kicks_k5_0 σ x1 = some (r0, σ') → iv_ 59 a D (shC cy a σ) s H locs → lv_has ls 3 [(0, .ref (a 19)), (1, .int x1), (2, .ref (a 29))] → W p l e ({ frames := 1, cells := 0, slots := 0, locals := 21 }) s m args below meth c H locs 0 0 (MQ below (qg_ 59 a D (shC cy a σ') (some (.int r0)) s.heap.size) args s 0 0 (fr_ 59 a s.heap.size)) (F0 m 0 ls []) := by
  obtain ⟨hx, hb, hr, hml, hown, hts, hlk, hK, hA, hXf⟩ := id X
  intro σ x1 H locs ls h I hl
  unfold C0_kicks_k5_0 at h
  refine lv_aload_n hx hb dX0_kicks_0 rfl (lv_at hl 2 rfl) ?_
  refine lv_bipush (v := 10) hx hb dX0_kicks_1 (by decide) ?_
  obtain ⟨_, σ_2, hc_1, h⟩ := bi_of h
  refine cv_ (rV_ (nn := 1) (As := [.int (10 : Int32)]) (rest := []) X xkC I (c_C4_runs hc_1 H.size) gBX0_kicks_X4_runs rfl ⟨rfl, rfl⟩ (by decide +kernel) ⟨Nat.le_of_ble_eq_true rfl, Nat.le_of_ble_eq_true rfl⟩ (by decide) shC_29 rfl rfl hl.1 rfl (Nat.le_of_ble_eq_true rfl) dX0_kicks_3) I (fun H locs I => ?_)
  refine lv_iload_n hx hb dX0_kicks_6 rfl (lv_at hl 1 rfl) ?_
  refine lv_bipush (v := 9) hx hb dX0_kicks_7 (by decide) ?_
  refine lv_imul hx hb dX0_kicks_9 ?_
  refine lv_aload_n hx hb dX0_kicks_10 rfl (lv_at hl 2 rfl) ?_
  refine ig_ (index := 13) X I (fun _ q => List.mem_cons_of_mem _ (hinB_X4 _ q)) 29 (by decide) shC_29 rfl 2 (by decide) (by decide +kernel) rfl (v := .int (rd_ σ_2 29 2)) rfl dX0_kicks_11 ?_
  refine lv_isub hx hb dX0_kicks_14 ?_
  obtain ⟨rfl, rfl⟩ := re_s h
  exact rti_ X I dX0_kicks_15
theorem c_C0_kicks_k5 {l : Launch} {D : va_G} {cy : Nat → ClassId} {a gs : Nat → Nat} {σ : Sg} {x1 : Int32} {r0 : Int32} {σ' : Sg} (h : C0_kicks_k5_0 σ x1 = some (r0, σ')) (sz : Nat) : Met l yX0_kicks wB_X0_kicks ({ frames := 1, cells := 0, slots := 0, locals := 21 }) (va_Pc [.ref (a 19), .int x1, .ref (a 29)] (pr_ 59 a D cy (shC cy a σ) (xfC gs) sz)) (qg_ 59 a D (shC cy a σ') (some (.int r0)) sz) 0 0 (fr_ 59 a sz) := by
  refine ent_ (by decide) rfl (Nat.le_of_ble_eq_true rfl) ?_
  intro p e s m below meth c ls hsz X I hl
  subst hsz
  exact kC0_kicks_k5_0 X σ x1 s.heap [] ls h I hl

def C0_prays_k0_0  (σ : Sg) (x1 : Int32) : Option (Int32 × Sg) :=
  bi_ (C4_runs_0 σ (11 : Int32)) fun _ σ_2 =>
  bi_ (C0_kicks_k0_0 σ_2 x1) fun r_5 σ_4 =>
  some ((r_5 - ((rd_ σ_4 29 3) * (2 : Int32))), σ_4)
set_option maxRecDepth 100000 in
theorem kC0_prays_k0_0 {p : Program} {l : Launch} {e : Env} {s : State} {m : MethodId} {args : Array Value} {below : List Frame} {meth : Method} {c : Code} {D : va_G} {cy : Nat → ClassId} {a gs : Nat → Nat} (X : cx_ cX0_prays RX0 wB_X0_prays 3 (some .int) 59 a D cy (xfC gs) p s m args meth c)  {r0 : Int32} {σ' : Sg}  : ∀ (σ : Sg) (x1 : Int32) (H : Heap) (locs : List Loc) (ls : Array Slot), C0_prays_k0_0 σ x1 = some (r0, σ') → iv_ 59 a D (shC cy a σ) s H locs → lv_has ls 3 [(0, .ref (a 14)), (1, .int x1), (2, .ref (a 29))] → W p l e ({ frames := 2, cells := 0, slots := 0, locals := 43 }) s m args below meth c H locs 0 0 (MQ below (qg_ 59 a D (shC cy a σ') (some (.int r0)) s.heap.size) args s 0 0 (fr_ 59 a s.heap.size)) (F0 m 0 ls []) := by
  obtain ⟨hx, hb, hr, hml, hown, hts, hlk, hK, hA, hXf⟩ := id X
  intro σ x1 H locs ls h I hl
  unfold C0_prays_k0_0 at h
  refine lv_aload_n hx hb dX0_prays_0 rfl (lv_at hl 2 rfl) ?_
  refine lv_bipush (v := 11) hx hb dX0_prays_1 (by decide) ?_
  obtain ⟨_, σ_2, hc_1, h⟩ := bi_of h
  refine cv_ (rV_ (nn := 1) (As := [.int (11 : Int32)]) (rest := []) X xkC I (c_C4_runs hc_1 H.size) gBX0_prays_X4_runs rfl ⟨rfl, rfl⟩ (by decide +kernel) ⟨Nat.le_of_ble_eq_true rfl, Nat.le_of_ble_eq_true rfl⟩ (by decide) shC_29 rfl rfl hl.1 rfl (Nat.le_of_ble_eq_true rfl) dX0_prays_3) I (fun H locs I => ?_)
  refine lv_aload_n hx hb dX0_prays_6 rfl (lv_at hl 0 rfl) ?_
  refine lv_iload_n hx hb dX0_prays_7 rfl (lv_at hl 1 rfl) ?_
  refine lv_aload_n hx hb dX0_prays_8 rfl (lv_at hl 2 rfl) ?_
  obtain ⟨r_5, σ_4, hc_3, h⟩ := bi_of h
  refine cg_ (v := .int r_5) (rV_ (nn := 2) (As := [.int x1, .ref (a 29)]) (rest := []) X xkC I (c_C0_kicks_k0 hc_3 H.size) gBX0_prays_X0_kicks rfl ⟨rfl, rfl⟩ (by decide +kernel) ⟨Nat.le_of_ble_eq_true rfl, Nat.le_of_ble_eq_true rfl⟩ (by decide) shC_14 rfl rfl hl.1 rfl (Nat.le_of_ble_eq_true rfl) dX0_prays_9) I (fun H locs I => ?_)
  refine lv_aload_n hx hb dX0_prays_12 rfl (lv_at hl 2 rfl) ?_
  refine ig_ (index := 23) X I (fun _ q => List.mem_cons_of_mem _ (hinB_X4 _ q)) 29 (by decide) shC_29 rfl 3 (by decide) (by decide +kernel) rfl (v := .int (rd_ σ_4 29 3)) rfl dX0_prays_13 ?_
  refine lv_iconst (v := 2) hx hb dX0_prays_16 (by decide) ?_
  refine lv_imul hx hb dX0_prays_17 ?_
  refine lv_isub hx hb dX0_prays_18 ?_
  obtain ⟨rfl, rfl⟩ := re_s h
  exact rti_ X I dX0_prays_19
theorem c_C0_prays_k0 {l : Launch} {D : va_G} {cy : Nat → ClassId} {a gs : Nat → Nat} {σ : Sg} {x1 : Int32} {r0 : Int32} {σ' : Sg} (h : C0_prays_k0_0 σ x1 = some (r0, σ')) (sz : Nat) : Met l yX0_prays wB_X0_prays ({ frames := 2, cells := 0, slots := 0, locals := 43 }) (va_Pc [.ref (a 14), .int x1, .ref (a 29)] (pr_ 59 a D cy (shC cy a σ) (xfC gs) sz)) (qg_ 59 a D (shC cy a σ') (some (.int r0)) sz) 0 0 (fr_ 59 a sz) := by
  refine ent_ (by decide) rfl (Nat.le_of_ble_eq_true rfl) ?_
  intro p e s m below meth c ls hsz X I hl
  subst hsz
  exact kC0_prays_k0_0 X σ x1 s.heap [] ls h I hl

def C0_prays_k1_0  (σ : Sg) (x1 : Int32) : Option (Int32 × Sg) :=
  bi_ (C4_runs_0 σ (11 : Int32)) fun _ σ_2 =>
  bi_ (C0_kicks_k1_0 σ_2 x1) fun r_5 σ_4 =>
  some ((r_5 - ((rd_ σ_4 29 3) * (2 : Int32))), σ_4)
set_option maxRecDepth 100000 in
theorem kC0_prays_k1_0 {p : Program} {l : Launch} {e : Env} {s : State} {m : MethodId} {args : Array Value} {below : List Frame} {meth : Method} {c : Code} {D : va_G} {cy : Nat → ClassId} {a gs : Nat → Nat} (X : cx_ cX0_prays RX0 wB_X0_prays 3 (some .int) 59 a D cy (xfC gs) p s m args meth c)  {r0 : Int32} {σ' : Sg}  : ∀ (σ : Sg) (x1 : Int32) (H : Heap) (locs : List Loc) (ls : Array Slot), C0_prays_k1_0 σ x1 = some (r0, σ') → iv_ 59 a D (shC cy a σ) s H locs → lv_has ls 3 [(0, .ref (a 15)), (1, .int x1), (2, .ref (a 29))] → W p l e ({ frames := 2, cells := 0, slots := 0, locals := 43 }) s m args below meth c H locs 0 0 (MQ below (qg_ 59 a D (shC cy a σ') (some (.int r0)) s.heap.size) args s 0 0 (fr_ 59 a s.heap.size)) (F0 m 0 ls []) := by
  obtain ⟨hx, hb, hr, hml, hown, hts, hlk, hK, hA, hXf⟩ := id X
  intro σ x1 H locs ls h I hl
  unfold C0_prays_k1_0 at h
  refine lv_aload_n hx hb dX0_prays_0 rfl (lv_at hl 2 rfl) ?_
  refine lv_bipush (v := 11) hx hb dX0_prays_1 (by decide) ?_
  obtain ⟨_, σ_2, hc_1, h⟩ := bi_of h
  refine cv_ (rV_ (nn := 1) (As := [.int (11 : Int32)]) (rest := []) X xkC I (c_C4_runs hc_1 H.size) gBX0_prays_X4_runs rfl ⟨rfl, rfl⟩ (by decide +kernel) ⟨Nat.le_of_ble_eq_true rfl, Nat.le_of_ble_eq_true rfl⟩ (by decide) shC_29 rfl rfl hl.1 rfl (Nat.le_of_ble_eq_true rfl) dX0_prays_3) I (fun H locs I => ?_)
  refine lv_aload_n hx hb dX0_prays_6 rfl (lv_at hl 0 rfl) ?_
  refine lv_iload_n hx hb dX0_prays_7 rfl (lv_at hl 1 rfl) ?_
  refine lv_aload_n hx hb dX0_prays_8 rfl (lv_at hl 2 rfl) ?_
  obtain ⟨r_5, σ_4, hc_3, h⟩ := bi_of h
  refine cg_ (v := .int r_5) (rU_ (nn := 2) (As := [.int x1, .ref (a 29)]) (rest := []) X xkC I (c_C0_kicks_k1 hc_3 H.size) gBX0_prays_X0_kicks_u17X5 rfl ⟨rfl, rfl⟩ rfl (by decide +kernel) ⟨Nat.le_of_ble_eq_true rfl, Nat.le_of_ble_eq_true rfl⟩ (by decide) shC_15 rfl rfl hl.1 rfl (Nat.le_of_ble_eq_true rfl) dX0_prays_9) I (fun H locs I => ?_)
  refine lv_aload_n hx hb dX0_prays_12 rfl (lv_at hl 2 rfl) ?_
  refine ig_ (index := 23) X I (fun _ q => List.mem_cons_of_mem _ (hinB_X4 _ q)) 29 (by decide) shC_29 rfl 3 (by decide) (by decide +kernel) rfl (v := .int (rd_ σ_4 29 3)) rfl dX0_prays_13 ?_
  refine lv_iconst (v := 2) hx hb dX0_prays_16 (by decide) ?_
  refine lv_imul hx hb dX0_prays_17 ?_
  refine lv_isub hx hb dX0_prays_18 ?_
  obtain ⟨rfl, rfl⟩ := re_s h
  exact rti_ X I dX0_prays_19
theorem c_C0_prays_k1 {l : Launch} {D : va_G} {cy : Nat → ClassId} {a gs : Nat → Nat} {σ : Sg} {x1 : Int32} {r0 : Int32} {σ' : Sg} (h : C0_prays_k1_0 σ x1 = some (r0, σ')) (sz : Nat) : Met l yX0_prays wB_X0_prays ({ frames := 2, cells := 0, slots := 0, locals := 43 }) (va_Pc [.ref (a 15), .int x1, .ref (a 29)] (pr_ 59 a D cy (shC cy a σ) (xfC gs) sz)) (qg_ 59 a D (shC cy a σ') (some (.int r0)) sz) 0 0 (fr_ 59 a sz) := by
  refine ent_ (by decide) rfl (Nat.le_of_ble_eq_true rfl) ?_
  intro p e s m below meth c ls hsz X I hl
  subst hsz
  exact kC0_prays_k1_0 X σ x1 s.heap [] ls h I hl

def C5_prays_k1_0  (σ : Sg) (x1 : Int32) : Option (Int32 × Sg) :=
  bi_ (C4_runs_0 σ (20 : Int32)) fun _ σ_2 =>
  bi_ (C0_prays_k1_0 σ_2 x1) fun r_5 σ_4 =>
  some ((r_5 + (3 : Int32)), σ_4)
set_option maxRecDepth 100000 in
theorem kC5_prays_k1_0 {p : Program} {l : Launch} {e : Env} {s : State} {m : MethodId} {args : Array Value} {below : List Frame} {meth : Method} {c : Code} {D : va_G} {cy : Nat → ClassId} {a gs : Nat → Nat} (X : cx_ cX5_prays RX5 wB_X5_prays 3 (some .int) 59 a D cy (xfC gs) p s m args meth c)  {r0 : Int32} {σ' : Sg}  : ∀ (σ : Sg) (x1 : Int32) (H : Heap) (locs : List Loc) (ls : Array Slot), C5_prays_k1_0 σ x1 = some (r0, σ') → iv_ 59 a D (shC cy a σ) s H locs → lv_has ls 3 [(0, .ref (a 15)), (1, .int x1), (2, .ref (a 29))] → W p l e ({ frames := 3, cells := 0, slots := 0, locals := 65 }) s m args below meth c H locs 0 0 (MQ below (qg_ 59 a D (shC cy a σ') (some (.int r0)) s.heap.size) args s 0 0 (fr_ 59 a s.heap.size)) (F0 m 0 ls []) := by
  obtain ⟨hx, hb, hr, hml, hown, hts, hlk, hK, hA, hXf⟩ := id X
  intro σ x1 H locs ls h I hl
  unfold C5_prays_k1_0 at h
  refine lv_aload_n hx hb dX5_prays_0 rfl (lv_at hl 2 rfl) ?_
  refine lv_bipush (v := 20) hx hb dX5_prays_1 (by decide) ?_
  obtain ⟨_, σ_2, hc_1, h⟩ := bi_of h
  refine cv_ (rV_ (nn := 1) (As := [.int (20 : Int32)]) (rest := []) X xkC I (c_C4_runs hc_1 H.size) gBX5_prays_X4_runs rfl ⟨rfl, rfl⟩ (by decide +kernel) ⟨Nat.le_of_ble_eq_true rfl, Nat.le_of_ble_eq_true rfl⟩ (by decide) shC_29 rfl rfl hl.1 rfl (Nat.le_of_ble_eq_true rfl) dX5_prays_3) I (fun H locs I => ?_)
  refine lv_aload_n hx hb dX5_prays_6 rfl (lv_at hl 0 rfl) ?_
  refine lv_iload_n hx hb dX5_prays_7 rfl (lv_at hl 1 rfl) ?_
  refine lv_aload_n hx hb dX5_prays_8 rfl (lv_at hl 2 rfl) ?_
  obtain ⟨r_5, σ_4, hc_3, h⟩ := bi_of h
  refine cg_ (v := .int r_5) (rSU_ (nn := 2) (As := [.int x1, .ref (a 29)]) (rest := []) X xkC I (c_C0_prays_k1 hc_3 H.size) gBX5_prays_X0_prays_s21 rfl ⟨rfl, rfl⟩ (by decide +kernel) ⟨Nat.le_of_ble_eq_true rfl, Nat.le_of_ble_eq_true rfl⟩ (by decide) shC_15 rfl rfl hl.1 rfl (Nat.le_of_ble_eq_true rfl) dX5_prays_9) I (fun H locs I => ?_)
  refine lv_iconst (v := 3) hx hb dX5_prays_12 (by decide) ?_
  refine lv_iadd hx hb dX5_prays_13 ?_
  obtain ⟨rfl, rfl⟩ := re_s h
  exact rti_ X I dX5_prays_14
theorem c_C5_prays_k1 {l : Launch} {D : va_G} {cy : Nat → ClassId} {a gs : Nat → Nat} {σ : Sg} {x1 : Int32} {r0 : Int32} {σ' : Sg} (h : C5_prays_k1_0 σ x1 = some (r0, σ')) (sz : Nat) : Met l yX5_prays wB_X5_prays ({ frames := 3, cells := 0, slots := 0, locals := 65 }) (va_Pc [.ref (a 15), .int x1, .ref (a 29)] (pr_ 59 a D cy (shC cy a σ) (xfC gs) sz)) (qg_ 59 a D (shC cy a σ') (some (.int r0)) sz) 0 0 (fr_ 59 a sz) := by
  refine ent_ (by decide) rfl (Nat.le_of_ble_eq_true rfl) ?_
  intro p e s m below meth c ls hsz X I hl
  subst hsz
  exact kC5_prays_k1_0 X σ x1 s.heap [] ls h I hl

def C0_prays_k2_0  (σ : Sg) (x1 : Int32) : Option (Int32 × Sg) :=
  bi_ (C4_runs_0 σ (11 : Int32)) fun _ σ_2 =>
  bi_ (C10_kicks_k2_0 σ_2 x1) fun r_5 σ_4 =>
  some ((r_5 - ((rd_ σ_4 29 3) * (2 : Int32))), σ_4)
set_option maxRecDepth 100000 in
theorem kC0_prays_k2_0 {p : Program} {l : Launch} {e : Env} {s : State} {m : MethodId} {args : Array Value} {below : List Frame} {meth : Method} {c : Code} {D : va_G} {cy : Nat → ClassId} {a gs : Nat → Nat} (X : cx_ cX0_prays RX0 wB_X0_prays 3 (some .int) 59 a D cy (xfC gs) p s m args meth c)  {r0 : Int32} {σ' : Sg}  : ∀ (σ : Sg) (x1 : Int32) (H : Heap) (locs : List Loc) (ls : Array Slot), C0_prays_k2_0 σ x1 = some (r0, σ') → iv_ 59 a D (shC cy a σ) s H locs → lv_has ls 3 [(0, .ref (a 16)), (1, .int x1), (2, .ref (a 29))] → W p l e ({ frames := 3, cells := 0, slots := 0, locals := 65 }) s m args below meth c H locs 0 0 (MQ below (qg_ 59 a D (shC cy a σ') (some (.int r0)) s.heap.size) args s 0 0 (fr_ 59 a s.heap.size)) (F0 m 0 ls []) := by
  obtain ⟨hx, hb, hr, hml, hown, hts, hlk, hK, hA, hXf⟩ := id X
  intro σ x1 H locs ls h I hl
  unfold C0_prays_k2_0 at h
  refine lv_aload_n hx hb dX0_prays_0 rfl (lv_at hl 2 rfl) ?_
  refine lv_bipush (v := 11) hx hb dX0_prays_1 (by decide) ?_
  obtain ⟨_, σ_2, hc_1, h⟩ := bi_of h
  refine cv_ (rV_ (nn := 1) (As := [.int (11 : Int32)]) (rest := []) X xkC I (c_C4_runs hc_1 H.size) gBX0_prays_X4_runs rfl ⟨rfl, rfl⟩ (by decide +kernel) ⟨Nat.le_of_ble_eq_true rfl, Nat.le_of_ble_eq_true rfl⟩ (by decide) shC_29 rfl rfl hl.1 rfl (Nat.le_of_ble_eq_true rfl) dX0_prays_3) I (fun H locs I => ?_)
  refine lv_aload_n hx hb dX0_prays_6 rfl (lv_at hl 0 rfl) ?_
  refine lv_iload_n hx hb dX0_prays_7 rfl (lv_at hl 1 rfl) ?_
  refine lv_aload_n hx hb dX0_prays_8 rfl (lv_at hl 2 rfl) ?_
  obtain ⟨r_5, σ_4, hc_3, h⟩ := bi_of h
  refine cg_ (v := .int r_5) (rO_ (nn := 2) (As := [.int x1, .ref (a 29)]) (rest := []) (b0 := cX0_kicks) (m0 := 3) (r0 := (some .int)) X xkC I (c_C10_kicks_k2 hc_3 H.size) gBX0_prays_X10_kicks_u17X10 rfl ⟨rfl, rfl⟩ (by decide +kernel) (by decide +kernel) ⟨Nat.le_of_ble_eq_true rfl, Nat.le_of_ble_eq_true rfl⟩ (by decide) shC_16 rfl rfl hl.1 rfl (Nat.le_of_ble_eq_true rfl) dX0_prays_9) I (fun H locs I => ?_)
  refine lv_aload_n hx hb dX0_prays_12 rfl (lv_at hl 2 rfl) ?_
  refine ig_ (index := 23) X I (fun _ q => List.mem_cons_of_mem _ (hinB_X4 _ q)) 29 (by decide) shC_29 rfl 3 (by decide) (by decide +kernel) rfl (v := .int (rd_ σ_4 29 3)) rfl dX0_prays_13 ?_
  refine lv_iconst (v := 2) hx hb dX0_prays_16 (by decide) ?_
  refine lv_imul hx hb dX0_prays_17 ?_
  refine lv_isub hx hb dX0_prays_18 ?_
  obtain ⟨rfl, rfl⟩ := re_s h
  exact rti_ X I dX0_prays_19
theorem c_C0_prays_k2 {l : Launch} {D : va_G} {cy : Nat → ClassId} {a gs : Nat → Nat} {σ : Sg} {x1 : Int32} {r0 : Int32} {σ' : Sg} (h : C0_prays_k2_0 σ x1 = some (r0, σ')) (sz : Nat) : Met l yX0_prays wB_X0_prays ({ frames := 3, cells := 0, slots := 0, locals := 65 }) (va_Pc [.ref (a 16), .int x1, .ref (a 29)] (pr_ 59 a D cy (shC cy a σ) (xfC gs) sz)) (qg_ 59 a D (shC cy a σ') (some (.int r0)) sz) 0 0 (fr_ 59 a sz) := by
  refine ent_ (by decide) rfl (Nat.le_of_ble_eq_true rfl) ?_
  intro p e s m below meth c ls hsz X I hl
  subst hsz
  exact kC0_prays_k2_0 X σ x1 s.heap [] ls h I hl

def C0_prays_k3_0  (σ : Sg) (x1 : Int32) : Option (Int32 × Sg) :=
  bi_ (C4_runs_0 σ (11 : Int32)) fun _ σ_2 =>
  bi_ (C3_kicks_k3_0 σ_2 x1) fun r_5 σ_4 =>
  some ((r_5 - ((rd_ σ_4 29 3) * (2 : Int32))), σ_4)
set_option maxRecDepth 100000 in
theorem kC0_prays_k3_0 {p : Program} {l : Launch} {e : Env} {s : State} {m : MethodId} {args : Array Value} {below : List Frame} {meth : Method} {c : Code} {D : va_G} {cy : Nat → ClassId} {a gs : Nat → Nat} (X : cx_ cX0_prays RX0 wB_X0_prays 3 (some .int) 59 a D cy (xfC gs) p s m args meth c)  {r0 : Int32} {σ' : Sg}  : ∀ (σ : Sg) (x1 : Int32) (H : Heap) (locs : List Loc) (ls : Array Slot), C0_prays_k3_0 σ x1 = some (r0, σ') → iv_ 59 a D (shC cy a σ) s H locs → lv_has ls 3 [(0, .ref (a 17)), (1, .int x1), (2, .ref (a 29))] → W p l e ({ frames := 3, cells := 0, slots := 0, locals := 65 }) s m args below meth c H locs 0 0 (MQ below (qg_ 59 a D (shC cy a σ') (some (.int r0)) s.heap.size) args s 0 0 (fr_ 59 a s.heap.size)) (F0 m 0 ls []) := by
  obtain ⟨hx, hb, hr, hml, hown, hts, hlk, hK, hA, hXf⟩ := id X
  intro σ x1 H locs ls h I hl
  unfold C0_prays_k3_0 at h
  refine lv_aload_n hx hb dX0_prays_0 rfl (lv_at hl 2 rfl) ?_
  refine lv_bipush (v := 11) hx hb dX0_prays_1 (by decide) ?_
  obtain ⟨_, σ_2, hc_1, h⟩ := bi_of h
  refine cv_ (rV_ (nn := 1) (As := [.int (11 : Int32)]) (rest := []) X xkC I (c_C4_runs hc_1 H.size) gBX0_prays_X4_runs rfl ⟨rfl, rfl⟩ (by decide +kernel) ⟨Nat.le_of_ble_eq_true rfl, Nat.le_of_ble_eq_true rfl⟩ (by decide) shC_29 rfl rfl hl.1 rfl (Nat.le_of_ble_eq_true rfl) dX0_prays_3) I (fun H locs I => ?_)
  refine lv_aload_n hx hb dX0_prays_6 rfl (lv_at hl 0 rfl) ?_
  refine lv_iload_n hx hb dX0_prays_7 rfl (lv_at hl 1 rfl) ?_
  refine lv_aload_n hx hb dX0_prays_8 rfl (lv_at hl 2 rfl) ?_
  obtain ⟨r_5, σ_4, hc_3, h⟩ := bi_of h
  refine cg_ (v := .int r_5) (rO_ (nn := 2) (As := [.int x1, .ref (a 29)]) (rest := []) (b0 := cX0_kicks) (m0 := 3) (r0 := (some .int)) X xkC I (c_C3_kicks_k3 hc_3 H.size) gBX0_prays_X3_kicks_u17X3 rfl ⟨rfl, rfl⟩ (by decide +kernel) (by decide +kernel) ⟨Nat.le_of_ble_eq_true rfl, Nat.le_of_ble_eq_true rfl⟩ (by decide) shC_17 rfl rfl hl.1 rfl (Nat.le_of_ble_eq_true rfl) dX0_prays_9) I (fun H locs I => ?_)
  refine lv_aload_n hx hb dX0_prays_12 rfl (lv_at hl 2 rfl) ?_
  refine ig_ (index := 23) X I (fun _ q => List.mem_cons_of_mem _ (hinB_X4 _ q)) 29 (by decide) shC_29 rfl 3 (by decide) (by decide +kernel) rfl (v := .int (rd_ σ_4 29 3)) rfl dX0_prays_13 ?_
  refine lv_iconst (v := 2) hx hb dX0_prays_16 (by decide) ?_
  refine lv_imul hx hb dX0_prays_17 ?_
  refine lv_isub hx hb dX0_prays_18 ?_
  obtain ⟨rfl, rfl⟩ := re_s h
  exact rti_ X I dX0_prays_19
theorem c_C0_prays_k3 {l : Launch} {D : va_G} {cy : Nat → ClassId} {a gs : Nat → Nat} {σ : Sg} {x1 : Int32} {r0 : Int32} {σ' : Sg} (h : C0_prays_k3_0 σ x1 = some (r0, σ')) (sz : Nat) : Met l yX0_prays wB_X0_prays ({ frames := 3, cells := 0, slots := 0, locals := 65 }) (va_Pc [.ref (a 17), .int x1, .ref (a 29)] (pr_ 59 a D cy (shC cy a σ) (xfC gs) sz)) (qg_ 59 a D (shC cy a σ') (some (.int r0)) sz) 0 0 (fr_ 59 a sz) := by
  refine ent_ (by decide) rfl (Nat.le_of_ble_eq_true rfl) ?_
  intro p e s m below meth c ls hsz X I hl
  subst hsz
  exact kC0_prays_k3_0 X σ x1 s.heap [] ls h I hl

def C5_prays_k3_0  (σ : Sg) (x1 : Int32) : Option (Int32 × Sg) :=
  bi_ (C4_runs_0 σ (20 : Int32)) fun _ σ_2 =>
  bi_ (C0_prays_k3_0 σ_2 x1) fun r_5 σ_4 =>
  some ((r_5 + (3 : Int32)), σ_4)
set_option maxRecDepth 100000 in
theorem kC5_prays_k3_0 {p : Program} {l : Launch} {e : Env} {s : State} {m : MethodId} {args : Array Value} {below : List Frame} {meth : Method} {c : Code} {D : va_G} {cy : Nat → ClassId} {a gs : Nat → Nat} (X : cx_ cX5_prays RX5 wB_X5_prays 3 (some .int) 59 a D cy (xfC gs) p s m args meth c)  {r0 : Int32} {σ' : Sg}  : ∀ (σ : Sg) (x1 : Int32) (H : Heap) (locs : List Loc) (ls : Array Slot), C5_prays_k3_0 σ x1 = some (r0, σ') → iv_ 59 a D (shC cy a σ) s H locs → lv_has ls 3 [(0, .ref (a 17)), (1, .int x1), (2, .ref (a 29))] → W p l e ({ frames := 4, cells := 0, slots := 0, locals := 87 }) s m args below meth c H locs 0 0 (MQ below (qg_ 59 a D (shC cy a σ') (some (.int r0)) s.heap.size) args s 0 0 (fr_ 59 a s.heap.size)) (F0 m 0 ls []) := by
  obtain ⟨hx, hb, hr, hml, hown, hts, hlk, hK, hA, hXf⟩ := id X
  intro σ x1 H locs ls h I hl
  unfold C5_prays_k3_0 at h
  refine lv_aload_n hx hb dX5_prays_0 rfl (lv_at hl 2 rfl) ?_
  refine lv_bipush (v := 20) hx hb dX5_prays_1 (by decide) ?_
  obtain ⟨_, σ_2, hc_1, h⟩ := bi_of h
  refine cv_ (rV_ (nn := 1) (As := [.int (20 : Int32)]) (rest := []) X xkC I (c_C4_runs hc_1 H.size) gBX5_prays_X4_runs rfl ⟨rfl, rfl⟩ (by decide +kernel) ⟨Nat.le_of_ble_eq_true rfl, Nat.le_of_ble_eq_true rfl⟩ (by decide) shC_29 rfl rfl hl.1 rfl (Nat.le_of_ble_eq_true rfl) dX5_prays_3) I (fun H locs I => ?_)
  refine lv_aload_n hx hb dX5_prays_6 rfl (lv_at hl 0 rfl) ?_
  refine lv_iload_n hx hb dX5_prays_7 rfl (lv_at hl 1 rfl) ?_
  refine lv_aload_n hx hb dX5_prays_8 rfl (lv_at hl 2 rfl) ?_
  obtain ⟨r_5, σ_4, hc_3, h⟩ := bi_of h
  refine cg_ (v := .int r_5) (rSU_ (nn := 2) (As := [.int x1, .ref (a 29)]) (rest := []) X xkC I (c_C0_prays_k3 hc_3 H.size) gBX5_prays_X0_prays_s21 rfl ⟨rfl, rfl⟩ (by decide +kernel) ⟨Nat.le_of_ble_eq_true rfl, Nat.le_of_ble_eq_true rfl⟩ (by decide) shC_17 rfl rfl hl.1 rfl (Nat.le_of_ble_eq_true rfl) dX5_prays_9) I (fun H locs I => ?_)
  refine lv_iconst (v := 3) hx hb dX5_prays_12 (by decide) ?_
  refine lv_iadd hx hb dX5_prays_13 ?_
  obtain ⟨rfl, rfl⟩ := re_s h
  exact rti_ X I dX5_prays_14
theorem c_C5_prays_k3 {l : Launch} {D : va_G} {cy : Nat → ClassId} {a gs : Nat → Nat} {σ : Sg} {x1 : Int32} {r0 : Int32} {σ' : Sg} (h : C5_prays_k3_0 σ x1 = some (r0, σ')) (sz : Nat) : Met l yX5_prays wB_X5_prays ({ frames := 4, cells := 0, slots := 0, locals := 87 }) (va_Pc [.ref (a 17), .int x1, .ref (a 29)] (pr_ 59 a D cy (shC cy a σ) (xfC gs) sz)) (qg_ 59 a D (shC cy a σ') (some (.int r0)) sz) 0 0 (fr_ 59 a sz) := by
  refine ent_ (by decide) rfl (Nat.le_of_ble_eq_true rfl) ?_
  intro p e s m below meth c ls hsz X I hl
  subst hsz
  exact kC5_prays_k3_0 X σ x1 s.heap [] ls h I hl

def C0_prays_k4_0  (σ : Sg) (x1 : Int32) : Option (Int32 × Sg) :=
  bi_ (C4_runs_0 σ (11 : Int32)) fun _ σ_2 =>
  bi_ (C7_kicks_k4_0 σ_2 x1) fun r_5 σ_4 =>
  some ((r_5 - ((rd_ σ_4 29 3) * (2 : Int32))), σ_4)
set_option maxRecDepth 100000 in
theorem kC0_prays_k4_0 {p : Program} {l : Launch} {e : Env} {s : State} {m : MethodId} {args : Array Value} {below : List Frame} {meth : Method} {c : Code} {D : va_G} {cy : Nat → ClassId} {a gs : Nat → Nat} (X : cx_ cX0_prays RX0 wB_X0_prays 3 (some .int) 59 a D cy (xfC gs) p s m args meth c)  {r0 : Int32} {σ' : Sg}  : ∀ (σ : Sg) (x1 : Int32) (H : Heap) (locs : List Loc) (ls : Array Slot), C0_prays_k4_0 σ x1 = some (r0, σ') → iv_ 59 a D (shC cy a σ) s H locs → lv_has ls 3 [(0, .ref (a 18)), (1, .int x1), (2, .ref (a 29))] → W p l e ({ frames := 4, cells := 0, slots := 0, locals := 87 }) s m args below meth c H locs 0 0 (MQ below (qg_ 59 a D (shC cy a σ') (some (.int r0)) s.heap.size) args s 0 0 (fr_ 59 a s.heap.size)) (F0 m 0 ls []) := by
  obtain ⟨hx, hb, hr, hml, hown, hts, hlk, hK, hA, hXf⟩ := id X
  intro σ x1 H locs ls h I hl
  unfold C0_prays_k4_0 at h
  refine lv_aload_n hx hb dX0_prays_0 rfl (lv_at hl 2 rfl) ?_
  refine lv_bipush (v := 11) hx hb dX0_prays_1 (by decide) ?_
  obtain ⟨_, σ_2, hc_1, h⟩ := bi_of h
  refine cv_ (rV_ (nn := 1) (As := [.int (11 : Int32)]) (rest := []) X xkC I (c_C4_runs hc_1 H.size) gBX0_prays_X4_runs rfl ⟨rfl, rfl⟩ (by decide +kernel) ⟨Nat.le_of_ble_eq_true rfl, Nat.le_of_ble_eq_true rfl⟩ (by decide) shC_29 rfl rfl hl.1 rfl (Nat.le_of_ble_eq_true rfl) dX0_prays_3) I (fun H locs I => ?_)
  refine lv_aload_n hx hb dX0_prays_6 rfl (lv_at hl 0 rfl) ?_
  refine lv_iload_n hx hb dX0_prays_7 rfl (lv_at hl 1 rfl) ?_
  refine lv_aload_n hx hb dX0_prays_8 rfl (lv_at hl 2 rfl) ?_
  obtain ⟨r_5, σ_4, hc_3, h⟩ := bi_of h
  refine cg_ (v := .int r_5) (rO_ (nn := 2) (As := [.int x1, .ref (a 29)]) (rest := []) (b0 := cX0_kicks) (m0 := 3) (r0 := (some .int)) X xkC I (c_C7_kicks_k4 hc_3 H.size) gBX0_prays_X7_kicks_u17X7 rfl ⟨rfl, rfl⟩ (by decide +kernel) (by decide +kernel) ⟨Nat.le_of_ble_eq_true rfl, Nat.le_of_ble_eq_true rfl⟩ (by decide) shC_18 rfl rfl hl.1 rfl (Nat.le_of_ble_eq_true rfl) dX0_prays_9) I (fun H locs I => ?_)
  refine lv_aload_n hx hb dX0_prays_12 rfl (lv_at hl 2 rfl) ?_
  refine ig_ (index := 23) X I (fun _ q => List.mem_cons_of_mem _ (hinB_X4 _ q)) 29 (by decide) shC_29 rfl 3 (by decide) (by decide +kernel) rfl (v := .int (rd_ σ_4 29 3)) rfl dX0_prays_13 ?_
  refine lv_iconst (v := 2) hx hb dX0_prays_16 (by decide) ?_
  refine lv_imul hx hb dX0_prays_17 ?_
  refine lv_isub hx hb dX0_prays_18 ?_
  obtain ⟨rfl, rfl⟩ := re_s h
  exact rti_ X I dX0_prays_19
theorem c_C0_prays_k4 {l : Launch} {D : va_G} {cy : Nat → ClassId} {a gs : Nat → Nat} {σ : Sg} {x1 : Int32} {r0 : Int32} {σ' : Sg} (h : C0_prays_k4_0 σ x1 = some (r0, σ')) (sz : Nat) : Met l yX0_prays wB_X0_prays ({ frames := 4, cells := 0, slots := 0, locals := 87 }) (va_Pc [.ref (a 18), .int x1, .ref (a 29)] (pr_ 59 a D cy (shC cy a σ) (xfC gs) sz)) (qg_ 59 a D (shC cy a σ') (some (.int r0)) sz) 0 0 (fr_ 59 a sz) := by
  refine ent_ (by decide) rfl (Nat.le_of_ble_eq_true rfl) ?_
  intro p e s m below meth c ls hsz X I hl
  subst hsz
  exact kC0_prays_k4_0 X σ x1 s.heap [] ls h I hl

def C7_prays_k4_0  (σ : Sg) (x1 : Int32) : Option (Int32 × Sg) :=
  bi_ (C4_runs_0 σ (41 : Int32)) fun _ σ_2 =>
  bi_ (C0_prays_k4_0 σ_2 x1) fun r_5 σ_4 =>
  bi_ (C7_kicks_k4_0 σ_4 (rd_ σ_4 29 3)) fun r_8 σ_7 =>
  some ((r_5 - r_8), σ_7)
set_option maxRecDepth 100000 in
theorem kC7_prays_k4_0 {p : Program} {l : Launch} {e : Env} {s : State} {m : MethodId} {args : Array Value} {below : List Frame} {meth : Method} {c : Code} {D : va_G} {cy : Nat → ClassId} {a gs : Nat → Nat} (X : cx_ cX7_prays RX7 wB_X7_prays 3 (some .int) 59 a D cy (xfC gs) p s m args meth c)  {r0 : Int32} {σ' : Sg}  : ∀ (σ : Sg) (x1 : Int32) (H : Heap) (locs : List Loc) (ls : Array Slot), C7_prays_k4_0 σ x1 = some (r0, σ') → iv_ 59 a D (shC cy a σ) s H locs → lv_has ls 3 [(0, .ref (a 18)), (1, .int x1), (2, .ref (a 29))] → W p l e ({ frames := 5, cells := 0, slots := 0, locals := 109 }) s m args below meth c H locs 0 0 (MQ below (qg_ 59 a D (shC cy a σ') (some (.int r0)) s.heap.size) args s 0 0 (fr_ 59 a s.heap.size)) (F0 m 0 ls []) := by
  obtain ⟨hx, hb, hr, hml, hown, hts, hlk, hK, hA, hXf⟩ := id X
  intro σ x1 H locs ls h I hl
  unfold C7_prays_k4_0 at h
  refine lv_aload_n hx hb dX7_prays_0 rfl (lv_at hl 2 rfl) ?_
  refine lv_bipush (v := 41) hx hb dX7_prays_1 (by decide) ?_
  obtain ⟨_, σ_2, hc_1, h⟩ := bi_of h
  refine cv_ (rV_ (nn := 1) (As := [.int (41 : Int32)]) (rest := []) X xkC I (c_C4_runs hc_1 H.size) gBX7_prays_X4_runs rfl ⟨rfl, rfl⟩ (by decide +kernel) ⟨Nat.le_of_ble_eq_true rfl, Nat.le_of_ble_eq_true rfl⟩ (by decide) shC_29 rfl rfl hl.1 rfl (Nat.le_of_ble_eq_true rfl) dX7_prays_3) I (fun H locs I => ?_)
  refine lv_aload_n hx hb dX7_prays_6 rfl (lv_at hl 0 rfl) ?_
  refine lv_iload_n hx hb dX7_prays_7 rfl (lv_at hl 1 rfl) ?_
  refine lv_aload_n hx hb dX7_prays_8 rfl (lv_at hl 2 rfl) ?_
  obtain ⟨r_5, σ_4, hc_3, h⟩ := bi_of h
  refine cg_ (v := .int r_5) (rSX_ (nn := 2) (As := [.int x1, .ref (a 29)]) (rest := []) X xkC I (c_C0_prays_k4 hc_3 H.size) gBX7_prays_X0_prays_x25 rfl ⟨rfl, rfl⟩ rfl (by decide +kernel) ⟨Nat.le_of_ble_eq_true rfl, Nat.le_of_ble_eq_true rfl⟩ (by decide) shC_18 rfl rfl hl.1 rfl (Nat.le_of_ble_eq_true rfl) dX7_prays_9) I (fun H locs I => ?_)
  refine lv_aload_n hx hb dX7_prays_12 rfl (lv_at hl 0 rfl) ?_
  refine lv_aload_n hx hb dX7_prays_13 rfl (lv_at hl 2 rfl) ?_
  refine ig_ (index := 28) X I (fun _ q => List.mem_cons_of_mem _ (hinB_X4 _ q)) 29 (by decide) shC_29 rfl 3 (by decide) (by decide +kernel) rfl (v := .int (rd_ σ_4 29 3)) rfl dX7_prays_14 ?_
  refine lv_aload_n hx hb dX7_prays_17 rfl (lv_at hl 2 rfl) ?_
  obtain ⟨r_8, σ_7, hc_6, h⟩ := bi_of h
  refine cg_ (v := .int r_8) (rV_ (nn := 2) (As := [.int (rd_ σ_4 29 3), .ref (a 29)]) (rest := [.int r_5]) X xkC I (c_C7_kicks_k4 hc_6 H.size) gBX7_prays_X7_kicks rfl ⟨rfl, rfl⟩ (by decide +kernel) ⟨Nat.le_of_ble_eq_true rfl, Nat.le_of_ble_eq_true rfl⟩ (by decide) shC_18 rfl rfl hl.1 rfl (Nat.le_of_ble_eq_true rfl) dX7_prays_18) I (fun H locs I => ?_)
  refine lv_isub hx hb dX7_prays_21 ?_
  obtain ⟨rfl, rfl⟩ := re_s h
  exact rti_ X I dX7_prays_22
theorem c_C7_prays_k4 {l : Launch} {D : va_G} {cy : Nat → ClassId} {a gs : Nat → Nat} {σ : Sg} {x1 : Int32} {r0 : Int32} {σ' : Sg} (h : C7_prays_k4_0 σ x1 = some (r0, σ')) (sz : Nat) : Met l yX7_prays wB_X7_prays ({ frames := 5, cells := 0, slots := 0, locals := 109 }) (va_Pc [.ref (a 18), .int x1, .ref (a 29)] (pr_ 59 a D cy (shC cy a σ) (xfC gs) sz)) (qg_ 59 a D (shC cy a σ') (some (.int r0)) sz) 0 0 (fr_ 59 a sz) := by
  refine ent_ (by decide) rfl (Nat.le_of_ble_eq_true rfl) ?_
  intro p e s m below meth c ls hsz X I hl
  subst hsz
  exact kC7_prays_k4_0 X σ x1 s.heap [] ls h I hl

def C0_prays_k5_0  (σ : Sg) (x1 : Int32) : Option (Int32 × Sg) :=
  bi_ (C4_runs_0 σ (11 : Int32)) fun _ σ_2 =>
  bi_ (C0_kicks_k5_0 σ_2 x1) fun r_5 σ_4 =>
  some ((r_5 - ((rd_ σ_4 29 3) * (2 : Int32))), σ_4)
set_option maxRecDepth 100000 in
theorem kC0_prays_k5_0 {p : Program} {l : Launch} {e : Env} {s : State} {m : MethodId} {args : Array Value} {below : List Frame} {meth : Method} {c : Code} {D : va_G} {cy : Nat → ClassId} {a gs : Nat → Nat} (X : cx_ cX0_prays RX0 wB_X0_prays 3 (some .int) 59 a D cy (xfC gs) p s m args meth c)  {r0 : Int32} {σ' : Sg}  : ∀ (σ : Sg) (x1 : Int32) (H : Heap) (locs : List Loc) (ls : Array Slot), C0_prays_k5_0 σ x1 = some (r0, σ') → iv_ 59 a D (shC cy a σ) s H locs → lv_has ls 3 [(0, .ref (a 19)), (1, .int x1), (2, .ref (a 29))] → W p l e ({ frames := 2, cells := 0, slots := 0, locals := 43 }) s m args below meth c H locs 0 0 (MQ below (qg_ 59 a D (shC cy a σ') (some (.int r0)) s.heap.size) args s 0 0 (fr_ 59 a s.heap.size)) (F0 m 0 ls []) := by
  obtain ⟨hx, hb, hr, hml, hown, hts, hlk, hK, hA, hXf⟩ := id X
  intro σ x1 H locs ls h I hl
  unfold C0_prays_k5_0 at h
  refine lv_aload_n hx hb dX0_prays_0 rfl (lv_at hl 2 rfl) ?_
  refine lv_bipush (v := 11) hx hb dX0_prays_1 (by decide) ?_
  obtain ⟨_, σ_2, hc_1, h⟩ := bi_of h
  refine cv_ (rV_ (nn := 1) (As := [.int (11 : Int32)]) (rest := []) X xkC I (c_C4_runs hc_1 H.size) gBX0_prays_X4_runs rfl ⟨rfl, rfl⟩ (by decide +kernel) ⟨Nat.le_of_ble_eq_true rfl, Nat.le_of_ble_eq_true rfl⟩ (by decide) shC_29 rfl rfl hl.1 rfl (Nat.le_of_ble_eq_true rfl) dX0_prays_3) I (fun H locs I => ?_)
  refine lv_aload_n hx hb dX0_prays_6 rfl (lv_at hl 0 rfl) ?_
  refine lv_iload_n hx hb dX0_prays_7 rfl (lv_at hl 1 rfl) ?_
  refine lv_aload_n hx hb dX0_prays_8 rfl (lv_at hl 2 rfl) ?_
  obtain ⟨r_5, σ_4, hc_3, h⟩ := bi_of h
  refine cg_ (v := .int r_5) (rU_ (nn := 2) (As := [.int x1, .ref (a 29)]) (rest := []) X xkC I (c_C0_kicks_k5 hc_3 H.size) gBX0_prays_X0_kicks_u17X9 rfl ⟨rfl, rfl⟩ rfl (by decide +kernel) ⟨Nat.le_of_ble_eq_true rfl, Nat.le_of_ble_eq_true rfl⟩ (by decide) shC_19 rfl rfl hl.1 rfl (Nat.le_of_ble_eq_true rfl) dX0_prays_9) I (fun H locs I => ?_)
  refine lv_aload_n hx hb dX0_prays_12 rfl (lv_at hl 2 rfl) ?_
  refine ig_ (index := 23) X I (fun _ q => List.mem_cons_of_mem _ (hinB_X4 _ q)) 29 (by decide) shC_29 rfl 3 (by decide) (by decide +kernel) rfl (v := .int (rd_ σ_4 29 3)) rfl dX0_prays_13 ?_
  refine lv_iconst (v := 2) hx hb dX0_prays_16 (by decide) ?_
  refine lv_imul hx hb dX0_prays_17 ?_
  refine lv_isub hx hb dX0_prays_18 ?_
  obtain ⟨rfl, rfl⟩ := re_s h
  exact rti_ X I dX0_prays_19
theorem c_C0_prays_k5 {l : Launch} {D : va_G} {cy : Nat → ClassId} {a gs : Nat → Nat} {σ : Sg} {x1 : Int32} {r0 : Int32} {σ' : Sg} (h : C0_prays_k5_0 σ x1 = some (r0, σ')) (sz : Nat) : Met l yX0_prays wB_X0_prays ({ frames := 2, cells := 0, slots := 0, locals := 43 }) (va_Pc [.ref (a 19), .int x1, .ref (a 29)] (pr_ 59 a D cy (shC cy a σ) (xfC gs) sz)) (qg_ 59 a D (shC cy a σ') (some (.int r0)) sz) 0 0 (fr_ 59 a sz) := by
  refine ent_ (by decide) rfl (Nat.le_of_ble_eq_true rfl) ?_
  intro p e s m below meth c ls hsz X I hl
  subst hsz
  exact kC0_prays_k5_0 X σ x1 s.heap [] ls h I hl

def C4_parted_0  (σ : Sg) (x1 : Int32) : Option (Int32 × Sg) :=
  lt_ (((rd_ σ 29 3) - (rd_ σ 29 2))) fun y_1 =>
  if y_1 = 0 then (lt_ (wr_ σ 29 4 (1 : Int32)) fun σ_5 =>
  some ((0 : Int32), σ_5))
  else (gd_ (nz_ y_1) (
  some ((x1 / y_1), σ)))
set_option maxRecDepth 100000 in
theorem kC4_parted_0 {p : Program} {l : Launch} {e : Env} {s : State} {m : MethodId} {args : Array Value} {below : List Frame} {meth : Method} {c : Code} {D : va_G} {cy : Nat → ClassId} {a gs : Nat → Nat} (X : cx_ cX4_parted RX4 wsX4_parted 3 (some .int) 59 a D cy (xfC gs) p s m args meth c)  {r0 : Int32} {σ' : Sg}  : ∀ (σ : Sg) (x1 : Int32) (H : Heap) (locs : List Loc) (ls : Array Slot), C4_parted_0 σ x1 = some (r0, σ') → iv_ 59 a D (shC cy a σ) s H locs → lv_has ls 3 [(0, .ref (a 29)), (1, .int x1)] → W p l e ({ frames := 0, cells := 0, slots := 0, locals := 0 }) s m args below meth c H locs 0 0 (MQ below (qg_ 59 a D (shC cy a σ') (some (.int r0)) s.heap.size) args s 0 0 (fr_ 59 a s.heap.size)) (F0 m 0 ls []) := by
  obtain ⟨hx, hb, hr, hml, hown, hts, hlk, hK, hA, hXf⟩ := id X
  intro σ x1 H locs ls h I hl
  unfold C4_parted_0 at h
  refine lv_aload_n hx hb dX4_parted_0 rfl (lv_at hl 0 rfl) ?_
  refine ig_ (index := 17) X I (fun _ q => List.mem_cons_of_mem _ (List.mem_append_right _ q)) 29 (by decide) shC_29 rfl 3 (by decide) (by decide +kernel) rfl (v := .int (rd_ σ 29 3)) rfl dX4_parted_1 ?_
  refine lv_aload_n hx hb dX4_parted_4 rfl (lv_at hl 0 rfl) ?_
  refine ig_ (index := 13) X I (fun _ q => List.mem_cons_of_mem _ (List.mem_append_right _ q)) 29 (by decide) shC_29 rfl 2 (by decide) (by decide +kernel) rfl (v := .int (rd_ σ 29 2)) rfl dX4_parted_5 ?_
  refine lv_isub hx hb dX4_parted_8 ?_
  refine lv_topi (fun y_1 e_2 => ?_)
  have h := lt_at h e_2
  refine lv_istore_n (lv' := [(2, .int y_1), (0, .ref (a 29)), (1, .int x1)]) hx hb dX4_parted_9 rfl hl (by decide) rfl (fun ls hl => ?_)
  refine lv_iload_n hx hb dX4_parted_10 rfl (lv_at hl 0 rfl) ?_
  refine lv_if_ne (tgt := 21) hx hb dX4_parted_11 (by decide) (fun c_3 => ?_) (fun c_3 => ?_)
  · have h := if_f h c_3
    refine lv_iload_n hx hb dX4_parted_21 rfl (lv_at hl 2 rfl) ?_
    refine lv_iload_n hx hb dX4_parted_22 rfl (lv_at hl 0 rfl) ?_
    obtain ⟨g_4, h⟩ := gd_of h
    refine lv_idiv hx hb dX4_parted_23 (nz_of g_4) ?_
    obtain ⟨rfl, rfl⟩ := re_s h
    exact rti_ X I dX4_parted_24
  · have h := if_t h c_3
    refine lv_aload_n hx hb dX4_parted_14 rfl (lv_at hl 1 rfl) ?_
    refine lv_iconst (v := 1) hx hb dX4_parted_15 (by decide) ?_
    refine ip_ (index := 23) (ty := .boolean) X I (fun _ q => List.mem_cons_of_mem _ (List.mem_append_right _ q)) tyX4 tyX4_ok nmX4 29 (by decide) shC_29 rfl 4 (by decide) (by decide +kernel) rfl rfl (by decide +kernel) (by decide) (by decide) (Nat.le_of_ble_eq_true rfl) shC_pt_29_4 dX4_parted_16 (fun σ_5 H locs e_6 I => ?_)
    have h := lt_at h e_6
    refine lv_iconst (v := 0) hx hb dX4_parted_19 (by decide) ?_
    obtain ⟨rfl, rfl⟩ := re_s h
    exact rti_ X I dX4_parted_20
theorem c_C4_parted {l : Launch} {D : va_G} {cy : Nat → ClassId} {a gs : Nat → Nat} {σ : Sg} {x1 : Int32} {r0 : Int32} {σ' : Sg} (h : C4_parted_0 σ x1 = some (r0, σ')) (sz : Nat) : Met l yX4_parted wsX4_parted ({ frames := 0, cells := 0, slots := 0, locals := 0 }) (va_Pc [.ref (a 29), .int x1] (pr_ 59 a D cy (shC cy a σ) (xfC gs) sz)) (qg_ 59 a D (shC cy a σ') (some (.int r0)) sz) 0 0 (fr_ 59 a sz) := by
  refine ent_ (by decide) rfl (Nat.le_of_ble_eq_true rfl) ?_
  intro p e s m below meth c ls hsz X I hl
  subst hsz
  exact kC4_parted_0 X σ x1 s.heap [] ls h I hl

def C0_parts_k0_0  (σ : Sg) (x1 : Int32) : Option (Int32 × Sg) :=
  bi_ (C4_runs_0 σ (12 : Int32)) fun _ σ_2 =>
  bi_ (C4_parted_0 σ_2 x1) fun r_5 σ_4 =>
  some (r_5, σ_4)
set_option maxRecDepth 100000 in
theorem kC0_parts_k0_0 {p : Program} {l : Launch} {e : Env} {s : State} {m : MethodId} {args : Array Value} {below : List Frame} {meth : Method} {c : Code} {D : va_G} {cy : Nat → ClassId} {a gs : Nat → Nat} (X : cx_ cX0_parts RX0 wB_X0_parts 3 (some .int) 59 a D cy (xfC gs) p s m args meth c)  {r0 : Int32} {σ' : Sg}  : ∀ (σ : Sg) (x1 : Int32) (H : Heap) (locs : List Loc) (ls : Array Slot), C0_parts_k0_0 σ x1 = some (r0, σ') → iv_ 59 a D (shC cy a σ) s H locs → lv_has ls 3 [(0, .ref (a 14)), (1, .int x1), (2, .ref (a 29))] → W p l e ({ frames := 1, cells := 0, slots := 0, locals := 22 }) s m args below meth c H locs 0 0 (MQ below (qg_ 59 a D (shC cy a σ') (some (.int r0)) s.heap.size) args s 0 0 (fr_ 59 a s.heap.size)) (F0 m 0 ls []) := by
  obtain ⟨hx, hb, hr, hml, hown, hts, hlk, hK, hA, hXf⟩ := id X
  intro σ x1 H locs ls h I hl
  unfold C0_parts_k0_0 at h
  refine lv_aload_n hx hb dX0_parts_0 rfl (lv_at hl 2 rfl) ?_
  refine lv_bipush (v := 12) hx hb dX0_parts_1 (by decide) ?_
  obtain ⟨_, σ_2, hc_1, h⟩ := bi_of h
  refine cv_ (rV_ (nn := 1) (As := [.int (12 : Int32)]) (rest := []) X xkC I (c_C4_runs hc_1 H.size) gBX0_parts_X4_runs rfl ⟨rfl, rfl⟩ (by decide +kernel) ⟨Nat.le_of_ble_eq_true rfl, Nat.le_of_ble_eq_true rfl⟩ (by decide) shC_29 rfl rfl hl.1 rfl (Nat.le_of_ble_eq_true rfl) dX0_parts_3) I (fun H locs I => ?_)
  refine lv_aload_n hx hb dX0_parts_6 rfl (lv_at hl 2 rfl) ?_
  refine lv_iload_n hx hb dX0_parts_7 rfl (lv_at hl 1 rfl) ?_
  obtain ⟨r_5, σ_4, hc_3, h⟩ := bi_of h
  refine cg_ (v := .int r_5) (rV_ (nn := 1) (As := [.int x1]) (rest := []) X xkC I (c_C4_parted hc_3 H.size) gBX0_parts_X4_parted rfl ⟨rfl, rfl⟩ (by decide +kernel) ⟨Nat.le_of_ble_eq_true rfl, Nat.le_of_ble_eq_true rfl⟩ (by decide) shC_29 rfl rfl hl.1 rfl (Nat.le_of_ble_eq_true rfl) dX0_parts_8) I (fun H locs I => ?_)
  obtain ⟨rfl, rfl⟩ := re_s h
  exact rti_ X I dX0_parts_11
theorem c_C0_parts_k0 {l : Launch} {D : va_G} {cy : Nat → ClassId} {a gs : Nat → Nat} {σ : Sg} {x1 : Int32} {r0 : Int32} {σ' : Sg} (h : C0_parts_k0_0 σ x1 = some (r0, σ')) (sz : Nat) : Met l yX0_parts wB_X0_parts ({ frames := 1, cells := 0, slots := 0, locals := 22 }) (va_Pc [.ref (a 14), .int x1, .ref (a 29)] (pr_ 59 a D cy (shC cy a σ) (xfC gs) sz)) (qg_ 59 a D (shC cy a σ') (some (.int r0)) sz) 0 0 (fr_ 59 a sz) := by
  refine ent_ (by decide) rfl (Nat.le_of_ble_eq_true rfl) ?_
  intro p e s m below meth c ls hsz X I hl
  subst hsz
  exact kC0_parts_k0_0 X σ x1 s.heap [] ls h I hl

def C0_parts_k1_0  (σ : Sg) (x1 : Int32) : Option (Int32 × Sg) :=
  bi_ (C4_runs_0 σ (12 : Int32)) fun _ σ_2 =>
  bi_ (C4_parted_0 σ_2 x1) fun r_5 σ_4 =>
  some (r_5, σ_4)
set_option maxRecDepth 100000 in
theorem kC0_parts_k1_0 {p : Program} {l : Launch} {e : Env} {s : State} {m : MethodId} {args : Array Value} {below : List Frame} {meth : Method} {c : Code} {D : va_G} {cy : Nat → ClassId} {a gs : Nat → Nat} (X : cx_ cX0_parts RX0 wB_X0_parts 3 (some .int) 59 a D cy (xfC gs) p s m args meth c)  {r0 : Int32} {σ' : Sg}  : ∀ (σ : Sg) (x1 : Int32) (H : Heap) (locs : List Loc) (ls : Array Slot), C0_parts_k1_0 σ x1 = some (r0, σ') → iv_ 59 a D (shC cy a σ) s H locs → lv_has ls 3 [(0, .ref (a 15)), (1, .int x1), (2, .ref (a 29))] → W p l e ({ frames := 1, cells := 0, slots := 0, locals := 22 }) s m args below meth c H locs 0 0 (MQ below (qg_ 59 a D (shC cy a σ') (some (.int r0)) s.heap.size) args s 0 0 (fr_ 59 a s.heap.size)) (F0 m 0 ls []) := by
  obtain ⟨hx, hb, hr, hml, hown, hts, hlk, hK, hA, hXf⟩ := id X
  intro σ x1 H locs ls h I hl
  unfold C0_parts_k1_0 at h
  refine lv_aload_n hx hb dX0_parts_0 rfl (lv_at hl 2 rfl) ?_
  refine lv_bipush (v := 12) hx hb dX0_parts_1 (by decide) ?_
  obtain ⟨_, σ_2, hc_1, h⟩ := bi_of h
  refine cv_ (rV_ (nn := 1) (As := [.int (12 : Int32)]) (rest := []) X xkC I (c_C4_runs hc_1 H.size) gBX0_parts_X4_runs rfl ⟨rfl, rfl⟩ (by decide +kernel) ⟨Nat.le_of_ble_eq_true rfl, Nat.le_of_ble_eq_true rfl⟩ (by decide) shC_29 rfl rfl hl.1 rfl (Nat.le_of_ble_eq_true rfl) dX0_parts_3) I (fun H locs I => ?_)
  refine lv_aload_n hx hb dX0_parts_6 rfl (lv_at hl 2 rfl) ?_
  refine lv_iload_n hx hb dX0_parts_7 rfl (lv_at hl 1 rfl) ?_
  obtain ⟨r_5, σ_4, hc_3, h⟩ := bi_of h
  refine cg_ (v := .int r_5) (rV_ (nn := 1) (As := [.int x1]) (rest := []) X xkC I (c_C4_parted hc_3 H.size) gBX0_parts_X4_parted rfl ⟨rfl, rfl⟩ (by decide +kernel) ⟨Nat.le_of_ble_eq_true rfl, Nat.le_of_ble_eq_true rfl⟩ (by decide) shC_29 rfl rfl hl.1 rfl (Nat.le_of_ble_eq_true rfl) dX0_parts_8) I (fun H locs I => ?_)
  obtain ⟨rfl, rfl⟩ := re_s h
  exact rti_ X I dX0_parts_11
theorem c_C0_parts_k1 {l : Launch} {D : va_G} {cy : Nat → ClassId} {a gs : Nat → Nat} {σ : Sg} {x1 : Int32} {r0 : Int32} {σ' : Sg} (h : C0_parts_k1_0 σ x1 = some (r0, σ')) (sz : Nat) : Met l yX0_parts wB_X0_parts ({ frames := 1, cells := 0, slots := 0, locals := 22 }) (va_Pc [.ref (a 15), .int x1, .ref (a 29)] (pr_ 59 a D cy (shC cy a σ) (xfC gs) sz)) (qg_ 59 a D (shC cy a σ') (some (.int r0)) sz) 0 0 (fr_ 59 a sz) := by
  refine ent_ (by decide) rfl (Nat.le_of_ble_eq_true rfl) ?_
  intro p e s m below meth c ls hsz X I hl
  subst hsz
  exact kC0_parts_k1_0 X σ x1 s.heap [] ls h I hl

def C0_parts_k2_0  (σ : Sg) (x1 : Int32) : Option (Int32 × Sg) :=
  bi_ (C4_runs_0 σ (12 : Int32)) fun _ σ_2 =>
  bi_ (C4_parted_0 σ_2 x1) fun r_5 σ_4 =>
  some (r_5, σ_4)
set_option maxRecDepth 100000 in
theorem kC0_parts_k2_0 {p : Program} {l : Launch} {e : Env} {s : State} {m : MethodId} {args : Array Value} {below : List Frame} {meth : Method} {c : Code} {D : va_G} {cy : Nat → ClassId} {a gs : Nat → Nat} (X : cx_ cX0_parts RX0 wB_X0_parts 3 (some .int) 59 a D cy (xfC gs) p s m args meth c)  {r0 : Int32} {σ' : Sg}  : ∀ (σ : Sg) (x1 : Int32) (H : Heap) (locs : List Loc) (ls : Array Slot), C0_parts_k2_0 σ x1 = some (r0, σ') → iv_ 59 a D (shC cy a σ) s H locs → lv_has ls 3 [(0, .ref (a 16)), (1, .int x1), (2, .ref (a 29))] → W p l e ({ frames := 1, cells := 0, slots := 0, locals := 22 }) s m args below meth c H locs 0 0 (MQ below (qg_ 59 a D (shC cy a σ') (some (.int r0)) s.heap.size) args s 0 0 (fr_ 59 a s.heap.size)) (F0 m 0 ls []) := by
  obtain ⟨hx, hb, hr, hml, hown, hts, hlk, hK, hA, hXf⟩ := id X
  intro σ x1 H locs ls h I hl
  unfold C0_parts_k2_0 at h
  refine lv_aload_n hx hb dX0_parts_0 rfl (lv_at hl 2 rfl) ?_
  refine lv_bipush (v := 12) hx hb dX0_parts_1 (by decide) ?_
  obtain ⟨_, σ_2, hc_1, h⟩ := bi_of h
  refine cv_ (rV_ (nn := 1) (As := [.int (12 : Int32)]) (rest := []) X xkC I (c_C4_runs hc_1 H.size) gBX0_parts_X4_runs rfl ⟨rfl, rfl⟩ (by decide +kernel) ⟨Nat.le_of_ble_eq_true rfl, Nat.le_of_ble_eq_true rfl⟩ (by decide) shC_29 rfl rfl hl.1 rfl (Nat.le_of_ble_eq_true rfl) dX0_parts_3) I (fun H locs I => ?_)
  refine lv_aload_n hx hb dX0_parts_6 rfl (lv_at hl 2 rfl) ?_
  refine lv_iload_n hx hb dX0_parts_7 rfl (lv_at hl 1 rfl) ?_
  obtain ⟨r_5, σ_4, hc_3, h⟩ := bi_of h
  refine cg_ (v := .int r_5) (rV_ (nn := 1) (As := [.int x1]) (rest := []) X xkC I (c_C4_parted hc_3 H.size) gBX0_parts_X4_parted rfl ⟨rfl, rfl⟩ (by decide +kernel) ⟨Nat.le_of_ble_eq_true rfl, Nat.le_of_ble_eq_true rfl⟩ (by decide) shC_29 rfl rfl hl.1 rfl (Nat.le_of_ble_eq_true rfl) dX0_parts_8) I (fun H locs I => ?_)
  obtain ⟨rfl, rfl⟩ := re_s h
  exact rti_ X I dX0_parts_11
theorem c_C0_parts_k2 {l : Launch} {D : va_G} {cy : Nat → ClassId} {a gs : Nat → Nat} {σ : Sg} {x1 : Int32} {r0 : Int32} {σ' : Sg} (h : C0_parts_k2_0 σ x1 = some (r0, σ')) (sz : Nat) : Met l yX0_parts wB_X0_parts ({ frames := 1, cells := 0, slots := 0, locals := 22 }) (va_Pc [.ref (a 16), .int x1, .ref (a 29)] (pr_ 59 a D cy (shC cy a σ) (xfC gs) sz)) (qg_ 59 a D (shC cy a σ') (some (.int r0)) sz) 0 0 (fr_ 59 a sz) := by
  refine ent_ (by decide) rfl (Nat.le_of_ble_eq_true rfl) ?_
  intro p e s m below meth c ls hsz X I hl
  subst hsz
  exact kC0_parts_k2_0 X σ x1 s.heap [] ls h I hl

def C0_parts_k3_0  (σ : Sg) (x1 : Int32) : Option (Int32 × Sg) :=
  bi_ (C4_runs_0 σ (12 : Int32)) fun _ σ_2 =>
  bi_ (C4_parted_0 σ_2 x1) fun r_5 σ_4 =>
  some (r_5, σ_4)
set_option maxRecDepth 100000 in
theorem kC0_parts_k3_0 {p : Program} {l : Launch} {e : Env} {s : State} {m : MethodId} {args : Array Value} {below : List Frame} {meth : Method} {c : Code} {D : va_G} {cy : Nat → ClassId} {a gs : Nat → Nat} (X : cx_ cX0_parts RX0 wB_X0_parts 3 (some .int) 59 a D cy (xfC gs) p s m args meth c)  {r0 : Int32} {σ' : Sg}  : ∀ (σ : Sg) (x1 : Int32) (H : Heap) (locs : List Loc) (ls : Array Slot), C0_parts_k3_0 σ x1 = some (r0, σ') → iv_ 59 a D (shC cy a σ) s H locs → lv_has ls 3 [(0, .ref (a 17)), (1, .int x1), (2, .ref (a 29))] → W p l e ({ frames := 1, cells := 0, slots := 0, locals := 22 }) s m args below meth c H locs 0 0 (MQ below (qg_ 59 a D (shC cy a σ') (some (.int r0)) s.heap.size) args s 0 0 (fr_ 59 a s.heap.size)) (F0 m 0 ls []) := by
  obtain ⟨hx, hb, hr, hml, hown, hts, hlk, hK, hA, hXf⟩ := id X
  intro σ x1 H locs ls h I hl
  unfold C0_parts_k3_0 at h
  refine lv_aload_n hx hb dX0_parts_0 rfl (lv_at hl 2 rfl) ?_
  refine lv_bipush (v := 12) hx hb dX0_parts_1 (by decide) ?_
  obtain ⟨_, σ_2, hc_1, h⟩ := bi_of h
  refine cv_ (rV_ (nn := 1) (As := [.int (12 : Int32)]) (rest := []) X xkC I (c_C4_runs hc_1 H.size) gBX0_parts_X4_runs rfl ⟨rfl, rfl⟩ (by decide +kernel) ⟨Nat.le_of_ble_eq_true rfl, Nat.le_of_ble_eq_true rfl⟩ (by decide) shC_29 rfl rfl hl.1 rfl (Nat.le_of_ble_eq_true rfl) dX0_parts_3) I (fun H locs I => ?_)
  refine lv_aload_n hx hb dX0_parts_6 rfl (lv_at hl 2 rfl) ?_
  refine lv_iload_n hx hb dX0_parts_7 rfl (lv_at hl 1 rfl) ?_
  obtain ⟨r_5, σ_4, hc_3, h⟩ := bi_of h
  refine cg_ (v := .int r_5) (rV_ (nn := 1) (As := [.int x1]) (rest := []) X xkC I (c_C4_parted hc_3 H.size) gBX0_parts_X4_parted rfl ⟨rfl, rfl⟩ (by decide +kernel) ⟨Nat.le_of_ble_eq_true rfl, Nat.le_of_ble_eq_true rfl⟩ (by decide) shC_29 rfl rfl hl.1 rfl (Nat.le_of_ble_eq_true rfl) dX0_parts_8) I (fun H locs I => ?_)
  obtain ⟨rfl, rfl⟩ := re_s h
  exact rti_ X I dX0_parts_11
theorem c_C0_parts_k3 {l : Launch} {D : va_G} {cy : Nat → ClassId} {a gs : Nat → Nat} {σ : Sg} {x1 : Int32} {r0 : Int32} {σ' : Sg} (h : C0_parts_k3_0 σ x1 = some (r0, σ')) (sz : Nat) : Met l yX0_parts wB_X0_parts ({ frames := 1, cells := 0, slots := 0, locals := 22 }) (va_Pc [.ref (a 17), .int x1, .ref (a 29)] (pr_ 59 a D cy (shC cy a σ) (xfC gs) sz)) (qg_ 59 a D (shC cy a σ') (some (.int r0)) sz) 0 0 (fr_ 59 a sz) := by
  refine ent_ (by decide) rfl (Nat.le_of_ble_eq_true rfl) ?_
  intro p e s m below meth c ls hsz X I hl
  subst hsz
  exact kC0_parts_k3_0 X σ x1 s.heap [] ls h I hl

def C3_parts_k3_0  (σ : Sg) (x1 : Int32) : Option (Int32 × Sg) :=
  bi_ (C4_runs_0 σ (50 : Int32)) fun _ σ_2 =>
  bi_ (C0_parts_k3_0 σ_2 (x1 * (2 : Int32))) fun r_5 σ_4 =>
  some ((r_5 - (4 : Int32)), σ_4)
set_option maxRecDepth 100000 in
theorem kC3_parts_k3_0 {p : Program} {l : Launch} {e : Env} {s : State} {m : MethodId} {args : Array Value} {below : List Frame} {meth : Method} {c : Code} {D : va_G} {cy : Nat → ClassId} {a gs : Nat → Nat} (X : cx_ cX3_parts RX3 wB_X3_parts 3 (some .int) 59 a D cy (xfC gs) p s m args meth c)  {r0 : Int32} {σ' : Sg}  : ∀ (σ : Sg) (x1 : Int32) (H : Heap) (locs : List Loc) (ls : Array Slot), C3_parts_k3_0 σ x1 = some (r0, σ') → iv_ 59 a D (shC cy a σ) s H locs → lv_has ls 3 [(0, .ref (a 17)), (1, .int x1), (2, .ref (a 29))] → W p l e ({ frames := 2, cells := 0, slots := 0, locals := 44 }) s m args below meth c H locs 0 0 (MQ below (qg_ 59 a D (shC cy a σ') (some (.int r0)) s.heap.size) args s 0 0 (fr_ 59 a s.heap.size)) (F0 m 0 ls []) := by
  obtain ⟨hx, hb, hr, hml, hown, hts, hlk, hK, hA, hXf⟩ := id X
  intro σ x1 H locs ls h I hl
  unfold C3_parts_k3_0 at h
  refine lv_aload_n hx hb dX3_parts_0 rfl (lv_at hl 2 rfl) ?_
  refine lv_bipush (v := 50) hx hb dX3_parts_1 (by decide) ?_
  obtain ⟨_, σ_2, hc_1, h⟩ := bi_of h
  refine cv_ (rV_ (nn := 1) (As := [.int (50 : Int32)]) (rest := []) X xkC I (c_C4_runs hc_1 H.size) gBX3_parts_X4_runs rfl ⟨rfl, rfl⟩ (by decide +kernel) ⟨Nat.le_of_ble_eq_true rfl, Nat.le_of_ble_eq_true rfl⟩ (by decide) shC_29 rfl rfl hl.1 rfl (Nat.le_of_ble_eq_true rfl) dX3_parts_3) I (fun H locs I => ?_)
  refine lv_aload_n hx hb dX3_parts_6 rfl (lv_at hl 0 rfl) ?_
  refine lv_iload_n hx hb dX3_parts_7 rfl (lv_at hl 1 rfl) ?_
  refine lv_iconst (v := 2) hx hb dX3_parts_8 (by decide) ?_
  refine lv_imul hx hb dX3_parts_9 ?_
  refine lv_aload_n hx hb dX3_parts_10 rfl (lv_at hl 2 rfl) ?_
  obtain ⟨r_5, σ_4, hc_3, h⟩ := bi_of h
  refine cg_ (v := .int r_5) (rSX_ (nn := 2) (As := [.int (x1 * (2 : Int32)), .ref (a 29)]) (rest := []) X xkC I (c_C0_parts_k3 hc_3 H.size) gBX3_parts_X0_parts_x29 rfl ⟨rfl, rfl⟩ rfl (by decide +kernel) ⟨Nat.le_of_ble_eq_true rfl, Nat.le_of_ble_eq_true rfl⟩ (by decide) shC_17 rfl rfl hl.1 rfl (Nat.le_of_ble_eq_true rfl) dX3_parts_11) I (fun H locs I => ?_)
  refine lv_iconst (v := 4) hx hb dX3_parts_14 (by decide) ?_
  refine lv_isub hx hb dX3_parts_15 ?_
  obtain ⟨rfl, rfl⟩ := re_s h
  exact rti_ X I dX3_parts_16
theorem c_C3_parts_k3 {l : Launch} {D : va_G} {cy : Nat → ClassId} {a gs : Nat → Nat} {σ : Sg} {x1 : Int32} {r0 : Int32} {σ' : Sg} (h : C3_parts_k3_0 σ x1 = some (r0, σ')) (sz : Nat) : Met l yX3_parts wB_X3_parts ({ frames := 2, cells := 0, slots := 0, locals := 44 }) (va_Pc [.ref (a 17), .int x1, .ref (a 29)] (pr_ 59 a D cy (shC cy a σ) (xfC gs) sz)) (qg_ 59 a D (shC cy a σ') (some (.int r0)) sz) 0 0 (fr_ 59 a sz) := by
  refine ent_ (by decide) rfl (Nat.le_of_ble_eq_true rfl) ?_
  intro p e s m below meth c ls hsz X I hl
  subst hsz
  exact kC3_parts_k3_0 X σ x1 s.heap [] ls h I hl

def C0_parts_k4_0  (σ : Sg) (x1 : Int32) : Option (Int32 × Sg) :=
  bi_ (C4_runs_0 σ (12 : Int32)) fun _ σ_2 =>
  bi_ (C4_parted_0 σ_2 x1) fun r_5 σ_4 =>
  some (r_5, σ_4)
set_option maxRecDepth 100000 in
theorem kC0_parts_k4_0 {p : Program} {l : Launch} {e : Env} {s : State} {m : MethodId} {args : Array Value} {below : List Frame} {meth : Method} {c : Code} {D : va_G} {cy : Nat → ClassId} {a gs : Nat → Nat} (X : cx_ cX0_parts RX0 wB_X0_parts 3 (some .int) 59 a D cy (xfC gs) p s m args meth c)  {r0 : Int32} {σ' : Sg}  : ∀ (σ : Sg) (x1 : Int32) (H : Heap) (locs : List Loc) (ls : Array Slot), C0_parts_k4_0 σ x1 = some (r0, σ') → iv_ 59 a D (shC cy a σ) s H locs → lv_has ls 3 [(0, .ref (a 18)), (1, .int x1), (2, .ref (a 29))] → W p l e ({ frames := 1, cells := 0, slots := 0, locals := 22 }) s m args below meth c H locs 0 0 (MQ below (qg_ 59 a D (shC cy a σ') (some (.int r0)) s.heap.size) args s 0 0 (fr_ 59 a s.heap.size)) (F0 m 0 ls []) := by
  obtain ⟨hx, hb, hr, hml, hown, hts, hlk, hK, hA, hXf⟩ := id X
  intro σ x1 H locs ls h I hl
  unfold C0_parts_k4_0 at h
  refine lv_aload_n hx hb dX0_parts_0 rfl (lv_at hl 2 rfl) ?_
  refine lv_bipush (v := 12) hx hb dX0_parts_1 (by decide) ?_
  obtain ⟨_, σ_2, hc_1, h⟩ := bi_of h
  refine cv_ (rV_ (nn := 1) (As := [.int (12 : Int32)]) (rest := []) X xkC I (c_C4_runs hc_1 H.size) gBX0_parts_X4_runs rfl ⟨rfl, rfl⟩ (by decide +kernel) ⟨Nat.le_of_ble_eq_true rfl, Nat.le_of_ble_eq_true rfl⟩ (by decide) shC_29 rfl rfl hl.1 rfl (Nat.le_of_ble_eq_true rfl) dX0_parts_3) I (fun H locs I => ?_)
  refine lv_aload_n hx hb dX0_parts_6 rfl (lv_at hl 2 rfl) ?_
  refine lv_iload_n hx hb dX0_parts_7 rfl (lv_at hl 1 rfl) ?_
  obtain ⟨r_5, σ_4, hc_3, h⟩ := bi_of h
  refine cg_ (v := .int r_5) (rV_ (nn := 1) (As := [.int x1]) (rest := []) X xkC I (c_C4_parted hc_3 H.size) gBX0_parts_X4_parted rfl ⟨rfl, rfl⟩ (by decide +kernel) ⟨Nat.le_of_ble_eq_true rfl, Nat.le_of_ble_eq_true rfl⟩ (by decide) shC_29 rfl rfl hl.1 rfl (Nat.le_of_ble_eq_true rfl) dX0_parts_8) I (fun H locs I => ?_)
  obtain ⟨rfl, rfl⟩ := re_s h
  exact rti_ X I dX0_parts_11
theorem c_C0_parts_k4 {l : Launch} {D : va_G} {cy : Nat → ClassId} {a gs : Nat → Nat} {σ : Sg} {x1 : Int32} {r0 : Int32} {σ' : Sg} (h : C0_parts_k4_0 σ x1 = some (r0, σ')) (sz : Nat) : Met l yX0_parts wB_X0_parts ({ frames := 1, cells := 0, slots := 0, locals := 22 }) (va_Pc [.ref (a 18), .int x1, .ref (a 29)] (pr_ 59 a D cy (shC cy a σ) (xfC gs) sz)) (qg_ 59 a D (shC cy a σ') (some (.int r0)) sz) 0 0 (fr_ 59 a sz) := by
  refine ent_ (by decide) rfl (Nat.le_of_ble_eq_true rfl) ?_
  intro p e s m below meth c ls hsz X I hl
  subst hsz
  exact kC0_parts_k4_0 X σ x1 s.heap [] ls h I hl

def C0_parts_k5_0  (σ : Sg) (x1 : Int32) : Option (Int32 × Sg) :=
  bi_ (C4_runs_0 σ (12 : Int32)) fun _ σ_2 =>
  bi_ (C4_parted_0 σ_2 x1) fun r_5 σ_4 =>
  some (r_5, σ_4)
set_option maxRecDepth 100000 in
theorem kC0_parts_k5_0 {p : Program} {l : Launch} {e : Env} {s : State} {m : MethodId} {args : Array Value} {below : List Frame} {meth : Method} {c : Code} {D : va_G} {cy : Nat → ClassId} {a gs : Nat → Nat} (X : cx_ cX0_parts RX0 wB_X0_parts 3 (some .int) 59 a D cy (xfC gs) p s m args meth c)  {r0 : Int32} {σ' : Sg}  : ∀ (σ : Sg) (x1 : Int32) (H : Heap) (locs : List Loc) (ls : Array Slot), C0_parts_k5_0 σ x1 = some (r0, σ') → iv_ 59 a D (shC cy a σ) s H locs → lv_has ls 3 [(0, .ref (a 19)), (1, .int x1), (2, .ref (a 29))] → W p l e ({ frames := 1, cells := 0, slots := 0, locals := 22 }) s m args below meth c H locs 0 0 (MQ below (qg_ 59 a D (shC cy a σ') (some (.int r0)) s.heap.size) args s 0 0 (fr_ 59 a s.heap.size)) (F0 m 0 ls []) := by
  obtain ⟨hx, hb, hr, hml, hown, hts, hlk, hK, hA, hXf⟩ := id X
  intro σ x1 H locs ls h I hl
  unfold C0_parts_k5_0 at h
  refine lv_aload_n hx hb dX0_parts_0 rfl (lv_at hl 2 rfl) ?_
  refine lv_bipush (v := 12) hx hb dX0_parts_1 (by decide) ?_
  obtain ⟨_, σ_2, hc_1, h⟩ := bi_of h
  refine cv_ (rV_ (nn := 1) (As := [.int (12 : Int32)]) (rest := []) X xkC I (c_C4_runs hc_1 H.size) gBX0_parts_X4_runs rfl ⟨rfl, rfl⟩ (by decide +kernel) ⟨Nat.le_of_ble_eq_true rfl, Nat.le_of_ble_eq_true rfl⟩ (by decide) shC_29 rfl rfl hl.1 rfl (Nat.le_of_ble_eq_true rfl) dX0_parts_3) I (fun H locs I => ?_)
  refine lv_aload_n hx hb dX0_parts_6 rfl (lv_at hl 2 rfl) ?_
  refine lv_iload_n hx hb dX0_parts_7 rfl (lv_at hl 1 rfl) ?_
  obtain ⟨r_5, σ_4, hc_3, h⟩ := bi_of h
  refine cg_ (v := .int r_5) (rV_ (nn := 1) (As := [.int x1]) (rest := []) X xkC I (c_C4_parted hc_3 H.size) gBX0_parts_X4_parted rfl ⟨rfl, rfl⟩ (by decide +kernel) ⟨Nat.le_of_ble_eq_true rfl, Nat.le_of_ble_eq_true rfl⟩ (by decide) shC_29 rfl rfl hl.1 rfl (Nat.le_of_ble_eq_true rfl) dX0_parts_8) I (fun H locs I => ?_)
  obtain ⟨rfl, rfl⟩ := re_s h
  exact rti_ X I dX0_parts_11
theorem c_C0_parts_k5 {l : Launch} {D : va_G} {cy : Nat → ClassId} {a gs : Nat → Nat} {σ : Sg} {x1 : Int32} {r0 : Int32} {σ' : Sg} (h : C0_parts_k5_0 σ x1 = some (r0, σ')) (sz : Nat) : Met l yX0_parts wB_X0_parts ({ frames := 1, cells := 0, slots := 0, locals := 22 }) (va_Pc [.ref (a 19), .int x1, .ref (a 29)] (pr_ 59 a D cy (shC cy a σ) (xfC gs) sz)) (qg_ 59 a D (shC cy a σ') (some (.int r0)) sz) 0 0 (fr_ 59 a sz) := by
  refine ent_ (by decide) rfl (Nat.le_of_ble_eq_true rfl) ?_
  intro p e s m below meth c ls hsz X I hl
  subst hsz
  exact kC0_parts_k5_0 X σ x1 s.heap [] ls h I hl

def C9_parts_k5_0  (σ : Sg) (x1 : Int32) : Option (Int32 × Sg) :=
  bi_ (C4_runs_0 σ (61 : Int32)) fun _ σ_2 =>
  bi_ (C0_parts_k5_0 σ_2 x1) fun r_5 σ_4 =>
  bi_ (C0_kicks_k5_0 σ_4 (rd_ σ_4 29 2)) fun r_8 σ_7 =>
  some ((r_5 + r_8), σ_7)
set_option maxRecDepth 100000 in
theorem kC9_parts_k5_0 {p : Program} {l : Launch} {e : Env} {s : State} {m : MethodId} {args : Array Value} {below : List Frame} {meth : Method} {c : Code} {D : va_G} {cy : Nat → ClassId} {a gs : Nat → Nat} (X : cx_ cX9_parts RX9 wB_X9_parts 3 (some .int) 59 a D cy (xfC gs) p s m args meth c)  {r0 : Int32} {σ' : Sg}  : ∀ (σ : Sg) (x1 : Int32) (H : Heap) (locs : List Loc) (ls : Array Slot), C9_parts_k5_0 σ x1 = some (r0, σ') → iv_ 59 a D (shC cy a σ) s H locs → lv_has ls 3 [(0, .ref (a 19)), (1, .int x1), (2, .ref (a 29))] → W p l e ({ frames := 2, cells := 0, slots := 0, locals := 44 }) s m args below meth c H locs 0 0 (MQ below (qg_ 59 a D (shC cy a σ') (some (.int r0)) s.heap.size) args s 0 0 (fr_ 59 a s.heap.size)) (F0 m 0 ls []) := by
  obtain ⟨hx, hb, hr, hml, hown, hts, hlk, hK, hA, hXf⟩ := id X
  intro σ x1 H locs ls h I hl
  unfold C9_parts_k5_0 at h
  refine lv_aload_n hx hb dX9_parts_0 rfl (lv_at hl 2 rfl) ?_
  refine lv_bipush (v := 61) hx hb dX9_parts_1 (by decide) ?_
  obtain ⟨_, σ_2, hc_1, h⟩ := bi_of h
  refine cv_ (rV_ (nn := 1) (As := [.int (61 : Int32)]) (rest := []) X xkC I (c_C4_runs hc_1 H.size) gBX9_parts_X4_runs rfl ⟨rfl, rfl⟩ (by decide +kernel) ⟨Nat.le_of_ble_eq_true rfl, Nat.le_of_ble_eq_true rfl⟩ (by decide) shC_29 rfl rfl hl.1 rfl (Nat.le_of_ble_eq_true rfl) dX9_parts_3) I (fun H locs I => ?_)
  refine lv_aload_n hx hb dX9_parts_6 rfl (lv_at hl 0 rfl) ?_
  refine lv_iload_n hx hb dX9_parts_7 rfl (lv_at hl 1 rfl) ?_
  refine lv_aload_n hx hb dX9_parts_8 rfl (lv_at hl 2 rfl) ?_
  obtain ⟨r_5, σ_4, hc_3, h⟩ := bi_of h
  refine cg_ (v := .int r_5) (rSU_ (nn := 2) (As := [.int x1, .ref (a 29)]) (rest := []) X xkC I (c_C0_parts_k5 hc_3 H.size) gBX9_parts_X0_parts_s21 rfl ⟨rfl, rfl⟩ (by decide +kernel) ⟨Nat.le_of_ble_eq_true rfl, Nat.le_of_ble_eq_true rfl⟩ (by decide) shC_19 rfl rfl hl.1 rfl (Nat.le_of_ble_eq_true rfl) dX9_parts_9) I (fun H locs I => ?_)
  refine lv_aload_n hx hb dX9_parts_12 rfl (lv_at hl 0 rfl) ?_
  refine lv_aload_n hx hb dX9_parts_13 rfl (lv_at hl 2 rfl) ?_
  refine ig_ (index := 24) X I (fun _ q => List.mem_cons_of_mem _ (hinB_X4 _ q)) 29 (by decide) shC_29 rfl 2 (by decide) (by decide +kernel) rfl (v := .int (rd_ σ_4 29 2)) rfl dX9_parts_14 ?_
  refine lv_aload_n hx hb dX9_parts_17 rfl (lv_at hl 2 rfl) ?_
  obtain ⟨r_8, σ_7, hc_6, h⟩ := bi_of h
  refine cg_ (v := .int r_8) (rU_ (nn := 2) (As := [.int (rd_ σ_4 29 2), .ref (a 29)]) (rest := [.int r_5]) X xkC I (c_C0_kicks_k5 hc_6 H.size) gBX9_parts_X0_kicks_u28X9 rfl ⟨rfl, rfl⟩ rfl (by decide +kernel) ⟨Nat.le_of_ble_eq_true rfl, Nat.le_of_ble_eq_true rfl⟩ (by decide) shC_19 rfl rfl hl.1 rfl (Nat.le_of_ble_eq_true rfl) dX9_parts_18) I (fun H locs I => ?_)
  refine lv_iadd hx hb dX9_parts_21 ?_
  obtain ⟨rfl, rfl⟩ := re_s h
  exact rti_ X I dX9_parts_22
theorem c_C9_parts_k5 {l : Launch} {D : va_G} {cy : Nat → ClassId} {a gs : Nat → Nat} {σ : Sg} {x1 : Int32} {r0 : Int32} {σ' : Sg} (h : C9_parts_k5_0 σ x1 = some (r0, σ')) (sz : Nat) : Met l yX9_parts wB_X9_parts ({ frames := 2, cells := 0, slots := 0, locals := 44 }) (va_Pc [.ref (a 19), .int x1, .ref (a 29)] (pr_ 59 a D cy (shC cy a σ) (xfC gs) sz)) (qg_ 59 a D (shC cy a σ') (some (.int r0)) sz) 0 0 (fr_ 59 a sz) := by
  refine ent_ (by decide) rfl (Nat.le_of_ble_eq_true rfl) ?_
  intro p e s m below meth c ls hsz X I hl
  subst hsz
  exact kC9_parts_k5_0 X σ x1 s.heap [] ls h I hl

def C0_grows_k0_0  (σ : Sg) (x1 : Int32) : Option (Int32 × Sg) :=
  bi_ (C4_runs_0 σ (13 : Int32)) fun _ σ_2 =>
  bi_ (C0_prays_k0_0 σ_2 x1) fun r_5 σ_4 =>
  some ((r_5 ^^^ (80 : Int32)), σ_4)
set_option maxRecDepth 100000 in
theorem kC0_grows_k0_0 {p : Program} {l : Launch} {e : Env} {s : State} {m : MethodId} {args : Array Value} {below : List Frame} {meth : Method} {c : Code} {D : va_G} {cy : Nat → ClassId} {a gs : Nat → Nat} (X : cx_ cX0_grows RX0 wB_X0_grows 3 (some .int) 59 a D cy (xfC gs) p s m args meth c)  {r0 : Int32} {σ' : Sg}  : ∀ (σ : Sg) (x1 : Int32) (H : Heap) (locs : List Loc) (ls : Array Slot), C0_grows_k0_0 σ x1 = some (r0, σ') → iv_ 59 a D (shC cy a σ) s H locs → lv_has ls 3 [(0, .ref (a 14)), (1, .int x1), (2, .ref (a 29))] → W p l e ({ frames := 3, cells := 0, slots := 0, locals := 65 }) s m args below meth c H locs 0 0 (MQ below (qg_ 59 a D (shC cy a σ') (some (.int r0)) s.heap.size) args s 0 0 (fr_ 59 a s.heap.size)) (F0 m 0 ls []) := by
  obtain ⟨hx, hb, hr, hml, hown, hts, hlk, hK, hA, hXf⟩ := id X
  intro σ x1 H locs ls h I hl
  unfold C0_grows_k0_0 at h
  refine lv_aload_n hx hb dX0_grows_0 rfl (lv_at hl 2 rfl) ?_
  refine lv_bipush (v := 13) hx hb dX0_grows_1 (by decide) ?_
  obtain ⟨_, σ_2, hc_1, h⟩ := bi_of h
  refine cv_ (rV_ (nn := 1) (As := [.int (13 : Int32)]) (rest := []) X xkC I (c_C4_runs hc_1 H.size) gBX0_grows_X4_runs rfl ⟨rfl, rfl⟩ (by decide +kernel) ⟨Nat.le_of_ble_eq_true rfl, Nat.le_of_ble_eq_true rfl⟩ (by decide) shC_29 rfl rfl hl.1 rfl (Nat.le_of_ble_eq_true rfl) dX0_grows_3) I (fun H locs I => ?_)
  refine lv_aload_n hx hb dX0_grows_6 rfl (lv_at hl 0 rfl) ?_
  refine lv_iload_n hx hb dX0_grows_7 rfl (lv_at hl 1 rfl) ?_
  refine lv_aload_n hx hb dX0_grows_8 rfl (lv_at hl 2 rfl) ?_
  obtain ⟨r_5, σ_4, hc_3, h⟩ := bi_of h
  refine cg_ (v := .int r_5) (rV_ (nn := 2) (As := [.int x1, .ref (a 29)]) (rest := []) X xkC I (c_C0_prays_k0 hc_3 H.size) gBX0_grows_X0_prays rfl ⟨rfl, rfl⟩ (by decide +kernel) ⟨Nat.le_of_ble_eq_true rfl, Nat.le_of_ble_eq_true rfl⟩ (by decide) shC_14 rfl rfl hl.1 rfl (Nat.le_of_ble_eq_true rfl) dX0_grows_9) I (fun H locs I => ?_)
  refine lv_bipush (v := 80) hx hb dX0_grows_12 (by decide) ?_
  refine lv_ixor hx hb dX0_grows_14 ?_
  obtain ⟨rfl, rfl⟩ := re_s h
  exact rti_ X I dX0_grows_15
theorem c_C0_grows_k0 {l : Launch} {D : va_G} {cy : Nat → ClassId} {a gs : Nat → Nat} {σ : Sg} {x1 : Int32} {r0 : Int32} {σ' : Sg} (h : C0_grows_k0_0 σ x1 = some (r0, σ')) (sz : Nat) : Met l yX0_grows wB_X0_grows ({ frames := 3, cells := 0, slots := 0, locals := 65 }) (va_Pc [.ref (a 14), .int x1, .ref (a 29)] (pr_ 59 a D cy (shC cy a σ) (xfC gs) sz)) (qg_ 59 a D (shC cy a σ') (some (.int r0)) sz) 0 0 (fr_ 59 a sz) := by
  refine ent_ (by decide) rfl (Nat.le_of_ble_eq_true rfl) ?_
  intro p e s m below meth c ls hsz X I hl
  subst hsz
  exact kC0_grows_k0_0 X σ x1 s.heap [] ls h I hl

def C0_grows_k1_0  (σ : Sg) (x1 : Int32) : Option (Int32 × Sg) :=
  bi_ (C4_runs_0 σ (13 : Int32)) fun _ σ_2 =>
  bi_ (C5_prays_k1_0 σ_2 x1) fun r_5 σ_4 =>
  some ((r_5 ^^^ (80 : Int32)), σ_4)
set_option maxRecDepth 100000 in
theorem kC0_grows_k1_0 {p : Program} {l : Launch} {e : Env} {s : State} {m : MethodId} {args : Array Value} {below : List Frame} {meth : Method} {c : Code} {D : va_G} {cy : Nat → ClassId} {a gs : Nat → Nat} (X : cx_ cX0_grows RX0 wB_X0_grows 3 (some .int) 59 a D cy (xfC gs) p s m args meth c)  {r0 : Int32} {σ' : Sg}  : ∀ (σ : Sg) (x1 : Int32) (H : Heap) (locs : List Loc) (ls : Array Slot), C0_grows_k1_0 σ x1 = some (r0, σ') → iv_ 59 a D (shC cy a σ) s H locs → lv_has ls 3 [(0, .ref (a 15)), (1, .int x1), (2, .ref (a 29))] → W p l e ({ frames := 4, cells := 0, slots := 0, locals := 87 }) s m args below meth c H locs 0 0 (MQ below (qg_ 59 a D (shC cy a σ') (some (.int r0)) s.heap.size) args s 0 0 (fr_ 59 a s.heap.size)) (F0 m 0 ls []) := by
  obtain ⟨hx, hb, hr, hml, hown, hts, hlk, hK, hA, hXf⟩ := id X
  intro σ x1 H locs ls h I hl
  unfold C0_grows_k1_0 at h
  refine lv_aload_n hx hb dX0_grows_0 rfl (lv_at hl 2 rfl) ?_
  refine lv_bipush (v := 13) hx hb dX0_grows_1 (by decide) ?_
  obtain ⟨_, σ_2, hc_1, h⟩ := bi_of h
  refine cv_ (rV_ (nn := 1) (As := [.int (13 : Int32)]) (rest := []) X xkC I (c_C4_runs hc_1 H.size) gBX0_grows_X4_runs rfl ⟨rfl, rfl⟩ (by decide +kernel) ⟨Nat.le_of_ble_eq_true rfl, Nat.le_of_ble_eq_true rfl⟩ (by decide) shC_29 rfl rfl hl.1 rfl (Nat.le_of_ble_eq_true rfl) dX0_grows_3) I (fun H locs I => ?_)
  refine lv_aload_n hx hb dX0_grows_6 rfl (lv_at hl 0 rfl) ?_
  refine lv_iload_n hx hb dX0_grows_7 rfl (lv_at hl 1 rfl) ?_
  refine lv_aload_n hx hb dX0_grows_8 rfl (lv_at hl 2 rfl) ?_
  obtain ⟨r_5, σ_4, hc_3, h⟩ := bi_of h
  refine cg_ (v := .int r_5) (rO_ (nn := 2) (As := [.int x1, .ref (a 29)]) (rest := []) (b0 := cX0_prays) (m0 := 3) (r0 := (some .int)) X xkC I (c_C5_prays_k1 hc_3 H.size) gBX0_grows_X5_prays_u30X5 rfl ⟨rfl, rfl⟩ (by decide +kernel) (by decide +kernel) ⟨Nat.le_of_ble_eq_true rfl, Nat.le_of_ble_eq_true rfl⟩ (by decide) shC_15 rfl rfl hl.1 rfl (Nat.le_of_ble_eq_true rfl) dX0_grows_9) I (fun H locs I => ?_)
  refine lv_bipush (v := 80) hx hb dX0_grows_12 (by decide) ?_
  refine lv_ixor hx hb dX0_grows_14 ?_
  obtain ⟨rfl, rfl⟩ := re_s h
  exact rti_ X I dX0_grows_15
theorem c_C0_grows_k1 {l : Launch} {D : va_G} {cy : Nat → ClassId} {a gs : Nat → Nat} {σ : Sg} {x1 : Int32} {r0 : Int32} {σ' : Sg} (h : C0_grows_k1_0 σ x1 = some (r0, σ')) (sz : Nat) : Met l yX0_grows wB_X0_grows ({ frames := 4, cells := 0, slots := 0, locals := 87 }) (va_Pc [.ref (a 15), .int x1, .ref (a 29)] (pr_ 59 a D cy (shC cy a σ) (xfC gs) sz)) (qg_ 59 a D (shC cy a σ') (some (.int r0)) sz) 0 0 (fr_ 59 a sz) := by
  refine ent_ (by decide) rfl (Nat.le_of_ble_eq_true rfl) ?_
  intro p e s m below meth c ls hsz X I hl
  subst hsz
  exact kC0_grows_k1_0 X σ x1 s.heap [] ls h I hl

def C0_grows_k2_0  (σ : Sg) (x1 : Int32) : Option (Int32 × Sg) :=
  bi_ (C4_runs_0 σ (13 : Int32)) fun _ σ_2 =>
  bi_ (C0_prays_k2_0 σ_2 x1) fun r_5 σ_4 =>
  some ((r_5 ^^^ (80 : Int32)), σ_4)
set_option maxRecDepth 100000 in
theorem kC0_grows_k2_0 {p : Program} {l : Launch} {e : Env} {s : State} {m : MethodId} {args : Array Value} {below : List Frame} {meth : Method} {c : Code} {D : va_G} {cy : Nat → ClassId} {a gs : Nat → Nat} (X : cx_ cX0_grows RX0 wB_X0_grows 3 (some .int) 59 a D cy (xfC gs) p s m args meth c)  {r0 : Int32} {σ' : Sg}  : ∀ (σ : Sg) (x1 : Int32) (H : Heap) (locs : List Loc) (ls : Array Slot), C0_grows_k2_0 σ x1 = some (r0, σ') → iv_ 59 a D (shC cy a σ) s H locs → lv_has ls 3 [(0, .ref (a 16)), (1, .int x1), (2, .ref (a 29))] → W p l e ({ frames := 4, cells := 0, slots := 0, locals := 87 }) s m args below meth c H locs 0 0 (MQ below (qg_ 59 a D (shC cy a σ') (some (.int r0)) s.heap.size) args s 0 0 (fr_ 59 a s.heap.size)) (F0 m 0 ls []) := by
  obtain ⟨hx, hb, hr, hml, hown, hts, hlk, hK, hA, hXf⟩ := id X
  intro σ x1 H locs ls h I hl
  unfold C0_grows_k2_0 at h
  refine lv_aload_n hx hb dX0_grows_0 rfl (lv_at hl 2 rfl) ?_
  refine lv_bipush (v := 13) hx hb dX0_grows_1 (by decide) ?_
  obtain ⟨_, σ_2, hc_1, h⟩ := bi_of h
  refine cv_ (rV_ (nn := 1) (As := [.int (13 : Int32)]) (rest := []) X xkC I (c_C4_runs hc_1 H.size) gBX0_grows_X4_runs rfl ⟨rfl, rfl⟩ (by decide +kernel) ⟨Nat.le_of_ble_eq_true rfl, Nat.le_of_ble_eq_true rfl⟩ (by decide) shC_29 rfl rfl hl.1 rfl (Nat.le_of_ble_eq_true rfl) dX0_grows_3) I (fun H locs I => ?_)
  refine lv_aload_n hx hb dX0_grows_6 rfl (lv_at hl 0 rfl) ?_
  refine lv_iload_n hx hb dX0_grows_7 rfl (lv_at hl 1 rfl) ?_
  refine lv_aload_n hx hb dX0_grows_8 rfl (lv_at hl 2 rfl) ?_
  obtain ⟨r_5, σ_4, hc_3, h⟩ := bi_of h
  refine cg_ (v := .int r_5) (rU_ (nn := 2) (As := [.int x1, .ref (a 29)]) (rest := []) X xkC I (c_C0_prays_k2 hc_3 H.size) gBX0_grows_X0_prays_u30X10 rfl ⟨rfl, rfl⟩ rfl (by decide +kernel) ⟨Nat.le_of_ble_eq_true rfl, Nat.le_of_ble_eq_true rfl⟩ (by decide) shC_16 rfl rfl hl.1 rfl (Nat.le_of_ble_eq_true rfl) dX0_grows_9) I (fun H locs I => ?_)
  refine lv_bipush (v := 80) hx hb dX0_grows_12 (by decide) ?_
  refine lv_ixor hx hb dX0_grows_14 ?_
  obtain ⟨rfl, rfl⟩ := re_s h
  exact rti_ X I dX0_grows_15
theorem c_C0_grows_k2 {l : Launch} {D : va_G} {cy : Nat → ClassId} {a gs : Nat → Nat} {σ : Sg} {x1 : Int32} {r0 : Int32} {σ' : Sg} (h : C0_grows_k2_0 σ x1 = some (r0, σ')) (sz : Nat) : Met l yX0_grows wB_X0_grows ({ frames := 4, cells := 0, slots := 0, locals := 87 }) (va_Pc [.ref (a 16), .int x1, .ref (a 29)] (pr_ 59 a D cy (shC cy a σ) (xfC gs) sz)) (qg_ 59 a D (shC cy a σ') (some (.int r0)) sz) 0 0 (fr_ 59 a sz) := by
  refine ent_ (by decide) rfl (Nat.le_of_ble_eq_true rfl) ?_
  intro p e s m below meth c ls hsz X I hl
  subst hsz
  exact kC0_grows_k2_0 X σ x1 s.heap [] ls h I hl

def C10_grows_k2_0  (σ : Sg) (x1 : Int32) : Option (Int32 × Sg) :=
  bi_ (C4_runs_0 σ (31 : Int32)) fun _ σ_2 =>
  bi_ (C0_grows_k2_0 σ_2 x1) fun r_5 σ_4 =>
  bi_ (C0_parts_k2_0 σ_4 (rd_ σ_4 29 2)) fun r_8 σ_7 =>
  some ((r_5 + r_8), σ_7)
set_option maxRecDepth 100000 in
theorem kC10_grows_k2_0 {p : Program} {l : Launch} {e : Env} {s : State} {m : MethodId} {args : Array Value} {below : List Frame} {meth : Method} {c : Code} {D : va_G} {cy : Nat → ClassId} {a gs : Nat → Nat} (X : cx_ cX10_grows RX10 wB_X10_grows 3 (some .int) 59 a D cy (xfC gs) p s m args meth c)  {r0 : Int32} {σ' : Sg}  : ∀ (σ : Sg) (x1 : Int32) (H : Heap) (locs : List Loc) (ls : Array Slot), C10_grows_k2_0 σ x1 = some (r0, σ') → iv_ 59 a D (shC cy a σ) s H locs → lv_has ls 3 [(0, .ref (a 16)), (1, .int x1), (2, .ref (a 29))] → W p l e ({ frames := 5, cells := 0, slots := 0, locals := 109 }) s m args below meth c H locs 0 0 (MQ below (qg_ 59 a D (shC cy a σ') (some (.int r0)) s.heap.size) args s 0 0 (fr_ 59 a s.heap.size)) (F0 m 0 ls []) := by
  obtain ⟨hx, hb, hr, hml, hown, hts, hlk, hK, hA, hXf⟩ := id X
  intro σ x1 H locs ls h I hl
  unfold C10_grows_k2_0 at h
  refine lv_aload_n hx hb dX10_grows_0 rfl (lv_at hl 2 rfl) ?_
  refine lv_bipush (v := 31) hx hb dX10_grows_1 (by decide) ?_
  obtain ⟨_, σ_2, hc_1, h⟩ := bi_of h
  refine cv_ (rV_ (nn := 1) (As := [.int (31 : Int32)]) (rest := []) X xkC I (c_C4_runs hc_1 H.size) gBX10_grows_X4_runs rfl ⟨rfl, rfl⟩ (by decide +kernel) ⟨Nat.le_of_ble_eq_true rfl, Nat.le_of_ble_eq_true rfl⟩ (by decide) shC_29 rfl rfl hl.1 rfl (Nat.le_of_ble_eq_true rfl) dX10_grows_3) I (fun H locs I => ?_)
  refine lv_aload_n hx hb dX10_grows_6 rfl (lv_at hl 0 rfl) ?_
  refine lv_iload_n hx hb dX10_grows_7 rfl (lv_at hl 1 rfl) ?_
  refine lv_aload_n hx hb dX10_grows_8 rfl (lv_at hl 2 rfl) ?_
  obtain ⟨r_5, σ_4, hc_3, h⟩ := bi_of h
  refine cg_ (v := .int r_5) (rSU_ (nn := 2) (As := [.int x1, .ref (a 29)]) (rest := []) X xkC I (c_C0_grows_k2 hc_3 H.size) gBX10_grows_X0_grows_s33 rfl ⟨rfl, rfl⟩ (by decide +kernel) ⟨Nat.le_of_ble_eq_true rfl, Nat.le_of_ble_eq_true rfl⟩ (by decide) shC_16 rfl rfl hl.1 rfl (Nat.le_of_ble_eq_true rfl) dX10_grows_9) I (fun H locs I => ?_)
  refine lv_aload_n hx hb dX10_grows_12 rfl (lv_at hl 0 rfl) ?_
  refine lv_aload_n hx hb dX10_grows_13 rfl (lv_at hl 2 rfl) ?_
  refine ig_ (index := 36) X I (fun _ q => List.mem_cons_of_mem _ (hinB_X4 _ q)) 29 (by decide) shC_29 rfl 2 (by decide) (by decide +kernel) rfl (v := .int (rd_ σ_4 29 2)) rfl dX10_grows_14 ?_
  refine lv_aload_n hx hb dX10_grows_17 rfl (lv_at hl 2 rfl) ?_
  obtain ⟨r_8, σ_7, hc_6, h⟩ := bi_of h
  refine cg_ (v := .int r_8) (rU_ (nn := 2) (As := [.int (rd_ σ_4 29 2), .ref (a 29)]) (rest := [.int r_5]) X xkC I (c_C0_parts_k2 hc_6 H.size) gBX10_grows_X0_parts_u40X10 rfl ⟨rfl, rfl⟩ rfl (by decide +kernel) ⟨Nat.le_of_ble_eq_true rfl, Nat.le_of_ble_eq_true rfl⟩ (by decide) shC_16 rfl rfl hl.1 rfl (Nat.le_of_ble_eq_true rfl) dX10_grows_18) I (fun H locs I => ?_)
  refine lv_iadd hx hb dX10_grows_21 ?_
  obtain ⟨rfl, rfl⟩ := re_s h
  exact rti_ X I dX10_grows_22
theorem c_C10_grows_k2 {l : Launch} {D : va_G} {cy : Nat → ClassId} {a gs : Nat → Nat} {σ : Sg} {x1 : Int32} {r0 : Int32} {σ' : Sg} (h : C10_grows_k2_0 σ x1 = some (r0, σ')) (sz : Nat) : Met l yX10_grows wB_X10_grows ({ frames := 5, cells := 0, slots := 0, locals := 109 }) (va_Pc [.ref (a 16), .int x1, .ref (a 29)] (pr_ 59 a D cy (shC cy a σ) (xfC gs) sz)) (qg_ 59 a D (shC cy a σ') (some (.int r0)) sz) 0 0 (fr_ 59 a sz) := by
  refine ent_ (by decide) rfl (Nat.le_of_ble_eq_true rfl) ?_
  intro p e s m below meth c ls hsz X I hl
  subst hsz
  exact kC10_grows_k2_0 X σ x1 s.heap [] ls h I hl

def C0_grows_k3_0  (σ : Sg) (x1 : Int32) : Option (Int32 × Sg) :=
  bi_ (C4_runs_0 σ (13 : Int32)) fun _ σ_2 =>
  bi_ (C5_prays_k3_0 σ_2 x1) fun r_5 σ_4 =>
  some ((r_5 ^^^ (80 : Int32)), σ_4)
set_option maxRecDepth 100000 in
theorem kC0_grows_k3_0 {p : Program} {l : Launch} {e : Env} {s : State} {m : MethodId} {args : Array Value} {below : List Frame} {meth : Method} {c : Code} {D : va_G} {cy : Nat → ClassId} {a gs : Nat → Nat} (X : cx_ cX0_grows RX0 wB_X0_grows 3 (some .int) 59 a D cy (xfC gs) p s m args meth c)  {r0 : Int32} {σ' : Sg}  : ∀ (σ : Sg) (x1 : Int32) (H : Heap) (locs : List Loc) (ls : Array Slot), C0_grows_k3_0 σ x1 = some (r0, σ') → iv_ 59 a D (shC cy a σ) s H locs → lv_has ls 3 [(0, .ref (a 17)), (1, .int x1), (2, .ref (a 29))] → W p l e ({ frames := 5, cells := 0, slots := 0, locals := 109 }) s m args below meth c H locs 0 0 (MQ below (qg_ 59 a D (shC cy a σ') (some (.int r0)) s.heap.size) args s 0 0 (fr_ 59 a s.heap.size)) (F0 m 0 ls []) := by
  obtain ⟨hx, hb, hr, hml, hown, hts, hlk, hK, hA, hXf⟩ := id X
  intro σ x1 H locs ls h I hl
  unfold C0_grows_k3_0 at h
  refine lv_aload_n hx hb dX0_grows_0 rfl (lv_at hl 2 rfl) ?_
  refine lv_bipush (v := 13) hx hb dX0_grows_1 (by decide) ?_
  obtain ⟨_, σ_2, hc_1, h⟩ := bi_of h
  refine cv_ (rV_ (nn := 1) (As := [.int (13 : Int32)]) (rest := []) X xkC I (c_C4_runs hc_1 H.size) gBX0_grows_X4_runs rfl ⟨rfl, rfl⟩ (by decide +kernel) ⟨Nat.le_of_ble_eq_true rfl, Nat.le_of_ble_eq_true rfl⟩ (by decide) shC_29 rfl rfl hl.1 rfl (Nat.le_of_ble_eq_true rfl) dX0_grows_3) I (fun H locs I => ?_)
  refine lv_aload_n hx hb dX0_grows_6 rfl (lv_at hl 0 rfl) ?_
  refine lv_iload_n hx hb dX0_grows_7 rfl (lv_at hl 1 rfl) ?_
  refine lv_aload_n hx hb dX0_grows_8 rfl (lv_at hl 2 rfl) ?_
  obtain ⟨r_5, σ_4, hc_3, h⟩ := bi_of h
  refine cg_ (v := .int r_5) (rO_ (nn := 2) (As := [.int x1, .ref (a 29)]) (rest := []) (b0 := cX0_prays) (m0 := 3) (r0 := (some .int)) X xkC I (c_C5_prays_k3 hc_3 H.size) gBX0_grows_X5_prays_u30X3 rfl ⟨rfl, rfl⟩ (by decide +kernel) (by decide +kernel) ⟨Nat.le_of_ble_eq_true rfl, Nat.le_of_ble_eq_true rfl⟩ (by decide) shC_17 rfl rfl hl.1 rfl (Nat.le_of_ble_eq_true rfl) dX0_grows_9) I (fun H locs I => ?_)
  refine lv_bipush (v := 80) hx hb dX0_grows_12 (by decide) ?_
  refine lv_ixor hx hb dX0_grows_14 ?_
  obtain ⟨rfl, rfl⟩ := re_s h
  exact rti_ X I dX0_grows_15
theorem c_C0_grows_k3 {l : Launch} {D : va_G} {cy : Nat → ClassId} {a gs : Nat → Nat} {σ : Sg} {x1 : Int32} {r0 : Int32} {σ' : Sg} (h : C0_grows_k3_0 σ x1 = some (r0, σ')) (sz : Nat) : Met l yX0_grows wB_X0_grows ({ frames := 5, cells := 0, slots := 0, locals := 109 }) (va_Pc [.ref (a 17), .int x1, .ref (a 29)] (pr_ 59 a D cy (shC cy a σ) (xfC gs) sz)) (qg_ 59 a D (shC cy a σ') (some (.int r0)) sz) 0 0 (fr_ 59 a sz) := by
  refine ent_ (by decide) rfl (Nat.le_of_ble_eq_true rfl) ?_
  intro p e s m below meth c ls hsz X I hl
  subst hsz
  exact kC0_grows_k3_0 X σ x1 s.heap [] ls h I hl

def C0_grows_k4_0  (σ : Sg) (x1 : Int32) : Option (Int32 × Sg) :=
  bi_ (C4_runs_0 σ (13 : Int32)) fun _ σ_2 =>
  bi_ (C7_prays_k4_0 σ_2 x1) fun r_5 σ_4 =>
  some ((r_5 ^^^ (80 : Int32)), σ_4)
set_option maxRecDepth 100000 in
theorem kC0_grows_k4_0 {p : Program} {l : Launch} {e : Env} {s : State} {m : MethodId} {args : Array Value} {below : List Frame} {meth : Method} {c : Code} {D : va_G} {cy : Nat → ClassId} {a gs : Nat → Nat} (X : cx_ cX0_grows RX0 wB_X0_grows 3 (some .int) 59 a D cy (xfC gs) p s m args meth c)  {r0 : Int32} {σ' : Sg}  : ∀ (σ : Sg) (x1 : Int32) (H : Heap) (locs : List Loc) (ls : Array Slot), C0_grows_k4_0 σ x1 = some (r0, σ') → iv_ 59 a D (shC cy a σ) s H locs → lv_has ls 3 [(0, .ref (a 18)), (1, .int x1), (2, .ref (a 29))] → W p l e ({ frames := 6, cells := 0, slots := 0, locals := 131 }) s m args below meth c H locs 0 0 (MQ below (qg_ 59 a D (shC cy a σ') (some (.int r0)) s.heap.size) args s 0 0 (fr_ 59 a s.heap.size)) (F0 m 0 ls []) := by
  obtain ⟨hx, hb, hr, hml, hown, hts, hlk, hK, hA, hXf⟩ := id X
  intro σ x1 H locs ls h I hl
  unfold C0_grows_k4_0 at h
  refine lv_aload_n hx hb dX0_grows_0 rfl (lv_at hl 2 rfl) ?_
  refine lv_bipush (v := 13) hx hb dX0_grows_1 (by decide) ?_
  obtain ⟨_, σ_2, hc_1, h⟩ := bi_of h
  refine cv_ (rV_ (nn := 1) (As := [.int (13 : Int32)]) (rest := []) X xkC I (c_C4_runs hc_1 H.size) gBX0_grows_X4_runs rfl ⟨rfl, rfl⟩ (by decide +kernel) ⟨Nat.le_of_ble_eq_true rfl, Nat.le_of_ble_eq_true rfl⟩ (by decide) shC_29 rfl rfl hl.1 rfl (Nat.le_of_ble_eq_true rfl) dX0_grows_3) I (fun H locs I => ?_)
  refine lv_aload_n hx hb dX0_grows_6 rfl (lv_at hl 0 rfl) ?_
  refine lv_iload_n hx hb dX0_grows_7 rfl (lv_at hl 1 rfl) ?_
  refine lv_aload_n hx hb dX0_grows_8 rfl (lv_at hl 2 rfl) ?_
  obtain ⟨r_5, σ_4, hc_3, h⟩ := bi_of h
  refine cg_ (v := .int r_5) (rO_ (nn := 2) (As := [.int x1, .ref (a 29)]) (rest := []) (b0 := cX0_prays) (m0 := 3) (r0 := (some .int)) X xkC I (c_C7_prays_k4 hc_3 H.size) gBX0_grows_X7_prays_u30X7 rfl ⟨rfl, rfl⟩ (by decide +kernel) (by decide +kernel) ⟨Nat.le_of_ble_eq_true rfl, Nat.le_of_ble_eq_true rfl⟩ (by decide) shC_18 rfl rfl hl.1 rfl (Nat.le_of_ble_eq_true rfl) dX0_grows_9) I (fun H locs I => ?_)
  refine lv_bipush (v := 80) hx hb dX0_grows_12 (by decide) ?_
  refine lv_ixor hx hb dX0_grows_14 ?_
  obtain ⟨rfl, rfl⟩ := re_s h
  exact rti_ X I dX0_grows_15
theorem c_C0_grows_k4 {l : Launch} {D : va_G} {cy : Nat → ClassId} {a gs : Nat → Nat} {σ : Sg} {x1 : Int32} {r0 : Int32} {σ' : Sg} (h : C0_grows_k4_0 σ x1 = some (r0, σ')) (sz : Nat) : Met l yX0_grows wB_X0_grows ({ frames := 6, cells := 0, slots := 0, locals := 131 }) (va_Pc [.ref (a 18), .int x1, .ref (a 29)] (pr_ 59 a D cy (shC cy a σ) (xfC gs) sz)) (qg_ 59 a D (shC cy a σ') (some (.int r0)) sz) 0 0 (fr_ 59 a sz) := by
  refine ent_ (by decide) rfl (Nat.le_of_ble_eq_true rfl) ?_
  intro p e s m below meth c ls hsz X I hl
  subst hsz
  exact kC0_grows_k4_0 X σ x1 s.heap [] ls h I hl

def C10_grows_k4_0  (σ : Sg) (x1 : Int32) : Option (Int32 × Sg) :=
  bi_ (C4_runs_0 σ (31 : Int32)) fun _ σ_2 =>
  bi_ (C0_grows_k4_0 σ_2 x1) fun r_5 σ_4 =>
  bi_ (C0_parts_k4_0 σ_4 (rd_ σ_4 29 2)) fun r_8 σ_7 =>
  some ((r_5 + r_8), σ_7)
set_option maxRecDepth 100000 in
theorem kC10_grows_k4_0 {p : Program} {l : Launch} {e : Env} {s : State} {m : MethodId} {args : Array Value} {below : List Frame} {meth : Method} {c : Code} {D : va_G} {cy : Nat → ClassId} {a gs : Nat → Nat} (X : cx_ cX10_grows RX10 wB_X10_grows 3 (some .int) 59 a D cy (xfC gs) p s m args meth c)  {r0 : Int32} {σ' : Sg}  : ∀ (σ : Sg) (x1 : Int32) (H : Heap) (locs : List Loc) (ls : Array Slot), C10_grows_k4_0 σ x1 = some (r0, σ') → iv_ 59 a D (shC cy a σ) s H locs → lv_has ls 3 [(0, .ref (a 18)), (1, .int x1), (2, .ref (a 29))] → W p l e ({ frames := 7, cells := 0, slots := 0, locals := 153 }) s m args below meth c H locs 0 0 (MQ below (qg_ 59 a D (shC cy a σ') (some (.int r0)) s.heap.size) args s 0 0 (fr_ 59 a s.heap.size)) (F0 m 0 ls []) := by
  obtain ⟨hx, hb, hr, hml, hown, hts, hlk, hK, hA, hXf⟩ := id X
  intro σ x1 H locs ls h I hl
  unfold C10_grows_k4_0 at h
  refine lv_aload_n hx hb dX10_grows_0 rfl (lv_at hl 2 rfl) ?_
  refine lv_bipush (v := 31) hx hb dX10_grows_1 (by decide) ?_
  obtain ⟨_, σ_2, hc_1, h⟩ := bi_of h
  refine cv_ (rV_ (nn := 1) (As := [.int (31 : Int32)]) (rest := []) X xkC I (c_C4_runs hc_1 H.size) gBX10_grows_X4_runs rfl ⟨rfl, rfl⟩ (by decide +kernel) ⟨Nat.le_of_ble_eq_true rfl, Nat.le_of_ble_eq_true rfl⟩ (by decide) shC_29 rfl rfl hl.1 rfl (Nat.le_of_ble_eq_true rfl) dX10_grows_3) I (fun H locs I => ?_)
  refine lv_aload_n hx hb dX10_grows_6 rfl (lv_at hl 0 rfl) ?_
  refine lv_iload_n hx hb dX10_grows_7 rfl (lv_at hl 1 rfl) ?_
  refine lv_aload_n hx hb dX10_grows_8 rfl (lv_at hl 2 rfl) ?_
  obtain ⟨r_5, σ_4, hc_3, h⟩ := bi_of h
  refine cg_ (v := .int r_5) (rSU_ (nn := 2) (As := [.int x1, .ref (a 29)]) (rest := []) X xkC I (c_C0_grows_k4 hc_3 H.size) gBX10_grows_X0_grows_s33 rfl ⟨rfl, rfl⟩ (by decide +kernel) ⟨Nat.le_of_ble_eq_true rfl, Nat.le_of_ble_eq_true rfl⟩ (by decide) shC_18 rfl rfl hl.1 rfl (Nat.le_of_ble_eq_true rfl) dX10_grows_9) I (fun H locs I => ?_)
  refine lv_aload_n hx hb dX10_grows_12 rfl (lv_at hl 0 rfl) ?_
  refine lv_aload_n hx hb dX10_grows_13 rfl (lv_at hl 2 rfl) ?_
  refine ig_ (index := 36) X I (fun _ q => List.mem_cons_of_mem _ (hinB_X4 _ q)) 29 (by decide) shC_29 rfl 2 (by decide) (by decide +kernel) rfl (v := .int (rd_ σ_4 29 2)) rfl dX10_grows_14 ?_
  refine lv_aload_n hx hb dX10_grows_17 rfl (lv_at hl 2 rfl) ?_
  obtain ⟨r_8, σ_7, hc_6, h⟩ := bi_of h
  refine cg_ (v := .int r_8) (rU_ (nn := 2) (As := [.int (rd_ σ_4 29 2), .ref (a 29)]) (rest := [.int r_5]) X xkC I (c_C0_parts_k4 hc_6 H.size) gBX10_grows_X0_parts_u40X7 rfl ⟨rfl, rfl⟩ rfl (by decide +kernel) ⟨Nat.le_of_ble_eq_true rfl, Nat.le_of_ble_eq_true rfl⟩ (by decide) shC_18 rfl rfl hl.1 rfl (Nat.le_of_ble_eq_true rfl) dX10_grows_18) I (fun H locs I => ?_)
  refine lv_iadd hx hb dX10_grows_21 ?_
  obtain ⟨rfl, rfl⟩ := re_s h
  exact rti_ X I dX10_grows_22
theorem c_C10_grows_k4 {l : Launch} {D : va_G} {cy : Nat → ClassId} {a gs : Nat → Nat} {σ : Sg} {x1 : Int32} {r0 : Int32} {σ' : Sg} (h : C10_grows_k4_0 σ x1 = some (r0, σ')) (sz : Nat) : Met l yX10_grows wB_X10_grows ({ frames := 7, cells := 0, slots := 0, locals := 153 }) (va_Pc [.ref (a 18), .int x1, .ref (a 29)] (pr_ 59 a D cy (shC cy a σ) (xfC gs) sz)) (qg_ 59 a D (shC cy a σ') (some (.int r0)) sz) 0 0 (fr_ 59 a sz) := by
  refine ent_ (by decide) rfl (Nat.le_of_ble_eq_true rfl) ?_
  intro p e s m below meth c ls hsz X I hl
  subst hsz
  exact kC10_grows_k4_0 X σ x1 s.heap [] ls h I hl

def C0_grows_k5_0  (σ : Sg) (x1 : Int32) : Option (Int32 × Sg) :=
  bi_ (C4_runs_0 σ (13 : Int32)) fun _ σ_2 =>
  bi_ (C0_prays_k5_0 σ_2 x1) fun r_5 σ_4 =>
  some ((r_5 ^^^ (80 : Int32)), σ_4)
set_option maxRecDepth 100000 in
theorem kC0_grows_k5_0 {p : Program} {l : Launch} {e : Env} {s : State} {m : MethodId} {args : Array Value} {below : List Frame} {meth : Method} {c : Code} {D : va_G} {cy : Nat → ClassId} {a gs : Nat → Nat} (X : cx_ cX0_grows RX0 wB_X0_grows 3 (some .int) 59 a D cy (xfC gs) p s m args meth c)  {r0 : Int32} {σ' : Sg}  : ∀ (σ : Sg) (x1 : Int32) (H : Heap) (locs : List Loc) (ls : Array Slot), C0_grows_k5_0 σ x1 = some (r0, σ') → iv_ 59 a D (shC cy a σ) s H locs → lv_has ls 3 [(0, .ref (a 19)), (1, .int x1), (2, .ref (a 29))] → W p l e ({ frames := 3, cells := 0, slots := 0, locals := 65 }) s m args below meth c H locs 0 0 (MQ below (qg_ 59 a D (shC cy a σ') (some (.int r0)) s.heap.size) args s 0 0 (fr_ 59 a s.heap.size)) (F0 m 0 ls []) := by
  obtain ⟨hx, hb, hr, hml, hown, hts, hlk, hK, hA, hXf⟩ := id X
  intro σ x1 H locs ls h I hl
  unfold C0_grows_k5_0 at h
  refine lv_aload_n hx hb dX0_grows_0 rfl (lv_at hl 2 rfl) ?_
  refine lv_bipush (v := 13) hx hb dX0_grows_1 (by decide) ?_
  obtain ⟨_, σ_2, hc_1, h⟩ := bi_of h
  refine cv_ (rV_ (nn := 1) (As := [.int (13 : Int32)]) (rest := []) X xkC I (c_C4_runs hc_1 H.size) gBX0_grows_X4_runs rfl ⟨rfl, rfl⟩ (by decide +kernel) ⟨Nat.le_of_ble_eq_true rfl, Nat.le_of_ble_eq_true rfl⟩ (by decide) shC_29 rfl rfl hl.1 rfl (Nat.le_of_ble_eq_true rfl) dX0_grows_3) I (fun H locs I => ?_)
  refine lv_aload_n hx hb dX0_grows_6 rfl (lv_at hl 0 rfl) ?_
  refine lv_iload_n hx hb dX0_grows_7 rfl (lv_at hl 1 rfl) ?_
  refine lv_aload_n hx hb dX0_grows_8 rfl (lv_at hl 2 rfl) ?_
  obtain ⟨r_5, σ_4, hc_3, h⟩ := bi_of h
  refine cg_ (v := .int r_5) (rU_ (nn := 2) (As := [.int x1, .ref (a 29)]) (rest := []) X xkC I (c_C0_prays_k5 hc_3 H.size) gBX0_grows_X0_prays_u30X9 rfl ⟨rfl, rfl⟩ rfl (by decide +kernel) ⟨Nat.le_of_ble_eq_true rfl, Nat.le_of_ble_eq_true rfl⟩ (by decide) shC_19 rfl rfl hl.1 rfl (Nat.le_of_ble_eq_true rfl) dX0_grows_9) I (fun H locs I => ?_)
  refine lv_bipush (v := 80) hx hb dX0_grows_12 (by decide) ?_
  refine lv_ixor hx hb dX0_grows_14 ?_
  obtain ⟨rfl, rfl⟩ := re_s h
  exact rti_ X I dX0_grows_15
theorem c_C0_grows_k5 {l : Launch} {D : va_G} {cy : Nat → ClassId} {a gs : Nat → Nat} {σ : Sg} {x1 : Int32} {r0 : Int32} {σ' : Sg} (h : C0_grows_k5_0 σ x1 = some (r0, σ')) (sz : Nat) : Met l yX0_grows wB_X0_grows ({ frames := 3, cells := 0, slots := 0, locals := 65 }) (va_Pc [.ref (a 19), .int x1, .ref (a 29)] (pr_ 59 a D cy (shC cy a σ) (xfC gs) sz)) (qg_ 59 a D (shC cy a σ') (some (.int r0)) sz) 0 0 (fr_ 59 a sz) := by
  refine ent_ (by decide) rfl (Nat.le_of_ble_eq_true rfl) ?_
  intro p e s m below meth c ls hsz X I hl
  subst hsz
  exact kC0_grows_k5_0 X σ x1 s.heap [] ls h I hl

def C9_grows_k5_0  (σ : Sg) (x1 : Int32) : Option (Int32 × Sg) :=
  bi_ (C4_runs_0 σ (60 : Int32)) fun _ σ_2 =>
  bi_ (C0_grows_k5_0 σ_2 x1) fun r_5 σ_4 =>
  some ((r_5 * (3 : Int32)), σ_4)
set_option maxRecDepth 100000 in
theorem kC9_grows_k5_0 {p : Program} {l : Launch} {e : Env} {s : State} {m : MethodId} {args : Array Value} {below : List Frame} {meth : Method} {c : Code} {D : va_G} {cy : Nat → ClassId} {a gs : Nat → Nat} (X : cx_ cX9_grows RX9 wB_X9_grows 3 (some .int) 59 a D cy (xfC gs) p s m args meth c)  {r0 : Int32} {σ' : Sg}  : ∀ (σ : Sg) (x1 : Int32) (H : Heap) (locs : List Loc) (ls : Array Slot), C9_grows_k5_0 σ x1 = some (r0, σ') → iv_ 59 a D (shC cy a σ) s H locs → lv_has ls 3 [(0, .ref (a 19)), (1, .int x1), (2, .ref (a 29))] → W p l e ({ frames := 4, cells := 0, slots := 0, locals := 87 }) s m args below meth c H locs 0 0 (MQ below (qg_ 59 a D (shC cy a σ') (some (.int r0)) s.heap.size) args s 0 0 (fr_ 59 a s.heap.size)) (F0 m 0 ls []) := by
  obtain ⟨hx, hb, hr, hml, hown, hts, hlk, hK, hA, hXf⟩ := id X
  intro σ x1 H locs ls h I hl
  unfold C9_grows_k5_0 at h
  refine lv_aload_n hx hb dX9_grows_0 rfl (lv_at hl 2 rfl) ?_
  refine lv_bipush (v := 60) hx hb dX9_grows_1 (by decide) ?_
  obtain ⟨_, σ_2, hc_1, h⟩ := bi_of h
  refine cv_ (rV_ (nn := 1) (As := [.int (60 : Int32)]) (rest := []) X xkC I (c_C4_runs hc_1 H.size) gBX9_grows_X4_runs rfl ⟨rfl, rfl⟩ (by decide +kernel) ⟨Nat.le_of_ble_eq_true rfl, Nat.le_of_ble_eq_true rfl⟩ (by decide) shC_29 rfl rfl hl.1 rfl (Nat.le_of_ble_eq_true rfl) dX9_grows_3) I (fun H locs I => ?_)
  refine lv_aload_n hx hb dX9_grows_6 rfl (lv_at hl 0 rfl) ?_
  refine lv_iload_n hx hb dX9_grows_7 rfl (lv_at hl 1 rfl) ?_
  refine lv_aload_n hx hb dX9_grows_8 rfl (lv_at hl 2 rfl) ?_
  obtain ⟨r_5, σ_4, hc_3, h⟩ := bi_of h
  refine cg_ (v := .int r_5) (rSU_ (nn := 2) (As := [.int x1, .ref (a 29)]) (rest := []) X xkC I (c_C0_grows_k5 hc_3 H.size) gBX9_grows_X0_grows_s17 rfl ⟨rfl, rfl⟩ (by decide +kernel) ⟨Nat.le_of_ble_eq_true rfl, Nat.le_of_ble_eq_true rfl⟩ (by decide) shC_19 rfl rfl hl.1 rfl (Nat.le_of_ble_eq_true rfl) dX9_grows_9) I (fun H locs I => ?_)
  refine lv_iconst (v := 3) hx hb dX9_grows_12 (by decide) ?_
  refine lv_imul hx hb dX9_grows_13 ?_
  obtain ⟨rfl, rfl⟩ := re_s h
  exact rti_ X I dX9_grows_14
theorem c_C9_grows_k5 {l : Launch} {D : va_G} {cy : Nat → ClassId} {a gs : Nat → Nat} {σ : Sg} {x1 : Int32} {r0 : Int32} {σ' : Sg} (h : C9_grows_k5_0 σ x1 = some (r0, σ')) (sz : Nat) : Met l yX9_grows wB_X9_grows ({ frames := 4, cells := 0, slots := 0, locals := 87 }) (va_Pc [.ref (a 19), .int x1, .ref (a 29)] (pr_ 59 a D cy (shC cy a σ) (xfC gs) sz)) (qg_ 59 a D (shC cy a σ') (some (.int r0)) sz) 0 0 (fr_ 59 a sz) := by
  refine ent_ (by decide) rfl (Nat.le_of_ble_eq_true rfl) ?_
  intro p e s m below meth c ls hsz X I hl
  subst hsz
  exact kC9_grows_k5_0 X σ x1 s.heap [] ls h I hl

def C_act_155  (σ : Sg) (x7 : Int32) : Option (Int32 × Sg) :=
  if (rd_ σ 29 4) = 0 then (some (x7, σ))
  else (some ((-15 : Int32), σ))
set_option maxRecDepth 100000 in
theorem kC_act_155 {p : Program} {l : Launch} {e : Env} {s : State} {m : MethodId} {args : Array Value} {below : List Frame} {meth : Method} {c : Code} {D : va_G} {cy : Nat → ClassId} {a gs : Nat → Nat} (X : cx_ cX11_act RX11 wB_X11_act 8 (some .int) 59 a D cy (xfC gs) p s m args meth c)  {r0 : Int32} {σ' : Sg}  : ∀ (σ : Sg) (x7 : Int32) (H : Heap) (locs : List Loc) (ls : Array Slot), C_act_155 σ x7 = some (r0, σ') → iv_ 59 a D (shC cy a σ) s H locs → lv_has ls 8 [(0, .ref (a 0)), (7, .int x7)] → W p l e ({ frames := 8, cells := 0, slots := 0, locals := 175 }) s m args below meth c H locs 0 0 (MQ below (qg_ 59 a D (shC cy a σ') (some (.int r0)) s.heap.size) args s 0 0 (fr_ 59 a s.heap.size)) (F0 m 155 ls []) := by
  obtain ⟨hx, hb, hr, hml, hown, hts, hlk, hK, hA, hXf⟩ := id X
  intro σ x7 H locs ls h I hl
  unfold C_act_155 at h
  refine lv_aload_n hx hb dX11_act_155 rfl (lv_at hl 0 rfl) ?_
  refine ig_ (index := 66) X I (fun _ q => List.mem_cons_of_mem _ (hinB_X11 _ q)) 0 (by decide) shC_0 rfl 6 (by decide) (by decide +kernel) rfl (v := .ref (a 29)) rfl dX11_act_156 ?_
  refine ig_ (index := 357) X I (fun _ q => List.mem_cons_of_mem _ (hinB_X4 _ q)) 29 (by decide) shC_29 rfl 4 (by decide) (by decide +kernel) rfl (v := .int (rd_ σ 29 4)) rfl dX11_act_159 ?_
  refine lv_if_eq (tgt := 170) hx hb dX11_act_162 (by decide) (fun c_1 => ?_) (fun c_1 => ?_)
  · have h := if_t h c_1
    refine lv_iload hx hb dX11_act_170 (lv_at hl 1 rfl) ?_
    obtain ⟨rfl, rfl⟩ := re_s h
    exact rti_ X I dX11_act_172
  · have h := if_f h c_1
    refine lv_bipush (v := (-15)) hx hb dX11_act_165 (by decide) ?_
    refine lv_goto (tgt := 172) hx hb dX11_act_167 (by decide) ?_
    obtain ⟨rfl, rfl⟩ := re_s h
    exact rti_ X I dX11_act_172
def C_act_41  (σ : Sg) (x2 : Int32) (x3 : Int32) (x5 : Option Nat) (t2 : Int32) (t1 : Int32) : Option (Int32 × Sg) :=
  on_ x5 (bi_ (C4_begin_0 σ t1 t2) fun _ σ_3 =>
  some ((0 : Int32), σ_3)) fun j_1 =>
  bi_ (C4_begin_0 σ t1 t2) fun _ σ_5 =>
  bi_ (C1_kindOf_0 σ_5 j_1) fun r_8 σ_7 =>
  if x2 = 0 then (bi_ (if r_8 = 0 then C0_kicks_k0_0 σ_7 x3 else if r_8 = 1 then C0_kicks_k1_0 σ_7 x3 else if r_8 = 2 then C10_kicks_k2_0 σ_7 x3 else if r_8 = 3 then C3_kicks_k3_0 σ_7 x3 else if r_8 = 4 then C7_kicks_k4_0 σ_7 x3 else if r_8 = 5 then C0_kicks_k5_0 σ_7 x3 else none) fun r_12 σ_11 =>
  C_act_155 σ_11 r_12)
  else (if x2 = 1 then (bi_ (if r_8 = 0 then C0_prays_k0_0 σ_7 x3 else if r_8 = 1 then C5_prays_k1_0 σ_7 x3 else if r_8 = 2 then C0_prays_k2_0 σ_7 x3 else if r_8 = 3 then C5_prays_k3_0 σ_7 x3 else if r_8 = 4 then C7_prays_k4_0 σ_7 x3 else if r_8 = 5 then C0_prays_k5_0 σ_7 x3 else none) fun r_22 σ_21 =>
  C_act_155 σ_21 r_22)
  else (if x2 = 2 then (bi_ (if r_8 = 0 then C0_parts_k0_0 σ_7 x3 else if r_8 = 1 then C0_parts_k1_0 σ_7 x3 else if r_8 = 2 then C0_parts_k2_0 σ_7 x3 else if r_8 = 3 then C3_parts_k3_0 σ_7 x3 else if r_8 = 4 then C0_parts_k4_0 σ_7 x3 else if r_8 = 5 then C9_parts_k5_0 σ_7 x3 else none) fun r_32 σ_31 =>
  C_act_155 σ_31 r_32)
  else (if x2 = 3 then (bi_ (if r_8 = 0 then C0_grows_k0_0 σ_7 x3 else if r_8 = 1 then C0_grows_k1_0 σ_7 x3 else if r_8 = 2 then C10_grows_k2_0 σ_7 x3 else if r_8 = 3 then C0_grows_k3_0 σ_7 x3 else if r_8 = 4 then C10_grows_k4_0 σ_7 x3 else if r_8 = 5 then C9_grows_k5_0 σ_7 x3 else none) fun r_42 σ_41 =>
  C_act_155 σ_41 r_42)
  else (C_act_155 σ_7 (0 : Int32)))))
set_option maxRecDepth 100000 in
theorem kC_act_41 {p : Program} {l : Launch} {e : Env} {s : State} {m : MethodId} {args : Array Value} {below : List Frame} {meth : Method} {c : Code} {D : va_G} {cy : Nat → ClassId} {a gs : Nat → Nat} (X : cx_ cX11_act RX11 wB_X11_act 8 (some .int) 59 a D cy (xfC gs) p s m args meth c)  {r0 : Int32} {σ' : Sg}  : ∀ (σ : Sg) (x2 : Int32) (x3 : Int32) (x5 : Option Nat) (t2 : Int32) (t1 : Int32) (H : Heap) (locs : List Loc) (ls : Array Slot), C_act_41 σ x2 x3 x5 t2 t1 = some (r0, σ') → iv_ 59 a D (shC cy a σ) s H locs → lv_has ls 8 [(0, .ref (a 0)), (2, .int x2), (3, .int x3), (5, va_re (fun j => a (34 + j)) x5)] → W p l e ({ frames := 8, cells := 0, slots := 0, locals := 175 }) s m args below meth c H locs 0 0 (MQ below (qg_ 59 a D (shC cy a σ') (some (.int r0)) s.heap.size) args s 0 0 (fr_ 59 a s.heap.size)) (F0 m 41 ls [.int t2, .int t1, .ref (a 29)]) := by
  obtain ⟨hx, hb, hr, hml, hown, hts, hlk, hK, hA, hXf⟩ := id X
  intro σ x2 x3 x5 t2 t1 H locs ls h I hl
  unfold C_act_41 at h
  rcases x5 with _ | j_1
  · have h := on_n h
    have hl : lv_has ls 8 [(0, .ref (a 0)), (2, .int x2), (3, .int x3), (5, .null)] := hl
    obtain ⟨_, σ_3, hc_2, h⟩ := bi_of h
    refine cv_ (rV_ (nn := 2) (As := [.int t1, .int t2]) (rest := []) X xkC I (c_C4_begin hc_2 H.size) gBX11_act_X4_begin rfl ⟨rfl, rfl⟩ (by decide +kernel) ⟨Nat.le_of_ble_eq_true rfl, Nat.le_of_ble_eq_true rfl⟩ (by decide) shC_29 rfl rfl hl.1 rfl (Nat.le_of_ble_eq_true rfl) dX11_act_41) I (fun H locs I => ?_)
    refine lv_aloadN hx hb dX11_act_44 (lv_at hl 3 rfl) ?_
    refine lv_ifnonnullN hx hb dX11_act_46 ?_
    refine lv_iconst (v := 0) hx hb dX11_act_49 (by decide) ?_
    obtain ⟨rfl, rfl⟩ := re_s h
    exact rti_ X I dX11_act_50
  · have h := on_s h
    have hl : lv_has ls 8 [(0, .ref (a 0)), (2, .int x2), (3, .int x3), (5, .ref (a (34 + j_1)))] := hl
    obtain ⟨_, σ_5, hc_4, h⟩ := bi_of h
    refine cv_ (rV_ (nn := 2) (As := [.int t1, .int t2]) (rest := []) X xkC I (c_C4_begin hc_4 H.size) gBX11_act_X4_begin rfl ⟨rfl, rfl⟩ (by decide +kernel) ⟨Nat.le_of_ble_eq_true rfl, Nat.le_of_ble_eq_true rfl⟩ (by decide) shC_29 rfl rfl hl.1 rfl (Nat.le_of_ble_eq_true rfl) dX11_act_41) I (fun H locs I => ?_)
    refine lv_aload hx hb dX11_act_44 (lv_at hl 3 rfl) ?_
    refine lv_ifnonnull (tgt := 51) hx hb dX11_act_46 (by decide) ?_
    refine lv_aload_n hx hb dX11_act_51 rfl (lv_at hl 0 rfl) ?_
    refine ig_ (index := 30) X I (fun _ q => List.mem_cons_of_mem _ (hinB_X11 _ q)) 0 (by decide) shC_0 rfl 0 (by decide) (by decide +kernel) rfl (v := .ref (a 1)) rfl dX11_act_52 ?_
    refine lv_aload hx hb dX11_act_55 (lv_at hl 3 rfl) ?_
    obtain ⟨r_8, σ_7, hc_6, h⟩ := bi_of h
    refine cg_ (v := .ref (a (14 + r_8))) (rV_ (nn := 1) (As := [.ref (a (34 + j_1))]) (rest := []) X xkC I (c_C1_kindOf hc_6 H.size) gBX11_act_X1_kindOf rfl ⟨rfl, rfl⟩ (by decide +kernel) ⟨Nat.le_of_ble_eq_true rfl, Nat.le_of_ble_eq_true rfl⟩ (by decide) shC_1 rfl rfl hl.1 rfl (Nat.le_of_ble_eq_true rfl) dX11_act_57) I (fun H locs I => ?_)
    refine lv_astore (lv' := [(6, .ref (a (14 + r_8))), (0, .ref (a 0)), (2, .int x2), (3, .int x3), (5, .ref (a (34 + j_1)))]) hx hb dX11_act_60 hl (by decide) rfl (fun ls hl => ?_)
    refine lv_iload_n hx hb dX11_act_62 rfl (lv_at hl 2 rfl) ?_
    by_cases c_9 : x2 = 0
    · have h := if_t h c_9
      refine lv_tableIn (tgt := 92) (off := 29) hx hb dX11_act_63 (by rw [c_9]; decide) (by rw [c_9]; decide) (by rw [c_9]; decide) (by decide) ?_
      refine lv_aload hx hb dX11_act_92 (lv_at hl 0 rfl) ?_
      refine lv_iload_n hx hb dX11_act_94 rfl (lv_at hl 3 rfl) ?_
      refine lv_aload_n hx hb dX11_act_95 rfl (lv_at hl 1 rfl) ?_
      refine ig_ (index := 66) X I (fun _ q => List.mem_cons_of_mem _ (hinB_X11 _ q)) 0 (by decide) shC_0 rfl 6 (by decide) (by decide +kernel) rfl (v := .ref (a 29)) rfl dX11_act_96 ?_
      obtain ⟨r_12, σ_11, hc_10, h⟩ := bi_of h
      refine cg_ (v := .int r_12) (w1 := shC cy a σ_11) (rest := []) (av := #[]) ?_ I (fun H locs I => ?_)
      · by_cases q_13 : r_8 = 0
        · subst q_13
          have hc_10 := if_t hc_10 rfl
          exact rV_ (nn := 2) (As := [.int x3, .ref (a 29)]) (rest := []) X xkC I (c_C0_kicks_k0 hc_10 H.size) gBX11_act_X0_kicks rfl ⟨rfl, rfl⟩ (by decide +kernel) ⟨Nat.le_of_ble_eq_true rfl, Nat.le_of_ble_eq_true rfl⟩ (by decide) shC_14 rfl rfl hl.1 rfl (Nat.le_of_ble_eq_true rfl) dX11_act_99
        · have hc_10 := if_f hc_10 q_13
          by_cases q_14 : r_8 = 1
          · subst q_14
            have hc_10 := if_t hc_10 rfl
            exact rU_ (nn := 2) (As := [.int x3, .ref (a 29)]) (rest := []) X xkC I (c_C0_kicks_k1 hc_10 H.size) gBX11_act_X0_kicks_u344X5 rfl ⟨rfl, rfl⟩ rfl (by decide +kernel) ⟨Nat.le_of_ble_eq_true rfl, Nat.le_of_ble_eq_true rfl⟩ (by decide) shC_15 rfl rfl hl.1 rfl (Nat.le_of_ble_eq_true rfl) dX11_act_99
          · have hc_10 := if_f hc_10 q_14
            by_cases q_15 : r_8 = 2
            · subst q_15
              have hc_10 := if_t hc_10 rfl
              exact rO_ (nn := 2) (As := [.int x3, .ref (a 29)]) (rest := []) (b0 := cX0_kicks) (m0 := 3) (r0 := (some .int)) X xkC I (c_C10_kicks_k2 hc_10 H.size) gBX11_act_X10_kicks_u344X10 rfl ⟨rfl, rfl⟩ (by decide +kernel) (by decide +kernel) ⟨Nat.le_of_ble_eq_true rfl, Nat.le_of_ble_eq_true rfl⟩ (by decide) shC_16 rfl rfl hl.1 rfl (Nat.le_of_ble_eq_true rfl) dX11_act_99
            · have hc_10 := if_f hc_10 q_15
              by_cases q_16 : r_8 = 3
              · subst q_16
                have hc_10 := if_t hc_10 rfl
                exact rO_ (nn := 2) (As := [.int x3, .ref (a 29)]) (rest := []) (b0 := cX0_kicks) (m0 := 3) (r0 := (some .int)) X xkC I (c_C3_kicks_k3 hc_10 H.size) gBX11_act_X3_kicks_u344X3 rfl ⟨rfl, rfl⟩ (by decide +kernel) (by decide +kernel) ⟨Nat.le_of_ble_eq_true rfl, Nat.le_of_ble_eq_true rfl⟩ (by decide) shC_17 rfl rfl hl.1 rfl (Nat.le_of_ble_eq_true rfl) dX11_act_99
              · have hc_10 := if_f hc_10 q_16
                by_cases q_17 : r_8 = 4
                · subst q_17
                  have hc_10 := if_t hc_10 rfl
                  exact rO_ (nn := 2) (As := [.int x3, .ref (a 29)]) (rest := []) (b0 := cX0_kicks) (m0 := 3) (r0 := (some .int)) X xkC I (c_C7_kicks_k4 hc_10 H.size) gBX11_act_X7_kicks_u344X7 rfl ⟨rfl, rfl⟩ (by decide +kernel) (by decide +kernel) ⟨Nat.le_of_ble_eq_true rfl, Nat.le_of_ble_eq_true rfl⟩ (by decide) shC_18 rfl rfl hl.1 rfl (Nat.le_of_ble_eq_true rfl) dX11_act_99
                · have hc_10 := if_f hc_10 q_17
                  by_cases q_18 : r_8 = 5
                  · subst q_18
                    have hc_10 := if_t hc_10 rfl
                    exact rU_ (nn := 2) (As := [.int x3, .ref (a 29)]) (rest := []) X xkC I (c_C0_kicks_k5 hc_10 H.size) gBX11_act_X0_kicks_u344X9 rfl ⟨rfl, rfl⟩ rfl (by decide +kernel) ⟨Nat.le_of_ble_eq_true rfl, Nat.le_of_ble_eq_true rfl⟩ (by decide) shC_19 rfl rfl hl.1 rfl (Nat.le_of_ble_eq_true rfl) dX11_act_99
                  · have hc_10 := if_f hc_10 q_18
                    exact absurd hc_10 (fun q => by cases (show (none : Option _) = some _ from q))
      refine lv_istore (lv' := [(7, .int r_12), (6, .ref (a (14 + r_8))), (0, .ref (a 0)), (2, .int x2), (3, .int x3), (5, .ref (a (34 + j_1)))]) hx hb dX11_act_102 hl (by decide) rfl (fun ls hl => ?_)
      refine lv_goto (tgt := 155) hx hb dX11_act_104 (by decide) ?_
      exact kC_act_155 X  σ_11 r_12 H locs ls h I (lv_sub hl [2, 0] rfl)
    · have h := if_f h c_9
      by_cases c_19 : x2 = 1
      · have h := if_t h c_19
        refine lv_tableIn (tgt := 107) (off := 44) hx hb dX11_act_63 (by rw [c_19]; decide) (by rw [c_19]; decide) (by rw [c_19]; decide) (by decide) ?_
        refine lv_aload hx hb dX11_act_107 (lv_at hl 0 rfl) ?_
        refine lv_iload_n hx hb dX11_act_109 rfl (lv_at hl 3 rfl) ?_
        refine lv_aload_n hx hb dX11_act_110 rfl (lv_at hl 1 rfl) ?_
        refine ig_ (index := 66) X I (fun _ q => List.mem_cons_of_mem _ (hinB_X11 _ q)) 0 (by decide) shC_0 rfl 6 (by decide) (by decide +kernel) rfl (v := .ref (a 29)) rfl dX11_act_111 ?_
        obtain ⟨r_22, σ_21, hc_20, h⟩ := bi_of h
        refine cg_ (v := .int r_22) (w1 := shC cy a σ_21) (rest := []) (av := #[]) ?_ I (fun H locs I => ?_)
        · by_cases q_23 : r_8 = 0
          · subst q_23
            have hc_20 := if_t hc_20 rfl
            exact rV_ (nn := 2) (As := [.int x3, .ref (a 29)]) (rest := []) X xkC I (c_C0_prays_k0 hc_20 H.size) gBX11_act_X0_prays rfl ⟨rfl, rfl⟩ (by decide +kernel) ⟨Nat.le_of_ble_eq_true rfl, Nat.le_of_ble_eq_true rfl⟩ (by decide) shC_14 rfl rfl hl.1 rfl (Nat.le_of_ble_eq_true rfl) dX11_act_114
          · have hc_20 := if_f hc_20 q_23
            by_cases q_24 : r_8 = 1
            · subst q_24
              have hc_20 := if_t hc_20 rfl
              exact rO_ (nn := 2) (As := [.int x3, .ref (a 29)]) (rest := []) (b0 := cX0_prays) (m0 := 3) (r0 := (some .int)) X xkC I (c_C5_prays_k1 hc_20 H.size) gBX11_act_X5_prays_u348X5 rfl ⟨rfl, rfl⟩ (by decide +kernel) (by decide +kernel) ⟨Nat.le_of_ble_eq_true rfl, Nat.le_of_ble_eq_true rfl⟩ (by decide) shC_15 rfl rfl hl.1 rfl (Nat.le_of_ble_eq_true rfl) dX11_act_114
            · have hc_20 := if_f hc_20 q_24
              by_cases q_25 : r_8 = 2
              · subst q_25
                have hc_20 := if_t hc_20 rfl
                exact rU_ (nn := 2) (As := [.int x3, .ref (a 29)]) (rest := []) X xkC I (c_C0_prays_k2 hc_20 H.size) gBX11_act_X0_prays_u348X10 rfl ⟨rfl, rfl⟩ rfl (by decide +kernel) ⟨Nat.le_of_ble_eq_true rfl, Nat.le_of_ble_eq_true rfl⟩ (by decide) shC_16 rfl rfl hl.1 rfl (Nat.le_of_ble_eq_true rfl) dX11_act_114
              · have hc_20 := if_f hc_20 q_25
                by_cases q_26 : r_8 = 3
                · subst q_26
                  have hc_20 := if_t hc_20 rfl
                  exact rO_ (nn := 2) (As := [.int x3, .ref (a 29)]) (rest := []) (b0 := cX0_prays) (m0 := 3) (r0 := (some .int)) X xkC I (c_C5_prays_k3 hc_20 H.size) gBX11_act_X5_prays_u348X3 rfl ⟨rfl, rfl⟩ (by decide +kernel) (by decide +kernel) ⟨Nat.le_of_ble_eq_true rfl, Nat.le_of_ble_eq_true rfl⟩ (by decide) shC_17 rfl rfl hl.1 rfl (Nat.le_of_ble_eq_true rfl) dX11_act_114
                · have hc_20 := if_f hc_20 q_26
                  by_cases q_27 : r_8 = 4
                  · subst q_27
                    have hc_20 := if_t hc_20 rfl
                    exact rO_ (nn := 2) (As := [.int x3, .ref (a 29)]) (rest := []) (b0 := cX0_prays) (m0 := 3) (r0 := (some .int)) X xkC I (c_C7_prays_k4 hc_20 H.size) gBX11_act_X7_prays_u348X7 rfl ⟨rfl, rfl⟩ (by decide +kernel) (by decide +kernel) ⟨Nat.le_of_ble_eq_true rfl, Nat.le_of_ble_eq_true rfl⟩ (by decide) shC_18 rfl rfl hl.1 rfl (Nat.le_of_ble_eq_true rfl) dX11_act_114
                  · have hc_20 := if_f hc_20 q_27
                    by_cases q_28 : r_8 = 5
                    · subst q_28
                      have hc_20 := if_t hc_20 rfl
                      exact rU_ (nn := 2) (As := [.int x3, .ref (a 29)]) (rest := []) X xkC I (c_C0_prays_k5 hc_20 H.size) gBX11_act_X0_prays_u348X9 rfl ⟨rfl, rfl⟩ rfl (by decide +kernel) ⟨Nat.le_of_ble_eq_true rfl, Nat.le_of_ble_eq_true rfl⟩ (by decide) shC_19 rfl rfl hl.1 rfl (Nat.le_of_ble_eq_true rfl) dX11_act_114
                    · have hc_20 := if_f hc_20 q_28
                      exact absurd hc_20 (fun q => by cases (show (none : Option _) = some _ from q))
        refine lv_istore (lv' := [(7, .int r_22), (6, .ref (a (14 + r_8))), (0, .ref (a 0)), (2, .int x2), (3, .int x3), (5, .ref (a (34 + j_1)))]) hx hb dX11_act_117 hl (by decide) rfl (fun ls hl => ?_)
        refine lv_goto (tgt := 155) hx hb dX11_act_119 (by decide) ?_
        exact kC_act_155 X  σ_21 r_22 H locs ls h I (lv_sub hl [2, 0] rfl)
      · have h := if_f h c_19
        by_cases c_29 : x2 = 2
        · have h := if_t h c_29
          refine lv_tableIn (tgt := 122) (off := 59) hx hb dX11_act_63 (by rw [c_29]; decide) (by rw [c_29]; decide) (by rw [c_29]; decide) (by decide) ?_
          refine lv_aload hx hb dX11_act_122 (lv_at hl 0 rfl) ?_
          refine lv_iload_n hx hb dX11_act_124 rfl (lv_at hl 3 rfl) ?_
          refine lv_aload_n hx hb dX11_act_125 rfl (lv_at hl 1 rfl) ?_
          refine ig_ (index := 66) X I (fun _ q => List.mem_cons_of_mem _ (hinB_X11 _ q)) 0 (by decide) shC_0 rfl 6 (by decide) (by decide +kernel) rfl (v := .ref (a 29)) rfl dX11_act_126 ?_
          obtain ⟨r_32, σ_31, hc_30, h⟩ := bi_of h
          refine cg_ (v := .int r_32) (w1 := shC cy a σ_31) (rest := []) (av := #[]) ?_ I (fun H locs I => ?_)
          · by_cases q_33 : r_8 = 0
            · subst q_33
              have hc_30 := if_t hc_30 rfl
              exact rV_ (nn := 2) (As := [.int x3, .ref (a 29)]) (rest := []) X xkC I (c_C0_parts_k0 hc_30 H.size) gBX11_act_X0_parts rfl ⟨rfl, rfl⟩ (by decide +kernel) ⟨Nat.le_of_ble_eq_true rfl, Nat.le_of_ble_eq_true rfl⟩ (by decide) shC_14 rfl rfl hl.1 rfl (Nat.le_of_ble_eq_true rfl) dX11_act_129
            · have hc_30 := if_f hc_30 q_33
              by_cases q_34 : r_8 = 1
              · subst q_34
                have hc_30 := if_t hc_30 rfl
                exact rU_ (nn := 2) (As := [.int x3, .ref (a 29)]) (rest := []) X xkC I (c_C0_parts_k1 hc_30 H.size) gBX11_act_X0_parts_u351X5 rfl ⟨rfl, rfl⟩ rfl (by decide +kernel) ⟨Nat.le_of_ble_eq_true rfl, Nat.le_of_ble_eq_true rfl⟩ (by decide) shC_15 rfl rfl hl.1 rfl (Nat.le_of_ble_eq_true rfl) dX11_act_129
              · have hc_30 := if_f hc_30 q_34
                by_cases q_35 : r_8 = 2
                · subst q_35
                  have hc_30 := if_t hc_30 rfl
                  exact rU_ (nn := 2) (As := [.int x3, .ref (a 29)]) (rest := []) X xkC I (c_C0_parts_k2 hc_30 H.size) gBX11_act_X0_parts_u351X10 rfl ⟨rfl, rfl⟩ rfl (by decide +kernel) ⟨Nat.le_of_ble_eq_true rfl, Nat.le_of_ble_eq_true rfl⟩ (by decide) shC_16 rfl rfl hl.1 rfl (Nat.le_of_ble_eq_true rfl) dX11_act_129
                · have hc_30 := if_f hc_30 q_35
                  by_cases q_36 : r_8 = 3
                  · subst q_36
                    have hc_30 := if_t hc_30 rfl
                    exact rO_ (nn := 2) (As := [.int x3, .ref (a 29)]) (rest := []) (b0 := cX0_parts) (m0 := 3) (r0 := (some .int)) X xkC I (c_C3_parts_k3 hc_30 H.size) gBX11_act_X3_parts_u351X3 rfl ⟨rfl, rfl⟩ (by decide +kernel) (by decide +kernel) ⟨Nat.le_of_ble_eq_true rfl, Nat.le_of_ble_eq_true rfl⟩ (by decide) shC_17 rfl rfl hl.1 rfl (Nat.le_of_ble_eq_true rfl) dX11_act_129
                  · have hc_30 := if_f hc_30 q_36
                    by_cases q_37 : r_8 = 4
                    · subst q_37
                      have hc_30 := if_t hc_30 rfl
                      exact rU_ (nn := 2) (As := [.int x3, .ref (a 29)]) (rest := []) X xkC I (c_C0_parts_k4 hc_30 H.size) gBX11_act_X0_parts_u351X7 rfl ⟨rfl, rfl⟩ rfl (by decide +kernel) ⟨Nat.le_of_ble_eq_true rfl, Nat.le_of_ble_eq_true rfl⟩ (by decide) shC_18 rfl rfl hl.1 rfl (Nat.le_of_ble_eq_true rfl) dX11_act_129
                    · have hc_30 := if_f hc_30 q_37
                      by_cases q_38 : r_8 = 5
                      · subst q_38
                        have hc_30 := if_t hc_30 rfl
                        exact rO_ (nn := 2) (As := [.int x3, .ref (a 29)]) (rest := []) (b0 := cX0_parts) (m0 := 3) (r0 := (some .int)) X xkC I (c_C9_parts_k5 hc_30 H.size) gBX11_act_X9_parts_u351X9 rfl ⟨rfl, rfl⟩ (by decide +kernel) (by decide +kernel) ⟨Nat.le_of_ble_eq_true rfl, Nat.le_of_ble_eq_true rfl⟩ (by decide) shC_19 rfl rfl hl.1 rfl (Nat.le_of_ble_eq_true rfl) dX11_act_129
                      · have hc_30 := if_f hc_30 q_38
                        exact absurd hc_30 (fun q => by cases (show (none : Option _) = some _ from q))
          refine lv_istore (lv' := [(7, .int r_32), (6, .ref (a (14 + r_8))), (0, .ref (a 0)), (2, .int x2), (3, .int x3), (5, .ref (a (34 + j_1)))]) hx hb dX11_act_132 hl (by decide) rfl (fun ls hl => ?_)
          refine lv_goto (tgt := 155) hx hb dX11_act_134 (by decide) ?_
          exact kC_act_155 X  σ_31 r_32 H locs ls h I (lv_sub hl [2, 0] rfl)
        · have h := if_f h c_29
          by_cases c_39 : x2 = 3
          · have h := if_t h c_39
            refine lv_tableIn (tgt := 137) (off := 74) hx hb dX11_act_63 (by rw [c_39]; decide) (by rw [c_39]; decide) (by rw [c_39]; decide) (by decide) ?_
            refine lv_aload hx hb dX11_act_137 (lv_at hl 0 rfl) ?_
            refine lv_iload_n hx hb dX11_act_139 rfl (lv_at hl 3 rfl) ?_
            refine lv_aload_n hx hb dX11_act_140 rfl (lv_at hl 1 rfl) ?_
            refine ig_ (index := 66) X I (fun _ q => List.mem_cons_of_mem _ (hinB_X11 _ q)) 0 (by decide) shC_0 rfl 6 (by decide) (by decide +kernel) rfl (v := .ref (a 29)) rfl dX11_act_141 ?_
            obtain ⟨r_42, σ_41, hc_40, h⟩ := bi_of h
            refine cg_ (v := .int r_42) (w1 := shC cy a σ_41) (rest := []) (av := #[]) ?_ I (fun H locs I => ?_)
            · by_cases q_43 : r_8 = 0
              · subst q_43
                have hc_40 := if_t hc_40 rfl
                exact rV_ (nn := 2) (As := [.int x3, .ref (a 29)]) (rest := []) X xkC I (c_C0_grows_k0 hc_40 H.size) gBX11_act_X0_grows rfl ⟨rfl, rfl⟩ (by decide +kernel) ⟨Nat.le_of_ble_eq_true rfl, Nat.le_of_ble_eq_true rfl⟩ (by decide) shC_14 rfl rfl hl.1 rfl (Nat.le_of_ble_eq_true rfl) dX11_act_144
              · have hc_40 := if_f hc_40 q_43
                by_cases q_44 : r_8 = 1
                · subst q_44
                  have hc_40 := if_t hc_40 rfl
                  exact rU_ (nn := 2) (As := [.int x3, .ref (a 29)]) (rest := []) X xkC I (c_C0_grows_k1 hc_40 H.size) gBX11_act_X0_grows_u354X5 rfl ⟨rfl, rfl⟩ rfl (by decide +kernel) ⟨Nat.le_of_ble_eq_true rfl, Nat.le_of_ble_eq_true rfl⟩ (by decide) shC_15 rfl rfl hl.1 rfl (Nat.le_of_ble_eq_true rfl) dX11_act_144
                · have hc_40 := if_f hc_40 q_44
                  by_cases q_45 : r_8 = 2
                  · subst q_45
                    have hc_40 := if_t hc_40 rfl
                    exact rO_ (nn := 2) (As := [.int x3, .ref (a 29)]) (rest := []) (b0 := cX0_grows) (m0 := 3) (r0 := (some .int)) X xkC I (c_C10_grows_k2 hc_40 H.size) gBX11_act_X10_grows_u354X10 rfl ⟨rfl, rfl⟩ (by decide +kernel) (by decide +kernel) ⟨Nat.le_of_ble_eq_true rfl, Nat.le_of_ble_eq_true rfl⟩ (by decide) shC_16 rfl rfl hl.1 rfl (Nat.le_of_ble_eq_true rfl) dX11_act_144
                  · have hc_40 := if_f hc_40 q_45
                    by_cases q_46 : r_8 = 3
                    · subst q_46
                      have hc_40 := if_t hc_40 rfl
                      exact rU_ (nn := 2) (As := [.int x3, .ref (a 29)]) (rest := []) X xkC I (c_C0_grows_k3 hc_40 H.size) gBX11_act_X0_grows_u354X3 rfl ⟨rfl, rfl⟩ rfl (by decide +kernel) ⟨Nat.le_of_ble_eq_true rfl, Nat.le_of_ble_eq_true rfl⟩ (by decide) shC_17 rfl rfl hl.1 rfl (Nat.le_of_ble_eq_true rfl) dX11_act_144
                    · have hc_40 := if_f hc_40 q_46
                      by_cases q_47 : r_8 = 4
                      · subst q_47
                        have hc_40 := if_t hc_40 rfl
                        exact rO_ (nn := 2) (As := [.int x3, .ref (a 29)]) (rest := []) (b0 := cX0_grows) (m0 := 3) (r0 := (some .int)) X xkC I (c_C10_grows_k4 hc_40 H.size) gBX11_act_X10_grows_u354X7 rfl ⟨rfl, rfl⟩ (by decide +kernel) (by decide +kernel) ⟨Nat.le_of_ble_eq_true rfl, Nat.le_of_ble_eq_true rfl⟩ (by decide) shC_18 rfl rfl hl.1 rfl (Nat.le_of_ble_eq_true rfl) dX11_act_144
                      · have hc_40 := if_f hc_40 q_47
                        by_cases q_48 : r_8 = 5
                        · subst q_48
                          have hc_40 := if_t hc_40 rfl
                          exact rO_ (nn := 2) (As := [.int x3, .ref (a 29)]) (rest := []) (b0 := cX0_grows) (m0 := 3) (r0 := (some .int)) X xkC I (c_C9_grows_k5 hc_40 H.size) gBX11_act_X9_grows_u354X9 rfl ⟨rfl, rfl⟩ (by decide +kernel) (by decide +kernel) ⟨Nat.le_of_ble_eq_true rfl, Nat.le_of_ble_eq_true rfl⟩ (by decide) shC_19 rfl rfl hl.1 rfl (Nat.le_of_ble_eq_true rfl) dX11_act_144
                        · have hc_40 := if_f hc_40 q_48
                          exact absurd hc_40 (fun q => by cases (show (none : Option _) = some _ from q))
            refine lv_istore (lv' := [(7, .int r_42), (6, .ref (a (14 + r_8))), (0, .ref (a 0)), (2, .int x2), (3, .int x3), (5, .ref (a (34 + j_1)))]) hx hb dX11_act_147 hl (by decide) rfl (fun ls hl => ?_)
            refine lv_goto (tgt := 155) hx hb dX11_act_149 (by decide) ?_
            exact kC_act_155 X  σ_41 r_42 H locs ls h I (lv_sub hl [2, 0] rfl)
          · have h := if_f h c_39
            refine lv_tableOut (tgt := 152) hx hb dX11_act_63 (by have q0 := lv_neT (a := 0) c_9 rfl; have q1 := lv_neT (a := 1) c_19 rfl; have q2 := lv_neT (a := 2) c_29 rfl; have q3 := lv_neT (a := 3) c_39 rfl; omega) (by decide) ?_
            refine lv_iconst (v := 0) hx hb dX11_act_152 (by decide) ?_
            refine lv_istore (lv' := [(7, .int (0 : Int32)), (6, .ref (a (14 + r_8))), (0, .ref (a 0)), (2, .int x2), (3, .int x3), (5, .ref (a (34 + j_1)))]) hx hb dX11_act_153 hl (by decide) rfl (fun ls hl => ?_)
            exact kC_act_155 X  σ_7 (0 : Int32) H locs ls h I (lv_sub hl [2, 0] rfl)
def C_act_0  (σ : Sg) (x1 : Int32) (x2 : Int32) (x3 : Int32) : Option (Int32 × Sg) :=
  bi_ (C2_shelvedChild_0 σ x1) fun r_3 σ_2 =>
  bi_ (C1_life_0 σ_2 r_3) fun r_6 σ_5 =>
  on_ r_6 (C_act_41 σ_5 x2 x3 none (0 : Int32) r_3) fun j_7 =>
  gd_ (lf_ j_7 25) (
  C_act_41 σ_5 x2 x3 (some j_7) (rd_ σ_5 (34 + j_7) 5) r_3)
set_option maxRecDepth 100000 in
theorem kC_act_0 {p : Program} {l : Launch} {e : Env} {s : State} {m : MethodId} {args : Array Value} {below : List Frame} {meth : Method} {c : Code} {D : va_G} {cy : Nat → ClassId} {a gs : Nat → Nat} (X : cx_ cX11_act RX11 wB_X11_act 8 (some .int) 59 a D cy (xfC gs) p s m args meth c)  {r0 : Int32} {σ' : Sg}  : ∀ (σ : Sg) (x1 : Int32) (x2 : Int32) (x3 : Int32) (H : Heap) (locs : List Loc) (ls : Array Slot), C_act_0 σ x1 x2 x3 = some (r0, σ') → iv_ 59 a D (shC cy a σ) s H locs → lv_has ls 8 [(0, .ref (a 0)), (1, .int x1), (2, .int x2), (3, .int x3)] → W p l e ({ frames := 8, cells := 0, slots := 0, locals := 175 }) s m args below meth c H locs 0 0 (MQ below (qg_ 59 a D (shC cy a σ') (some (.int r0)) s.heap.size) args s 0 0 (fr_ 59 a s.heap.size)) (F0 m 0 ls []) := by
  obtain ⟨hx, hb, hr, hml, hown, hts, hlk, hK, hA, hXf⟩ := id X
  intro σ x1 x2 x3 H locs ls h I hl
  unfold C_act_0 at h
  refine lv_aload_n hx hb dX11_act_0 rfl (lv_at hl 0 rfl) ?_
  refine ig_ (index := 59) X I (fun _ q => List.mem_cons_of_mem _ (hinB_X11 _ q)) 0 (by decide) shC_0 rfl 5 (by decide) (by decide +kernel) rfl (v := .ref (a 22)) rfl dX11_act_1 ?_
  refine lv_iload_n hx hb dX11_act_4 rfl (lv_at hl 1 rfl) ?_
  obtain ⟨r_3, σ_2, hc_1, h⟩ := bi_of h
  refine cg_ (v := .int r_3) (rV_ (nn := 1) (As := [.int x1]) (rest := []) X xkC I (c_C2_shelvedChild hc_1 H.size) gBX11_act_X2_shelvedChild rfl ⟨rfl, rfl⟩ (by decide +kernel) ⟨Nat.le_of_ble_eq_true rfl, Nat.le_of_ble_eq_true rfl⟩ (by decide) shC_22 rfl rfl hl.1 rfl (Nat.le_of_ble_eq_true rfl) dX11_act_5) I (fun H locs I => ?_)
  refine lv_istore (lv' := [(4, .int r_3), (0, .ref (a 0)), (1, .int x1), (2, .int x2), (3, .int x3)]) hx hb dX11_act_8 hl (by decide) rfl (fun ls hl => ?_)
  refine lv_aload_n hx hb dX11_act_10 rfl (lv_at hl 1 rfl) ?_
  refine ig_ (index := 30) X I (fun _ q => List.mem_cons_of_mem _ (hinB_X11 _ q)) 0 (by decide) shC_0 rfl 0 (by decide) (by decide +kernel) rfl (v := .ref (a 1)) rfl dX11_act_11 ?_
  refine lv_iload hx hb dX11_act_14 (lv_at hl 0 rfl) ?_
  obtain ⟨r_6, σ_5, hc_4, h⟩ := bi_of h
  refine cg_ (v := va_re (fun j => a (34 + j)) r_6) (rV_ (nn := 1) (As := [.int r_3]) (rest := []) X xkC I (c_C1_life hc_4 H.size) gBX11_act_X1_life rfl ⟨rfl, rfl⟩ (by decide +kernel) ⟨Nat.le_of_ble_eq_true rfl, Nat.le_of_ble_eq_true rfl⟩ (by decide) shC_1 rfl rfl hl.1 rfl (Nat.le_of_ble_eq_true rfl) dX11_act_16) I (fun H locs I => ?_)
  rcases r_6 with _ | j_7
  · have h := on_n h
    refine W.eq (g2 := F0 m 19 ls [.null]) rfl ?_
    refine lv_astoreN (lv' := [(5, .null), (4, .int r_3), (0, .ref (a 0)), (1, .int x1), (2, .int x2), (3, .int x3)]) hx hb dX11_act_19 hl (by decide) rfl (fun ls hl => ?_)
    refine lv_aload_n hx hb dX11_act_21 rfl (lv_at hl 2 rfl) ?_
    refine ig_ (index := 66) X I (fun _ q => List.mem_cons_of_mem _ (hinB_X11 _ q)) 0 (by decide) shC_0 rfl 6 (by decide) (by decide +kernel) rfl (v := .ref (a 29)) rfl dX11_act_22 ?_
    refine lv_iload hx hb dX11_act_25 (lv_at hl 1 rfl) ?_
    refine lv_aloadN hx hb dX11_act_27 (lv_at hl 0 rfl) ?_
    refine lv_ifnonnullN hx hb dX11_act_29 ?_
    refine lv_iconst (v := 0) hx hb dX11_act_32 (by decide) ?_
    refine lv_goto (tgt := 41) hx hb dX11_act_33 (by decide) ?_
    exact kC_act_41 X  σ_5 x2 x3 none (0 : Int32) r_3 H locs ls h I (lv_sub hl [2, 4, 5, 0] rfl)
  · have h := on_s h
    refine W.eq (g2 := F0 m 19 ls [.ref (a (34 + j_7))]) rfl ?_
    refine lv_astore (lv' := [(5, .ref (a (34 + j_7))), (4, .int r_3), (0, .ref (a 0)), (1, .int x1), (2, .int x2), (3, .int x3)]) hx hb dX11_act_19 hl (by decide) rfl (fun ls hl => ?_)
    refine lv_aload_n hx hb dX11_act_21 rfl (lv_at hl 2 rfl) ?_
    refine ig_ (index := 66) X I (fun _ q => List.mem_cons_of_mem _ (hinB_X11 _ q)) 0 (by decide) shC_0 rfl 6 (by decide) (by decide +kernel) rfl (v := .ref (a 29)) rfl dX11_act_22 ?_
    refine lv_iload hx hb dX11_act_25 (lv_at hl 1 rfl) ?_
    refine lv_aload hx hb dX11_act_27 (lv_at hl 0 rfl) ?_
    refine lv_ifnonnull (tgt := 36) hx hb dX11_act_29 (by decide) ?_
    refine lv_aload hx hb dX11_act_36 (lv_at hl 0 rfl) ?_
    obtain ⟨g_8, h⟩ := gd_of h
    refine ig_ (index := 156) X I (fun _ q => List.mem_cons_of_mem _ (hinB_X6 _ q)) (34 + j_7) (lf59 g_8) shC_L rfl 5 (by decide) (by decide +kernel) rfl (v := .int (rd_ σ_5 (34 + j_7) 5)) rfl dX11_act_38 ?_
    exact kC_act_41 X  σ_5 x2 x3 (some j_7) (rd_ σ_5 (34 + j_7) 5) r_3 H locs ls h I (lv_sub hl [2, 4, 5, 0] rfl)
theorem c_C_act {l : Launch} {D : va_G} {cy : Nat → ClassId} {a gs : Nat → Nat} {σ : Sg} {x1 : Int32} {x2 : Int32} {x3 : Int32} {r0 : Int32} {σ' : Sg} (h : C_act_0 σ x1 x2 x3 = some (r0, σ')) (sz : Nat) : Met l yX11_act wB_X11_act ({ frames := 8, cells := 0, slots := 0, locals := 175 }) (va_Pc [.ref (a 0), .int x1, .int x2, .int x3] (pr_ 59 a D cy (shC cy a σ) (xfC gs) sz)) (qg_ 59 a D (shC cy a σ') (some (.int r0)) sz) 0 0 (fr_ 59 a sz) := by
  refine ent_ (by decide) rfl (Nat.le_of_ble_eq_true rfl) ?_
  intro p e s m below meth c ls hsz X I hl
  subst hsz
  exact kC_act_0 X σ x1 x2 x3 s.heap [] ls h I hl

def C_trace_0  (σ : Sg) (x1 : Int32) : Option (Int32 × Sg) :=
  bp_ (C_within_0 x1 ((rd_ σ 29 1) - (1 : Int32))) fun r_2 =>
  if r_2 = 0 then (some ((-3 : Int32), σ))
  else (gd_ (in_ x1 30) (
  some ((rd_ σ 30 x1.toNatClampNeg), σ)))
set_option maxRecDepth 100000 in
theorem kC_trace_0 {p : Program} {l : Launch} {e : Env} {s : State} {m : MethodId} {args : Array Value} {below : List Frame} {meth : Method} {c : Code} {D : va_G} {cy : Nat → ClassId} {a gs : Nat → Nat} (X : cx_ cX11_trace RX11 wsX11_trace 2 (some .int) 59 a D cy (xfC gs) p s m args meth c)  {r0 : Int32} {σ' : Sg}  : ∀ (σ : Sg) (x1 : Int32) (H : Heap) (locs : List Loc) (ls : Array Slot), C_trace_0 σ x1 = some (r0, σ') → iv_ 59 a D (shC cy a σ) s H locs → lv_has ls 2 [(0, .ref (a 0)), (1, .int x1)] → W p l e ({ frames := 1, cells := 0, slots := 0, locals := 21 }) s m args below meth c H locs 0 0 (MQ below (qg_ 59 a D (shC cy a σ') (some (.int r0)) s.heap.size) args s 0 0 (fr_ 59 a s.heap.size)) (F0 m 0 ls []) := by
  obtain ⟨hx, hb, hr, hml, hown, hts, hlk, hK, hA, hXf⟩ := id X
  intro σ x1 H locs ls h I hl
  unfold C_trace_0 at h
  refine lv_iload_n hx hb dX11_trace_0 rfl (lv_at hl 1 rfl) ?_
  refine lv_aload_n hx hb dX11_trace_1 rfl (lv_at hl 0 rfl) ?_
  refine ig_ (index := 66) X I (fun _ q => List.mem_cons_of_mem _ (List.mem_append_left _ (List.mem_append_right _ q))) 0 (by decide) shC_0 rfl 6 (by decide) (by decide +kernel) rfl (v := .ref (a 29)) rfl dX11_trace_2 ?_
  refine ig_ (index := 361) X I (fun _ q => List.mem_cons_of_mem _ (List.mem_append_right _ q)) 29 (by decide) shC_29 rfl 1 (by decide) (by decide +kernel) rfl (v := .int (rd_ σ 29 1)) rfl dX11_trace_5 ?_
  refine lv_iconst (v := 1) hx hb dX11_trace_8 (by decide) ?_
  refine lv_isub hx hb dX11_trace_9 ?_
  obtain ⟨r_2, hc_1, h⟩ := bp_of h
  refine cp_ (rP_ (nn := 2) (As := [.int x1, .int ((rd_ σ 29 1) - (1 : Int32))]) (rest := []) ⟨hx, hb, hml, hown, hts⟩ (c_C_within hc_1) gX11_trace_X11_within rfl ⟨rfl, rfl⟩ (by decide +kernel) ⟨Nat.le_of_ble_eq_true rfl, Nat.le_of_ble_eq_true rfl⟩ rfl hl.1 rfl (Nat.le_of_ble_eq_true rfl) dX11_trace_10 ⟨Nat.zero_le _, Nat.zero_le _⟩) ?_
  refine lv_if_eq (tgt := 28) hx hb dX11_trace_13 (by decide) (fun c_3 => ?_) (fun c_3 => ?_)
  · have h := if_t h c_3
    refine lv_bipush (v := (-3)) hx hb dX11_trace_28 (by decide) ?_
    obtain ⟨rfl, rfl⟩ := re_s h
    exact rti_ X I dX11_trace_30
  · have h := if_f h c_3
    refine lv_aload_n hx hb dX11_trace_16 rfl (lv_at hl 0 rfl) ?_
    refine ig_ (index := 66) X I (fun _ q => List.mem_cons_of_mem _ (List.mem_append_left _ (List.mem_append_right _ q))) 0 (by decide) shC_0 rfl 6 (by decide) (by decide +kernel) rfl (v := .ref (a 29)) rfl dX11_trace_17 ?_
    refine ig_ (index := 362) X I (fun _ q => List.mem_cons_of_mem _ (List.mem_append_right _ q)) 29 (by decide) shC_29 rfl 0 (by decide) (by decide +kernel) rfl (v := .ref (a 30)) rfl dX11_trace_20 ?_
    refine lv_iload_n hx hb dX11_trace_23 rfl (lv_at hl 1 rfl) ?_
    obtain ⟨g_4, h⟩ := gd_of h
    refine ia_ X I 30 (by decide) shC_30 (in_of g_4) (v0 := (rd_ σ 30 x1.toNatClampNeg)) rfl dX11_trace_24 ?_
    refine lv_goto (tgt := 30) hx hb dX11_trace_25 (by decide) ?_
    obtain ⟨rfl, rfl⟩ := re_s h
    exact rti_ X I dX11_trace_30
theorem c_C_trace {l : Launch} {D : va_G} {cy : Nat → ClassId} {a gs : Nat → Nat} {σ : Sg} {x1 : Int32} {r0 : Int32} {σ' : Sg} (h : C_trace_0 σ x1 = some (r0, σ')) (sz : Nat) : Met l yX11_trace wsX11_trace ({ frames := 1, cells := 0, slots := 0, locals := 21 }) (va_Pc [.ref (a 0), .int x1] (pr_ 59 a D cy (shC cy a σ) (xfC gs) sz)) (qg_ 59 a D (shC cy a σ') (some (.int r0)) sz) 0 0 (fr_ 59 a sz) := by
  refine ent_ (by decide) rfl (Nat.le_of_ble_eq_true rfl) ?_
  intro p e s m below meth c ls hsz X I hl
  subst hsz
  exact kC_trace_0 X σ x1 s.heap [] ls h I hl

def C1_godmothersInUse_21 (k4 : Sg → Int32 → Int32 → Option (Int32 × Sg)) (σ : Sg) (x1 : Int32) (x2 : Int32) : Option (Int32 × Sg) :=
  lt_ (x2 + (1 : Int32)) fun y_1 =>
  k4 σ x1 y_1
set_option maxRecDepth 100000 in
theorem kC1_godmothersInUse_21 {p : Program} {l : Launch} {e : Env} {s : State} {m : MethodId} {args : Array Value} {below : List Frame} {meth : Method} {c : Code} {D : va_G} {cy : Nat → ClassId} {a gs : Nat → Nat} (X : cx_ cX1_godmothersInUse RX1 wsX1_godmothersInUse 3 (some .int) 59 a D cy (xfC gs) p s m args meth c) {k4 : Sg → Int32 → Int32 → Option (Int32 × Sg)} {r0 : Int32} {σ' : Sg} (hk4 : ∀ (σ : Sg) (x1 : Int32) (x2 : Int32) (H : Heap) (locs : List Loc) (ls : Array Slot), k4 σ x1 x2 = some (r0, σ') → iv_ 59 a D (shC cy a σ) s H locs → lv_has ls 3 [(0, .ref (a 1)), (1, .int x1), (2, .int x2)] → W p l e ({ frames := 3, cells := 0, slots := 0, locals := 66 }) s m args below meth c H locs 0 0 (MQ below (qg_ 59 a D (shC cy a σ') (some (.int r0)) s.heap.size) args s 0 0 (fr_ 59 a s.heap.size)) (F0 m 4 ls [])) : ∀ (σ : Sg) (x1 : Int32) (x2 : Int32) (H : Heap) (locs : List Loc) (ls : Array Slot), C1_godmothersInUse_21 k4 σ x1 x2 = some (r0, σ') → iv_ 59 a D (shC cy a σ) s H locs → lv_has ls 3 [(0, .ref (a 1)), (1, .int x1), (2, .int x2)] → W p l e ({ frames := 3, cells := 0, slots := 0, locals := 66 }) s m args below meth c H locs 0 0 (MQ below (qg_ 59 a D (shC cy a σ') (some (.int r0)) s.heap.size) args s 0 0 (fr_ 59 a s.heap.size)) (F0 m 21 ls []) := by
  obtain ⟨hx, hb, hr, hml, hown, hts, hlk, hK, hA, hXf⟩ := id X
  intro σ x1 x2 H locs ls h I hl
  unfold C1_godmothersInUse_21 at h
  obtain ⟨y_1, e_2⟩ : ∃ q : Int32, q = x2 + (1 : Int32) := ⟨_, rfl⟩
  have h := lt_at h e_2
  refine lv_iinc (v := y_1) (lv' := [(2, .int y_1), (0, .ref (a 1)), (1, .int x1)]) hx hb dX1_godmothersInUse_21 hl (k := 2) rfl (by rw [e_2]; rfl) (by decide) rfl (fun ls hl => ?_)
  refine lv_goto (tgt := 4) hx hb dX1_godmothersInUse_24 (by decide) ?_
  exact hk4 σ x1 y_1 H locs ls h I (lv_sub hl [1, 2, 0] rfl)
def C1_godmothersInUse_4 (k4 : Sg → Int32 → Int32 → Option (Int32 × Sg)) (σ : Sg) (x1 : Int32) (x2 : Int32) : Option (Int32 × Sg) :=
  if (8 : Int32) ≤ x2 then (some (x1, σ))
  else (bi_ (C1_swornTo_0 σ x2) fun r_4 σ_3 =>
  if r_4 = 0 then (C1_godmothersInUse_21 k4 σ_3 x1 x2)
  else (lt_ (x1 + (1 : Int32)) fun y_6 =>
  C1_godmothersInUse_21 k4 σ_3 y_6 x2))
set_option maxRecDepth 100000 in
theorem kC1_godmothersInUse_4 {p : Program} {l : Launch} {e : Env} {s : State} {m : MethodId} {args : Array Value} {below : List Frame} {meth : Method} {c : Code} {D : va_G} {cy : Nat → ClassId} {a gs : Nat → Nat} (X : cx_ cX1_godmothersInUse RX1 wsX1_godmothersInUse 3 (some .int) 59 a D cy (xfC gs) p s m args meth c) {k4 : Sg → Int32 → Int32 → Option (Int32 × Sg)} {r0 : Int32} {σ' : Sg} (hk4 : ∀ (σ : Sg) (x1 : Int32) (x2 : Int32) (H : Heap) (locs : List Loc) (ls : Array Slot), k4 σ x1 x2 = some (r0, σ') → iv_ 59 a D (shC cy a σ) s H locs → lv_has ls 3 [(0, .ref (a 1)), (1, .int x1), (2, .int x2)] → W p l e ({ frames := 3, cells := 0, slots := 0, locals := 66 }) s m args below meth c H locs 0 0 (MQ below (qg_ 59 a D (shC cy a σ') (some (.int r0)) s.heap.size) args s 0 0 (fr_ 59 a s.heap.size)) (F0 m 4 ls [])) : ∀ (σ : Sg) (x1 : Int32) (x2 : Int32) (H : Heap) (locs : List Loc) (ls : Array Slot), C1_godmothersInUse_4 k4 σ x1 x2 = some (r0, σ') → iv_ 59 a D (shC cy a σ) s H locs → lv_has ls 3 [(0, .ref (a 1)), (1, .int x1), (2, .int x2)] → W p l e ({ frames := 3, cells := 0, slots := 0, locals := 66 }) s m args below meth c H locs 0 0 (MQ below (qg_ 59 a D (shC cy a σ') (some (.int r0)) s.heap.size) args s 0 0 (fr_ 59 a s.heap.size)) (F0 m 4 ls []) := by
  obtain ⟨hx, hb, hr, hml, hown, hts, hlk, hK, hA, hXf⟩ := id X
  intro σ x1 x2 H locs ls h I hl
  unfold C1_godmothersInUse_4 at h
  refine lv_iload_n hx hb dX1_godmothersInUse_4 rfl (lv_at hl 2 rfl) ?_
  refine lv_bipush (v := 8) hx hb dX1_godmothersInUse_5 (by decide) ?_
  refine lv_icmp_ge (tgt := 27) hx hb dX1_godmothersInUse_7 (by decide) (fun c_1 => ?_) (fun c_1 => ?_)
  · have h := if_t h c_1
    refine lv_iload_n hx hb dX1_godmothersInUse_27 rfl (lv_at hl 1 rfl) ?_
    obtain ⟨rfl, rfl⟩ := re_s h
    exact rti_ X I dX1_godmothersInUse_28
  · have h := if_f h c_1
    refine lv_aload_n hx hb dX1_godmothersInUse_10 rfl (lv_at hl 0 rfl) ?_
    refine lv_iload_n hx hb dX1_godmothersInUse_11 rfl (lv_at hl 2 rfl) ?_
    obtain ⟨r_4, σ_3, hc_2, h⟩ := bi_of h
    refine cg_ (v := .int r_4) (rV_ (nn := 1) (As := [.int x2]) (rest := []) X xkC I (c_C1_swornTo hc_2 H.size) gX1_godmothersInUse_X1_swornTo rfl ⟨rfl, rfl⟩ (by decide +kernel) ⟨Nat.le_of_ble_eq_true rfl, Nat.le_of_ble_eq_true rfl⟩ (by decide) shC_1 rfl rfl hl.1 rfl (Nat.le_of_ble_eq_true rfl) dX1_godmothersInUse_12) I (fun H locs I => ?_)
    refine lv_if_eq (tgt := 21) hx hb dX1_godmothersInUse_15 (by decide) (fun c_5 => ?_) (fun c_5 => ?_)
    · have h := if_t h c_5
      exact kC1_godmothersInUse_21 X hk4 σ_3 x1 x2 H locs ls h I (lv_sub hl [0, 1, 2] rfl)
    · have h := if_f h c_5
      obtain ⟨y_6, e_7⟩ : ∃ q : Int32, q = x1 + (1 : Int32) := ⟨_, rfl⟩
      have h := lt_at h e_7
      refine lv_iinc (v := y_6) (lv' := [(1, .int y_6), (0, .ref (a 1)), (2, .int x2)]) hx hb dX1_godmothersInUse_18 hl (k := 1) rfl (by rw [e_7]; rfl) (by decide) rfl (fun ls hl => ?_)
      exact kC1_godmothersInUse_21 X hk4 σ_3 y_6 x2 H locs ls h I (lv_sub hl [1, 0, 2] rfl)
set_option maxRecDepth 100000 in
theorem kC1_godmothersInUse_4L {p : Program} {l : Launch} {e : Env} {s : State} {m : MethodId} {args : Array Value} {below : List Frame} {meth : Method} {c : Code} {D : va_G} {cy : Nat → ClassId} {a gs : Nat → Nat} (X : cx_ cX1_godmothersInUse RX1 wsX1_godmothersInUse 3 (some .int) 59 a D cy (xfC gs) p s m args meth c)  {r0 : Int32} {σ' : Sg}  : ∀ (n : Nat), ∀ (σ : Sg) (x1 : Int32) (x2 : Int32) (H : Heap) (locs : List Loc) (ls : Array Slot), lp_ (C1_godmothersInUse_4) (fun _ _ _ => none) n σ x1 x2 = some (r0, σ') → iv_ 59 a D (shC cy a σ) s H locs → lv_has ls 3 [(0, .ref (a 1)), (1, .int x1), (2, .int x2)] → W p l e ({ frames := 3, cells := 0, slots := 0, locals := 66 }) s m args below meth c H locs 0 0 (MQ below (qg_ 59 a D (shC cy a σ') (some (.int r0)) s.heap.size) args s 0 0 (fr_ 59 a s.heap.size)) (F0 m 4 ls []) := by
  intro n
  induction n with
  | zero =>
    intro _ _ _ _ _ _ h
    exact absurd h (fun q => by cases (show (none : Option _) = some _ from q))
  | succ n ih => exact kC1_godmothersInUse_4 X ih

def C1_godmothersInUse_0  (σ : Sg)  : Option (Int32 × Sg) :=
  lp_ C1_godmothersInUse_4 (fun _ _ _ => none) FU σ (0 : Int32) (0 : Int32)
set_option maxRecDepth 100000 in
theorem kC1_godmothersInUse_0 {p : Program} {l : Launch} {e : Env} {s : State} {m : MethodId} {args : Array Value} {below : List Frame} {meth : Method} {c : Code} {D : va_G} {cy : Nat → ClassId} {a gs : Nat → Nat} (X : cx_ cX1_godmothersInUse RX1 wsX1_godmothersInUse 3 (some .int) 59 a D cy (xfC gs) p s m args meth c)  {r0 : Int32} {σ' : Sg}  : ∀ (σ : Sg)  (H : Heap) (locs : List Loc) (ls : Array Slot), C1_godmothersInUse_0 σ = some (r0, σ') → iv_ 59 a D (shC cy a σ) s H locs → lv_has ls 3 [(0, .ref (a 1))] → W p l e ({ frames := 3, cells := 0, slots := 0, locals := 66 }) s m args below meth c H locs 0 0 (MQ below (qg_ 59 a D (shC cy a σ') (some (.int r0)) s.heap.size) args s 0 0 (fr_ 59 a s.heap.size)) (F0 m 0 ls []) := by
  obtain ⟨hx, hb, hr, hml, hown, hts, hlk, hK, hA, hXf⟩ := id X
  intro σ  H locs ls h I hl
  unfold C1_godmothersInUse_0 at h
  refine lv_iconst (v := 0) hx hb dX1_godmothersInUse_0 (by decide) ?_
  refine lv_istore_n (lv' := [(1, .int (0 : Int32)), (0, .ref (a 1))]) hx hb dX1_godmothersInUse_1 rfl hl (by decide) rfl (fun ls hl => ?_)
  refine lv_iconst (v := 0) hx hb dX1_godmothersInUse_2 (by decide) ?_
  refine lv_istore_n (lv' := [(2, .int (0 : Int32)), (1, .int (0 : Int32)), (0, .ref (a 1))]) hx hb dX1_godmothersInUse_3 rfl hl (by decide) rfl (fun ls hl => ?_)
  exact kC1_godmothersInUse_4L X  FU σ (0 : Int32) (0 : Int32) H locs ls h I (lv_sub hl [2, 1, 0] rfl)
theorem c_C1_godmothersInUse {l : Launch} {D : va_G} {cy : Nat → ClassId} {a gs : Nat → Nat} {σ : Sg}  {r0 : Int32} {σ' : Sg} (h : C1_godmothersInUse_0 σ  = some (r0, σ')) (sz : Nat) : Met l yX1_godmothersInUse wsX1_godmothersInUse ({ frames := 3, cells := 0, slots := 0, locals := 66 }) (va_Pc [.ref (a 1)] (pr_ 59 a D cy (shC cy a σ) (xfC gs) sz)) (qg_ 59 a D (shC cy a σ') (some (.int r0)) sz) 0 0 (fr_ 59 a sz) := by
  refine ent_ (by decide) rfl (Nat.le_of_ble_eq_true rfl) ?_
  intro p e s m below meth c ls hsz X I hl
  subst hsz
  exact kC1_godmothersInUse_0 X σ  s.heap [] ls h I hl
