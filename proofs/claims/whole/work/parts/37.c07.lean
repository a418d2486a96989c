def C2_shelve_0  (σ : Sg) (x1 : Int32) (x2 : Int32) (x3 : Int32) (x4 : Int32) : Option (Unit × Sg) :=
  bi_ (C2_isShelf_0 σ x1) fun r_3 σ_2 =>
  if r_3 = 0 then (some ((), σ_2))
  else (gd_ (in_ x1 4) (
  lt_ (wr_ σ_2 27 x1.toNatClampNeg x2) fun σ_5 =>
  gd_ (in_ x1 4) (
  lt_ (wr_ σ_5 25 x1.toNatClampNeg x3) fun σ_8 =>
  gd_ (in_ x1 4) (
  lt_ (wr_ σ_8 26 x1.toNatClampNeg x4) fun σ_11 =>
  some ((), σ_11)))))
set_option maxRecDepth 100000 in
theorem kC2_shelve_0 {p : Program} {l : Launch} {e : Env} {s : State} {m : MethodId} {args : Array Value} {below : List Frame} {meth : Method} {c : Code} {D : va_G} {cy : Nat → ClassId} {a gs : Nat → Nat} (X : cx_ cX2_shelve RX2 wsX2_shelve 5 none 59 a D cy (xfC gs) p s m args meth c)   {σ' : Sg}  : ∀ (σ : Sg) (x1 : Int32) (x2 : Int32) (x3 : Int32) (x4 : Int32) (H : Heap) (locs : List Loc) (ls : Array Slot), C2_shelve_0 σ x1 x2 x3 x4 = some ((), σ') → iv_ 59 a D (shC cy a σ) s H locs → lv_has ls 5 [(0, .ref (a 22)), (1, .int x1), (2, .int x2), (3, .int x3), (4, .int x4)] → W p l e ({ frames := 2, cells := 0, slots := 0, locals := 42 }) s m args below meth c H locs 0 0 (MQ below (qg_ 59 a D (shC cy a σ') none s.heap.size) args s 0 0 (fr_ 59 a s.heap.size)) (F0 m 0 ls []) := by
  obtain ⟨hx, hb, hr, hml, hown, hts, hlk, hK, hA, hXf⟩ := id X
  intro σ x1 x2 x3 x4 H locs ls h I hl
  unfold C2_shelve_0 at h
  refine lv_aload_n hx hb dX2_shelve_0 rfl (lv_at hl 0 rfl) ?_
  refine lv_iload_n hx hb dX2_shelve_1 rfl (lv_at hl 1 rfl) ?_
  obtain ⟨r_3, σ_2, hc_1, h⟩ := bi_of h
  refine cg_ (v := .int r_3) (rV_ (nn := 1) (As := [.int x1]) (rest := []) X xkC I (c_C2_isShelf hc_1 H.size) gX2_shelve_X2_isShelf rfl ⟨rfl, rfl⟩ (by decide +kernel) ⟨Nat.le_of_ble_eq_true rfl, Nat.le_of_ble_eq_true rfl⟩ (by decide) shC_22 rfl rfl hl.1 rfl (Nat.le_of_ble_eq_true rfl) dX2_shelve_2) I (fun H locs I => ?_)
  refine lv_if_ne (tgt := 9) hx hb dX2_shelve_5 (by decide) (fun c_4 => ?_) (fun c_4 => ?_)
  · have h := if_f h c_4
    refine lv_aload_n hx hb dX2_shelve_9 rfl (lv_at hl 0 rfl) ?_
    refine ig_ (index := 22) X I (fun _ q => List.mem_cons_of_mem _ (List.mem_append_right _ q)) 22 (by decide) shC_22 rfl 4 (by decide) (by decide +kernel) rfl (v := .ref (a 27)) rfl dX2_shelve_10 ?_
    refine lv_iload_n hx hb dX2_shelve_13 rfl (lv_at hl 1 rfl) ?_
    refine lv_iload_n hx hb dX2_shelve_14 rfl (lv_at hl 2 rfl) ?_
    obtain ⟨g_7, h⟩ := gd_of h
    refine is_ (σ2 := wr_ σ_2 27 x1.toNatClampNeg x2) X I 27 (by decide) shC_27 (in_of g_7) shC_st_27 dX2_shelve_15 (fun σ_5 H locs e_6 I => ?_)
    have h := lt_at h e_6
    refine lv_aload_n hx hb dX2_shelve_16 rfl (lv_at hl 0 rfl) ?_
    refine ig_ (index := 16) X I (fun _ q => List.mem_cons_of_mem _ (List.mem_append_right _ q)) 22 (by decide) shC_22 rfl 2 (by decide) (by decide +kernel) rfl (v := .ref (a 25)) rfl dX2_shelve_17 ?_
    refine lv_iload_n hx hb dX2_shelve_20 rfl (lv_at hl 1 rfl) ?_
    refine lv_iload_n hx hb dX2_shelve_21 rfl (lv_at hl 3 rfl) ?_
    obtain ⟨g_10, h⟩ := gd_of h
    refine is_ (σ2 := wr_ σ_5 25 x1.toNatClampNeg x3) X I 25 (by decide) shC_25 (in_of g_10) shC_st_25 dX2_shelve_22 (fun σ_8 H locs e_9 I => ?_)
    have h := lt_at h e_9
    refine lv_aload_n hx hb dX2_shelve_23 rfl (lv_at hl 0 rfl) ?_
    refine ig_ (index := 19) X I (fun _ q => List.mem_cons_of_mem _ (List.mem_append_right _ q)) 22 (by decide) shC_22 rfl 3 (by decide) (by decide +kernel) rfl (v := .ref (a 26)) rfl dX2_shelve_24 ?_
    refine lv_iload_n hx hb dX2_shelve_27 rfl (lv_at hl 1 rfl) ?_
    refine lv_iload hx hb dX2_shelve_28 (lv_at hl 4 rfl) ?_
    obtain ⟨g_13, h⟩ := gd_of h
    refine is_ (σ2 := wr_ σ_8 26 x1.toNatClampNeg x4) X I 26 (by decide) shC_26 (in_of g_13) shC_st_26 dX2_shelve_30 (fun σ_11 H locs e_12 I => ?_)
    have h := lt_at h e_12
    obtain rfl := re_v h
    exact rtv_ X I dX2_shelve_31
  · have h := if_t h c_4
    obtain rfl := re_v h
    exact rtv_ X I dX2_shelve_8
theorem c_C2_shelve {l : Launch} {D : va_G} {cy : Nat → ClassId} {a gs : Nat → Nat} {σ : Sg} {x1 : Int32} {x2 : Int32} {x3 : Int32} {x4 : Int32}  {σ' : Sg} (h : C2_shelve_0 σ x1 x2 x3 x4 = some ((), σ')) (sz : Nat) : Met l yX2_shelve wsX2_shelve ({ frames := 2, cells := 0, slots := 0, locals := 42 }) (va_Pc [.ref (a 22), .int x1, .int x2, .int x3, .int x4] (pr_ 59 a D cy (shC cy a σ) (xfC gs) sz)) (qg_ 59 a D (shC cy a σ') none sz) 0 0 (fr_ 59 a sz) := by
  refine ent_ (by decide) rfl (Nat.le_of_ble_eq_true rfl) ?_
  intro p e s m below meth c ls hsz X I hl
  subst hsz
  exact kC2_shelve_0 X σ x1 x2 x3 x4 s.heap [] ls h I hl

def C2_shelveChild_0  (σ : Sg) (x1 : Int32) (x2 : Int32) : Option (Unit × Sg) :=
  bi_ (C2_shelve_0 σ x1 x2 (-1 : Int32) (0 : Int32)) fun _ σ_2 =>
  some ((), σ_2)
set_option maxRecDepth 100000 in
theorem kC2_shelveChild_0 {p : Program} {l : Launch} {e : Env} {s : State} {m : MethodId} {args : Array Value} {below : List Frame} {meth : Method} {c : Code} {D : va_G} {cy : Nat → ClassId} {a gs : Nat → Nat} (X : cx_ cX2_shelveChild RX2 wsX2_shelveChild 3 none 59 a D cy (xfC gs) p s m args meth c)   {σ' : Sg}  : ∀ (σ : Sg) (x1 : Int32) (x2 : Int32) (H : Heap) (locs : List Loc) (ls : Array Slot), C2_shelveChild_0 σ x1 x2 = some ((), σ') → iv_ 59 a D (shC cy a σ) s H locs → lv_has ls 3 [(0, .ref (a 22)), (1, .int x1), (2, .int x2)] → W p l e ({ frames := 3, cells := 0, slots := 0, locals := 66 }) s m args below meth c H locs 0 0 (MQ below (qg_ 59 a D (shC cy a σ') none s.heap.size) args s 0 0 (fr_ 59 a s.heap.size)) (F0 m 0 ls []) := by
  obtain ⟨hx, hb, hr, hml, hown, hts, hlk, hK, hA, hXf⟩ := id X
  intro σ x1 x2 H locs ls h I hl
  unfold C2_shelveChild_0 at h
  refine lv_aload_n hx hb dX2_shelveChild_0 rfl (lv_at hl 0 rfl) ?_
  refine lv_iload_n hx hb dX2_shelveChild_1 rfl (lv_at hl 1 rfl) ?_
  refine lv_iload_n hx hb dX2_shelveChild_2 rfl (lv_at hl 2 rfl) ?_
  refine lv_iconst (v := (-1)) hx hb dX2_shelveChild_3 (by decide) ?_
  refine lv_iconst (v := 0) hx hb dX2_shelveChild_4 (by decide) ?_
  obtain ⟨_, σ_2, hc_1, h⟩ := bi_of h
  refine cv_ (rV_ (nn := 4) (As := [.int x1, .int x2, .int (-1 : Int32), .int (0 : Int32)]) (rest := []) X xkC I (c_C2_shelve hc_1 H.size) gX2_shelveChild_X2_shelve rfl ⟨rfl, rfl⟩ (by decide +kernel) ⟨Nat.le_of_ble_eq_true rfl, Nat.le_of_ble_eq_true rfl⟩ (by decide) shC_22 rfl rfl hl.1 rfl (Nat.le_of_ble_eq_true rfl) dX2_shelveChild_5) I (fun H locs I => ?_)
  obtain rfl := re_v h
  exact rtv_ X I dX2_shelveChild_8
theorem c_C2_shelveChild {l : Launch} {D : va_G} {cy : Nat → ClassId} {a gs : Nat → Nat} {σ : Sg} {x1 : Int32} {x2 : Int32}  {σ' : Sg} (h : C2_shelveChild_0 σ x1 x2 = some ((), σ')) (sz : Nat) : Met l yX2_shelveChild wsX2_shelveChild ({ frames := 3, cells := 0, slots := 0, locals := 66 }) (va_Pc [.ref (a 22), .int x1, .int x2] (pr_ 59 a D cy (shC cy a σ) (xfC gs) sz)) (qg_ 59 a D (shC cy a σ') none sz) 0 0 (fr_ 59 a sz) := by
  refine ent_ (by decide) rfl (Nat.le_of_ble_eq_true rfl) ?_
  intro p e s m below meth c ls hsz X I hl
  subst hsz
  exact kC2_shelveChild_0 X σ x1 x2 s.heap [] ls h I hl

def C2_shelveRow_0  (σ : Sg) (x1 : Int32) (x2 : Int32) : Option (Unit × Sg) :=
  bi_ (C2_sortOf_0 σ x2) fun r_3 σ_2 =>
  bi_ (C2_sizeOf_0 σ_2 x2) fun r_6 σ_5 =>
  bi_ (C2_shelve_0 σ_5 x1 (-1 : Int32) r_3 r_6) fun _ σ_8 =>
  some ((), σ_8)
set_option maxRecDepth 100000 in
theorem kC2_shelveRow_0 {p : Program} {l : Launch} {e : Env} {s : State} {m : MethodId} {args : Array Value} {below : List Frame} {meth : Method} {c : Code} {D : va_G} {cy : Nat → ClassId} {a gs : Nat → Nat} (X : cx_ cX2_shelveRow RX2 wsX2_shelveRow 3 none 59 a D cy (xfC gs) p s m args meth c)   {σ' : Sg}  : ∀ (σ : Sg) (x1 : Int32) (x2 : Int32) (H : Heap) (locs : List Loc) (ls : Array Slot), C2_shelveRow_0 σ x1 x2 = some ((), σ') → iv_ 59 a D (shC cy a σ) s H locs → lv_has ls 3 [(0, .ref (a 22)), (1, .int x1), (2, .int x2)] → W p l e ({ frames := 3, cells := 0, slots := 0, locals := 66 }) s m args below meth c H locs 0 0 (MQ below (qg_ 59 a D (shC cy a σ') none s.heap.size) args s 0 0 (fr_ 59 a s.heap.size)) (F0 m 0 ls []) := by
  obtain ⟨hx, hb, hr, hml, hown, hts, hlk, hK, hA, hXf⟩ := id X
  intro σ x1 x2 H locs ls h I hl
  unfold C2_shelveRow_0 at h
  refine lv_aload_n hx hb dX2_shelveRow_0 rfl (lv_at hl 0 rfl) ?_
  refine lv_iload_n hx hb dX2_shelveRow_1 rfl (lv_at hl 1 rfl) ?_
  refine lv_iconst (v := (-1)) hx hb dX2_shelveRow_2 (by decide) ?_
  refine lv_aload_n hx hb dX2_shelveRow_3 rfl (lv_at hl 0 rfl) ?_
  refine lv_iload_n hx hb dX2_shelveRow_4 rfl (lv_at hl 2 rfl) ?_
  obtain ⟨r_3, σ_2, hc_1, h⟩ := bi_of h
  refine cg_ (v := .int r_3) (rV_ (nn := 1) (As := [.int x2]) (rest := [.int (-1 : Int32), .int x1, .ref (a 22)]) X xkC I (c_C2_sortOf hc_1 H.size) gX2_shelveRow_X2_sortOf rfl ⟨rfl, rfl⟩ (by decide +kernel) ⟨Nat.le_of_ble_eq_true rfl, Nat.le_of_ble_eq_true rfl⟩ (by decide) shC_22 rfl rfl hl.1 rfl (Nat.le_of_ble_eq_true rfl) dX2_shelveRow_5) I (fun H locs I => ?_)
  refine lv_aload_n hx hb dX2_shelveRow_8 rfl (lv_at hl 0 rfl) ?_
  refine lv_iload_n hx hb dX2_shelveRow_9 rfl (lv_at hl 2 rfl) ?_
  obtain ⟨r_6, σ_5, hc_4, h⟩ := bi_of h
  refine cg_ (v := .int r_6) (rV_ (nn := 1) (As := [.int x2]) (rest := [.int r_3, .int (-1 : Int32), .int x1, .ref (a 22)]) X xkC I (c_C2_sizeOf hc_4 H.size) gX2_shelveRow_X2_sizeOf rfl ⟨rfl, rfl⟩ (by decide +kernel) ⟨Nat.le_of_ble_eq_true rfl, Nat.le_of_ble_eq_true rfl⟩ (by decide) shC_22 rfl rfl hl.1 rfl (Nat.le_of_ble_eq_true rfl) dX2_shelveRow_10) I (fun H locs I => ?_)
  obtain ⟨_, σ_8, hc_7, h⟩ := bi_of h
  refine cv_ (rV_ (nn := 4) (As := [.int x1, .int (-1 : Int32), .int r_3, .int r_6]) (rest := []) X xkC I (c_C2_shelve hc_7 H.size) gX2_shelveRow_X2_shelve rfl ⟨rfl, rfl⟩ (by decide +kernel) ⟨Nat.le_of_ble_eq_true rfl, Nat.le_of_ble_eq_true rfl⟩ (by decide) shC_22 rfl rfl hl.1 rfl (Nat.le_of_ble_eq_true rfl) dX2_shelveRow_13) I (fun H locs I => ?_)
  obtain rfl := re_v h
  exact rtv_ X I dX2_shelveRow_16
theorem c_C2_shelveRow {l : Launch} {D : va_G} {cy : Nat → ClassId} {a gs : Nat → Nat} {σ : Sg} {x1 : Int32} {x2 : Int32}  {σ' : Sg} (h : C2_shelveRow_0 σ x1 x2 = some ((), σ')) (sz : Nat) : Met l yX2_shelveRow wsX2_shelveRow ({ frames := 3, cells := 0, slots := 0, locals := 66 }) (va_Pc [.ref (a 22), .int x1, .int x2] (pr_ 59 a D cy (shC cy a σ) (xfC gs) sz)) (qg_ 59 a D (shC cy a σ') none sz) 0 0 (fr_ 59 a sz) := by
  refine ent_ (by decide) rfl (Nat.le_of_ble_eq_true rfl) ?_
  intro p e s m below meth c ls hsz X I hl
  subst hsz
  exact kC2_shelveRow_0 X σ x1 x2 s.heap [] ls h I hl

def C2_shelveNothing_0  (σ : Sg) (x1 : Int32) : Option (Unit × Sg) :=
  bi_ (C2_shelve_0 σ x1 (-1 : Int32) (-1 : Int32) (0 : Int32)) fun _ σ_2 =>
  some ((), σ_2)
set_option maxRecDepth 100000 in
theorem kC2_shelveNothing_0 {p : Program} {l : Launch} {e : Env} {s : State} {m : MethodId} {args : Array Value} {below : List Frame} {meth : Method} {c : Code} {D : va_G} {cy : Nat → ClassId} {a gs : Nat → Nat} (X : cx_ cX2_shelveNothing RX2 wsX2_shelveNothing 2 none 59 a D cy (xfC gs) p s m args meth c)   {σ' : Sg}  : ∀ (σ : Sg) (x1 : Int32) (H : Heap) (locs : List Loc) (ls : Array Slot), C2_shelveNothing_0 σ x1 = some ((), σ') → iv_ 59 a D (shC cy a σ) s H locs → lv_has ls 2 [(0, .ref (a 22)), (1, .int x1)] → W p l e ({ frames := 3, cells := 0, slots := 0, locals := 66 }) s m args below meth c H locs 0 0 (MQ below (qg_ 59 a D (shC cy a σ') none s.heap.size) args s 0 0 (fr_ 59 a s.heap.size)) (F0 m 0 ls []) := by
  obtain ⟨hx, hb, hr, hml, hown, hts, hlk, hK, hA, hXf⟩ := id X
  intro σ x1 H locs ls h I hl
  unfold C2_shelveNothing_0 at h
  refine lv_aload_n hx hb dX2_shelveNothing_0 rfl (lv_at hl 0 rfl) ?_
  refine lv_iload_n hx hb dX2_shelveNothing_1 rfl (lv_at hl 1 rfl) ?_
  refine lv_iconst (v := (-1)) hx hb dX2_shelveNothing_2 (by decide) ?_
  refine lv_iconst (v := (-1)) hx hb dX2_shelveNothing_3 (by decide) ?_
  refine lv_iconst (v := 0) hx hb dX2_shelveNothing_4 (by decide) ?_
  obtain ⟨_, σ_2, hc_1, h⟩ := bi_of h
  refine cv_ (rV_ (nn := 4) (As := [.int x1, .int (-1 : Int32), .int (-1 : Int32), .int (0 : Int32)]) (rest := []) X xkC I (c_C2_shelve hc_1 H.size) gX2_shelveNothing_X2_shelve rfl ⟨rfl, rfl⟩ (by decide +kernel) ⟨Nat.le_of_ble_eq_true rfl, Nat.le_of_ble_eq_true rfl⟩ (by decide) shC_22 rfl rfl hl.1 rfl (Nat.le_of_ble_eq_true rfl) dX2_shelveNothing_5) I (fun H locs I => ?_)
  obtain rfl := re_v h
  exact rtv_ X I dX2_shelveNothing_8
theorem c_C2_shelveNothing {l : Launch} {D : va_G} {cy : Nat → ClassId} {a gs : Nat → Nat} {σ : Sg} {x1 : Int32}  {σ' : Sg} (h : C2_shelveNothing_0 σ x1 = some ((), σ')) (sz : Nat) : Met l yX2_shelveNothing wsX2_shelveNothing ({ frames := 3, cells := 0, slots := 0, locals := 66 }) (va_Pc [.ref (a 22), .int x1] (pr_ 59 a D cy (shC cy a σ) (xfC gs) sz)) (qg_ 59 a D (shC cy a σ') none sz) 0 0 (fr_ 59 a sz) := by
  refine ent_ (by decide) rfl (Nat.le_of_ble_eq_true rfl) ?_
  intro p e s m below meth c ls hsz X I hl
  subst hsz
  exact kC2_shelveNothing_0 X σ x1 s.heap [] ls h I hl

def C_shelf_0  (σ : Sg) (x1 : Int32) (x2 : Int32) (x3 : Int32) : Option (Int32 × Sg) :=
  bi_ (C2_isShelf_0 σ x1) fun r_3 σ_2 =>
  if r_3 = 0 then (some ((-1 : Int32), σ_2))
  else (if x2 = 0 then (bi_ (C1_life_0 σ_2 x3) fun r_8 σ_7 =>
  on_ r_8 (some ((-1 : Int32), σ_7)) fun j_9 =>
  bi_ (C2_shelveChild_0 σ_7 x1 x3) fun _ σ_11 =>
  some ((1 : Int32), σ_11))
  else (if x2 = 1 then (bi_ (C2_isSheet_0 σ_2 x3) fun r_15 σ_14 =>
  if r_15 = 0 then (some ((-1 : Int32), σ_14))
  else (bi_ (C2_shelveRow_0 σ_14 x1 x3) fun _ σ_18 =>
  some ((1 : Int32), σ_18)))
  else (if x2 = 2 then (bi_ (C2_shelveNothing_0 σ_2 x1) fun _ σ_21 =>
  some ((1 : Int32), σ_21))
  else (some ((-1 : Int32), σ_2)))))
set_option maxRecDepth 100000 in
theorem kC_shelf_0 {p : Program} {l : Launch} {e : Env} {s : State} {m : MethodId} {args : Array Value} {below : List Frame} {meth : Method} {c : Code} {D : va_G} {cy : Nat → ClassId} {a gs : Nat → Nat} (X : cx_ cX11_shelf RX11 wsX11_shelf 4 (some .int) 59 a D cy (xfC gs) p s m args meth c)  {r0 : Int32} {σ' : Sg}  : ∀ (σ : Sg) (x1 : Int32) (x2 : Int32) (x3 : Int32) (H : Heap) (locs : List Loc) (ls : Array Slot), C_shelf_0 σ x1 x2 x3 = some (r0, σ') → iv_ 59 a D (shC cy a σ) s H locs → lv_has ls 4 [(0, .ref (a 0)), (1, .int x1), (2, .int x2), (3, .int x3)] → W p l e ({ frames := 4, cells := 0, slots := 0, locals := 88 }) s m args below meth c H locs 0 0 (MQ below (qg_ 59 a D (shC cy a σ') (some (.int r0)) s.heap.size) args s 0 0 (fr_ 59 a s.heap.size)) (F0 m 0 ls []) := by
  obtain ⟨hx, hb, hr, hml, hown, hts, hlk, hK, hA, hXf⟩ := id X
  intro σ x1 x2 x3 H locs ls h I hl
  unfold C_shelf_0 at h
  refine lv_aload_n hx hb dX11_shelf_0 rfl (lv_at hl 0 rfl) ?_
  refine ig_ (index := 59) X I (fun _ q => List.mem_cons_of_mem _ (List.mem_append_left _ (List.mem_append_left _ (List.mem_append_right _ q)))) 0 (by decide) shC_0 rfl 5 (by decide) (by decide +kernel) rfl (v := .ref (a 22)) rfl dX11_shelf_1 ?_
  refine lv_iload_n hx hb dX11_shelf_4 rfl (lv_at hl 1 rfl) ?_
  obtain ⟨r_3, σ_2, hc_1, h⟩ := bi_of h
  refine cg_ (v := .int r_3) (rV_ (nn := 1) (As := [.int x1]) (rest := []) X xkC I (c_C2_isShelf hc_1 H.size) gX11_shelf_X2_isShelf rfl ⟨rfl, rfl⟩ (by decide +kernel) ⟨Nat.le_of_ble_eq_true rfl, Nat.le_of_ble_eq_true rfl⟩ (by decide) shC_22 rfl rfl hl.1 rfl (Nat.le_of_ble_eq_true rfl) dX11_shelf_5) I (fun H locs I => ?_)
  refine lv_if_ne (tgt := 13) hx hb dX11_shelf_8 (by decide) (fun c_4 => ?_) (fun c_4 => ?_)
  · have h := if_f h c_4
    refine lv_iload_n hx hb dX11_shelf_13 rfl (lv_at hl 2 rfl) ?_
    by_cases c_5 : x2 = 0
    · have h := if_t h c_5
      refine lv_tableIn (tgt := 40) (off := 26) hx hb dX11_shelf_14 (by rw [c_5]; decide) (by rw [c_5]; decide) (by rw [c_5]; decide) (by decide) ?_
      refine lv_aload_n hx hb dX11_shelf_40 rfl (lv_at hl 0 rfl) ?_
      refine ig_ (index := 30) X I (fun _ q => List.mem_cons_of_mem _ (List.mem_append_left _ (List.mem_append_left _ (List.mem_append_right _ q)))) 0 (by decide) shC_0 rfl 0 (by decide) (by decide +kernel) rfl (v := .ref (a 1)) rfl dX11_shelf_41 ?_
      refine lv_iload_n hx hb dX11_shelf_44 rfl (lv_at hl 3 rfl) ?_
      obtain ⟨r_8, σ_7, hc_6, h⟩ := bi_of h
      refine cg_ (v := va_re (fun j => a (34 + j)) r_8) (rV_ (nn := 1) (As := [.int x3]) (rest := []) X xkC I (c_C1_life hc_6 H.size) gX11_shelf_X1_life rfl ⟨rfl, rfl⟩ (by decide +kernel) ⟨Nat.le_of_ble_eq_true rfl, Nat.le_of_ble_eq_true rfl⟩ (by decide) shC_1 rfl rfl hl.1 rfl (Nat.le_of_ble_eq_true rfl) dX11_shelf_45) I (fun H locs I => ?_)
      rcases r_8 with _ | j_9
      · have h := on_n h
        refine W.eq (g2 := F0 m 48 ls [.null]) rfl ?_
        refine lv_ifnonnullN hx hb dX11_shelf_48 ?_
        refine lv_iconst (v := (-1)) hx hb dX11_shelf_51 (by decide) ?_
        obtain ⟨rfl, rfl⟩ := re_s h
        exact rti_ X I dX11_shelf_52
      · have h := on_s h
        refine W.eq (g2 := F0 m 48 ls [.ref (a (34 + j_9))]) rfl ?_
        refine lv_ifnonnull (tgt := 53) hx hb dX11_shelf_48 (by decide) ?_
        refine lv_aload_n hx hb dX11_shelf_53 rfl (lv_at hl 0 rfl) ?_
        refine ig_ (index := 59) X I (fun _ q => List.mem_cons_of_mem _ (List.mem_append_left _ (List.mem_append_left _ (List.mem_append_right _ q)))) 0 (by decide) shC_0 rfl 5 (by decide) (by decide +kernel) rfl (v := .ref (a 22)) rfl dX11_shelf_54 ?_
        refine lv_iload_n hx hb dX11_shelf_57 rfl (lv_at hl 1 rfl) ?_
        refine lv_iload_n hx hb dX11_shelf_58 rfl (lv_at hl 3 rfl) ?_
        obtain ⟨_, σ_11, hc_10, h⟩ := bi_of h
        refine cv_ (rV_ (nn := 2) (As := [.int x1, .int x3]) (rest := []) X xkC I (c_C2_shelveChild hc_10 H.size) gX11_shelf_X2_shelveChild rfl ⟨rfl, rfl⟩ (by decide +kernel) ⟨Nat.le_of_ble_eq_true rfl, Nat.le_of_ble_eq_true rfl⟩ (by decide) shC_22 rfl rfl hl.1 rfl (Nat.le_of_ble_eq_true rfl) dX11_shelf_59) I (fun H locs I => ?_)
        refine lv_iconst (v := 1) hx hb dX11_shelf_62 (by decide) ?_
        obtain ⟨rfl, rfl⟩ := re_s h
        exact rti_ X I dX11_shelf_63
    · have h := if_f h c_5
      by_cases c_12 : x2 = 1
      · have h := if_t h c_12
        refine lv_tableIn (tgt := 64) (off := 50) hx hb dX11_shelf_14 (by rw [c_12]; decide) (by rw [c_12]; decide) (by rw [c_12]; decide) (by decide) ?_
        refine lv_aload_n hx hb dX11_shelf_64 rfl (lv_at hl 0 rfl) ?_
        refine ig_ (index := 59) X I (fun _ q => List.mem_cons_of_mem _ (List.mem_append_left _ (List.mem_append_left _ (List.mem_append_right _ q)))) 0 (by decide) shC_0 rfl 5 (by decide) (by decide +kernel) rfl (v := .ref (a 22)) rfl dX11_shelf_65 ?_
        refine lv_iload_n hx hb dX11_shelf_68 rfl (lv_at hl 3 rfl) ?_
        obtain ⟨r_15, σ_14, hc_13, h⟩ := bi_of h
        refine cg_ (v := .int r_15) (rV_ (nn := 1) (As := [.int x3]) (rest := []) X xkC I (c_C2_isSheet hc_13 H.size) gX11_shelf_X2_isSheet rfl ⟨rfl, rfl⟩ (by decide +kernel) ⟨Nat.le_of_ble_eq_true rfl, Nat.le_of_ble_eq_true rfl⟩ (by decide) shC_22 rfl rfl hl.1 rfl (Nat.le_of_ble_eq_true rfl) dX11_shelf_69) I (fun H locs I => ?_)
        refine lv_if_ne (tgt := 77) hx hb dX11_shelf_72 (by decide) (fun c_16 => ?_) (fun c_16 => ?_)
        · have h := if_f h c_16
          refine lv_aload_n hx hb dX11_shelf_77 rfl (lv_at hl 0 rfl) ?_
          refine ig_ (index := 59) X I (fun _ q => List.mem_cons_of_mem _ (List.mem_append_left _ (List.mem_append_left _ (List.mem_append_right _ q)))) 0 (by decide) shC_0 rfl 5 (by decide) (by decide +kernel) rfl (v := .ref (a 22)) rfl dX11_shelf_78 ?_
          refine lv_iload_n hx hb dX11_shelf_81 rfl (lv_at hl 1 rfl) ?_
          refine lv_iload_n hx hb dX11_shelf_82 rfl (lv_at hl 3 rfl) ?_
          obtain ⟨_, σ_18, hc_17, h⟩ := bi_of h
          refine cv_ (rV_ (nn := 2) (As := [.int x1, .int x3]) (rest := []) X xkC I (c_C2_shelveRow hc_17 H.size) gX11_shelf_X2_shelveRow rfl ⟨rfl, rfl⟩ (by decide +kernel) ⟨Nat.le_of_ble_eq_true rfl, Nat.le_of_ble_eq_true rfl⟩ (by decide) shC_22 rfl rfl hl.1 rfl (Nat.le_of_ble_eq_true rfl) dX11_shelf_83) I (fun H locs I => ?_)
          refine lv_iconst (v := 1) hx hb dX11_shelf_86 (by decide) ?_
          obtain ⟨rfl, rfl⟩ := re_s h
          exact rti_ X I dX11_shelf_87
        · have h := if_t h c_16
          refine lv_iconst (v := (-1)) hx hb dX11_shelf_75 (by decide) ?_
          obtain ⟨rfl, rfl⟩ := re_s h
          exact rti_ X I dX11_shelf_76
      · have h := if_f h c_12
        by_cases c_19 : x2 = 2
        · have h := if_t h c_19
          refine lv_tableIn (tgt := 88) (off := 74) hx hb dX11_shelf_14 (by rw [c_19]; decide) (by rw [c_19]; decide) (by rw [c_19]; decide) (by decide) ?_
          refine lv_aload_n hx hb dX11_shelf_88 rfl (lv_at hl 0 rfl) ?_
          refine ig_ (index := 59) X I (fun _ q => List.mem_cons_of_mem _ (List.mem_append_left _ (List.mem_append_left _ (List.mem_append_right _ q)))) 0 (by decide) shC_0 rfl 5 (by decide) (by decide +kernel) rfl (v := .ref (a 22)) rfl dX11_shelf_89 ?_
          refine lv_iload_n hx hb dX11_shelf_92 rfl (lv_at hl 1 rfl) ?_
          obtain ⟨_, σ_21, hc_20, h⟩ := bi_of h
          refine cv_ (rV_ (nn := 1) (As := [.int x1]) (rest := []) X xkC I (c_C2_shelveNothing hc_20 H.size) gX11_shelf_X2_shelveNothing rfl ⟨rfl, rfl⟩ (by decide +kernel) ⟨Nat.le_of_ble_eq_true rfl, Nat.le_of_ble_eq_true rfl⟩ (by decide) shC_22 rfl rfl hl.1 rfl (Nat.le_of_ble_eq_true rfl) dX11_shelf_93) I (fun H locs I => ?_)
          refine lv_iconst (v := 1) hx hb dX11_shelf_96 (by decide) ?_
          obtain ⟨rfl, rfl⟩ := re_s h
          exact rti_ X I dX11_shelf_97
        · have h := if_f h c_19
          refine lv_tableOut (tgt := 98) hx hb dX11_shelf_14 (by have q0 := lv_neT (a := 0) c_5 rfl; have q1 := lv_neT (a := 1) c_12 rfl; have q2 := lv_neT (a := 2) c_19 rfl; omega) (by decide) ?_
          refine lv_iconst (v := (-1)) hx hb dX11_shelf_98 (by decide) ?_
          obtain ⟨rfl, rfl⟩ := re_s h
          exact rti_ X I dX11_shelf_99
  · have h := if_t h c_4
    refine lv_iconst (v := (-1)) hx hb dX11_shelf_11 (by decide) ?_
    obtain ⟨rfl, rfl⟩ := re_s h
    exact rti_ X I dX11_shelf_12
theorem c_C_shelf {l : Launch} {D : va_G} {cy : Nat → ClassId} {a gs : Nat → Nat} {σ : Sg} {x1 : Int32} {x2 : Int32} {x3 : Int32} {r0 : Int32} {σ' : Sg} (h : C_shelf_0 σ x1 x2 x3 = some (r0, σ')) (sz : Nat) : Met l yX11_shelf wsX11_shelf ({ frames := 4, cells := 0, slots := 0, locals := 88 }) (va_Pc [.ref (a 0), .int x1, .int x2, .int x3] (pr_ 59 a D cy (shC cy a σ) (xfC gs) sz)) (qg_ 59 a D (shC cy a σ') (some (.int r0)) sz) 0 0 (fr_ 59 a sz) := by
  refine ent_ (by decide) rfl (Nat.le_of_ble_eq_true rfl) ?_
  intro p e s m below meth c ls hsz X I hl
  subst hsz
  exact kC_shelf_0 X σ x1 x2 x3 s.heap [] ls h I hl

def C2_shelvedSort_0  (σ : Sg) (x1 : Int32) : Option (Int32 × Sg) :=
  bi_ (C2_isShelf_0 σ x1) fun r_3 σ_2 =>
  if r_3 = 0 then (some ((-1 : Int32), σ_2))
  else (gd_ (in_ x1 4) (
  some ((rd_ σ_2 25 x1.toNatClampNeg), σ_2)))
set_option maxRecDepth 100000 in
theorem kC2_shelvedSort_0 {p : Program} {l : Launch} {e : Env} {s : State} {m : MethodId} {args : Array Value} {below : List Frame} {meth : Method} {c : Code} {D : va_G} {cy : Nat → ClassId} {a gs : Nat → Nat} (X : cx_ cX2_shelvedSort RX2 wsX2_shelvedSort 2 (some .int) 59 a D cy (xfC gs) p s m args meth c)  {r0 : Int32} {σ' : Sg}  : ∀ (σ : Sg) (x1 : Int32) (H : Heap) (locs : List Loc) (ls : Array Slot), C2_shelvedSort_0 σ x1 = some (r0, σ') → iv_ 59 a D (shC cy a σ) s H locs → lv_has ls 2 [(0, .ref (a 22)), (1, .int x1)] → W p l e ({ frames := 2, cells := 0, slots := 0, locals := 42 }) s m args below meth c H locs 0 0 (MQ below (qg_ 59 a D (shC cy a σ') (some (.int r0)) s.heap.size) args s 0 0 (fr_ 59 a s.heap.size)) (F0 m 0 ls []) := by
  obtain ⟨hx, hb, hr, hml, hown, hts, hlk, hK, hA, hXf⟩ := id X
  intro σ x1 H locs ls h I hl
  unfold C2_shelvedSort_0 at h
  refine lv_aload_n hx hb dX2_shelvedSort_0 rfl (lv_at hl 0 rfl) ?_
  refine lv_iload_n hx hb dX2_shelvedSort_1 rfl (lv_at hl 1 rfl) ?_
  obtain ⟨r_3, σ_2, hc_1, h⟩ := bi_of h
  refine cg_ (v := .int r_3) (rV_ (nn := 1) (As := [.int x1]) (rest := []) X xkC I (c_C2_isShelf hc_1 H.size) gX2_shelvedSort_X2_isShelf rfl ⟨rfl, rfl⟩ (by decide +kernel) ⟨Nat.le_of_ble_eq_true rfl, Nat.le_of_ble_eq_true rfl⟩ (by decide) shC_22 rfl rfl hl.1 rfl (Nat.le_of_ble_eq_true rfl) dX2_shelvedSort_2) I (fun H locs I => ?_)
  refine lv_if_eq (tgt := 17) hx hb dX2_shelvedSort_5 (by decide) (fun c_4 => ?_) (fun c_4 => ?_)
  · have h := if_t h c_4
    refine lv_iconst (v := (-1)) hx hb dX2_shelvedSort_17 (by decide) ?_
    obtain ⟨rfl, rfl⟩ := re_s h
    exact rti_ X I dX2_shelvedSort_18
  · have h := if_f h c_4
    refine lv_aload_n hx hb dX2_shelvedSort_8 rfl (lv_at hl 0 rfl) ?_
    refine ig_ (index := 16) X I (fun _ q => List.mem_cons_of_mem _ (List.mem_append_right _ q)) 22 (by decide) shC_22 rfl 2 (by decide) (by decide +kernel) rfl (v := .ref (a 25)) rfl dX2_shelvedSort_9 ?_
    refine lv_iload_n hx hb dX2_shelvedSort_12 rfl (lv_at hl 1 rfl) ?_
    obtain ⟨g_5, h⟩ := gd_of h
    refine ia_ X I 25 (by decide) shC_25 (in_of g_5) (v0 := (rd_ σ_2 25 x1.toNatClampNeg)) rfl dX2_shelvedSort_13 ?_
    refine lv_goto (tgt := 18) hx hb dX2_shelvedSort_14 (by decide) ?_
    obtain ⟨rfl, rfl⟩ := re_s h
    exact rti_ X I dX2_shelvedSort_18
theorem c_C2_shelvedSort {l : Launch} {D : va_G} {cy : Nat → ClassId} {a gs : Nat → Nat} {σ : Sg} {x1 : Int32} {r0 : Int32} {σ' : Sg} (h : C2_shelvedSort_0 σ x1 = some (r0, σ')) (sz : Nat) : Met l yX2_shelvedSort wsX2_shelvedSort ({ frames := 2, cells := 0, slots := 0, locals := 42 }) (va_Pc [.ref (a 22), .int x1] (pr_ 59 a D cy (shC cy a σ) (xfC gs) sz)) (qg_ 59 a D (shC cy a σ') (some (.int r0)) sz) 0 0 (fr_ 59 a sz) := by
  refine ent_ (by decide) rfl (Nat.le_of_ble_eq_true rfl) ?_
  intro p e s m below meth c ls hsz X I hl
  subst hsz
  exact kC2_shelvedSort_0 X σ x1 s.heap [] ls h I hl

def C2_shelvedChild_0  (σ : Sg) (x1 : Int32) : Option (Int32 × Sg) :=
  bi_ (C2_isShelf_0 σ x1) fun r_3 σ_2 =>
  if r_3 = 0 then (some ((-1 : Int32), σ_2))
  else (gd_ (in_ x1 4) (
  some ((rd_ σ_2 27 x1.toNatClampNeg), σ_2)))
set_option maxRecDepth 100000 in
theorem kC2_shelvedChild_0 {p : Program} {l : Launch} {e : Env} {s : State} {m : MethodId} {args : Array Value} {below : List Frame} {meth : Method} {c : Code} {D : va_G} {cy : Nat → ClassId} {a gs : Nat → Nat} (X : cx_ cX2_shelvedChild RX2 wsX2_shelvedChild 2 (some .int) 59 a D cy (xfC gs) p s m args meth c)  {r0 : Int32} {σ' : Sg}  : ∀ (σ : Sg) (x1 : Int32) (H : Heap) (locs : List Loc) (ls : Array Slot), C2_shelvedChild_0 σ x1 = some (r0, σ') → iv_ 59 a D (shC cy a σ) s H locs → lv_has ls 2 [(0, .ref (a 22)), (1, .int x1)] → W p l e ({ frames := 2, cells := 0, slots := 0, locals := 42 }) s m args below meth c H locs 0 0 (MQ below (qg_ 59 a D (shC cy a σ') (some (.int r0)) s.heap.size) args s 0 0 (fr_ 59 a s.heap.size)) (F0 m 0 ls []) := by
  obtain ⟨hx, hb, hr, hml, hown, hts, hlk, hK, hA, hXf⟩ := id X
  intro σ x1 H locs ls h I hl
  unfold C2_shelvedChild_0 at h
  refine lv_aload_n hx hb dX2_shelvedChild_0 rfl (lv_at hl 0 rfl) ?_
  refine lv_iload_n hx hb dX2_shelvedChild_1 rfl (lv_at hl 1 rfl) ?_
  obtain ⟨r_3, σ_2, hc_1, h⟩ := bi_of h
  refine cg_ (v := .int r_3) (rV_ (nn := 1) (As := [.int x1]) (rest := []) X xkC I (c_C2_isShelf hc_1 H.size) gX2_shelvedChild_X2_isShelf rfl ⟨rfl, rfl⟩ (by decide +kernel) ⟨Nat.le_of_ble_eq_true rfl, Nat.le_of_ble_eq_true rfl⟩ (by decide) shC_22 rfl rfl hl.1 rfl (Nat.le_of_ble_eq_true rfl) dX2_shelvedChild_2) I (fun H locs I => ?_)
  refine lv_if_eq (tgt := 17) hx hb dX2_shelvedChild_5 (by decide) (fun c_4 => ?_) (fun c_4 => ?_)
  · have h := if_t h c_4
    refine lv_iconst (v := (-1)) hx hb dX2_shelvedChild_17 (by decide) ?_
    obtain ⟨rfl, rfl⟩ := re_s h
    exact rti_ X I dX2_shelvedChild_18
  · have h := if_f h c_4
    refine lv_aload_n hx hb dX2_shelvedChild_8 rfl (lv_at hl 0 rfl) ?_
    refine ig_ (index := 22) X I (fun _ q => List.mem_cons_of_mem _ (List.mem_append_right _ q)) 22 (by decide) shC_22 rfl 4 (by decide) (by decide +kernel) rfl (v := .ref (a 27)) rfl dX2_shelvedChild_9 ?_
    refine lv_iload_n hx hb dX2_shelvedChild_12 rfl (lv_at hl 1 rfl) ?_
    obtain ⟨g_5, h⟩ := gd_of h
    refine ia_ X I 27 (by decide) shC_27 (in_of g_5) (v0 := (rd_ σ_2 27 x1.toNatClampNeg)) rfl dX2_shelvedChild_13 ?_
    refine lv_goto (tgt := 18) hx hb dX2_shelvedChild_14 (by decide) ?_
    obtain ⟨rfl, rfl⟩ := re_s h
    exact rti_ X I dX2_shelvedChild_18
theorem c_C2_shelvedChild {l : Launch} {D : va_G} {cy : Nat → ClassId} {a gs : Nat → Nat} {σ : Sg} {x1 : Int32} {r0 : Int32} {σ' : Sg} (h : C2_shelvedChild_0 σ x1 = some (r0, σ')) (sz : Nat) : Met l yX2_shelvedChild wsX2_shelvedChild ({ frames := 2, cells := 0, slots := 0, locals := 42 }) (va_Pc [.ref (a 22), .int x1] (pr_ 59 a D cy (shC cy a σ) (xfC gs) sz)) (qg_ 59 a D (shC cy a σ') (some (.int r0)) sz) 0 0 (fr_ 59 a sz) := by
  refine ent_ (by decide) rfl (Nat.le_of_ble_eq_true rfl) ?_
  intro p e s m below meth c ls hsz X I hl
  subst hsz
  exact kC2_shelvedChild_0 X σ x1 s.heap [] ls h I hl

def C_isUnder_k0_0  (σ : Sg) (x1 : Int32) : Option (Int32 × Sg) :=
  if x1 = 0 then (some ((1 : Int32), σ))
  else (if x1 = 1 then (some ((0 : Int32), σ))
  else (if x1 = 2 then (some ((0 : Int32), σ))
  else (if x1 = 3 then (some ((0 : Int32), σ))
  else (if x1 = 4 then (some ((0 : Int32), σ))
  else (if x1 = 5 then (some ((0 : Int32), σ))
  else (some ((0 : Int32), σ)))))))
set_option maxRecDepth 100000 in
theorem kC_isUnder_k0_0 {p : Program} {l : Launch} {e : Env} {s : State} {m : MethodId} {args : Array Value} {below : List Frame} {meth : Method} {c : Code} {D : va_G} {cy : Nat → ClassId} {a gs : Nat → Nat} (X : cx_ cX11_isUnder RX11 wsX11_isUnder 2 (some .boolean) 59 a D cy (xfC gs) p s m args meth c)  {r0 : Int32} {σ' : Sg}  : ∀ (σ : Sg) (x1 : Int32) (H : Heap) (locs : List Loc) (ls : Array Slot), C_isUnder_k0_0 σ x1 = some (r0, σ') → iv_ 59 a D (shC cy a σ) s H locs → lv_has ls 2 [(0, .ref (a 14)), (1, .int x1)] → W p l e ({ frames := 0, cells := 0, slots := 0, locals := 0 }) s m args below meth c H locs 0 0 (MQ below (qg_ 59 a D (shC cy a σ') (some (.int r0)) s.heap.size) args s 0 0 (fr_ 59 a s.heap.size)) (F0 m 0 ls []) := by
  obtain ⟨hx, hb, hr, hml, hown, hts, hlk, hK, hA, hXf⟩ := id X
  intro σ x1 H locs ls h I hl
  unfold C_isUnder_k0_0 at h
  refine lv_iload_n hx hb dX11_isUnder_0 rfl (lv_at hl 1 rfl) ?_
  by_cases c_1 : x1 = 0
  · have h := if_t h c_1
    refine lv_tableIn (tgt := 40) (off := 39) hx hb dX11_isUnder_1 (by rw [c_1]; decide) (by rw [c_1]; decide) (by rw [c_1]; decide) (by decide) ?_
    refine lv_aload_n hx hb dX11_isUnder_40 rfl (lv_at hl 0 rfl) ?_
    refine va_instS hx hb hown (hts (.classLink RX11 7 RX0) (by decide +kernel)) (hK.1 0 _ rfl).2 (va_recv hK I.1 (ci := 0) (q0 := 14) rfl (by rw [gW_get (by decide), shC_14])) dX11_isUnder_41 ?_
    obtain ⟨rfl, rfl⟩ := re_s h
    exact rtz_ X I (by decide) dX11_isUnder_44
  · have h := if_f h c_1
    by_cases c_2 : x1 = 1
    · have h := if_t h c_2
      refine lv_tableIn (tgt := 45) (off := 44) hx hb dX11_isUnder_1 (by rw [c_2]; decide) (by rw [c_2]; decide) (by rw [c_2]; decide) (by decide) ?_
      refine lv_aload_n hx hb dX11_isUnder_45 rfl (lv_at hl 0 rfl) ?_
      refine va_instNo hx hb hown (hts (.classLink RX11 10 RX5) (by decide +kernel)) (xC_n_X0_X5 hXf) (va_recv hK I.1 (ci := 0) (q0 := 14) rfl (by rw [gW_get (by decide), shC_14])) dX11_isUnder_46 ?_
      obtain ⟨rfl, rfl⟩ := re_s h
      exact rtz_ X I (by decide) dX11_isUnder_49
    · have h := if_f h c_2
      by_cases c_3 : x1 = 2
      · have h := if_t h c_3
        refine lv_tableIn (tgt := 50) (off := 49) hx hb dX11_isUnder_1 (by rw [c_3]; decide) (by rw [c_3]; decide) (by rw [c_3]; decide) (by decide) ?_
        refine lv_aload_n hx hb dX11_isUnder_50 rfl (lv_at hl 0 rfl) ?_
        refine va_instNo hx hb hown (hts (.classLink RX11 13 RX10) (by decide +kernel)) (xC_n_X0_X10 hXf) (va_recv hK I.1 (ci := 0) (q0 := 14) rfl (by rw [gW_get (by decide), shC_14])) dX11_isUnder_51 ?_
        obtain ⟨rfl, rfl⟩ := re_s h
        exact rtz_ X I (by decide) dX11_isUnder_54
      · have h := if_f h c_3
        by_cases c_4 : x1 = 3
        · have h := if_t h c_4
          refine lv_tableIn (tgt := 55) (off := 54) hx hb dX11_isUnder_1 (by rw [c_4]; decide) (by rw [c_4]; decide) (by rw [c_4]; decide) (by decide) ?_
          refine lv_aload_n hx hb dX11_isUnder_55 rfl (lv_at hl 0 rfl) ?_
          refine va_instNo hx hb hown (hts (.classLink RX11 16 RX3) (by decide +kernel)) (xC_n_X0_X3 hXf) (va_recv hK I.1 (ci := 0) (q0 := 14) rfl (by rw [gW_get (by decide), shC_14])) dX11_isUnder_56 ?_
          obtain ⟨rfl, rfl⟩ := re_s h
          exact rtz_ X I (by decide) dX11_isUnder_59
        · have h := if_f h c_4
          by_cases c_5 : x1 = 4
          · have h := if_t h c_5
            refine lv_tableIn (tgt := 60) (off := 59) hx hb dX11_isUnder_1 (by rw [c_5]; decide) (by rw [c_5]; decide) (by rw [c_5]; decide) (by decide) ?_
            refine lv_aload_n hx hb dX11_isUnder_60 rfl (lv_at hl 0 rfl) ?_
            refine va_instNo hx hb hown (hts (.classLink RX11 19 RX7) (by decide +kernel)) (xC_n_X0_X7 hXf) (va_recv hK I.1 (ci := 0) (q0 := 14) rfl (by rw [gW_get (by decide), shC_14])) dX11_isUnder_61 ?_
            obtain ⟨rfl, rfl⟩ := re_s h
            exact rtz_ X I (by decide) dX11_isUnder_64
          · have h := if_f h c_5
            by_cases c_6 : x1 = 5
            · have h := if_t h c_6
              refine lv_tableIn (tgt := 65) (off := 64) hx hb dX11_isUnder_1 (by rw [c_6]; decide) (by rw [c_6]; decide) (by rw [c_6]; decide) (by decide) ?_
              refine lv_aload_n hx hb dX11_isUnder_65 rfl (lv_at hl 0 rfl) ?_
              refine va_instNo hx hb hown (hts (.classLink RX11 22 RX9) (by decide +kernel)) (xC_n_X0_X9 hXf) (va_recv hK I.1 (ci := 0) (q0 := 14) rfl (by rw [gW_get (by decide), shC_14])) dX11_isUnder_66 ?_
              obtain ⟨rfl, rfl⟩ := re_s h
              exact rtz_ X I (by decide) dX11_isUnder_69
            · have h := if_f h c_6
              refine lv_tableOut (tgt := 70) hx hb dX11_isUnder_1 (by have q0 := lv_neT (a := 0) c_1 rfl; have q1 := lv_neT (a := 1) c_2 rfl; have q2 := lv_neT (a := 2) c_3 rfl; have q3 := lv_neT (a := 3) c_4 rfl; have q4 := lv_neT (a := 4) c_5 rfl; have q5 := lv_neT (a := 5) c_6 rfl; omega) (by decide) ?_
              refine lv_iconst (v := 0) hx hb dX11_isUnder_70 (by decide) ?_
              obtain ⟨rfl, rfl⟩ := re_s h
              exact rtz_ X I (by decide) dX11_isUnder_71
theorem c_C_isUnder_k0 {l : Launch} {D : va_G} {cy : Nat → ClassId} {a gs : Nat → Nat} {σ : Sg} {x1 : Int32} {r0 : Int32} {σ' : Sg} (h : C_isUnder_k0_0 σ x1 = some (r0, σ')) (sz : Nat) : Met l yX11_isUnder wsX11_isUnder ({ frames := 0, cells := 0, slots := 0, locals := 0 }) (va_Pc [.ref (a 14), .int x1] (pr_ 59 a D cy (shC cy a σ) (xfC gs) sz)) (qg_ 59 a D (shC cy a σ') (some (.int r0)) sz) 0 0 (fr_ 59 a sz) := by
  refine ent_ (by decide) rfl (Nat.le_of_ble_eq_true rfl) ?_
  intro p e s m below meth c ls hsz X I hl
  subst hsz
  exact kC_isUnder_k0_0 X σ x1 s.heap [] ls h I hl

def C_isUnder_k1_0  (σ : Sg) (x1 : Int32) : Option (Int32 × Sg) :=
  if x1 = 0 then (some ((1 : Int32), σ))
  else (if x1 = 1 then (some ((1 : Int32), σ))
  else (if x1 = 2 then (some ((0 : Int32), σ))
  else (if x1 = 3 then (some ((0 : Int32), σ))
  else (if x1 = 4 then (some ((0 : Int32), σ))
  else (if x1 = 5 then (some ((0 : Int32), σ))
  else (some ((0 : Int32), σ)))))))
set_option maxRecDepth 100000 in
theorem kC_isUnder_k1_0 {p : Program} {l : Launch} {e : Env} {s : State} {m : MethodId} {args : Array Value} {below : List Frame} {meth : Method} {c : Code} {D : va_G} {cy : Nat → ClassId} {a gs : Nat → Nat} (X : cx_ cX11_isUnder RX11 wsX11_isUnder 2 (some .boolean) 59 a D cy (xfC gs) p s m args meth c)  {r0 : Int32} {σ' : Sg}  : ∀ (σ : Sg) (x1 : Int32) (H : Heap) (locs : List Loc) (ls : Array Slot), C_isUnder_k1_0 σ x1 = some (r0, σ') → iv_ 59 a D (shC cy a σ) s H locs → lv_has ls 2 [(0, .ref (a 15)), (1, .int x1)] → W p l e ({ frames := 0, cells := 0, slots := 0, locals := 0 }) s m args below meth c H locs 0 0 (MQ below (qg_ 59 a D (shC cy a σ') (some (.int r0)) s.heap.size) args s 0 0 (fr_ 59 a s.heap.size)) (F0 m 0 ls []) := by
  obtain ⟨hx, hb, hr, hml, hown, hts, hlk, hK, hA, hXf⟩ := id X
  intro σ x1 H locs ls h I hl
  unfold C_isUnder_k1_0 at h
  refine lv_iload_n hx hb dX11_isUnder_0 rfl (lv_at hl 1 rfl) ?_
  by_cases c_1 : x1 = 0
  · have h := if_t h c_1
    refine lv_tableIn (tgt := 40) (off := 39) hx hb dX11_isUnder_1 (by rw [c_1]; decide) (by rw [c_1]; decide) (by rw [c_1]; decide) (by decide) ?_
    refine lv_aload_n hx hb dX11_isUnder_40 rfl (lv_at hl 0 rfl) ?_
    refine va_instY hx hb hown (hts (.classLink RX11 7 RX0) (by decide +kernel)) (xC_y_X5_X0 hXf) (va_recv hK I.1 (ci := 5) (q0 := 15) rfl (by rw [gW_get (by decide), shC_15])) dX11_isUnder_41 ?_
    obtain ⟨rfl, rfl⟩ := re_s h
    exact rtz_ X I (by decide) dX11_isUnder_44
  · have h := if_f h c_1
    by_cases c_2 : x1 = 1
    · have h := if_t h c_2
      refine lv_tableIn (tgt := 45) (off := 44) hx hb dX11_isUnder_1 (by rw [c_2]; decide) (by rw [c_2]; decide) (by rw [c_2]; decide) (by decide) ?_
      refine lv_aload_n hx hb dX11_isUnder_45 rfl (lv_at hl 0 rfl) ?_
      refine va_instS hx hb hown (hts (.classLink RX11 10 RX5) (by decide +kernel)) (hK.1 5 _ rfl).2 (va_recv hK I.1 (ci := 5) (q0 := 15) rfl (by rw [gW_get (by decide), shC_15])) dX11_isUnder_46 ?_
      obtain ⟨rfl, rfl⟩ := re_s h
      exact rtz_ X I (by decide) dX11_isUnder_49
    · have h := if_f h c_2
      by_cases c_3 : x1 = 2
      · have h := if_t h c_3
        refine lv_tableIn (tgt := 50) (off := 49) hx hb dX11_isUnder_1 (by rw [c_3]; decide) (by rw [c_3]; decide) (by rw [c_3]; decide) (by decide) ?_
        refine lv_aload_n hx hb dX11_isUnder_50 rfl (lv_at hl 0 rfl) ?_
        refine va_instNo hx hb hown (hts (.classLink RX11 13 RX10) (by decide +kernel)) (xC_n_X5_X10 hXf) (va_recv hK I.1 (ci := 5) (q0 := 15) rfl (by rw [gW_get (by decide), shC_15])) dX11_isUnder_51 ?_
        obtain ⟨rfl, rfl⟩ := re_s h
        exact rtz_ X I (by decide) dX11_isUnder_54
      · have h := if_f h c_3
        by_cases c_4 : x1 = 3
        · have h := if_t h c_4
          refine lv_tableIn (tgt := 55) (off := 54) hx hb dX11_isUnder_1 (by rw [c_4]; decide) (by rw [c_4]; decide) (by rw [c_4]; decide) (by decide) ?_
          refine lv_aload_n hx hb dX11_isUnder_55 rfl (lv_at hl 0 rfl) ?_
          refine va_instNo hx hb hown (hts (.classLink RX11 16 RX3) (by decide +kernel)) (xC_n_X5_X3 hXf) (va_recv hK I.1 (ci := 5) (q0 := 15) rfl (by rw [gW_get (by decide), shC_15])) dX11_isUnder_56 ?_
          obtain ⟨rfl, rfl⟩ := re_s h
          exact rtz_ X I (by decide) dX11_isUnder_59
        · have h := if_f h c_4
          by_cases c_5 : x1 = 4
          · have h := if_t h c_5
            refine lv_tableIn (tgt := 60) (off := 59) hx hb dX11_isUnder_1 (by rw [c_5]; decide) (by rw [c_5]; decide) (by rw [c_5]; decide) (by decide) ?_
            refine lv_aload_n hx hb dX11_isUnder_60 rfl (lv_at hl 0 rfl) ?_
            refine va_instNo hx hb hown (hts (.classLink RX11 19 RX7) (by decide +kernel)) (xC_n_X5_X7 hXf) (va_recv hK I.1 (ci := 5) (q0 := 15) rfl (by rw [gW_get (by decide), shC_15])) dX11_isUnder_61 ?_
            obtain ⟨rfl, rfl⟩ := re_s h
            exact rtz_ X I (by decide) dX11_isUnder_64
          · have h := if_f h c_5
            by_cases c_6 : x1 = 5
            · have h := if_t h c_6
              refine lv_tableIn (tgt := 65) (off := 64) hx hb dX11_isUnder_1 (by rw [c_6]; decide) (by rw [c_6]; decide) (by rw [c_6]; decide) (by decide) ?_
              refine lv_aload_n hx hb dX11_isUnder_65 rfl (lv_at hl 0 rfl) ?_
              refine va_instNo hx hb hown (hts (.classLink RX11 22 RX9) (by decide +kernel)) (xC_n_X5_X9 hXf) (va_recv hK I.1 (ci := 5) (q0 := 15) rfl (by rw [gW_get (by decide), shC_15])) dX11_isUnder_66 ?_
              obtain ⟨rfl, rfl⟩ := re_s h
              exact rtz_ X I (by decide) dX11_isUnder_69
            · have h := if_f h c_6
              refine lv_tableOut (tgt := 70) hx hb dX11_isUnder_1 (by have q0 := lv_neT (a := 0) c_1 rfl; have q1 := lv_neT (a := 1) c_2 rfl; have q2 := lv_neT (a := 2) c_3 rfl; have q3 := lv_neT (a := 3) c_4 rfl; have q4 := lv_neT (a := 4) c_5 rfl; have q5 := lv_neT (a := 5) c_6 rfl; omega) (by decide) ?_
              refine lv_iconst (v := 0) hx hb dX11_isUnder_70 (by decide) ?_
              obtain ⟨rfl, rfl⟩ := re_s h
              exact rtz_ X I (by decide) dX11_isUnder_71
theorem c_C_isUnder_k1 {l : Launch} {D : va_G} {cy : Nat → ClassId} {a gs : Nat → Nat} {σ : Sg} {x1 : Int32} {r0 : Int32} {σ' : Sg} (h : C_isUnder_k1_0 σ x1 = some (r0, σ')) (sz : Nat) : Met l yX11_isUnder wsX11_isUnder ({ frames := 0, cells := 0, slots := 0, locals := 0 }) (va_Pc [.ref (a 15), .int x1] (pr_ 59 a D cy (shC cy a σ) (xfC gs) sz)) (qg_ 59 a D (shC cy a σ') (some (.int r0)) sz) 0 0 (fr_ 59 a sz) := by
  refine ent_ (by decide) rfl (Nat.le_of_ble_eq_true rfl) ?_
  intro p e s m below meth c ls hsz X I hl
  subst hsz
  exact kC_isUnder_k1_0 X σ x1 s.heap [] ls h I hl

def C_isUnder_k2_0  (σ : Sg) (x1 : Int32) : Option (Int32 × Sg) :=
  if x1 = 0 then (some ((1 : Int32), σ))
  else (if x1 = 1 then (some ((0 : Int32), σ))
  else (if x1 = 2 then (some ((1 : Int32), σ))
  else (if x1 = 3 then (some ((0 : Int32), σ))
  else (if x1 = 4 then (some ((0 : Int32), σ))
  else (if x1 = 5 then (some ((0 : Int32), σ))
  else (some ((0 : Int32), σ)))))))
set_option maxRecDepth 100000 in
theorem kC_isUnder_k2_0 {p : Program} {l : Launch} {e : Env} {s : State} {m : MethodId} {args : Array Value} {below : List Frame} {meth : Method} {c : Code} {D : va_G} {cy : Nat → ClassId} {a gs : Nat → Nat} (X : cx_ cX11_isUnder RX11 wsX11_isUnder 2 (some .boolean) 59 a D cy (xfC gs) p s m args meth c)  {r0 : Int32} {σ' : Sg}  : ∀ (σ : Sg) (x1 : Int32) (H : Heap) (locs : List Loc) (ls : Array Slot), C_isUnder_k2_0 σ x1 = some (r0, σ') → iv_ 59 a D (shC cy a σ) s H locs → lv_has ls 2 [(0, .ref (a 16)), (1, .int x1)] → W p l e ({ frames := 0, cells := 0, slots := 0, locals := 0 }) s m args below meth c H locs 0 0 (MQ below (qg_ 59 a D (shC cy a σ') (some (.int r0)) s.heap.size) args s 0 0 (fr_ 59 a s.heap.size)) (F0 m 0 ls []) := by
  obtain ⟨hx, hb, hr, hml, hown, hts, hlk, hK, hA, hXf⟩ := id X
  intro σ x1 H locs ls h I hl
  unfold C_isUnder_k2_0 at h
  refine lv_iload_n hx hb dX11_isUnder_0 rfl (lv_at hl 1 rfl) ?_
  by_cases c_1 : x1 = 0
  · have h := if_t h c_1
    refine lv_tableIn (tgt := 40) (off := 39) hx hb dX11_isUnder_1 (by rw [c_1]; decide) (by rw [c_1]; decide) (by rw [c_1]; decide) (by decide) ?_
    refine lv_aload_n hx hb dX11_isUnder_40 rfl (lv_at hl 0 rfl) ?_
    refine va_instY hx hb hown (hts (.classLink RX11 7 RX0) (by decide +kernel)) (xC_y_X10_X0 hXf) (va_recv hK I.1 (ci := 10) (q0 := 16) rfl (by rw [gW_get (by decide), shC_16])) dX11_isUnder_41 ?_
    obtain ⟨rfl, rfl⟩ := re_s h
    exact rtz_ X I (by decide) dX11_isUnder_44
  · have h := if_f h c_1
    by_cases c_2 : x1 = 1
    · have h := if_t h c_2
      refine lv_tableIn (tgt := 45) (off := 44) hx hb dX11_isUnder_1 (by rw [c_2]; decide) (by rw [c_2]; decide) (by rw [c_2]; decide) (by decide) ?_
      refine lv_aload_n hx hb dX11_isUnder_45 rfl (lv_at hl 0 rfl) ?_
      refine va_instNo hx hb hown (hts (.classLink RX11 10 RX5) (by decide +kernel)) (xC_n_X10_X5 hXf) (va_recv hK I.1 (ci := 10) (q0 := 16) rfl (by rw [gW_get (by decide), shC_16])) dX11_isUnder_46 ?_
      obtain ⟨rfl, rfl⟩ := re_s h
      exact rtz_ X I (by decide) dX11_isUnder_49
    · have h := if_f h c_2
      by_cases c_3 : x1 = 2
      · have h := if_t h c_3
        refine lv_tableIn (tgt := 50) (off := 49) hx hb dX11_isUnder_1 (by rw [c_3]; decide) (by rw [c_3]; decide) (by rw [c_3]; decide) (by decide) ?_
        refine lv_aload_n hx hb dX11_isUnder_50 rfl (lv_at hl 0 rfl) ?_
        refine va_instS hx hb hown (hts (.classLink RX11 13 RX10) (by decide +kernel)) (hK.1 10 _ rfl).2 (va_recv hK I.1 (ci := 10) (q0 := 16) rfl (by rw [gW_get (by decide), shC_16])) dX11_isUnder_51 ?_
        obtain ⟨rfl, rfl⟩ := re_s h
        exact rtz_ X I (by decide) dX11_isUnder_54
      · have h := if_f h c_3
        by_cases c_4 : x1 = 3
        · have h := if_t h c_4
          refine lv_tableIn (tgt := 55) (off := 54) hx hb dX11_isUnder_1 (by rw [c_4]; decide) (by rw [c_4]; decide) (by rw [c_4]; decide) (by decide) ?_
          refine lv_aload_n hx hb dX11_isUnder_55 rfl (lv_at hl 0 rfl) ?_
          refine va_instNo hx hb hown (hts (.classLink RX11 16 RX3) (by decide +kernel)) (xC_n_X10_X3 hXf) (va_recv hK I.1 (ci := 10) (q0 := 16) rfl (by rw [gW_get (by decide), shC_16])) dX11_isUnder_56 ?_
          obtain ⟨rfl, rfl⟩ := re_s h
          exact rtz_ X I (by decide) dX11_isUnder_59
        · have h := if_f h c_4
          by_cases c_5 : x1 = 4
          · have h := if_t h c_5
            refine lv_tableIn (tgt := 60) (off := 59) hx hb dX11_isUnder_1 (by rw [c_5]; decide) (by rw [c_5]; decide) (by rw [c_5]; decide) (by decide) ?_
            refine lv_aload_n hx hb dX11_isUnder_60 rfl (lv_at hl 0 rfl) ?_
            refine va_instNo hx hb hown (hts (.classLink RX11 19 RX7) (by decide +kernel)) (xC_n_X10_X7 hXf) (va_recv hK I.1 (ci := 10) (q0 := 16) rfl (by rw [gW_get (by decide), shC_16])) dX11_isUnder_61 ?_
            obtain ⟨rfl, rfl⟩ := re_s h
            exact rtz_ X I (by decide) dX11_isUnder_64
          · have h := if_f h c_5
            by_cases c_6 : x1 = 5
            · have h := if_t h c_6
              refine lv_tableIn (tgt := 65) (off := 64) hx hb dX11_isUnder_1 (by rw [c_6]; decide) (by rw [c_6]; decide) (by rw [c_6]; decide) (by decide) ?_
              refine lv_aload_n hx hb dX11_isUnder_65 rfl (lv_at hl 0 rfl) ?_
              refine va_instNo hx hb hown (hts (.classLink RX11 22 RX9) (by decide +kernel)) (xC_n_X10_X9 hXf) (va_recv hK I.1 (ci := 10) (q0 := 16) rfl (by rw [gW_get (by decide), shC_16])) dX11_isUnder_66 ?_
              obtain ⟨rfl, rfl⟩ := re_s h
              exact rtz_ X I (by decide) dX11_isUnder_69
            · have h := if_f h c_6
              refine lv_tableOut (tgt := 70) hx hb dX11_isUnder_1 (by have q0 := lv_neT (a := 0) c_1 rfl; have q1 := lv_neT (a := 1) c_2 rfl; have q2 := lv_neT (a := 2) c_3 rfl; have q3 := lv_neT (a := 3) c_4 rfl; have q4 := lv_neT (a := 4) c_5 rfl; have q5 := lv_neT (a := 5) c_6 rfl; omega) (by decide) ?_
              refine lv_iconst (v := 0) hx hb dX11_isUnder_70 (by decide) ?_
              obtain ⟨rfl, rfl⟩ := re_s h
              exact rtz_ X I (by decide) dX11_isUnder_71
theorem c_C_isUnder_k2 {l : Launch} {D : va_G} {cy : Nat → ClassId} {a gs : Nat → Nat} {σ : Sg} {x1 : Int32} {r0 : Int32} {σ' : Sg} (h : C_isUnder_k2_0 σ x1 = some (r0, σ')) (sz : Nat) : Met l yX11_isUnder wsX11_isUnder ({ frames := 0, cells := 0, slots := 0, locals := 0 }) (va_Pc [.ref (a 16), .int x1] (pr_ 59 a D cy (shC cy a σ) (xfC gs) sz)) (qg_ 59 a D (shC cy a σ') (some (.int r0)) sz) 0 0 (fr_ 59 a sz) := by
  refine ent_ (by decide) rfl (Nat.le_of_ble_eq_true rfl) ?_
  intro p e s m below meth c ls hsz X I hl
  subst hsz
  exact kC_isUnder_k2_0 X σ x1 s.heap [] ls h I hl

def C_isUnder_k3_0  (σ : Sg) (x1 : Int32) : Option (Int32 × Sg) :=
  if x1 = 0 then (some ((1 : Int32), σ))
  else (if x1 = 1 then (some ((1 : Int32), σ))
  else (if x1 = 2 then (some ((0 : Int32), σ))
  else (if x1 = 3 then (some ((1 : Int32), σ))
  else (if x1 = 4 then (some ((0 : Int32), σ))
  else (if x1 = 5 then (some ((0 : Int32), σ))
  else (some ((0 : Int32), σ)))))))
set_option maxRecDepth 100000 in
theorem kC_isUnder_k3_0 {p : Program} {l : Launch} {e : Env} {s : State} {m : MethodId} {args : Array Value} {below : List Frame} {meth : Method} {c : Code} {D : va_G} {cy : Nat → ClassId} {a gs : Nat → Nat} (X : cx_ cX11_isUnder RX11 wsX11_isUnder 2 (some .boolean) 59 a D cy (xfC gs) p s m args meth c)  {r0 : Int32} {σ' : Sg}  : ∀ (σ : Sg) (x1 : Int32) (H : Heap) (locs : List Loc) (ls : Array Slot), C_isUnder_k3_0 σ x1 = some (r0, σ') → iv_ 59 a D (shC cy a σ) s H locs → lv_has ls 2 [(0, .ref (a 17)), (1, .int x1)] → W p l e ({ frames := 0, cells := 0, slots := 0, locals := 0 }) s m args below meth c H locs 0 0 (MQ below (qg_ 59 a D (shC cy a σ') (some (.int r0)) s.heap.size) args s 0 0 (fr_ 59 a s.heap.size)) (F0 m 0 ls []) := by
  obtain ⟨hx, hb, hr, hml, hown, hts, hlk, hK, hA, hXf⟩ := id X
  intro σ x1 H locs ls h I hl
  unfold C_isUnder_k3_0 at h
  refine lv_iload_n hx hb dX11_isUnder_0 rfl (lv_at hl 1 rfl) ?_
  by_cases c_1 : x1 = 0
  · have h := if_t h c_1
    refine lv_tableIn (tgt := 40) (off := 39) hx hb dX11_isUnder_1 (by rw [c_1]; decide) (by rw [c_1]; decide) (by rw [c_1]; decide) (by decide) ?_
    refine lv_aload_n hx hb dX11_isUnder_40 rfl (lv_at hl 0 rfl) ?_
    refine va_instY hx hb hown (hts (.classLink RX11 7 RX0) (by decide +kernel)) (xC_y_X3_X0 hXf) (va_recv hK I.1 (ci := 3) (q0 := 17) rfl (by rw [gW_get (by decide), shC_17])) dX11_isUnder_41 ?_
    obtain ⟨rfl, rfl⟩ := re_s h
    exact rtz_ X I (by decide) dX11_isUnder_44
  · have h := if_f h c_1
    by_cases c_2 : x1 = 1
    · have h := if_t h c_2
      refine lv_tableIn (tgt := 45) (off := 44) hx hb dX11_isUnder_1 (by rw [c_2]; decide) (by rw [c_2]; decide) (by rw [c_2]; decide) (by decide) ?_
      refine lv_aload_n hx hb dX11_isUnder_45 rfl (lv_at hl 0 rfl) ?_
      refine va_instY hx hb hown (hts (.classLink RX11 10 RX5) (by decide +kernel)) (xC_y_X3_X5 hXf) (va_recv hK I.1 (ci := 3) (q0 := 17) rfl (by rw [gW_get (by decide), shC_17])) dX11_isUnder_46 ?_
      obtain ⟨rfl, rfl⟩ := re_s h
      exact rtz_ X I (by decide) dX11_isUnder_49
    · have h := if_f h c_2
      by_cases c_3 : x1 = 2
      · have h := if_t h c_3
        refine lv_tableIn (tgt := 50) (off := 49) hx hb dX11_isUnder_1 (by rw [c_3]; decide) (by rw [c_3]; decide) (by rw [c_3]; decide) (by decide) ?_
        refine lv_aload_n hx hb dX11_isUnder_50 rfl (lv_at hl 0 rfl) ?_
        refine va_instNo hx hb hown (hts (.classLink RX11 13 RX10) (by decide +kernel)) (xC_n_X3_X10 hXf) (va_recv hK I.1 (ci := 3) (q0 := 17) rfl (by rw [gW_get (by decide), shC_17])) dX11_isUnder_51 ?_
        obtain ⟨rfl, rfl⟩ := re_s h
        exact rtz_ X I (by decide) dX11_isUnder_54
      · have h := if_f h c_3
        by_cases c_4 : x1 = 3
        · have h := if_t h c_4
          refine lv_tableIn (tgt := 55) (off := 54) hx hb dX11_isUnder_1 (by rw [c_4]; decide) (by rw [c_4]; decide) (by rw [c_4]; decide) (by decide) ?_
          refine lv_aload_n hx hb dX11_isUnder_55 rfl (lv_at hl 0 rfl) ?_
          refine va_instS hx hb hown (hts (.classLink RX11 16 RX3) (by decide +kernel)) (hK.1 3 _ rfl).2 (va_recv hK I.1 (ci := 3) (q0 := 17) rfl (by rw [gW_get (by decide), shC_17])) dX11_isUnder_56 ?_
          obtain ⟨rfl, rfl⟩ := re_s h
          exact rtz_ X I (by decide) dX11_isUnder_59
        · have h := if_f h c_4
          by_cases c_5 : x1 = 4
          · have h := if_t h c_5
            refine lv_tableIn (tgt := 60) (off := 59) hx hb dX11_isUnder_1 (by rw [c_5]; decide) (by rw [c_5]; decide) (by rw [c_5]; decide) (by decide) ?_
            refine lv_aload_n hx hb dX11_isUnder_60 rfl (lv_at hl 0 rfl) ?_
            refine va_instNo hx hb hown (hts (.classLink RX11 19 RX7) (by decide +kernel)) (xC_n_X3_X7 hXf) (va_recv hK I.1 (ci := 3) (q0 := 17) rfl (by rw [gW_get (by decide), shC_17])) dX11_isUnder_61 ?_
            obtain ⟨rfl, rfl⟩ := re_s h
            exact rtz_ X I (by decide) dX11_isUnder_64
          · have h := if_f h c_5
            by_cases c_6 : x1 = 5
            · have h := if_t h c_6
              refine lv_tableIn (tgt := 65) (off := 64) hx hb dX11_isUnder_1 (by rw [c_6]; decide) (by rw [c_6]; decide) (by rw [c_6]; decide) (by decide) ?_
              refine lv_aload_n hx hb dX11_isUnder_65 rfl (lv_at hl 0 rfl) ?_
              refine va_instNo hx hb hown (hts (.classLink RX11 22 RX9) (by decide +kernel)) (xC_n_X3_X9 hXf) (va_recv hK I.1 (ci := 3) (q0 := 17) rfl (by rw [gW_get (by decide), shC_17])) dX11_isUnder_66 ?_
              obtain ⟨rfl, rfl⟩ := re_s h
              exact rtz_ X I (by decide) dX11_isUnder_69
            · have h := if_f h c_6
              refine lv_tableOut (tgt := 70) hx hb dX11_isUnder_1 (by have q0 := lv_neT (a := 0) c_1 rfl; have q1 := lv_neT (a := 1) c_2 rfl; have q2 := lv_neT (a := 2) c_3 rfl; have q3 := lv_neT (a := 3) c_4 rfl; have q4 := lv_neT (a := 4) c_5 rfl; have q5 := lv_neT (a := 5) c_6 rfl; omega) (by decide) ?_
              refine lv_iconst (v := 0) hx hb dX11_isUnder_70 (by decide) ?_
              obtain ⟨rfl, rfl⟩ := re_s h
              exact rtz_ X I (by decide) dX11_isUnder_71
theorem c_C_isUnder_k3 {l : Launch} {D : va_G} {cy : Nat → ClassId} {a gs : Nat → Nat} {σ : Sg} {x1 : Int32} {r0 : Int32} {σ' : Sg} (h : C_isUnder_k3_0 σ x1 = some (r0, σ')) (sz : Nat) : Met l yX11_isUnder wsX11_isUnder ({ frames := 0, cells := 0, slots := 0, locals := 0 }) (va_Pc [.ref (a 17), .int x1] (pr_ 59 a D cy (shC cy a σ) (xfC gs) sz)) (qg_ 59 a D (shC cy a σ') (some (.int r0)) sz) 0 0 (fr_ 59 a sz) := by
  refine ent_ (by decide) rfl (Nat.le_of_ble_eq_true rfl) ?_
  intro p e s m below meth c ls hsz X I hl
  subst hsz
  exact kC_isUnder_k3_0 X σ x1 s.heap [] ls h I hl

def C_isUnder_k4_0  (σ : Sg) (x1 : Int32) : Option (Int32 × Sg) :=
  if x1 = 0 then (some ((1 : Int32), σ))
  else (if x1 = 1 then (some ((0 : Int32), σ))
  else (if x1 = 2 then (some ((1 : Int32), σ))
  else (if x1 = 3 then (some ((0 : Int32), σ))
  else (if x1 = 4 then (some ((1 : Int32), σ))
  else (if x1 = 5 then (some ((0 : Int32), σ))
  else (some ((0 : Int32), σ)))))))
set_option maxRecDepth 100000 in
theorem kC_isUnder_k4_0 {p : Program} {l : Launch} {e : Env} {s : State} {m : MethodId} {args : Array Value} {below : List Frame} {meth : Method} {c : Code} {D : va_G} {cy : Nat → ClassId} {a gs : Nat → Nat} (X : cx_ cX11_isUnder RX11 wsX11_isUnder 2 (some .boolean) 59 a D cy (xfC gs) p s m args meth c)  {r0 : Int32} {σ' : Sg}  : ∀ (σ : Sg) (x1 : Int32) (H : Heap) (locs : List Loc) (ls : Array Slot), C_isUnder_k4_0 σ x1 = some (r0, σ') → iv_ 59 a D (shC cy a σ) s H locs → lv_has ls 2 [(0, .ref (a 18)), (1, .int x1)] → W p l e ({ frames := 0, cells := 0, slots := 0, locals := 0 }) s m args below meth c H locs 0 0 (MQ below (qg_ 59 a D (shC cy a σ') (some (.int r0)) s.heap.size) args s 0 0 (fr_ 59 a s.heap.size)) (F0 m 0 ls []) := by
  obtain ⟨hx, hb, hr, hml, hown, hts, hlk, hK, hA, hXf⟩ := id X
  intro σ x1 H locs ls h I hl
  unfold C_isUnder_k4_0 at h
  refine lv_iload_n hx hb dX11_isUnder_0 rfl (lv_at hl 1 rfl) ?_
  by_cases c_1 : x1 = 0
  · have h := if_t h c_1
    refine lv_tableIn (tgt := 40) (off := 39) hx hb dX11_isUnder_1 (by rw [c_1]; decide) (by rw [c_1]; decide) (by rw [c_1]; decide) (by decide) ?_
    refine lv_aload_n hx hb dX11_isUnder_40 rfl (lv_at hl 0 rfl) ?_
    refine va_instY hx hb hown (hts (.classLink RX11 7 RX0) (by decide +kernel)) (xC_y_X7_X0 hXf) (va_recv hK I.1 (ci := 7) (q0 := 18) rfl (by rw [gW_get (by decide), shC_18])) dX11_isUnder_41 ?_
    obtain ⟨rfl, rfl⟩ := re_s h
    exact rtz_ X I (by decide) dX11_isUnder_44
  · have h := if_f h c_1
    by_cases c_2 : x1 = 1
    · have h := if_t h c_2
      refine lv_tableIn (tgt := 45) (off := 44) hx hb dX11_isUnder_1 (by rw [c_2]; decide) (by rw [c_2]; decide) (by rw [c_2]; decide) (by decide) ?_
      refine lv_aload_n hx hb dX11_isUnder_45 rfl (lv_at hl 0 rfl) ?_
      refine va_instNo hx hb hown (hts (.classLink RX11 10 RX5) (by decide +kernel)) (xC_n_X7_X5 hXf) (va_recv hK I.1 (ci := 7) (q0 := 18) rfl (by rw [gW_get (by decide), shC_18])) dX11_isUnder_46 ?_
      obtain ⟨rfl, rfl⟩ := re_s h
      exact rtz_ X I (by decide) dX11_isUnder_49
    · have h := if_f h c_2
      by_cases c_3 : x1 = 2
      · have h := if_t h c_3
        refine lv_tableIn (tgt := 50) (off := 49) hx hb dX11_isUnder_1 (by rw [c_3]; decide) (by rw [c_3]; decide) (by rw [c_3]; decide) (by decide) ?_
        refine lv_aload_n hx hb dX11_isUnder_50 rfl (lv_at hl 0 rfl) ?_
        refine va_instY hx hb hown (hts (.classLink RX11 13 RX10) (by decide +kernel)) (xC_y_X7_X10 hXf) (va_recv hK I.1 (ci := 7) (q0 := 18) rfl (by rw [gW_get (by decide), shC_18])) dX11_isUnder_51 ?_
        obtain ⟨rfl, rfl⟩ := re_s h
        exact rtz_ X I (by decide) dX11_isUnder_54
      · have h := if_f h c_3
        by_cases c_4 : x1 = 3
        · have h := if_t h c_4
          refine lv_tableIn (tgt := 55) (off := 54) hx hb dX11_isUnder_1 (by rw [c_4]; decide) (by rw [c_4]; decide) (by rw [c_4]; decide) (by decide) ?_
          refine lv_aload_n hx hb dX11_isUnder_55 rfl (lv_at hl 0 rfl) ?_
          refine va_instNo hx hb hown (hts (.classLink RX11 16 RX3) (by decide +kernel)) (xC_n_X7_X3 hXf) (va_recv hK I.1 (ci := 7) (q0 := 18) rfl (by rw [gW_get (by decide), shC_18])) dX11_isUnder_56 ?_
          obtain ⟨rfl, rfl⟩ := re_s h
          exact rtz_ X I (by decide) dX11_isUnder_59
        · have h := if_f h c_4
          by_cases c_5 : x1 = 4
          · have h := if_t h c_5
            refine lv_tableIn (tgt := 60) (off := 59) hx hb dX11_isUnder_1 (by rw [c_5]; decide) (by rw [c_5]; decide) (by rw [c_5]; decide) (by decide) ?_
            refine lv_aload_n hx hb dX11_isUnder_60 rfl (lv_at hl 0 rfl) ?_
            refine va_instS hx hb hown (hts (.classLink RX11 19 RX7) (by decide +kernel)) (hK.1 7 _ rfl).2 (va_recv hK I.1 (ci := 7) (q0 := 18) rfl (by rw [gW_get (by decide), shC_18])) dX11_isUnder_61 ?_
            obtain ⟨rfl, rfl⟩ := re_s h
            exact rtz_ X I (by decide) dX11_isUnder_64
          · have h := if_f h c_5
            by_cases c_6 : x1 = 5
            · have h := if_t h c_6
              refine lv_tableIn (tgt := 65) (off := 64) hx hb dX11_isUnder_1 (by rw [c_6]; decide) (by rw [c_6]; decide) (by rw [c_6]; decide) (by decide) ?_
              refine lv_aload_n hx hb dX11_isUnder_65 rfl (lv_at hl 0 rfl) ?_
              refine va_instNo hx hb hown (hts (.classLink RX11 22 RX9) (by decide +kernel)) (xC_n_X7_X9 hXf) (va_recv hK I.1 (ci := 7) (q0 := 18) rfl (by rw [gW_get (by decide), shC_18])) dX11_isUnder_66 ?_
              obtain ⟨rfl, rfl⟩ := re_s h
              exact rtz_ X I (by decide) dX11_isUnder_69
            · have h := if_f h c_6
              refine lv_tableOut (tgt := 70) hx hb dX11_isUnder_1 (by have q0 := lv_neT (a := 0) c_1 rfl; have q1 := lv_neT (a := 1) c_2 rfl; have q2 := lv_neT (a := 2) c_3 rfl; have q3 := lv_neT (a := 3) c_4 rfl; have q4 := lv_neT (a := 4) c_5 rfl; have q5 := lv_neT (a := 5) c_6 rfl; omega) (by decide) ?_
              refine lv_iconst (v := 0) hx hb dX11_isUnder_70 (by decide) ?_
              obtain ⟨rfl, rfl⟩ := re_s h
              exact rtz_ X I (by decide) dX11_isUnder_71
theorem c_C_isUnder_k4 {l : Launch} {D : va_G} {cy : Nat → ClassId} {a gs : Nat → Nat} {σ : Sg} {x1 : Int32} {r0 : Int32} {σ' : Sg} (h : C_isUnder_k4_0 σ x1 = some (r0, σ')) (sz : Nat) : Met l yX11_isUnder wsX11_isUnder ({ frames := 0, cells := 0, slots := 0, locals := 0 }) (va_Pc [.ref (a 18), .int x1] (pr_ 59 a D cy (shC cy a σ) (xfC gs) sz)) (qg_ 59 a D (shC cy a σ') (some (.int r0)) sz) 0 0 (fr_ 59 a sz) := by
  refine ent_ (by decide) rfl (Nat.le_of_ble_eq_true rfl) ?_
  intro p e s m below meth c ls hsz X I hl
  subst hsz
  exact kC_isUnder_k4_0 X σ x1 s.heap [] ls h I hl

def C_isUnder_k5_0  (σ : Sg) (x1 : Int32) : Option (Int32 × Sg) :=
  if x1 = 0 then (some ((1 : Int32), σ))
  else (if x1 = 1 then (some ((0 : Int32), σ))
  else (if x1 = 2 then (some ((0 : Int32), σ))
  else (if x1 = 3 then (some ((0 : Int32), σ))
  else (if x1 = 4 then (some ((0 : Int32), σ))
  else (if x1 = 5 then (some ((1 : Int32), σ))
  else (some ((0 : Int32), σ)))))))
set_option maxRecDepth 100000 in
theorem kC_isUnder_k5_0 {p : Program} {l : Launch} {e : Env} {s : State} {m : MethodId} {args : Array Value} {below : List Frame} {meth : Method} {c : Code} {D : va_G} {cy : Nat → ClassId} {a gs : Nat → Nat} (X : cx_ cX11_isUnder RX11 wsX11_isUnder 2 (some .boolean) 59 a D cy (xfC gs) p s m args meth c)  {r0 : Int32} {σ' : Sg}  : ∀ (σ : Sg) (x1 : Int32) (H : Heap) (locs : List Loc) (ls : Array Slot), C_isUnder_k5_0 σ x1 = some (r0, σ') → iv_ 59 a D (shC cy a σ) s H locs → lv_has ls 2 [(0, .ref (a 19)), (1, .int x1)] → W p l e ({ frames := 0, cells := 0, slots := 0, locals := 0 }) s m args below meth c H locs 0 0 (MQ below (qg_ 59 a D (shC cy a σ') (some (.int r0)) s.heap.size) args s 0 0 (fr_ 59 a s.heap.size)) (F0 m 0 ls []) := by
  obtain ⟨hx, hb, hr, hml, hown, hts, hlk, hK, hA, hXf⟩ := id X
  intro σ x1 H locs ls h I hl
  unfold C_isUnder_k5_0 at h
  refine lv_iload_n hx hb dX11_isUnder_0 rfl (lv_at hl 1 rfl) ?_
  by_cases c_1 : x1 = 0
  · have h := if_t h c_1
    refine lv_tableIn (tgt := 40) (off := 39) hx hb dX11_isUnder_1 (by rw [c_1]; decide) (by rw [c_1]; decide) (by rw [c_1]; decide) (by decide) ?_
    refine lv_aload_n hx hb dX11_isUnder_40 rfl (lv_at hl 0 rfl) ?_
    refine va_instY hx hb hown (hts (.classLink RX11 7 RX0) (by decide +kernel)) (xC_y_X9_X0 hXf) (va_recv hK I.1 (ci := 9) (q0 := 19) rfl (by rw [gW_get (by decide), shC_19])) dX11_isUnder_41 ?_
    obtain ⟨rfl, rfl⟩ := re_s h
    exact rtz_ X I (by decide) dX11_isUnder_44
  · have h := if_f h c_1
    by_cases c_2 : x1 = 1
    · have h := if_t h c_2
      refine lv_tableIn (tgt := 45) (off := 44) hx hb dX11_isUnder_1 (by rw [c_2]; decide) (by rw [c_2]; decide) (by rw [c_2]; decide) (by decide) ?_
      refine lv_aload_n hx hb dX11_isUnder_45 rfl (lv_at hl 0 rfl) ?_
      refine va_instNo hx hb hown (hts (.classLink RX11 10 RX5) (by decide +kernel)) (xC_n_X9_X5 hXf) (va_recv hK I.1 (ci := 9) (q0 := 19) rfl (by rw [gW_get (by decide), shC_19])) dX11_isUnder_46 ?_
      obtain ⟨rfl, rfl⟩ := re_s h
      exact rtz_ X I (by decide) dX11_isUnder_49
    · have h := if_f h c_2
      by_cases c_3 : x1 = 2
      · have h := if_t h c_3
        refine lv_tableIn (tgt := 50) (off := 49) hx hb dX11_isUnder_1 (by rw [c_3]; decide) (by rw [c_3]; decide) (by rw [c_3]; decide) (by decide) ?_
        refine lv_aload_n hx hb dX11_isUnder_50 rfl (lv_at hl 0 rfl) ?_
        refine va_instNo hx hb hown (hts (.classLink RX11 13 RX10) (by decide +kernel)) (xC_n_X9_X10 hXf) (va_recv hK I.1 (ci := 9) (q0 := 19) rfl (by rw [gW_get (by decide), shC_19])) dX11_isUnder_51 ?_
        obtain ⟨rfl, rfl⟩ := re_s h
        exact rtz_ X I (by decide) dX11_isUnder_54
      · have h := if_f h c_3
        by_cases c_4 : x1 = 3
        · have h := if_t h c_4
          refine lv_tableIn (tgt := 55) (off := 54) hx hb dX11_isUnder_1 (by rw [c_4]; decide) (by rw [c_4]; decide) (by rw [c_4]; decide) (by decide) ?_
          refine lv_aload_n hx hb dX11_isUnder_55 rfl (lv_at hl 0 rfl) ?_
          refine va_instNo hx hb hown (hts (.classLink RX11 16 RX3) (by decide +kernel)) (xC_n_X9_X3 hXf) (va_recv hK I.1 (ci := 9) (q0 := 19) rfl (by rw [gW_get (by decide), shC_19])) dX11_isUnder_56 ?_
          obtain ⟨rfl, rfl⟩ := re_s h
          exact rtz_ X I (by decide) dX11_isUnder_59
        · have h := if_f h c_4
          by_cases c_5 : x1 = 4
          · have h := if_t h c_5
            refine lv_tableIn (tgt := 60) (off := 59) hx hb dX11_isUnder_1 (by rw [c_5]; decide) (by rw [c_5]; decide) (by rw [c_5]; decide) (by decide) ?_
            refine lv_aload_n hx hb dX11_isUnder_60 rfl (lv_at hl 0 rfl) ?_
            refine va_instNo hx hb hown (hts (.classLink RX11 19 RX7) (by decide +kernel)) (xC_n_X9_X7 hXf) (va_recv hK I.1 (ci := 9) (q0 := 19) rfl (by rw [gW_get (by decide), shC_19])) dX11_isUnder_61 ?_
            obtain ⟨rfl, rfl⟩ := re_s h
            exact rtz_ X I (by decide) dX11_isUnder_64
          · have h := if_f h c_5
            by_cases c_6 : x1 = 5
            · have h := if_t h c_6
              refine lv_tableIn (tgt := 65) (off := 64) hx hb dX11_isUnder_1 (by rw [c_6]; decide) (by rw [c_6]; decide) (by rw [c_6]; decide) (by decide) ?_
              refine lv_aload_n hx hb dX11_isUnder_65 rfl (lv_at hl 0 rfl) ?_
              refine va_instS hx hb hown (hts (.classLink RX11 22 RX9) (by decide +kernel)) (hK.1 9 _ rfl).2 (va_recv hK I.1 (ci := 9) (q0 := 19) rfl (by rw [gW_get (by decide), shC_19])) dX11_isUnder_66 ?_
              obtain ⟨rfl, rfl⟩ := re_s h
              exact rtz_ X I (by decide) dX11_isUnder_69
            · have h := if_f h c_6
              refine lv_tableOut (tgt := 70) hx hb dX11_isUnder_1 (by have q0 := lv_neT (a := 0) c_1 rfl; have q1 := lv_neT (a := 1) c_2 rfl; have q2 := lv_neT (a := 2) c_3 rfl; have q3 := lv_neT (a := 3) c_4 rfl; have q4 := lv_neT (a := 4) c_5 rfl; have q5 := lv_neT (a := 5) c_6 rfl; omega) (by decide) ?_
              refine lv_iconst (v := 0) hx hb dX11_isUnder_70 (by decide) ?_
              obtain ⟨rfl, rfl⟩ := re_s h
              exact rtz_ X I (by decide) dX11_isUnder_71
theorem c_C_isUnder_k5 {l : Launch} {D : va_G} {cy : Nat → ClassId} {a gs : Nat → Nat} {σ : Sg} {x1 : Int32} {r0 : Int32} {σ' : Sg} (h : C_isUnder_k5_0 σ x1 = some (r0, σ')) (sz : Nat) : Met l yX11_isUnder wsX11_isUnder ({ frames := 0, cells := 0, slots := 0, locals := 0 }) (va_Pc [.ref (a 19), .int x1] (pr_ 59 a D cy (shC cy a σ) (xfC gs) sz)) (qg_ 59 a D (shC cy a σ') (some (.int r0)) sz) 0 0 (fr_ 59 a sz) := by
  refine ent_ (by decide) rfl (Nat.le_of_ble_eq_true rfl) ?_
  intro p e s m below meth c ls hsz X I hl
  subst hsz
  exact kC_isUnder_k5_0 X σ x1 s.heap [] ls h I hl

def C2_shelvedSize_0  (σ : Sg) (x1 : Int32) : Option (Int32 × Sg) :=
  bi_ (C2_isShelf_0 σ x1) fun r_3 σ_2 =>
  if r_3 = 0 then (some ((0 : Int32), σ_2))
  else (gd_ (in_ x1 4) (
  some ((rd_ σ_2 26 x1.toNatClampNeg), σ_2)))
set_option maxRecDepth 100000 in
theorem kC2_shelvedSize_0 {p : Program} {l : Launch} {e : Env} {s : State} {m : MethodId} {args : Array Value} {below : List Frame} {meth : Method} {c : Code} {D : va_G} {cy : Nat → ClassId} {a gs : Nat → Nat} (X : cx_ cX2_shelvedSize RX2 wsX2_shelvedSize 2 (some .int) 59 a D cy (xfC gs) p s m args meth c)  {r0 : Int32} {σ' : Sg}  : ∀ (σ : Sg) (x1 : Int32) (H : Heap) (locs : List Loc) (ls : Array Slot), C2_shelvedSize_0 σ x1 = some (r0, σ') → iv_ 59 a D (shC cy a σ) s H locs → lv_has ls 2 [(0, .ref (a 22)), (1, .int x1)] → W p l e ({ frames := 2, cells := 0, slots := 0, locals := 42 }) s m args below meth c H locs 0 0 (MQ below (qg_ 59 a D (shC cy a σ') (some (.int r0)) s.heap.size) args s 0 0 (fr_ 59 a s.heap.size)) (F0 m 0 ls []) := by
  obtain ⟨hx, hb, hr, hml, hown, hts, hlk, hK, hA, hXf⟩ := id X
  intro σ x1 H locs ls h I hl
  unfold C2_shelvedSize_0 at h
  refine lv_aload_n hx hb dX2_shelvedSize_0 rfl (lv_at hl 0 rfl) ?_
  refine lv_iload_n hx hb dX2_shelvedSize_1 rfl (lv_at hl 1 rfl) ?_
  obtain ⟨r_3, σ_2, hc_1, h⟩ := bi_of h
  refine cg_ (v := .int r_3) (rV_ (nn := 1) (As := [.int x1]) (rest := []) X xkC I (c_C2_isShelf hc_1 H.size) gX2_shelvedSize_X2_isShelf rfl ⟨rfl, rfl⟩ (by decide +kernel) ⟨Nat.le_of_ble_eq_true rfl, Nat.le_of_ble_eq_true rfl⟩ (by decide) shC_22 rfl rfl hl.1 rfl (Nat.le_of_ble_eq_true rfl) dX2_shelvedSize_2) I (fun H locs I => ?_)
  refine lv_if_eq (tgt := 17) hx hb dX2_shelvedSize_5 (by decide) (fun c_4 => ?_) (fun c_4 => ?_)
  · have h := if_t h c_4
    refine lv_iconst (v := 0) hx hb dX2_shelvedSize_17 (by decide) ?_
    obtain ⟨rfl, rfl⟩ := re_s h
    exact rti_ X I dX2_shelvedSize_18
  · have h := if_f h c_4
    refine lv_aload_n hx hb dX2_shelvedSize_8 rfl (lv_at hl 0 rfl) ?_
    refine ig_ (index := 19) X I (fun _ q => List.mem_cons_of_mem _ (List.mem_append_right _ q)) 22 (by decide) shC_22 rfl 3 (by decide) (by decide +kernel) rfl (v := .ref (a 26)) rfl dX2_shelvedSize_9 ?_
    refine lv_iload_n hx hb dX2_shelvedSize_12 rfl (lv_at hl 1 rfl) ?_
    obtain ⟨g_5, h⟩ := gd_of h
    refine ia_ X I 26 (by decide) shC_26 (in_of g_5) (v0 := (rd_ σ_2 26 x1.toNatClampNeg)) rfl dX2_shelvedSize_13 ?_
    refine lv_goto (tgt := 18) hx hb dX2_shelvedSize_14 (by decide) ?_
    obtain ⟨rfl, rfl⟩ := re_s h
    exact rti_ X I dX2_shelvedSize_18
theorem c_C2_shelvedSize {l : Launch} {D : va_G} {cy : Nat → ClassId} {a gs : Nat → Nat} {σ : Sg} {x1 : Int32} {r0 : Int32} {σ' : Sg} (h : C2_shelvedSize_0 σ x1 = some (r0, σ')) (sz : Nat) : Met l yX2_shelvedSize wsX2_shelvedSize ({ frames := 2, cells := 0, slots := 0, locals := 42 }) (va_Pc [.ref (a 22), .int x1] (pr_ 59 a D cy (shC cy a σ) (xfC gs) sz)) (qg_ 59 a D (shC cy a σ') (some (.int r0)) sz) 0 0 (fr_ 59 a sz) := by
  refine ent_ (by decide) rfl (Nat.le_of_ble_eq_true rfl) ?_
  intro p e s m below meth c ls hsz X I hl
  subst hsz
  exact kC2_shelvedSize_0 X σ x1 s.heap [] ls h I hl

def C_taken_43  (σ : Sg) (x1 : Int32) (x2 : Int32) : Option (Int32 × Sg) :=
  bi_ (C2_shelvedSort_0 σ x1) fun r_3 σ_2 =>
  if r_3 = (-1 : Int32) then (bi_ (C2_shelvedChild_0 σ_2 x1) fun r_7 σ_6 =>
  bi_ (C1_life_0 σ_6 r_7) fun r_10 σ_9 =>
  on_ r_10 (some ((-11 : Int32), σ_9)) fun j_11 =>
  bi_ (C1_kindOf_0 σ_9 j_11) fun r_14 σ_13 =>
  bi_ (if r_14 = 0 then C_isUnder_k0_0 σ_13 x2 else if r_14 = 1 then C_isUnder_k1_0 σ_13 x2 else if r_14 = 2 then C_isUnder_k2_0 σ_13 x2 else if r_14 = 3 then C_isUnder_k3_0 σ_13 x2 else if r_14 = 4 then C_isUnder_k4_0 σ_13 x2 else if r_14 = 5 then C_isUnder_k5_0 σ_13 x2 else none) fun r_17 σ_16 =>
  if r_17 = 0 then (some ((-13 : Int32), σ_16))
  else (some (r_7, σ_16)))
  else (if (x2 - (10 : Int32)) = r_3 then (bi_ (C2_shelvedSize_0 σ_2 x1) fun r_28 σ_27 =>
  some (r_28, σ_27))
  else (some ((-13 : Int32), σ_2)))
set_option maxRecDepth 100000 in
theorem kC_taken_43 {p : Program} {l : Launch} {e : Env} {s : State} {m : MethodId} {args : Array Value} {below : List Frame} {meth : Method} {c : Code} {D : va_G} {cy : Nat → ClassId} {a gs : Nat → Nat} (X : cx_ cX11_taken RX11 wsX11_taken 7 (some .int) 59 a D cy (xfC gs) p s m args meth c)  {r0 : Int32} {σ' : Sg}  : ∀ (σ : Sg) (x1 : Int32) (x2 : Int32) (H : Heap) (locs : List Loc) (ls : Array Slot), C_taken_43 σ x1 x2 = some (r0, σ') → iv_ 59 a D (shC cy a σ) s H locs → lv_has ls 7 [(0, .ref (a 0)), (1, .int x1), (2, .int x2)] → W p l e ({ frames := 3, cells := 0, slots := 0, locals := 63 }) s m args below meth c H locs 0 0 (MQ below (qg_ 59 a D (shC cy a σ') (some (.int r0)) s.heap.size) args s 0 0 (fr_ 59 a s.heap.size)) (F0 m 43 ls []) := by
  obtain ⟨hx, hb, hr, hml, hown, hts, hlk, hK, hA, hXf⟩ := id X
  intro σ x1 x2 H locs ls h I hl
  unfold C_taken_43 at h
  refine lv_aload_n hx hb dX11_taken_43 rfl (lv_at hl 0 rfl) ?_
  refine ig_ (index := 59) X I (fun _ q => List.mem_cons_of_mem _ (List.mem_append_left _ (List.mem_append_left _ (List.mem_append_left _ (List.mem_append_right _ q))))) 0 (by decide) shC_0 rfl 5 (by decide) (by decide +kernel) rfl (v := .ref (a 22)) rfl dX11_taken_44 ?_
  refine lv_iload_n hx hb dX11_taken_47 rfl (lv_at hl 1 rfl) ?_
  obtain ⟨r_3, σ_2, hc_1, h⟩ := bi_of h
  refine cg_ (v := .int r_3) (rV_ (nn := 1) (As := [.int x1]) (rest := []) X xkC I (c_C2_shelvedSort hc_1 H.size) gX11_taken_X2_shelvedSort rfl ⟨rfl, rfl⟩ (by decide +kernel) ⟨Nat.le_of_ble_eq_true rfl, Nat.le_of_ble_eq_true rfl⟩ (by decide) shC_22 rfl rfl hl.1 rfl (Nat.le_of_ble_eq_true rfl) dX11_taken_48) I (fun H locs I => ?_)
  refine lv_istore (lv' := [(4, .int r_3), (0, .ref (a 0)), (1, .int x1), (2, .int x2)]) hx hb dX11_taken_51 hl (by decide) rfl (fun ls hl => ?_)
  refine lv_iload hx hb dX11_taken_53 (lv_at hl 0 rfl) ?_
  refine lv_iconst (v := (-1)) hx hb dX11_taken_55 (by decide) ?_
  refine lv_icmp_eq (tgt := 82) hx hb dX11_taken_56 (by decide) (fun c_4 => ?_) (fun c_4 => ?_)
  · have h := if_t h c_4
    refine lv_aload_n hx hb dX11_taken_82 rfl (lv_at hl 1 rfl) ?_
    refine ig_ (index := 59) X I (fun _ q => List.mem_cons_of_mem _ (List.mem_append_left _ (List.mem_append_left _ (List.mem_append_left _ (List.mem_append_right _ q))))) 0 (by decide) shC_0 rfl 5 (by decide) (by decide +kernel) rfl (v := .ref (a 22)) rfl dX11_taken_83 ?_
    refine lv_iload_n hx hb dX11_taken_86 rfl (lv_at hl 2 rfl) ?_
    obtain ⟨r_7, σ_6, hc_5, h⟩ := bi_of h
    refine cg_ (v := .int r_7) (rV_ (nn := 1) (As := [.int x1]) (rest := []) X xkC I (c_C2_shelvedChild hc_5 H.size) gX11_taken_X2_shelvedChild rfl ⟨rfl, rfl⟩ (by decide +kernel) ⟨Nat.le_of_ble_eq_true rfl, Nat.le_of_ble_eq_true rfl⟩ (by decide) shC_22 rfl rfl hl.1 rfl (Nat.le_of_ble_eq_true rfl) dX11_taken_87) I (fun H locs I => ?_)
    refine lv_istore (lv' := [(5, .int r_7), (4, .int r_3), (0, .ref (a 0)), (1, .int x1), (2, .int x2)]) hx hb dX11_taken_90 hl (by decide) rfl (fun ls hl => ?_)
    refine lv_aload_n hx hb dX11_taken_92 rfl (lv_at hl 2 rfl) ?_
    refine ig_ (index := 30) X I (fun _ q => List.mem_cons_of_mem _ (List.mem_append_left _ (List.mem_append_left _ (List.mem_append_left _ (List.mem_append_right _ q))))) 0 (by decide) shC_0 rfl 0 (by decide) (by decide +kernel) rfl (v := .ref (a 1)) rfl dX11_taken_93 ?_
    refine lv_iload hx hb dX11_taken_96 (lv_at hl 0 rfl) ?_
    obtain ⟨r_10, σ_9, hc_8, h⟩ := bi_of h
    refine cg_ (v := va_re (fun j => a (34 + j)) r_10) (rV_ (nn := 1) (As := [.int r_7]) (rest := []) X xkC I (c_C1_life hc_8 H.size) gX11_taken_X1_life rfl ⟨rfl, rfl⟩ (by decide +kernel) ⟨Nat.le_of_ble_eq_true rfl, Nat.le_of_ble_eq_true rfl⟩ (by decide) shC_1 rfl rfl hl.1 rfl (Nat.le_of_ble_eq_true rfl) dX11_taken_98) I (fun H locs I => ?_)
    rcases r_10 with _ | j_11
    · have h := on_n h
      refine W.eq (g2 := F0 m 101 ls [.null]) rfl ?_
      refine lv_astoreN (lv' := [(6, .null), (5, .int r_7), (4, .int r_3), (0, .ref (a 0)), (1, .int x1), (2, .int x2)]) hx hb dX11_taken_101 hl (by decide) rfl (fun ls hl => ?_)
      refine lv_aloadN hx hb dX11_taken_103 (lv_at hl 0 rfl) ?_
      refine lv_ifnonnullN hx hb dX11_taken_105 ?_
      refine lv_bipush (v := (-11)) hx hb dX11_taken_108 (by decide) ?_
      obtain ⟨rfl, rfl⟩ := re_s h
      exact rti_ X I dX11_taken_110
    · have h := on_s h
      refine W.eq (g2 := F0 m 101 ls [.ref (a (34 + j_11))]) rfl ?_
      refine lv_astore (lv' := [(6, .ref (a (34 + j_11))), (5, .int r_7), (4, .int r_3), (0, .ref (a 0)), (1, .int x1), (2, .int x2)]) hx hb dX11_taken_101 hl (by decide) rfl (fun ls hl => ?_)
      refine lv_aload hx hb dX11_taken_103 (lv_at hl 0 rfl) ?_
      refine lv_ifnonnull (tgt := 111) hx hb dX11_taken_105 (by decide) ?_
      refine lv_aload_n hx hb dX11_taken_111 rfl (lv_at hl 3 rfl) ?_
      refine ig_ (index := 30) X I (fun _ q => List.mem_cons_of_mem _ (List.mem_append_left _ (List.mem_append_left _ (List.mem_append_left _ (List.mem_append_right _ q))))) 0 (by decide) shC_0 rfl 0 (by decide) (by decide +kernel) rfl (v := .ref (a 1)) rfl dX11_taken_112 ?_
      refine lv_aload hx hb dX11_taken_115 (lv_at hl 0 rfl) ?_
      obtain ⟨r_14, σ_13, hc_12, h⟩ := bi_of h
      refine cg_ (v := .ref (a (14 + r_14))) (rV_ (nn := 1) (As := [.ref (a (34 + j_11))]) (rest := []) X xkC I (c_C1_kindOf hc_12 H.size) gX11_taken_X1_kindOf rfl ⟨rfl, rfl⟩ (by decide +kernel) ⟨Nat.le_of_ble_eq_true rfl, Nat.le_of_ble_eq_true rfl⟩ (by decide) shC_1 rfl rfl hl.1 rfl (Nat.le_of_ble_eq_true rfl) dX11_taken_117) I (fun H locs I => ?_)
      refine lv_iload_n hx hb dX11_taken_120 rfl (lv_at hl 5 rfl) ?_
      obtain ⟨r_17, σ_16, hc_15, h⟩ := bi_of h
      refine cg_ (v := .int r_17) (w1 := shC cy a σ_16) (rest := []) (av := #[]) ?_ I (fun H locs I => ?_)
      · by_cases q_18 : r_14 = 0
        · subst q_18
          have hc_15 := if_t hc_15 rfl
          exact rS_ (nn := 2) (As := [.ref (a 14), .int x2]) (rest := []) X xkC I (c_C_isUnder_k0 hc_15 H.size) gX11_taken_X11_isUnder rfl ⟨rfl, rfl⟩ (by decide +kernel) ⟨Nat.le_of_ble_eq_true rfl, Nat.le_of_ble_eq_true rfl⟩ rfl hl.1 rfl (Nat.le_of_ble_eq_true rfl) dX11_taken_121
        · have hc_15 := if_f hc_15 q_18
          by_cases q_19 : r_14 = 1
          · subst q_19
            have hc_15 := if_t hc_15 rfl
            exact rS_ (nn := 2) (As := [.ref (a 15), .int x2]) (rest := []) X xkC I (c_C_isUnder_k1 hc_15 H.size) gX11_taken_X11_isUnder rfl ⟨rfl, rfl⟩ (by decide +kernel) ⟨Nat.le_of_ble_eq_true rfl, Nat.le_of_ble_eq_true rfl⟩ rfl hl.1 rfl (Nat.le_of_ble_eq_true rfl) dX11_taken_121
          · have hc_15 := if_f hc_15 q_19
            by_cases q_20 : r_14 = 2
            · subst q_20
              have hc_15 := if_t hc_15 rfl
              exact rS_ (nn := 2) (As := [.ref (a 16), .int x2]) (rest := []) X xkC I (c_C_isUnder_k2 hc_15 H.size) gX11_taken_X11_isUnder rfl ⟨rfl, rfl⟩ (by decide +kernel) ⟨Nat.le_of_ble_eq_true rfl, Nat.le_of_ble_eq_true rfl⟩ rfl hl.1 rfl (Nat.le_of_ble_eq_true rfl) dX11_taken_121
            · have hc_15 := if_f hc_15 q_20
              by_cases q_21 : r_14 = 3
              · subst q_21
                have hc_15 := if_t hc_15 rfl
                exact rS_ (nn := 2) (As := [.ref (a 17), .int x2]) (rest := []) X xkC I (c_C_isUnder_k3 hc_15 H.size) gX11_taken_X11_isUnder rfl ⟨rfl, rfl⟩ (by decide +kernel) ⟨Nat.le_of_ble_eq_true rfl, Nat.le_of_ble_eq_true rfl⟩ rfl hl.1 rfl (Nat.le_of_ble_eq_true rfl) dX11_taken_121
              · have hc_15 := if_f hc_15 q_21
                by_cases q_22 : r_14 = 4
                · subst q_22
                  have hc_15 := if_t hc_15 rfl
                  exact rS_ (nn := 2) (As := [.ref (a 18), .int x2]) (rest := []) X xkC I (c_C_isUnder_k4 hc_15 H.size) gX11_taken_X11_isUnder rfl ⟨rfl, rfl⟩ (by decide +kernel) ⟨Nat.le_of_ble_eq_true rfl, Nat.le_of_ble_eq_true rfl⟩ rfl hl.1 rfl (Nat.le_of_ble_eq_true rfl) dX11_taken_121
                · have hc_15 := if_f hc_15 q_22
                  by_cases q_23 : r_14 = 5
                  · subst q_23
                    have hc_15 := if_t hc_15 rfl
                    exact rS_ (nn := 2) (As := [.ref (a 19), .int x2]) (rest := []) X xkC I (c_C_isUnder_k5 hc_15 H.size) gX11_taken_X11_isUnder rfl ⟨rfl, rfl⟩ (by decide +kernel) ⟨Nat.le_of_ble_eq_true rfl, Nat.le_of_ble_eq_true rfl⟩ rfl hl.1 rfl (Nat.le_of_ble_eq_true rfl) dX11_taken_121
                  · have hc_15 := if_f hc_15 q_23
                    exact absurd hc_15 (fun q => by cases (show (none : Option _) = some _ from q))
      refine lv_if_eq (tgt := 132) hx hb dX11_taken_124 (by decide) (fun c_24 => ?_) (fun c_24 => ?_)
      · have h := if_t h c_24
        refine lv_bipush (v := (-13)) hx hb dX11_taken_132 (by decide) ?_
        obtain ⟨rfl, rfl⟩ := re_s h
        exact rti_ X I dX11_taken_134
      · have h := if_f h c_24
        refine lv_iload hx hb dX11_taken_127 (lv_at hl 1 rfl) ?_
        refine lv_goto (tgt := 134) hx hb dX11_taken_129 (by decide) ?_
        obtain ⟨rfl, rfl⟩ := re_s h
        exact rti_ X I dX11_taken_134
  · have h := if_f h c_4
    refine lv_iload_n hx hb dX11_taken_59 rfl (lv_at hl 3 rfl) ?_
    refine lv_bipush (v := 10) hx hb dX11_taken_60 (by decide) ?_
    refine lv_isub hx hb dX11_taken_62 ?_
    refine lv_iload hx hb dX11_taken_63 (lv_at hl 0 rfl) ?_
    refine lv_icmp_ne (tgt := 79) hx hb dX11_taken_65 (by decide) (fun c_25 => ?_) (fun c_25 => ?_)
    · have h := if_f h c_25
      refine lv_bipush (v := (-13)) hx hb dX11_taken_79 (by decide) ?_
      obtain ⟨rfl, rfl⟩ := re_s h
      exact rti_ X I dX11_taken_81
    · have h := if_t h c_25
      refine lv_aload_n hx hb dX11_taken_68 rfl (lv_at hl 1 rfl) ?_
      refine ig_ (index := 59) X I (fun _ q => List.mem_cons_of_mem _ (List.mem_append_left _ (List.mem_append_left _ (List.mem_append_left _ (List.mem_append_right _ q))))) 0 (by decide) shC_0 rfl 5 (by decide) (by decide +kernel) rfl (v := .ref (a 22)) rfl dX11_taken_69 ?_
      refine lv_iload_n hx hb dX11_taken_72 rfl (lv_at hl 2 rfl) ?_
      obtain ⟨r_28, σ_27, hc_26, h⟩ := bi_of h
      refine cg_ (v := .int r_28) (rV_ (nn := 1) (As := [.int x1]) (rest := []) X xkC I (c_C2_shelvedSize hc_26 H.size) gX11_taken_X2_shelvedSize rfl ⟨rfl, rfl⟩ (by decide +kernel) ⟨Nat.le_of_ble_eq_true rfl, Nat.le_of_ble_eq_true rfl⟩ (by decide) shC_22 rfl rfl hl.1 rfl (Nat.le_of_ble_eq_true rfl) dX11_taken_73) I (fun H locs I => ?_)
      refine lv_goto (tgt := 81) hx hb dX11_taken_76 (by decide) ?_
      obtain ⟨rfl, rfl⟩ := re_s h
      exact rti_ X I dX11_taken_81
def C_taken_17  (σ : Sg) (x1 : Int32) (x2 : Int32) (t0 : Int32) : Option (Int32 × Sg) :=
  bi_ (C2_isShelf_0 σ x1) fun r_3 σ_2 =>
  if r_3 = 0 then (some ((-1 : Int32), σ_2))
  else (if t0 = 0 then (bp_ (C_within_0 x2 (5 : Int32)) fun r_7 =>
  if r_7 = 0 then (some ((-1 : Int32), σ_2))
  else (C_taken_43 σ_2 x1 x2))
  else (C_taken_43 σ_2 x1 x2))
set_option maxRecDepth 100000 in
theorem kC_taken_17 {p : Program} {l : Launch} {e : Env} {s : State} {m : MethodId} {args : Array Value} {below : List Frame} {meth : Method} {c : Code} {D : va_G} {cy : Nat → ClassId} {a gs : Nat → Nat} (X : cx_ cX11_taken RX11 wsX11_taken 7 (some .int) 59 a D cy (xfC gs) p s m args meth c)  {r0 : Int32} {σ' : Sg}  : ∀ (σ : Sg) (x1 : Int32) (x2 : Int32) (t0 : Int32) (H : Heap) (locs : List Loc) (ls : Array Slot), C_taken_17 σ x1 x2 t0 = some (r0, σ') → iv_ 59 a D (shC cy a σ) s H locs → lv_has ls 7 [(0, .ref (a 0)), (1, .int x1), (2, .int x2)] → W p l e ({ frames := 3, cells := 0, slots := 0, locals := 63 }) s m args below meth c H locs 0 0 (MQ below (qg_ 59 a D (shC cy a σ') (some (.int r0)) s.heap.size) args s 0 0 (fr_ 59 a s.heap.size)) (F0 m 17 ls [.int t0]) := by
  obtain ⟨hx, hb, hr, hml, hown, hts, hlk, hK, hA, hXf⟩ := id X
  intro σ x1 x2 t0 H locs ls h I hl
  unfold C_taken_17 at h
  refine lv_istore_n (lv' := [(3, .int t0), (0, .ref (a 0)), (1, .int x1), (2, .int x2)]) hx hb dX11_taken_17 rfl hl (by decide) rfl (fun ls hl => ?_)
  refine lv_aload_n hx hb dX11_taken_18 rfl (lv_at hl 1 rfl) ?_
  refine ig_ (index := 59) X I (fun _ q => List.mem_cons_of_mem _ (List.mem_append_left _ (List.mem_append_left _ (List.mem_append_left _ (List.mem_append_right _ q))))) 0 (by decide) shC_0 rfl 5 (by decide) (by decide +kernel) rfl (v := .ref (a 22)) rfl dX11_taken_19 ?_
  refine lv_iload_n hx hb dX11_taken_22 rfl (lv_at hl 2 rfl) ?_
  obtain ⟨r_3, σ_2, hc_1, h⟩ := bi_of h
  refine cg_ (v := .int r_3) (rV_ (nn := 1) (As := [.int x1]) (rest := []) X xkC I (c_C2_isShelf hc_1 H.size) gX11_taken_X2_isShelf rfl ⟨rfl, rfl⟩ (by decide +kernel) ⟨Nat.le_of_ble_eq_true rfl, Nat.le_of_ble_eq_true rfl⟩ (by decide) shC_22 rfl rfl hl.1 rfl (Nat.le_of_ble_eq_true rfl) dX11_taken_23) I (fun H locs I => ?_)
  refine lv_if_eq (tgt := 41) hx hb dX11_taken_26 (by decide) (fun c_4 => ?_) (fun c_4 => ?_)
  · have h := if_t h c_4
    refine lv_iconst (v := (-1)) hx hb dX11_taken_41 (by decide) ?_
    obtain ⟨rfl, rfl⟩ := re_s h
    exact rti_ X I dX11_taken_42
  · have h := if_f h c_4
    refine lv_iload_n hx hb dX11_taken_29 rfl (lv_at hl 0 rfl) ?_
    refine lv_if_ne (tgt := 43) hx hb dX11_taken_30 (by decide) (fun c_5 => ?_) (fun c_5 => ?_)
    · have h := if_f h c_5
      exact kC_taken_43 X  σ_2 x1 x2 H locs ls h I (lv_sub hl [1, 2, 3] rfl)
    · have h := if_t h c_5
      refine lv_iload_n hx hb dX11_taken_33 rfl (lv_at hl 3 rfl) ?_
      refine lv_iconst (v := 5) hx hb dX11_taken_34 (by decide) ?_
      obtain ⟨r_7, hc_6, h⟩ := bp_of h
      refine cp_ (rP_ (nn := 2) (As := [.int x2, .int (5 : Int32)]) (rest := []) ⟨hx, hb, hml, hown, hts⟩ (c_C_within hc_6) gX11_taken_X11_within rfl ⟨rfl, rfl⟩ (by decide +kernel) ⟨Nat.le_of_ble_eq_true rfl, Nat.le_of_ble_eq_true rfl⟩ rfl hl.1 rfl (Nat.le_of_ble_eq_true rfl) dX11_taken_35 ⟨Nat.zero_le _, Nat.zero_le _⟩) ?_
      refine lv_if_ne (tgt := 43) hx hb dX11_taken_38 (by decide) (fun c_8 => ?_) (fun c_8 => ?_)
      · have h := if_f h c_8
        exact kC_taken_43 X  σ_2 x1 x2 H locs ls h I (lv_sub hl [1, 2, 3] rfl)
      · have h := if_t h c_8
        refine lv_iconst (v := (-1)) hx hb dX11_taken_41 (by decide) ?_
        obtain ⟨rfl, rfl⟩ := re_s h
        exact rti_ X I dX11_taken_42
def C_taken_16  (σ : Sg) (x1 : Int32) (x2 : Int32) : Option (Int32 × Sg) :=
  C_taken_17 σ x1 x2 (0 : Int32)
set_option maxRecDepth 100000 in
theorem kC_taken_16 {p : Program} {l : Launch} {e : Env} {s : State} {m : MethodId} {args : Array Value} {below : List Frame} {meth : Method} {c : Code} {D : va_G} {cy : Nat → ClassId} {a gs : Nat → Nat} (X : cx_ cX11_taken RX11 wsX11_taken 7 (some .int) 59 a D cy (xfC gs) p s m args meth c)  {r0 : Int32} {σ' : Sg}  : ∀ (σ : Sg) (x1 : Int32) (x2 : Int32) (H : Heap) (locs : List Loc) (ls : Array Slot), C_taken_16 σ x1 x2 = some (r0, σ') → iv_ 59 a D (shC cy a σ) s H locs → lv_has ls 7 [(0, .ref (a 0)), (1, .int x1), (2, .int x2)] → W p l e ({ frames := 3, cells := 0, slots := 0, locals := 63 }) s m args below meth c H locs 0 0 (MQ below (qg_ 59 a D (shC cy a σ') (some (.int r0)) s.heap.size) args s 0 0 (fr_ 59 a s.heap.size)) (F0 m 16 ls []) := by
  obtain ⟨hx, hb, hr, hml, hown, hts, hlk, hK, hA, hXf⟩ := id X
  intro σ x1 x2 H locs ls h I hl
  unfold C_taken_16 at h
  refine lv_iconst (v := 0) hx hb dX11_taken_16 (by decide) ?_
  exact kC_taken_17 X  σ x1 x2 (0 : Int32) H locs ls h I (lv_sub hl [0, 1, 2] rfl)
def C_taken_0  (σ : Sg) (x1 : Int32) (x2 : Int32) : Option (Int32 × Sg) :=
  if x2 < (10 : Int32) then (C_taken_16 σ x1 x2)
  else (if (13 : Int32) < x2 then (C_taken_16 σ x1 x2)
  else (C_taken_17 σ x1 x2 (1 : Int32)))
set_option maxRecDepth 100000 in
theorem kC_taken_0 {p : Program} {l : Launch} {e : Env} {s : State} {m : MethodId} {args : Array Value} {below : List Frame} {meth : Method} {c : Code} {D : va_G} {cy : Nat → ClassId} {a gs : Nat → Nat} (X : cx_ cX11_taken RX11 wsX11_taken 7 (some .int) 59 a D cy (xfC gs) p s m args meth c)  {r0 : Int32} {σ' : Sg}  : ∀ (σ : Sg) (x1 : Int32) (x2 : Int32) (H : Heap) (locs : List Loc) (ls : Array Slot), C_taken_0 σ x1 x2 = some (r0, σ') → iv_ 59 a D (shC cy a σ) s H locs → lv_has ls 7 [(0, .ref (a 0)), (1, .int x1), (2, .int x2)] → W p l e ({ frames := 3, cells := 0, slots := 0, locals := 63 }) s m args below meth c H locs 0 0 (MQ below (qg_ 59 a D (shC cy a σ') (some (.int r0)) s.heap.size) args s 0 0 (fr_ 59 a s.heap.size)) (F0 m 0 ls []) := by
  obtain ⟨hx, hb, hr, hml, hown, hts, hlk, hK, hA, hXf⟩ := id X
  intro σ x1 x2 H locs ls h I hl
  unfold C_taken_0 at h
  refine lv_iload_n hx hb dX11_taken_0 rfl (lv_at hl 2 rfl) ?_
  refine lv_bipush (v := 10) hx hb dX11_taken_1 (by decide) ?_
  refine lv_icmp_lt (tgt := 16) hx hb dX11_taken_3 (by decide) (fun c_1 => ?_) (fun c_1 => ?_)
  · have h := if_t h c_1
    exact kC_taken_16 X  σ x1 x2 H locs ls h I (lv_sub hl [0, 1, 2] rfl)
  · have h := if_f h c_1
    refine lv_iload_n hx hb dX11_taken_6 rfl (lv_at hl 2 rfl) ?_
    refine lv_bipush (v := 13) hx hb dX11_taken_7 (by decide) ?_
    refine lv_icmp_gt (tgt := 16) hx hb dX11_taken_9 (by decide) (fun c_2 => ?_) (fun c_2 => ?_)
    · have h := if_t h c_2
      exact kC_taken_16 X  σ x1 x2 H locs ls h I (lv_sub hl [0, 1, 2] rfl)
    · have h := if_f h c_2
      refine lv_iconst (v := 1) hx hb dX11_taken_12 (by decide) ?_
      refine lv_goto (tgt := 17) hx hb dX11_taken_13 (by decide) ?_
      exact kC_taken_17 X  σ x1 x2 (1 : Int32) H locs ls h I (lv_sub hl [0, 1, 2] rfl)
theorem c_C_taken {l : Launch} {D : va_G} {cy : Nat → ClassId} {a gs : Nat → Nat} {σ : Sg} {x1 : Int32} {x2 : Int32} {r0 : Int32} {σ' : Sg} (h : C_taken_0 σ x1 x2 = some (r0, σ')) (sz : Nat) : Met l yX11_taken wsX11_taken ({ frames := 3, cells := 0, slots := 0, locals := 63 }) (va_Pc [.ref (a 0), .int x1, .int x2] (pr_ 59 a D cy (shC cy a σ) (xfC gs) sz)) (qg_ 59 a D (shC cy a σ') (some (.int r0)) sz) 0 0 (fr_ 59 a sz) := by
  refine ent_ (by decide) rfl (Nat.le_of_ble_eq_true rfl) ?_
  intro p e s m below meth c ls hsz X I hl
  subst hsz
  exact kC_taken_0 X σ x1 x2 s.heap [] ls h I hl

def C4_begin_0  (σ : Sg) (x1 : Int32) (x2 : Int32) : Option (Unit × Sg) :=
  lt_ (wr_ σ 29 2 x1) fun σ_1 =>
  lt_ (wr_ σ_1 29 3 x2) fun σ_3 =>
  lt_ (wr_ σ_3 29 1 (0 : Int32)) fun σ_5 =>
  lt_ (wr_ σ_5 29 4 (0 : Int32)) fun σ_7 =>
  some ((), σ_7)
set_option maxRecDepth 100000 in
theorem kC4_begin_0 {p : Program} {l : Launch} {e : Env} {s : State} {m : MethodId} {args : Array Value} {below : List Frame} {meth : Method} {c : Code} {D : va_G} {cy : Nat → ClassId} {a gs : Nat → Nat} (X : cx_ cX4_begin RX4 wsX4_begin 3 none 59 a D cy (xfC gs) p s m args meth c)   {σ' : Sg}  : ∀ (σ : Sg) (x1 : Int32) (x2 : Int32) (H : Heap) (locs : List Loc) (ls : Array Slot), C4_begin_0 σ x1 x2 = some ((), σ') → iv_ 59 a D (shC cy a σ) s H locs → lv_has ls 3 [(0, .ref (a 29)), (1, .int x1), (2, .int x2)] → W p l e ({ frames := 0, cells := 0, slots := 0, locals := 0 }) s m args below meth c H locs 0 0 (MQ below (qg_ 59 a D (shC cy a σ') none s.heap.size) args s 0 0 (fr_ 59 a s.heap.size)) (F0 m 0 ls []) := by
  obtain ⟨hx, hb, hr, hml, hown, hts, hlk, hK, hA, hXf⟩ := id X
  intro σ x1 x2 H locs ls h I hl
  unfold C4_begin_0 at h
  refine lv_aload_n hx hb dX4_begin_0 rfl (lv_at hl 0 rfl) ?_
  refine lv_iload_n hx hb dX4_begin_1 rfl (lv_at hl 1 rfl) ?_
  refine ip_ (index := 13) (ty := .int) X I (fun _ q => List.mem_cons_of_mem _ (List.mem_append_right _ q)) tyX4 tyX4_ok nmX4 29 (by decide) shC_29 rfl 2 (by decide) (by decide +kernel) rfl rfl (by decide +kernel) rfl rfl (Nat.le_of_ble_eq_true rfl) shC_pt_29_2 dX4_begin_2 (fun σ_1 H locs e_2 I => ?_)
  have h := lt_at h e_2
  refine lv_aload_n hx hb dX4_begin_5 rfl (lv_at hl 0 rfl) ?_
  refine lv_iload_n hx hb dX4_begin_6 rfl (lv_at hl 2 rfl) ?_
  refine ip_ (index := 17) (ty := .int) X I (fun _ q => List.mem_cons_of_mem _ (List.mem_append_right _ q)) tyX4 tyX4_ok nmX4 29 (by decide) shC_29 rfl 3 (by decide) (by decide +kernel) rfl rfl (by decide +kernel) rfl rfl (Nat.le_of_ble_eq_true rfl) shC_pt_29_3 dX4_begin_7 (fun σ_3 H locs e_4 I => ?_)
  have h := lt_at h e_4
  refine lv_aload_n hx hb dX4_begin_10 rfl (lv_at hl 0 rfl) ?_
  refine lv_iconst (v := 0) hx hb dX4_begin_11 (by decide) ?_
  refine ip_ (index := 20) (ty := .int) X I (fun _ q => List.mem_cons_of_mem _ (List.mem_append_right _ q)) tyX4 tyX4_ok nmX4 29 (by decide) shC_29 rfl 1 (by decide) (by decide +kernel) rfl rfl (by decide +kernel) rfl rfl (Nat.le_of_ble_eq_true rfl) shC_pt_29_1 dX4_begin_12 (fun σ_5 H locs e_6 I => ?_)
  have h := lt_at h e_6
  refine lv_aload_n hx hb dX4_begin_15 rfl (lv_at hl 0 rfl) ?_
  refine lv_iconst (v := 0) hx hb dX4_begin_16 (by decide) ?_
  refine ip_ (index := 23) (ty := .boolean) X I (fun _ q => List.mem_cons_of_mem _ (List.mem_append_right _ q)) tyX4 tyX4_ok nmX4 29 (by decide) shC_29 rfl 4 (by decide) (by decide +kernel) rfl rfl (by decide +kernel) (by decide) (by decide) (Nat.le_of_ble_eq_true rfl) shC_pt_29_4 dX4_begin_17 (fun σ_7 H locs e_8 I => ?_)
  have h := lt_at h e_8
  obtain rfl := re_v h
  exact rtv_ X I dX4_begin_20
theorem c_C4_begin {l : Launch} {D : va_G} {cy : Nat → ClassId} {a gs : Nat → Nat} {σ : Sg} {x1 : Int32} {x2 : Int32}  {σ' : Sg} (h : C4_begin_0 σ x1 x2 = some ((), σ')) (sz : Nat) : Met l yX4_begin wsX4_begin ({ frames := 0, cells := 0, slots := 0, locals := 0 }) (va_Pc [.ref (a 29), .int x1, .int x2] (pr_ 59 a D cy (shC cy a σ) (xfC gs) sz)) (qg_ 59 a D (shC cy a σ') none sz) 0 0 (fr_ 59 a sz) := by
  refine ent_ (by decide) rfl (Nat.le_of_ble_eq_true rfl) ?_
  intro p e s m below meth c ls hsz X I hl
  subst hsz
  exact kC4_begin_0 X σ x1 x2 s.heap [] ls h I hl

def C4_runs_0  (σ : Sg) (x1 : Int32) : Option (Unit × Sg) :=
  if (rd_ σ 29 4) = 0 then (if (rd_ σ 29 1) < 0 then (some ((), σ))
  else (if (rd_ σ 29 1) < (30 : Int32) then (gd_ (in_ (rd_ σ 29 1) 30) (
  lt_ (wr_ σ 30 (rd_ σ 29 1).toNatClampNeg x1) fun σ_4 =>
  lt_ (wr_ σ_4 29 1 ((rd_ σ_4 29 1) + (1 : Int32))) fun σ_7 =>
  some ((), σ_7)))
  else (some ((), σ))))
  else (some ((), σ))
set_option maxRecDepth 100000 in
theorem kC4_runs_0 {p : Program} {l : Launch} {e : Env} {s : State} {m : MethodId} {args : Array Value} {below : List Frame} {meth : Method} {c : Code} {D : va_G} {cy : Nat → ClassId} {a gs : Nat → Nat} (X : cx_ cX4_runs RX4 wsX4_runs 2 none 59 a D cy (xfC gs) p s m args meth c)   {σ' : Sg}  : ∀ (σ : Sg) (x1 : Int32) (H : Heap) (locs : List Loc) (ls : Array Slot), C4_runs_0 σ x1 = some ((), σ') → iv_ 59 a D (shC cy a σ) s H locs → lv_has ls 2 [(0, .ref (a 29)), (1, .int x1)] → W p l e ({ frames := 0, cells := 0, slots := 0, locals := 0 }) s m args below meth c H locs 0 0 (MQ below (qg_ 59 a D (shC cy a σ') none s.heap.size) args s 0 0 (fr_ 59 a s.heap.size)) (F0 m 0 ls []) := by
  obtain ⟨hx, hb, hr, hml, hown, hts, hlk, hK, hA, hXf⟩ := id X
  intro σ x1 H locs ls h I hl
  unfold C4_runs_0 at h
  refine lv_aload_n hx hb dX4_runs_0 rfl (lv_at hl 0 rfl) ?_
  refine ig_ (index := 23) X I (fun _ q => List.mem_cons_of_mem _ (List.mem_append_right _ q)) 29 (by decide) shC_29 rfl 4 (by decide) (by decide +kernel) rfl (v := .int (rd_ σ 29 4)) rfl dX4_runs_1 ?_
  refine lv_if_ne (tgt := 23) hx hb dX4_runs_4 (by decide) (fun c_1 => ?_) (fun c_1 => ?_)
  · have h := if_f h c_1
    obtain rfl := re_v h
    exact rtv_ X I dX4_runs_23
  · have h := if_t h c_1
    refine lv_aload_n hx hb dX4_runs_7 rfl (lv_at hl 0 rfl) ?_
    refine ig_ (index := 20) X I (fun _ q => List.mem_cons_of_mem _ (List.mem_append_right _ q)) 29 (by decide) shC_29 rfl 1 (by decide) (by decide +kernel) rfl (v := .int (rd_ σ 29 1)) rfl dX4_runs_8 ?_
    refine lv_if_lt (tgt := 23) hx hb dX4_runs_11 (by decide) (fun c_2 => ?_) (fun c_2 => ?_)
    · have h := if_t h c_2
      obtain rfl := re_v h
      exact rtv_ X I dX4_runs_23
    · have h := if_f h c_2
      refine lv_aload_n hx hb dX4_runs_14 rfl (lv_at hl 0 rfl) ?_
      refine ig_ (index := 20) X I (fun _ q => List.mem_cons_of_mem _ (List.mem_append_right _ q)) 29 (by decide) shC_29 rfl 1 (by decide) (by decide +kernel) rfl (v := .int (rd_ σ 29 1)) rfl dX4_runs_15 ?_
      refine lv_bipush (v := 30) hx hb dX4_runs_18 (by decide) ?_
      refine lv_icmp_lt (tgt := 24) hx hb dX4_runs_20 (by decide) (fun c_3 => ?_) (fun c_3 => ?_)
      · have h := if_t h c_3
        refine lv_aload_n hx hb dX4_runs_24 rfl (lv_at hl 0 rfl) ?_
        refine ig_ (index := 9) X I (fun _ q => List.mem_cons_of_mem _ (List.mem_append_right _ q)) 29 (by decide) shC_29 rfl 0 (by decide) (by decide +kernel) rfl (v := .ref (a 30)) rfl dX4_runs_25 ?_
        refine lv_aload_n hx hb dX4_runs_28 rfl (lv_at hl 0 rfl) ?_
        refine ig_ (index := 20) X I (fun _ q => List.mem_cons_of_mem _ (List.mem_append_right _ q)) 29 (by decide) shC_29 rfl 1 (by decide) (by decide +kernel) rfl (v := .int (rd_ σ 29 1)) rfl dX4_runs_29 ?_
        refine lv_iload_n hx hb dX4_runs_32 rfl (lv_at hl 1 rfl) ?_
        obtain ⟨g_6, h⟩ := gd_of h
        refine is_ (σ2 := wr_ σ 30 (rd_ σ 29 1).toNatClampNeg x1) X I 30 (by decide) shC_30 (in_of g_6) shC_st_30 dX4_runs_33 (fun σ_4 H locs e_5 I => ?_)
        have h := lt_at h e_5
        refine lv_aload_n hx hb dX4_runs_34 rfl (lv_at hl 0 rfl) ?_
        refine lv_dup hx hb dX4_runs_35 rfl ?_
        refine ig_ (index := 20) X I (fun _ q => List.mem_cons_of_mem _ (List.mem_append_right _ q)) 29 (by decide) shC_29 rfl 1 (by decide) (by decide +kernel) rfl (v := .int (rd_ σ_4 29 1)) rfl dX4_runs_36 ?_
        refine lv_iconst (v := 1) hx hb dX4_runs_39 (by decide) ?_
        refine lv_iadd hx hb dX4_runs_40 ?_
        refine ip_ (index := 20) (ty := .int) X I (fun _ q => List.mem_cons_of_mem _ (List.mem_append_right _ q)) tyX4 tyX4_ok nmX4 29 (by decide) shC_29 rfl 1 (by decide) (by decide +kernel) rfl rfl (by decide +kernel) rfl rfl (Nat.le_of_ble_eq_true rfl) shC_pt_29_1 dX4_runs_41 (fun σ_7 H locs e_8 I => ?_)
        have h := lt_at h e_8
        obtain rfl := re_v h
        exact rtv_ X I dX4_runs_44
      · have h := if_f h c_3
        obtain rfl := re_v h
        exact rtv_ X I dX4_runs_23
theorem c_C4_runs {l : Launch} {D : va_G} {cy : Nat → ClassId} {a gs : Nat → Nat} {σ : Sg} {x1 : Int32}  {σ' : Sg} (h : C4_runs_0 σ x1 = some ((), σ')) (sz : Nat) : Met l yX4_runs wsX4_runs ({ frames := 0, cells := 0, slots := 0, locals := 0 }) (va_Pc [.ref (a 29), .int x1] (pr_ 59 a D cy (shC cy a σ) (xfC gs) sz)) (qg_ 59 a D (shC cy a σ') none sz) 0 0 (fr_ 59 a sz) := by
  refine ent_ (by decide) rfl (Nat.le_of_ble_eq_true rfl) ?_
  intro p e s m below meth c ls hsz X I hl
  subst hsz
  exact kC4_runs_0 X σ x1 s.heap [] ls h I hl

def C0_kicks_k0_0  (σ : Sg) (x1 : Int32) : Option (Int32 × Sg) :=
  bi_ (C4_runs_0 σ (10 : Int32)) fun _ σ_2 =>
  some (((x1 * (9 : Int32)) - (rd_ σ_2 29 2)), σ_2)
set_option maxRecDepth 100000 in
theorem kC0_kicks_k0_0 {p : Program} {l : Launch} {e : Env} {s : State} {m : MethodId} {args : Array Value} {below : List Frame} {meth : Method} {c : Code} {D : va_G} {cy : Nat → ClassId} {a gs : Nat → Nat} (X : cx_ cX0_kicks RX0 wB_X0_kicks 3 (some .int) 59 a D cy (xfC gs) p s m args meth c)  {r0 : Int32} {σ' : Sg}  : ∀ (σ : Sg) (x1 : Int32) (H : Heap) (locs : List Loc) (ls : Array Slot), C0_kicks_k0_0 σ x1 = some (r0, σ') → iv_ 59 a D (shC cy a σ) s H locs → lv_has ls 3 [(0, .ref (a 14)), (1, .int x1), (2, .ref (a 29))] → W p l e ({ frames := 1, cells := 0, slots := 0, locals := 21 }) s m args below meth c H locs 0 0 (MQ below (qg_ 59 a D (shC cy a σ') (some (.int r0)) s.heap.size) args s 0 0 (fr_ 59 a s.heap.size)) (F0 m 0 ls []) := by
  obtain ⟨hx, hb, hr, hml, hown, hts, hlk, hK, hA, hXf⟩ := id X
  intro σ x1 H locs ls h I hl
  unfold C0_kicks_k0_0 at h
  refine lv_aload_n hx hb dX0_kicks_0 rfl (lv_at hl 2 rfl) ?_
  refine lv_bipush (v := 10) hx hb dX0_kicks_1 (by decide) ?_
  obtain ⟨_, σ_2, hc_1, h⟩ := bi_of h
  refine cv_ (rV_ (nn := 1) (As := [.int (10 : Int32)]) (rest := []) X xkC I (c_C4_runs hc_1 H.size) gBX0_kicks_X4_runs rfl ⟨rfl, rfl⟩ (by decide +kernel) ⟨Nat.le_of_ble_eq_true rfl, Nat.le_of_ble_eq_true rfl⟩ (by decide) shC_29 rfl rfl hl.1 rfl (Nat.le_of_ble_eq_true rfl) dX0_kicks_3) I (fun H locs I => ?_)
  refine lv_iload_n hx hb dX0_kicks_6 rfl (lv_at hl 1 rfl) ?_
  refine lv_bipush (v := 9) hx hb dX0_kicks_7 (by decide) ?_
  refine lv_imul hx hb dX0_kicks_9 ?_
  refine lv_aload_n hx hb dX0_kicks_10 rfl (lv_at hl 2 rfl) ?_
  refine ig_ (index := 13) X I (fun _ q => List.mem_cons_of_mem _ (hinB_X4 _ q)) 29 (by decide) shC_29 rfl 2 (by decide) (by decide +kernel) rfl (v := .int (rd_ σ_2 29 2)) rfl dX0_kicks_11 ?_
  refine lv_isub hx hb dX0_kicks_14 ?_
  obtain ⟨rfl, rfl⟩ := re_s h
  exact rti_ X I dX0_kicks_15
theorem c_C0_kicks_k0 {l : Launch} {D : va_G} {cy : Nat → ClassId} {a gs : Nat → Nat} {σ : Sg} {x1 : Int32} {r0 : Int32} {σ' : Sg} (h : C0_kicks_k0_0 σ x1 = some (r0, σ')) (sz : Nat) : Met l yX0_kicks wB_X0_kicks ({ frames := 1, cells := 0, slots := 0, locals := 21 }) (va_Pc [.ref (a 14), .int x1, .ref (a 29)] (pr_ 59 a D cy (shC cy a σ) (xfC gs) sz)) (qg_ 59 a D (shC cy a σ') (some (.int r0)) sz) 0 0 (fr_ 59 a sz) := by
  refine ent_ (by decide) rfl (Nat.le_of_ble_eq_true rfl) ?_
  intro p e s m below meth c ls hsz X I hl
  subst hsz
  exact kC0_kicks_k0_0 X σ x1 s.heap [] ls h I hl

def C0_kicks_k1_0  (σ : Sg) (x1 : Int32) : Option (Int32 × Sg) :=
  bi_ (C4_runs_0 σ (10 : Int32)) fun _ σ_2 =>
  some (((x1 * (9 : Int32)) - (rd_ σ_2 29 2)), σ_2)
set_option maxRecDepth 100000 in
theorem kC0_kicks_k1_0 {p : Program} {l : Launch} {e : Env} {s : State} {m : MethodId} {args : Array Value} {below : List Frame} {meth : Method} {c : Code} {D : va_G} {cy : Nat → ClassId} {a gs : Nat → Nat} (X : cx_ cX0_kicks RX0 wB_X0_kicks 3 (some .int) 59 a D cy (xfC gs) p s m args meth c)  {r0 : Int32} {σ' : Sg}  : ∀ (σ : Sg) (x1 : Int32) (H : Heap) (locs : List Loc) (ls : Array Slot), C0_kicks_k1_0 σ x1 = some (r0, σ') → iv_ 59 a D (shC cy a σ) s H locs → lv_has ls 3 [(0, .ref (a 15)), (1, .int x1), (2, .ref (a 29))] → W p l e ({ frames := 1, cells := 0, slots := 0, locals := 21 }) s m args below meth c H locs 0 0 (MQ below (qg_ 59 a D (shC cy a σ') (some (.int r0)) s.heap.size) args s 0 0 (fr_ 59 a s.heap.size)) (F0 m 0 ls []) := by
  obtain ⟨hx, hb, hr, hml, hown, hts, hlk, hK, hA, hXf⟩ := id X
  intro σ x1 H locs ls h I hl
  unfold C0_kicks_k1_0 at h
  refine lv_aload_n hx hb dX0_kicks_0 rfl (lv_at hl 2 rfl) ?_
  refine lv_bipush (v := 10) hx hb dX0_kicks_1 (by decide) ?_
  obtain ⟨_, σ_2, hc_1, h⟩ := bi_of h
  refine cv_ (rV_ (nn := 1) (As := [.int (10 : Int32)]) (rest := []) X xkC I (c_C4_runs hc_1 H.size) gBX0_kicks_X4_runs rfl ⟨rfl, rfl⟩ (by decide +kernel) ⟨Nat.le_of_ble_eq_true rfl, Nat.le_of_ble_eq_true rfl⟩ (by decide) shC_29 rfl rfl hl.1 rfl (Nat.le_of_ble_eq_true rfl) dX0_kicks_3) I (fun H locs I => ?_)
  refine lv_iload_n hx hb dX0_kicks_6 rfl (lv_at hl 1 rfl) ?_
  refine lv_bipush (v := 9) hx hb dX0_kicks_7 (by decide) ?_
  refine lv_imul hx hb dX0_kicks_9 ?_
  refine lv_aload_n hx hb dX0_kicks_10 rfl (lv_at hl 2 rfl) ?_
  refine ig_ (index := 13) X I (fun _ q => List.mem_cons_of_mem _ (hinB_X4 _ q)) 29 (by decide) shC_29 rfl 2 (by decide) (by decide +kernel) rfl (v := .int (rd_ σ_2 29 2)) rfl dX0_kicks_11 ?_
  refine lv_isub hx hb dX0_kicks_14 ?_
  obtain ⟨rfl, rfl⟩ := re_s h
  exact rti_ X I dX0_kicks_15
theorem c_C0_kicks_k1 {l : Launch} {D : va_G} {cy : Nat → ClassId} {a gs : Nat → Nat} {σ : Sg} {x1 : Int32} {r0 : Int32} {σ' : Sg} (h : C0_kicks_k1_0 σ x1 = some (r0, σ')) (sz : Nat) : Met l yX0_kicks wB_X0_kicks ({ frames := 1, cells := 0, slots := 0, locals := 21 }) (va_Pc [.ref (a 15), .int x1, .ref (a 29)] (pr_ 59 a D cy (shC cy a σ) (xfC gs) sz)) (qg_ 59 a D (shC cy a σ') (some (.int r0)) sz) 0 0 (fr_ 59 a sz) := by
  refine ent_ (by decide) rfl (Nat.le_of_ble_eq_true rfl) ?_
  intro p e s m below meth c ls hsz X I hl
  subst hsz
  exact kC0_kicks_k1_0 X σ x1 s.heap [] ls h I hl

def C0_kicks_k2_0  (σ : Sg) (x1 : Int32) : Option (Int32 × Sg) :=
  bi_ (C4_runs_0 σ (10 : Int32)) fun _ σ_2 =>
  some (((x1 * (9 : Int32)) - (rd_ σ_2 29 2)), σ_2)
set_option maxRecDepth 100000 in
theorem kC0_kicks_k2_0 {p : Program} {l : Launch} {e : Env} {s : State} {m : MethodId} {args : Array Value} {below : List Frame} {meth : Method} {c : Code} {D : va_G} {cy : Nat → ClassId} {a gs : Nat → Nat} (X : cx_ cX0_kicks RX0 wB_X0_kicks 3 (some .int) 59 a D cy (xfC gs) p s m args meth c)  {r0 : Int32} {σ' : Sg}  : ∀ (σ : Sg) (x1 : Int32) (H : Heap) (locs : List Loc) (ls : Array Slot), C0_kicks_k2_0 σ x1 = some (r0, σ') → iv_ 59 a D (shC cy a σ) s H locs → lv_has ls 3 [(0, .ref (a 16)), (1, .int x1), (2, .ref (a 29))] → W p l e ({ frames := 1, cells := 0, slots := 0, locals := 21 }) s m args below meth c H locs 0 0 (MQ below (qg_ 59 a D (shC cy a σ') (some (.int r0)) s.heap.size) args s 0 0 (fr_ 59 a s.heap.size)) (F0 m 0 ls []) := by
  obtain ⟨hx, hb, hr, hml, hown, hts, hlk, hK, hA, hXf⟩ := id X
  intro σ x1 H locs ls h I hl
  unfold C0_kicks_k2_0 at h
  refine lv_aload_n hx hb dX0_kicks_0 rfl (lv_at hl 2 rfl) ?_
  refine lv_bipush (v := 10) hx hb dX0_kicks_1 (by decide) ?_
  obtain ⟨_, σ_2, hc_1, h⟩ := bi_of h
  refine cv_ (rV_ (nn := 1) (As := [.int (10 : Int32)]) (rest := []) X xkC I (c_C4_runs hc_1 H.size) gBX0_kicks_X4_runs rfl ⟨rfl, rfl⟩ (by decide +kernel) ⟨Nat.le_of_ble_eq_true rfl, Nat.le_of_ble_eq_true rfl⟩ (by decide) shC_29 rfl rfl hl.1 rfl (Nat.le_of_ble_eq_true rfl) dX0_kicks_3) I (fun H locs I => ?_)
  refine lv_iload_n hx hb dX0_kicks_6 rfl (lv_at hl 1 rfl) ?_
  refine lv_bipush (v := 9) hx hb dX0_kicks_7 (by decide) ?_
  refine lv_imul hx hb dX0_kicks_9 ?_
  refine lv_aload_n hx hb dX0_kicks_10 rfl (lv_at hl 2 rfl) ?_
  refine ig_ (index := 13) X I (fun _ q => List.mem_cons_of_mem _ (hinB_X4 _ q)) 29 (by decide) shC_29 rfl 2 (by decide) (by decide +kernel) rfl (v := .int (rd_ σ_2 29 2)) rfl dX0_kicks_11 ?_
  refine lv_isub hx hb dX0_kicks_14 ?_
  obtain ⟨rfl, rfl⟩ := re_s h
  exact rti_ X I dX0_kicks_15
theorem c_C0_kicks_k2 {l : Launch} {D : va_G} {cy : Nat → ClassId} {a gs : Nat → Nat} {σ : Sg} {x1 : Int32} {r0 : Int32} {σ' : Sg} (h : C0_kicks_k2_0 σ x1 = some (r0, σ')) (sz : Nat) : Met l yX0_kicks wB_X0_kicks ({ frames := 1, cells := 0, slots := 0, locals := 21 }) (va_Pc [.ref (a 16), .int x1, .ref (a 29)] (pr_ 59 a D cy (shC cy a σ) (xfC gs) sz)) (qg_ 59 a D (shC cy a σ') (some (.int r0)) sz) 0 0 (fr_ 59 a sz) := by
  refine ent_ (by decide) rfl (Nat.le_of_ble_eq_true rfl) ?_
  intro p e s m below meth c ls hsz X I hl
  subst hsz
  exact kC0_kicks_k2_0 X σ x1 s.heap [] ls h I hl

def C10_kicks_k2_0  (σ : Sg) (x1 : Int32) : Option (Int32 × Sg) :=
  bi_ (C4_runs_0 σ (30 : Int32)) fun _ σ_2 =>
  bi_ (C0_kicks_k2_0 σ_2 x1) fun r_5 σ_4 =>
  some (((0 : Int32) - r_5), σ_4)
set_option maxRecDepth 100000 in
theorem kC10_kicks_k2_0 {p : Program} {l : Launch} {e : Env} {s : State} {m : MethodId} {args : Array Value} {below : List Frame} {meth : Method} {c : Code} {D : va_G} {cy : Nat → ClassId} {a gs : Nat → Nat} (X : cx_ cX10_kicks RX10 wB_X10_kicks 3 (some .int) 59 a D cy (xfC gs) p s m args meth c)  {r0 : Int32} {σ' : Sg}  : ∀ (σ : Sg) (x1 : Int32) (H : Heap) (locs : List Loc) (ls : Array Slot), C10_kicks_k2_0 σ x1 = some (r0, σ') → iv_ 59 a D (shC cy a σ) s H locs → lv_has ls 3 [(0, .ref (a 16)), (1, .int x1), (2, .ref (a 29))] → W p l e ({ frames := 2, cells := 0, slots := 0, locals := 43 }) s m args below meth c H locs 0 0 (MQ below (qg_ 59 a D (shC cy a σ') (some (.int r0)) s.heap.size) args s 0 0 (fr_ 59 a s.heap.size)) (F0 m 0 ls []) := by
  obtain ⟨hx, hb, hr, hml, hown, hts, hlk, hK, hA, hXf⟩ := id X
  intro σ x1 H locs ls h I hl
  unfold C10_kicks_k2_0 at h
  refine lv_aload_n hx hb dX10_kicks_0 rfl (lv_at hl 2 rfl) ?_
  refine lv_bipush (v := 30) hx hb dX10_kicks_1 (by decide) ?_
  obtain ⟨_, σ_2, hc_1, h⟩ := bi_of h
  refine cv_ (rV_ (nn := 1) (As := [.int (30 : Int32)]) (rest := []) X xkC I (c_C4_runs hc_1 H.size) gBX10_kicks_X4_runs rfl ⟨rfl, rfl⟩ (by decide +kernel) ⟨Nat.le_of_ble_eq_true rfl, Nat.le_of_ble_eq_true rfl⟩ (by decide) shC_29 rfl rfl hl.1 rfl (Nat.le_of_ble_eq_true rfl) dX10_kicks_3) I (fun H locs I => ?_)
  refine lv_iconst (v := 0) hx hb dX10_kicks_6 (by decide) ?_
  refine lv_aload_n hx hb dX10_kicks_7 rfl (lv_at hl 0 rfl) ?_
  refine lv_iload_n hx hb dX10_kicks_8 rfl (lv_at hl 1 rfl) ?_
  refine lv_aload_n hx hb dX10_kicks_9 rfl (lv_at hl 2 rfl) ?_
  obtain ⟨r_5, σ_4, hc_3, h⟩ := bi_of h
  refine cg_ (v := .int r_5) (rSU_ (nn := 2) (As := [.int x1, .ref (a 29)]) (rest := [.int (0 : Int32)]) X xkC I (c_C0_kicks_k2 hc_3 H.size) gBX10_kicks_X0_kicks_s29 rfl ⟨rfl, rfl⟩ (by decide +kernel) ⟨Nat.le_of_ble_eq_true rfl, Nat.le_of_ble_eq_true rfl⟩ (by decide) shC_16 rfl rfl hl.1 rfl (Nat.le_of_ble_eq_true rfl) dX10_kicks_10) I (fun H locs I => ?_)
  refine lv_isub hx hb dX10_kicks_13 ?_
  obtain ⟨rfl, rfl⟩ := re_s h
  exact rti_ X I dX10_kicks_14
theorem c_C10_kicks_k2 {l : Launch} {D : va_G} {cy : Nat → ClassId} {a gs : Nat → Nat} {σ : Sg} {x1 : Int32} {r0 : Int32} {σ' : Sg} (h : C10_kicks_k2_0 σ x1 = some (r0, σ')) (sz : Nat) : Met l yX10_kicks wB_X10_kicks ({ frames := 2, cells := 0, slots := 0, locals := 43 }) (va_Pc [.ref (a 16), .int x1, .ref (a 29)] (pr_ 59 a D cy (shC cy a σ) (xfC gs) sz)) (qg_ 59 a D (shC cy a σ') (some (.int r0)) sz) 0 0 (fr_ 59 a sz) := by
  refine ent_ (by decide) rfl (Nat.le_of_ble_eq_true rfl) ?_
  intro p e s m below meth c ls hsz X I hl
  subst hsz
  exact kC10_kicks_k2_0 X σ x1 s.heap [] ls h I hl

def C0_kicks_k3_0  (σ : Sg) (x1 : Int32) : Option (Int32 × Sg) :=
  bi_ (C4_runs_0 σ (10 : Int32)) fun _ σ_2 =>
  some (((x1 * (9 : Int32)) - (rd_ σ_2 29 2)), σ_2)
set_option maxRecDepth 100000 in
theorem kC0_kicks_k3_0 {p : Program} {l : Launch} {e : Env} {s : State} {m : MethodId} {args : Array Value} {below : List Frame} {meth : Method} {c : Code} {D : va_G} {cy : Nat → ClassId} {a gs : Nat → Nat} (X : cx_ cX0_kicks RX0 wB_X0_kicks 3 (some .int) 59 a D cy (xfC gs) p s m args meth c)  {r0 : Int32} {σ' : Sg}  : ∀ (σ : Sg) (x1 : Int32) (H : Heap) (locs : List Loc) (ls : Array Slot), C0_kicks_k3_0 σ x1 = some (r0, σ') → iv_ 59 a D (shC cy a σ) s H locs → lv_has ls 3 [(0, .ref (a 17)), (1, .int x1), (2, .ref (a 29))] → W p l e ({ frames := 1, cells := 0, slots := 0, locals := 21 }) s m args below meth c H locs 0 0 (MQ below (qg_ 59 a D (shC cy a σ') (some (.int r0)) s.heap.size) args s 0 0 (fr_ 59 a s.heap.size)) (F0 m 0 ls []) := by
  obtain ⟨hx, hb, hr, hml, hown, hts, hlk, hK, hA, hXf⟩ := id X
  intro σ x1 H locs ls h I hl
  unfold C0_kicks_k3_0 at h
  refine lv_aload_n hx hb dX0_kicks_0 rfl (lv_at hl 2 rfl) ?_
  refine lv_bipush (v := 10) hx hb dX0_kicks_1 (by decide) ?_
  obtain ⟨_, σ_2, hc_1, h⟩ := bi_of h
  refine cv_ (rV_ (nn := 1) (As := [.int (10 : Int32)]) (rest := []) X xkC I (c_C4_runs hc_1 H.size) gBX0_kicks_X4_runs rfl ⟨rfl, rfl⟩ (by decide +kernel) ⟨Nat.le_of_ble_eq_true rfl, Nat.le_of_ble_eq_true rfl⟩ (by decide) shC_29 rfl rfl hl.1 rfl (Nat.le_of_ble_eq_true rfl) dX0_kicks_3) I (fun H locs I => ?_)
  refine lv_iload_n hx hb dX0_kicks_6 rfl (lv_at hl 1 rfl) ?_
  refine lv_bipush (v := 9) hx hb dX0_kicks_7 (by decide) ?_
  refine lv_imul hx hb dX0_kicks_9 ?_
  refine lv_aload_n hx hb dX0_kicks_10 rfl (lv_at hl 2 rfl) ?_
  refine ig_ (index := 13) X I (fun _ q => List.mem_cons_of_mem _ (hinB_X4 _ q)) 29 (by decide) shC_29 rfl 2 (by decide) (by decide +kernel) rfl (v := .int (rd_ σ_2 29 2)) rfl dX0_kicks_11 ?_
  refine lv_isub hx hb dX0_kicks_14 ?_
  obtain ⟨rfl, rfl⟩ := re_s h
  exact rti_ X I dX0_kicks_15
theorem c_C0_kicks_k3 {l : Launch} {D : va_G} {cy : Nat → ClassId} {a gs : Nat → Nat} {σ : Sg} {x1 : Int32} {r0 : Int32} {σ' : Sg} (h : C0_kicks_k3_0 σ x1 = some (r0, σ')) (sz : Nat) : Met l yX0_kicks wB_X0_kicks ({ frames := 1, cells := 0, slots := 0, locals := 21 }) (va_Pc [.ref (a 17), .int x1, .ref (a 29)] (pr_ 59 a D cy (shC cy a σ) (xfC gs) sz)) (qg_ 59 a D (shC cy a σ') (some (.int r0)) sz) 0 0 (fr_ 59 a sz) := by
  refine ent_ (by decide) rfl (Nat.le_of_ble_eq_true rfl) ?_
  intro p e s m below meth c ls hsz X I hl
  subst hsz
  exact kC0_kicks_k3_0 X σ x1 s.heap [] ls h I hl

def C3_kicks_k3_0  (σ : Sg) (x1 : Int32) : Option (Int32 × Sg) :=
  bi_ (C4_runs_0 σ (51 : Int32)) fun _ σ_2 =>
  bi_ (C0_kicks_k3_0 σ_2 x1) fun r_5 σ_4 =>
  some ((r_5 + (rd_ σ_4 29 3)), σ_4)
set_option maxRecDepth 100000 in
theorem kC3_kicks_k3_0 {p : Program} {l : Launch} {e : Env} {s : State} {m : MethodId} {args : Array Value} {below : List Frame} {meth : Method} {c : Code} {D : va_G} {cy : Nat → ClassId} {a gs : Nat → Nat} (X : cx_ cX3_kicks RX3 wB_X3_kicks 3 (some .int) 59 a D cy (xfC gs) p s m args meth c)  {r0 : Int32} {σ' : Sg}  : ∀ (σ : Sg) (x1 : Int32) (H : Heap) (locs : List Loc) (ls : Array Slot), C3_kicks_k3_0 σ x1 = some (r0, σ') → iv_ 59 a D (shC cy a σ) s H locs → lv_has ls 3 [(0, .ref (a 17)), (1, .int x1), (2, .ref (a 29))] → W p l e ({ frames := 2, cells := 0, slots := 0, locals := 43 }) s m args below meth c H locs 0 0 (MQ below (qg_ 59 a D (shC cy a σ') (some (.int r0)) s.heap.size) args s 0 0 (fr_ 59 a s.heap.size)) (F0 m 0 ls []) := by
  obtain ⟨hx, hb, hr, hml, hown, hts, hlk, hK, hA, hXf⟩ := id X
  intro σ x1 H locs ls h I hl
  unfold C3_kicks_k3_0 at h
  refine lv_aload_n hx hb dX3_kicks_0 rfl (lv_at hl 2 rfl) ?_
  refine lv_bipush (v := 51) hx hb dX3_kicks_1 (by decide) ?_
  obtain ⟨_, σ_2, hc_1, h⟩ := bi_of h
  refine cv_ (rV_ (nn := 1) (As := [.int (51 : Int32)]) (rest := []) X xkC I (c_C4_runs hc_1 H.size) gBX3_kicks_X4_runs rfl ⟨rfl, rfl⟩ (by decide +kernel) ⟨Nat.le_of_ble_eq_true rfl, Nat.le_of_ble_eq_true rfl⟩ (by decide) shC_29 rfl rfl hl.1 rfl (Nat.le_of_ble_eq_true rfl) dX3_kicks_3) I (fun H locs I => ?_)
  refine lv_aload_n hx hb dX3_kicks_6 rfl (lv_at hl 0 rfl) ?_
  refine lv_iload_n hx hb dX3_kicks_7 rfl (lv_at hl 1 rfl) ?_
  refine lv_aload_n hx hb dX3_kicks_8 rfl (lv_at hl 2 rfl) ?_
  obtain ⟨r_5, σ_4, hc_3, h⟩ := bi_of h
  refine cg_ (v := .int r_5) (rSX_ (nn := 2) (As := [.int x1, .ref (a 29)]) (rest := []) X xkC I (c_C0_kicks_k3 hc_3 H.size) gBX3_kicks_X0_kicks_x33 rfl ⟨rfl, rfl⟩ rfl (by decide +kernel) ⟨Nat.le_of_ble_eq_true rfl, Nat.le_of_ble_eq_true rfl⟩ (by decide) shC_17 rfl rfl hl.1 rfl (Nat.le_of_ble_eq_true rfl) dX3_kicks_9) I (fun H locs I => ?_)
  refine lv_aload_n hx hb dX3_kicks_12 rfl (lv_at hl 2 rfl) ?_
  refine ig_ (index := 36) X I (fun _ q => List.mem_cons_of_mem _ (hinB_X4 _ q)) 29 (by decide) shC_29 rfl 3 (by decide) (by decide +kernel) rfl (v := .int (rd_ σ_4 29 3)) rfl dX3_kicks_13 ?_
  refine lv_iadd hx hb dX3_kicks_16 ?_
  obtain ⟨rfl, rfl⟩ := re_s h
  exact rti_ X I dX3_kicks_17
theorem c_C3_kicks_k3 {l : Launch} {D : va_G} {cy : Nat → ClassId} {a gs : Nat → Nat} {σ : Sg} {x1 : Int32} {r0 : Int32} {σ' : Sg} (h : C3_kicks_k3_0 σ x1 = some (r0, σ')) (sz : Nat) : Met l yX3_kicks wB_X3_kicks ({ frames := 2, cells := 0, slots := 0, locals := 43 }) (va_Pc [.ref (a 17), .int x1, .ref (a 29)] (pr_ 59 a D cy (shC cy a σ) (xfC gs) sz)) (qg_ 59 a D (shC cy a σ') (some (.int r0)) sz) 0 0 (fr_ 59 a sz) := by
  refine ent_ (by decide) rfl (Nat.le_of_ble_eq_true rfl) ?_
  intro p e s m below meth c ls hsz X I hl
  subst hsz
  exact kC3_kicks_k3_0 X σ x1 s.heap [] ls h I hl

def C0_kicks_k4_0  (σ : Sg) (x1 : Int32) : Option (Int32 × Sg) :=
  bi_ (C4_runs_0 σ (10 : Int32)) fun _ σ_2 =>
  some (((x1 * (9 : Int32)) - (rd_ σ_2 29 2)), σ_2)
set_option maxRecDepth 100000 in
theorem kC0_kicks_k4_0 {p : Program} {l : Launch} {e : Env} {s : State} {m : MethodId} {args : Array Value} {below : List Frame} {meth : Method} {c : Code} {D : va_G} {cy : Nat → ClassId} {a gs : Nat → Nat} (X : cx_ cX0_kicks RX0 wB_X0_kicks 3 (some .int) 59 a D cy (xfC gs) p s m args meth c)  {r0 : Int32} {σ' : Sg}  : ∀ (σ : Sg) (x1 : Int32) (H : Heap) (locs : List Loc) (ls : Array Slot), C0_kicks_k4_0 σ x1 = some (r0, σ') → iv_ 59 a D (shC cy a σ) s H locs → lv_has ls 3 [(0, .ref (a 18)), (1, .int x1), (2, .ref (a 29))] → W p l e ({ frames := 1, cells := 0, slots := 0, locals := 21 }) s m args below meth c H locs 0 0 (MQ below (qg_ 59 a D (shC cy a σ') (some (.int r0)) s.heap.size) args s 0 0 (fr_ 59 a s.heap.size)) (F0 m 0 ls []) := by
  obtain ⟨hx, hb, hr, hml, hown, hts, hlk, hK, hA, hXf⟩ := id X
  intro σ x1 H locs ls h I hl
  unfold C0_kicks_k4_0 at h
  refine lv_aload_n hx hb dX0_kicks_0 rfl (lv_at hl 2 rfl) ?_
  refine lv_bipush (v := 10) hx hb dX0_kicks_1 (by decide) ?_
  obtain ⟨_, σ_2, hc_1, h⟩ := bi_of h
  refine cv_ (rV_ (nn := 1) (As := [.int (10 : Int32)]) (rest := []) X xkC I (c_C4_runs hc_1 H.size) gBX0_kicks_X4_runs rfl ⟨rfl, rfl⟩ (by decide +kernel) ⟨Nat.le_of_ble_eq_true rfl, Nat.le_of_ble_eq_true rfl⟩ (by decide) shC_29 rfl rfl hl.1 rfl (Nat.le_of_ble_eq_true rfl) dX0_kicks_3) I (fun H locs I => ?_)
  refine lv_iload_n hx hb dX0_kicks_6 rfl (lv_at hl 1 rfl) ?_
  refine lv_bipush (v := 9) hx hb dX0_kicks_7 (by decide) ?_
  refine lv_imul hx hb dX0_kicks_9 ?_
  refine lv_aload_n hx hb dX0_kicks_10 rfl (lv_at hl 2 rfl) ?_
  refine ig_ (index := 13) X I (fun _ q => List.mem_cons_of_mem _ (hinB_X4 _ q)) 29 (by decide) shC_29 rfl 2 (by decide) (by decide +kernel) rfl (v := .int (rd_ σ_2 29 2)) rfl dX0_kicks_11 ?_
  refine lv_isub hx hb dX0_kicks_14 ?_
  obtain ⟨rfl, rfl⟩ := re_s h
  exact rti_ X I dX0_kicks_15
theorem c_C0_kicks_k4 {l : Launch} {D : va_G} {cy : Nat → ClassId} {a gs : Nat → Nat} {σ : Sg} {x1 : Int32} {r0 : Int32} {σ' : Sg} (h : C0_kicks_k4_0 σ x1 = some (r0, σ')) (sz : Nat) : Met l yX0_kicks wB_X0_kicks ({ frames := 1, cells := 0, slots := 0, locals := 21 }) (va_Pc [.ref (a 18), .int x1, .ref (a 29)] (pr_ 59 a D cy (shC cy a σ) (xfC gs) sz)) (qg_ 59 a D (shC cy a σ') (some (.int r0)) sz) 0 0 (fr_ 59 a sz) := by
  refine ent_ (by decide) rfl (Nat.le_of_ble_eq_true rfl) ?_
  intro p e s m below meth c ls hsz X I hl
  subst hsz
  exact kC0_kicks_k4_0 X σ x1 s.heap [] ls h I hl

def C10_kicks_k4_0  (σ : Sg) (x1 : Int32) : Option (Int32 × Sg) :=
  bi_ (C4_runs_0 σ (30 : Int32)) fun _ σ_2 =>
  bi_ (C0_kicks_k4_0 σ_2 x1) fun r_5 σ_4 =>
  some (((0 : Int32) - r_5), σ_4)
set_option maxRecDepth 100000 in
theorem kC10_kicks_k4_0 {p : Program} {l : Launch} {e : Env} {s : State} {m : MethodId} {args : Array Value} {below : List Frame} {meth : Method} {c : Code} {D : va_G} {cy : Nat → ClassId} {a gs : Nat → Nat} (X : cx_ cX10_kicks RX10 wB_X10_kicks 3 (some .int) 59 a D cy (xfC gs) p s m args meth c)  {r0 : Int32} {σ' : Sg}  : ∀ (σ : Sg) (x1 : Int32) (H : Heap) (locs : List Loc) (ls : Array Slot), C10_kicks_k4_0 σ x1 = some (r0, σ') → iv_ 59 a D (shC cy a σ) s H locs → lv_has ls 3 [(0, .ref (a 18)), (1, .int x1), (2, .ref (a 29))] → W p l e ({ frames := 2, cells := 0, slots := 0, locals := 43 }) s m args below meth c H locs 0 0 (MQ below (qg_ 59 a D (shC cy a σ') (some (.int r0)) s.heap.size) args s 0 0 (fr_ 59 a s.heap.size)) (F0 m 0 ls []) := by
  obtain ⟨hx, hb, hr, hml, hown, hts, hlk, hK, hA, hXf⟩ := id X
  intro σ x1 H locs ls h I hl
  unfold C10_kicks_k4_0 at h
  refine lv_aload_n hx hb dX10_kicks_0 rfl (lv_at hl 2 rfl) ?_
  refine lv_bipush (v := 30) hx hb dX10_kicks_1 (by decide) ?_
  obtain ⟨_, σ_2, hc_1, h⟩ := bi_of h
  refine cv_ (rV_ (nn := 1) (As := [.int (30 : Int32)]) (rest := []) X xkC I (c_C4_runs hc_1 H.size) gBX10_kicks_X4_runs rfl ⟨rfl, rfl⟩ (by decide +kernel) ⟨Nat.le_of_ble_eq_true rfl, Nat.le_of_ble_eq_true rfl⟩ (by decide) shC_29 rfl rfl hl.1 rfl (Nat.le_of_ble_eq_true rfl) dX10_kicks_3) I (fun H locs I => ?_)
  refine lv_iconst (v := 0) hx hb dX10_kicks_6 (by decide) ?_
  refine lv_aload_n hx hb dX10_kicks_7 rfl (lv_at hl 0 rfl) ?_
  refine lv_iload_n hx hb dX10_kicks_8 rfl (lv_at hl 1 rfl) ?_
  refine lv_aload_n hx hb dX10_kicks_9 rfl (lv_at hl 2 rfl) ?_
  obtain ⟨r_5, σ_4, hc_3, h⟩ := bi_of h
  refine cg_ (v := .int r_5) (rSU_ (nn := 2) (As := [.int x1, .ref (a 29)]) (rest := [.int (0 : Int32)]) X xkC I (c_C0_kicks_k4 hc_3 H.size) gBX10_kicks_X0_kicks_s29 rfl ⟨rfl, rfl⟩ (by decide +kernel) ⟨Nat.le_of_ble_eq_true rfl, Nat.le_of_ble_eq_true rfl⟩ (by decide) shC_18 rfl rfl hl.1 rfl (Nat.le_of_ble_eq_true rfl) dX10_kicks_10) I (fun H locs I => ?_)
  refine lv_isub hx hb dX10_kicks_13 ?_
  obtain ⟨rfl, rfl⟩ := re_s h
  exact rti_ X I dX10_kicks_14
theorem c_C10_kicks_k4 {l : Launch} {D : va_G} {cy : Nat → ClassId} {a gs : Nat → Nat} {σ : Sg} {x1 : Int32} {r0 : Int32} {σ' : Sg} (h : C10_kicks_k4_0 σ x1 = some (r0, σ')) (sz : Nat) : Met l yX10_kicks wB_X10_kicks ({ frames := 2, cells := 0, slots := 0, locals := 43 }) (va_Pc [.ref (a 18), .int x1, .ref (a 29)] (pr_ 59 a D cy (shC cy a σ) (xfC gs) sz)) (qg_ 59 a D (shC cy a σ') (some (.int r0)) sz) 0 0 (fr_ 59 a sz) := by
  refine ent_ (by decide) rfl (Nat.le_of_ble_eq_true rfl) ?_
  intro p e s m below meth c ls hsz X I hl
  subst hsz
  exact kC10_kicks_k4_0 X σ x1 s.heap [] ls h I hl
