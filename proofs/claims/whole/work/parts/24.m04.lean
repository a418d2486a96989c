def M_seed_0  (σ : Sg) (x1 : Int32) : Option (Int32 × Sg) :=
  bi_ (M_lets_0 σ (2 : Int32) x1) fun r_3 σ_2 =>
  some (r_3, σ_2)
set_option maxRecDepth 100000 in
theorem kM_seed_0 {p : Program} {l : Launch} {e : Env} {s : State} {m : MethodId} {args : Array Value} {below : List Frame} {meth : Method} {c : Code} {D : va_G} {cy : Nat → ClassId} {a : Nat → Nat} (X : cx_ cX12_seed RX12 wsX12_seed 2 (some .int) 16 a D cy xfM p s m args meth c)  {r0 : Int32} {σ' : Sg}  : ∀ (σ : Sg) (x1 : Int32) (H : Heap) (locs : List Loc) (ls : Array Slot), M_seed_0 σ x1 = some (r0, σ') → iv_ 16 a D (shM cy a σ) s H locs → lv_has ls 2 [(0, .ref (a 0)), (1, .int x1)] → W p l e ({ frames := 1, cells := 0, slots := 0, locals := 23 }) s m args below meth c H locs 0 0 (MQ below (qg_ 16 a D (shM cy a σ') (some (.int r0)) s.heap.size) args s 0 0 (fr_ 16 a s.heap.size)) (F0 m 0 ls []) := by
  obtain ⟨hx, hb, hr, hml, hown, hts, hlk, hK, hA, hXf⟩ := id X
  intro σ x1 H locs ls h I hl
  unfold M_seed_0 at h
  refine lv_aload_n hx hb dX12_seed_0 rfl (lv_at hl 0 rfl) ?_
  refine lv_iconst (v := 2) hx hb dX12_seed_1 (by decide) ?_
  refine lv_iload_n hx hb dX12_seed_2 rfl (lv_at hl 1 rfl) ?_
  obtain ⟨r_3, σ_2, hc_1, h⟩ := bi_of h
  refine cg_ (rV_ (nn := 2) (As := [.int (2 : Int32), .int x1]) (rest := []) X xkM I (c_M_lets hc_1 H.size) gX12_seed_X12_lets rfl ⟨rfl, rfl⟩ (by decide +kernel) ⟨Nat.le_of_ble_eq_true rfl, Nat.le_of_ble_eq_true rfl⟩ (by decide) shM_0 rfl rfl hl.1 rfl (Nat.le_of_ble_eq_true rfl) dX12_seed_3) I (fun H locs I => ?_)
  obtain ⟨rfl, rfl⟩ := re_s h
  exact rti_ X I dX12_seed_6
theorem c_M_seed {l : Launch} {D : va_G} {cy : Nat → ClassId} {a : Nat → Nat} {σ : Sg} {x1 : Int32} {r0 : Int32} {σ' : Sg} (h : M_seed_0 σ x1 = some (r0, σ')) (sz : Nat) : Met l yX12_seed wsX12_seed ({ frames := 1, cells := 0, slots := 0, locals := 23 }) (va_Pc [.ref (a 0), .int x1] (pr_ 16 a D cy (shM cy a σ) xfM sz)) (qg_ 16 a D (shM cy a σ') (some (.int r0)) sz) 0 0 (fr_ 16 a sz) := by
  refine ent_ (by decide) rfl (Nat.le_of_ble_eq_true rfl) ?_
  intro p e s m below meth c ls hsz X I hl
  subst hsz
  exact kM_seed_0 X σ x1 s.heap [] ls h I hl

def M_drawn_0  (σ : Sg)  : Option (Int32 × Sg) :=
  lt_ (wr_ σ 1 2 (((rd_ σ 1 2) * (1103515245 : Int32)) + (12345 : Int32))) fun σ_1 =>
  some ((((rd_ σ_1 1 2).toUInt32 >>> ((16 : Int32).toUInt32 &&& Int32.toUInt32 31)).toInt32), σ_1)
set_option maxRecDepth 100000 in
theorem kM_drawn_0 {p : Program} {l : Launch} {e : Env} {s : State} {m : MethodId} {args : Array Value} {below : List Frame} {meth : Method} {c : Code} {D : va_G} {cy : Nat → ClassId} {a : Nat → Nat} (X : cx_ cX12_drawn RX12 wsX12_drawn 1 (some .int) 16 a D cy xfM p s m args meth c)  {r0 : Int32} {σ' : Sg}  : ∀ (σ : Sg)  (H : Heap) (locs : List Loc) (ls : Array Slot), M_drawn_0 σ = some (r0, σ') → iv_ 16 a D (shM cy a σ) s H locs → lv_has ls 1 [(0, .ref (a 0))] → W p l e ({ frames := 0, cells := 0, slots := 0, locals := 0 }) s m args below meth c H locs 0 0 (MQ below (qg_ 16 a D (shM cy a σ') (some (.int r0)) s.heap.size) args s 0 0 (fr_ 16 a s.heap.size)) (F0 m 0 ls []) := by
  obtain ⟨hx, hb, hr, hml, hown, hts, hlk, hK, hA, hXf⟩ := id X
  intro σ  H locs ls h I hl
  unfold M_drawn_0 at h
  refine lv_aload_n hx hb dX12_drawn_0 rfl (lv_at hl 0 rfl) ?_
  refine ig_ (index := 7) X I (fun _ q => List.mem_cons_of_mem _ (List.mem_append_right _ q)) 0 (by decide) shM_0 rfl 0 (by decide) (by decide +kernel) rfl (v := .ref (a 1)) rfl dX12_drawn_1 ?_
  refine lv_iconst (v := 2) hx hb dX12_drawn_4 (by decide) ?_
  refine lv_aload_n hx hb dX12_drawn_5 rfl (lv_at hl 0 rfl) ?_
  refine ig_ (index := 7) X I (fun _ q => List.mem_cons_of_mem _ (List.mem_append_right _ q)) 0 (by decide) shM_0 rfl 0 (by decide) (by decide +kernel) rfl (v := .ref (a 1)) rfl dX12_drawn_6 ?_
  refine lv_iconst (v := 2) hx hb dX12_drawn_9 (by decide) ?_
  refine ia_ X I 1 (by decide) shM_1 (in_of (by decide)) (v0 := rd_ σ 1 2) rfl dX12_drawn_10 ?_
  refine lv_ldc (v := 1103515245) hx hb hown (hts (.constant RX12 225 (1103515245)) (by decide +kernel)) dX12_drawn_11 ?_
  refine lv_imul hx hb dX12_drawn_13 ?_
  refine lv_sipush (v := 12345) hx hb dX12_drawn_14 (by decide) ?_
  refine lv_iadd hx hb dX12_drawn_17 ?_
  refine is_ (σ2 := wr_ σ 1 2 (((rd_ σ 1 2) * (1103515245 : Int32)) + (12345 : Int32))) X I 1 (by decide) shM_1 (in_of (by decide)) shM_st_1 dX12_drawn_18 (fun σ_1 H locs e_2 I => ?_)
  have h := lt_at h e_2
  refine lv_aload_n hx hb dX12_drawn_19 rfl (lv_at hl 0 rfl) ?_
  refine ig_ (index := 7) X I (fun _ q => List.mem_cons_of_mem _ (List.mem_append_right _ q)) 0 (by decide) shM_0 rfl 0 (by decide) (by decide +kernel) rfl (v := .ref (a 1)) rfl dX12_drawn_20 ?_
  refine lv_iconst (v := 2) hx hb dX12_drawn_23 (by decide) ?_
  refine ia_ X I 1 (by decide) shM_1 (in_of (by decide)) (v0 := rd_ σ_1 1 2) rfl dX12_drawn_24 ?_
  refine lv_bipush (v := 16) hx hb dX12_drawn_25 (by decide) ?_
  refine lv_iushr hx hb dX12_drawn_27 rfl ?_
  obtain ⟨rfl, rfl⟩ := re_s h
  exact rti_ X I dX12_drawn_28
theorem c_M_drawn {l : Launch} {D : va_G} {cy : Nat → ClassId} {a : Nat → Nat} {σ : Sg}  {r0 : Int32} {σ' : Sg} (h : M_drawn_0 σ  = some (r0, σ')) (sz : Nat) : Met l yX12_drawn wsX12_drawn ({ frames := 0, cells := 0, slots := 0, locals := 0 }) (va_Pc [.ref (a 0)] (pr_ 16 a D cy (shM cy a σ) xfM sz)) (qg_ 16 a D (shM cy a σ') (some (.int r0)) sz) 0 0 (fr_ 16 a sz) := by
  refine ent_ (by decide) rfl (Nat.le_of_ble_eq_true rfl) ?_
  intro p e s m below meth c ls hsz X I hl
  subst hsz
  exact kM_drawn_0 X σ  s.heap [] ls h I hl

def M_year_59  (σ : Sg)  : Option (Int32 × Sg) :=
  bi_ (M_goesOn_0 σ) fun _ σ_2 =>
  bi_ (M_traits_0 σ_2) fun r_5 σ_4 =>
  some (r_5, σ_4)
set_option maxRecDepth 100000 in
theorem kM_year_59 {p : Program} {l : Launch} {e : Env} {s : State} {m : MethodId} {args : Array Value} {below : List Frame} {meth : Method} {c : Code} {D : va_G} {cy : Nat → ClassId} {a : Nat → Nat} (X : cx_ cX12_year RX12 wsX12_year 2 (some .int) 16 a D cy xfM p s m args meth c)  {r0 : Int32} {σ' : Sg}  : ∀ (σ : Sg)  (H : Heap) (locs : List Loc) (ls : Array Slot), M_year_59 σ = some (r0, σ') → iv_ 16 a D (shM cy a σ) s H locs → lv_has ls 2 [(0, .ref (a 0))] → W p l e ({ frames := 4, cells := 0, slots := 0, locals := 89 }) s m args below meth c H locs 0 0 (MQ below (qg_ 16 a D (shM cy a σ') (some (.int r0)) s.heap.size) args s 0 0 (fr_ 16 a s.heap.size)) (F0 m 59 ls []) := by
  obtain ⟨hx, hb, hr, hml, hown, hts, hlk, hK, hA, hXf⟩ := id X
  intro σ  H locs ls h I hl
  unfold M_year_59 at h
  refine lv_aload_n hx hb dX12_year_59 rfl (lv_at hl 0 rfl) ?_
  obtain ⟨_, σ_2, hc_1, h⟩ := bi_of h
  refine cv_ (rV_ (nn := 0) (As := []) (rest := []) X xkM I (c_M_goesOn hc_1 H.size) gX12_year_X12_goesOn rfl ⟨rfl, rfl⟩ (by decide +kernel) ⟨Nat.le_of_ble_eq_true rfl, Nat.le_of_ble_eq_true rfl⟩ (by decide) shM_0 rfl rfl hl.1 rfl (Nat.le_of_ble_eq_true rfl) dX12_year_60) I (fun H locs I => ?_)
  refine lv_aload_n hx hb dX12_year_63 rfl (lv_at hl 0 rfl) ?_
  obtain ⟨r_5, σ_4, hc_3, h⟩ := bi_of h
  refine cg_ (rV_ (nn := 0) (As := []) (rest := []) X xkM I (c_M_traits hc_3 H.size) gX12_year_X12_traits rfl ⟨rfl, rfl⟩ (by decide +kernel) ⟨Nat.le_of_ble_eq_true rfl, Nat.le_of_ble_eq_true rfl⟩ (by decide) shM_0 rfl rfl hl.1 rfl (Nat.le_of_ble_eq_true rfl) dX12_year_64) I (fun H locs I => ?_)
  obtain ⟨rfl, rfl⟩ := re_s h
  exact rti_ X I dX12_year_67
def M_year_0  (σ : Sg)  : Option (Int32 × Sg) :=
  if (rd_ σ 1 0) ≤ 0 then (M_year_59 σ)
  else (bi_ (M_drawn_0 σ) fun r_4 σ_3 =>
  gd_ (nz_ (rd_ σ_3 1 0)) (
  lt_ ((((16 : Int32) + ((6 : Int32) * (r_4 - r_4 / (rd_ σ_3 1 0) * (rd_ σ_3 1 0)))) + (5 : Int32))) fun y_6 =>
  bi_ (M_drawn_0 σ_3) fun r_10 σ_9 =>
  if (rd_ σ_9 1 6) ≤ (r_10 - r_10 / (100 : Int32) * (100 : Int32)) then (M_year_59 σ_9)
  else (bi_ (M_drawn_0 σ_9) fun r_14 σ_13 =>
  gd_ (in_ y_6 64) (
  lt_ (wr_ σ_13 1 y_6.toNatClampNeg (r_14 - r_14 / (8 : Int32) * (8 : Int32))) fun σ_16 =>
  M_year_59 σ_16))))
set_option maxRecDepth 100000 in
theorem kM_year_0 {p : Program} {l : Launch} {e : Env} {s : State} {m : MethodId} {args : Array Value} {below : List Frame} {meth : Method} {c : Code} {D : va_G} {cy : Nat → ClassId} {a : Nat → Nat} (X : cx_ cX12_year RX12 wsX12_year 2 (some .int) 16 a D cy xfM p s m args meth c)  {r0 : Int32} {σ' : Sg}  : ∀ (σ : Sg)  (H : Heap) (locs : List Loc) (ls : Array Slot), M_year_0 σ = some (r0, σ') → iv_ 16 a D (shM cy a σ) s H locs → lv_has ls 2 [(0, .ref (a 0))] → W p l e ({ frames := 4, cells := 0, slots := 0, locals := 89 }) s m args below meth c H locs 0 0 (MQ below (qg_ 16 a D (shM cy a σ') (some (.int r0)) s.heap.size) args s 0 0 (fr_ 16 a s.heap.size)) (F0 m 0 ls []) := by
  obtain ⟨hx, hb, hr, hml, hown, hts, hlk, hK, hA, hXf⟩ := id X
  intro σ  H locs ls h I hl
  unfold M_year_0 at h
  refine lv_aload_n hx hb dX12_year_0 rfl (lv_at hl 0 rfl) ?_
  refine ig_ (index := 7) X I (fun _ q => List.mem_cons_of_mem _ (List.mem_append_right _ q)) 0 (by decide) shM_0 rfl 0 (by decide) (by decide +kernel) rfl (v := .ref (a 1)) rfl dX12_year_1 ?_
  refine lv_iconst (v := 0) hx hb dX12_year_4 (by decide) ?_
  refine ia_ X I 1 (by decide) shM_1 (in_of (by decide)) (v0 := rd_ σ 1 0) rfl dX12_year_5 ?_
  refine lv_if_le (tgt := 59) hx hb dX12_year_6 (by decide) (fun c_1 => ?_) (fun c_1 => ?_)
  · have h := if_t h c_1
    exact kM_year_59 X  σ H locs ls h I (lv_sub hl [0] rfl)
  · have h := if_f h c_1
    refine lv_bipush (v := 16) hx hb dX12_year_9 (by decide) ?_
    refine lv_bipush (v := 6) hx hb dX12_year_11 (by decide) ?_
    refine lv_aload_n hx hb dX12_year_13 rfl (lv_at hl 0 rfl) ?_
    obtain ⟨r_4, σ_3, hc_2, h⟩ := bi_of h
    refine cg_ (rV_ (nn := 0) (As := []) (rest := [.int (6 : Int32), .int (16 : Int32)]) X xkM I (c_M_drawn hc_2 H.size) gX12_year_X12_drawn rfl ⟨rfl, rfl⟩ (by decide +kernel) ⟨Nat.le_of_ble_eq_true rfl, Nat.le_of_ble_eq_true rfl⟩ (by decide) shM_0 rfl rfl hl.1 rfl (Nat.le_of_ble_eq_true rfl) dX12_year_14) I (fun H locs I => ?_)
    refine lv_aload_n hx hb dX12_year_17 rfl (lv_at hl 0 rfl) ?_
    refine ig_ (index := 7) X I (fun _ q => List.mem_cons_of_mem _ (List.mem_append_right _ q)) 0 (by decide) shM_0 rfl 0 (by decide) (by decide +kernel) rfl (v := .ref (a 1)) rfl dX12_year_18 ?_
    refine lv_iconst (v := 0) hx hb dX12_year_21 (by decide) ?_
    refine ia_ X I 1 (by decide) shM_1 (in_of (by decide)) (v0 := rd_ σ_3 1 0) rfl dX12_year_22 ?_
    obtain ⟨g_5, h⟩ := gd_of h
    refine lv_irem hx hb dX12_year_23 (nz_of g_5) ?_
    refine lv_imul hx hb dX12_year_24 ?_
    refine lv_iadd hx hb dX12_year_25 ?_
    refine lv_iconst (v := 5) hx hb dX12_year_26 (by decide) ?_
    refine lv_iadd hx hb dX12_year_27 ?_
    refine lv_topi (fun y_6 e_7 => ?_)
    have h := lt_at h e_7
    refine lv_istore_n (lv' := [(1, .int y_6), (0, .ref (a 0))]) hx hb dX12_year_28 rfl hl (by decide) rfl (fun ls hl => ?_)
    refine lv_aload_n hx hb dX12_year_29 rfl (lv_at hl 1 rfl) ?_
    obtain ⟨r_10, σ_9, hc_8, h⟩ := bi_of h
    refine cg_ (rV_ (nn := 0) (As := []) (rest := []) X xkM I (c_M_drawn hc_8 H.size) gX12_year_X12_drawn rfl ⟨rfl, rfl⟩ (by decide +kernel) ⟨Nat.le_of_ble_eq_true rfl, Nat.le_of_ble_eq_true rfl⟩ (by decide) shM_0 rfl rfl hl.1 rfl (Nat.le_of_ble_eq_true rfl) dX12_year_30) I (fun H locs I => ?_)
    refine lv_bipush (v := 100) hx hb dX12_year_33 (by decide) ?_
    refine lv_irem hx hb dX12_year_35 (by decide) ?_
    refine lv_aload_n hx hb dX12_year_36 rfl (lv_at hl 1 rfl) ?_
    refine ig_ (index := 7) X I (fun _ q => List.mem_cons_of_mem _ (List.mem_append_right _ q)) 0 (by decide) shM_0 rfl 0 (by decide) (by decide +kernel) rfl (v := .ref (a 1)) rfl dX12_year_37 ?_
    refine lv_bipush (v := 6) hx hb dX12_year_40 (by decide) ?_
    refine ia_ X I 1 (by decide) shM_1 (in_of (by decide)) (v0 := rd_ σ_9 1 6) rfl dX12_year_42 ?_
    refine lv_icmp_ge (tgt := 59) hx hb dX12_year_43 (by decide) (fun c_11 => ?_) (fun c_11 => ?_)
    · have h := if_t h c_11
      exact kM_year_59 X  σ_9 H locs ls h I (lv_sub hl [1] rfl)
    · have h := if_f h c_11
      refine lv_aload_n hx hb dX12_year_46 rfl (lv_at hl 1 rfl) ?_
      refine ig_ (index := 7) X I (fun _ q => List.mem_cons_of_mem _ (List.mem_append_right _ q)) 0 (by decide) shM_0 rfl 0 (by decide) (by decide +kernel) rfl (v := .ref (a 1)) rfl dX12_year_47 ?_
      refine lv_iload_n hx hb dX12_year_50 rfl (lv_at hl 0 rfl) ?_
      refine lv_aload_n hx hb dX12_year_51 rfl (lv_at hl 1 rfl) ?_
      obtain ⟨r_14, σ_13, hc_12, h⟩ := bi_of h
      refine cg_ (rV_ (nn := 0) (As := []) (rest := [.int y_6, .ref (a 1)]) X xkM I (c_M_drawn hc_12 H.size) gX12_year_X12_drawn rfl ⟨rfl, rfl⟩ (by decide +kernel) ⟨Nat.le_of_ble_eq_true rfl, Nat.le_of_ble_eq_true rfl⟩ (by decide) shM_0 rfl rfl hl.1 rfl (Nat.le_of_ble_eq_true rfl) dX12_year_52) I (fun H locs I => ?_)
      refine lv_bipush (v := 8) hx hb dX12_year_55 (by decide) ?_
      refine lv_irem hx hb dX12_year_57 (by decide) ?_
      obtain ⟨g_15, h⟩ := gd_of h
      refine is_ (σ2 := wr_ σ_13 1 y_6.toNatClampNeg (r_14 - r_14 / (8 : Int32) * (8 : Int32))) X I 1 (by decide) shM_1 (in_of g_15) shM_st_1 dX12_year_58 (fun σ_16 H locs e_17 I => ?_)
      have h := lt_at h e_17
      exact kM_year_59 X  σ_16 H locs ls h I (lv_sub hl [1] rfl)
theorem c_M_year {l : Launch} {D : va_G} {cy : Nat → ClassId} {a : Nat → Nat} {σ : Sg}  {r0 : Int32} {σ' : Sg} (h : M_year_0 σ  = some (r0, σ')) (sz : Nat) : Met l yX12_year wsX12_year ({ frames := 4, cells := 0, slots := 0, locals := 89 }) (va_Pc [.ref (a 0)] (pr_ 16 a D cy (shM cy a σ) xfM sz)) (qg_ 16 a D (shM cy a σ') (some (.int r0)) sz) 0 0 (fr_ 16 a sz) := by
  refine ent_ (by decide) rfl (Nat.le_of_ble_eq_true rfl) ?_
  intro p e s m below meth c ls hsz X I hl
  subst hsz
  exact kM_year_0 X σ  s.heap [] ls h I hl

def M_copyRow_1_3_2 (k2 : Sg → Int32 → Option (Unit × Sg)) (σ : Sg) (x2 : Int32) : Option (Unit × Sg) :=
  if (64 : Int32) ≤ x2 then (some ((), σ))
  else (gd_ (in_ x2 64) (
  gd_ (in_ x2 64) (
  lt_ (wr_ σ 3 x2.toNatClampNeg (rd_ σ 1 x2.toNatClampNeg)) fun σ_4 =>
  lt_ (x2 + (1 : Int32)) fun y_6 =>
  k2 σ_4 y_6)))
set_option maxRecDepth 100000 in
theorem kM_copyRow_1_3_2 {p : Program} {l : Launch} {e : Env} {s : State} {m : MethodId} {args : Array Value} {below : List Frame} {meth : Method} {c : Code} {D : va_G} {cy : Nat → ClassId} {a : Nat → Nat} (X : cx_ cX12_copyRow RX12 wsX12_copyRow 3 none 16 a D cy xfM p s m args meth c) {k2 : Sg → Int32 → Option (Unit × Sg)}  {σ' : Sg} (hk2 : ∀ (σ : Sg) (x2 : Int32) (H : Heap) (locs : List Loc) (ls : Array Slot), k2 σ x2 = some ((), σ') → iv_ 16 a D (shM cy a σ) s H locs → lv_has ls 3 [(0, .ref (a 1)), (1, .ref (a 3)), (2, .int x2)] → W p l e ({ frames := 0, cells := 0, slots := 0, locals := 0 }) s m args below meth c H locs 0 0 (MQ below (qg_ 16 a D (shM cy a σ') none s.heap.size) args s 0 0 (fr_ 16 a s.heap.size)) (F0 m 2 ls [])) : ∀ (σ : Sg) (x2 : Int32) (H : Heap) (locs : List Loc) (ls : Array Slot), M_copyRow_1_3_2 k2 σ x2 = some ((), σ') → iv_ 16 a D (shM cy a σ) s H locs → lv_has ls 3 [(0, .ref (a 1)), (1, .ref (a 3)), (2, .int x2)] → W p l e ({ frames := 0, cells := 0, slots := 0, locals := 0 }) s m args below meth c H locs 0 0 (MQ below (qg_ 16 a D (shM cy a σ') none s.heap.size) args s 0 0 (fr_ 16 a s.heap.size)) (F0 m 2 ls []) := by
  obtain ⟨hx, hb, hr, hml, hown, hts, hlk, hK, hA, hXf⟩ := id X
  intro σ x2 H locs ls h I hl
  unfold M_copyRow_1_3_2 at h
  refine lv_iload_n hx hb dX12_copyRow_2 rfl (lv_at hl 2 rfl) ?_
  refine lv_bipush (v := 64) hx hb dX12_copyRow_3 (by decide) ?_
  refine lv_icmp_ge (tgt := 20) hx hb dX12_copyRow_5 (by decide) (fun c_1 => ?_) (fun c_1 => ?_)
  · have h := if_t h c_1
    obtain rfl := re_v h
    exact rtv_ X I dX12_copyRow_20
  · have h := if_f h c_1
    refine lv_aload_n hx hb dX12_copyRow_8 rfl (lv_at hl 1 rfl) ?_
    refine lv_iload_n hx hb dX12_copyRow_9 rfl (lv_at hl 2 rfl) ?_
    refine lv_aload_n hx hb dX12_copyRow_10 rfl (lv_at hl 0 rfl) ?_
    refine lv_iload_n hx hb dX12_copyRow_11 rfl (lv_at hl 2 rfl) ?_
    obtain ⟨g_2, h⟩ := gd_of h
    refine ia_ X I 1 (by decide) shM_1 (in_of g_2) (v0 := rd_ σ 1 x2.toNatClampNeg) rfl dX12_copyRow_12 ?_
    obtain ⟨g_3, h⟩ := gd_of h
    refine is_ (σ2 := wr_ σ 3 x2.toNatClampNeg (rd_ σ 1 x2.toNatClampNeg)) X I 3 (by decide) shM_3 (in_of g_3) shM_st_3 dX12_copyRow_13 (fun σ_4 H locs e_5 I => ?_)
    have h := lt_at h e_5
    obtain ⟨y_6, e_7⟩ : ∃ q : Int32, q = x2 + (1 : Int32) := ⟨_, rfl⟩
    have h := lt_at h e_7
    refine lv_iinc (v := y_6) (lv' := [(2, .int y_6), (0, .ref (a 1)), (1, .ref (a 3))]) hx hb dX12_copyRow_14 hl (k := 2) rfl (by rw [e_7]; rfl) (by decide) rfl (fun ls hl => ?_)
    refine lv_goto (tgt := 2) hx hb dX12_copyRow_17 (by decide) ?_
    exact hk2 σ_4 y_6 H locs ls h I (lv_sub hl [1, 2, 0] rfl)
set_option maxRecDepth 100000 in
theorem kM_copyRow_1_3_2L {p : Program} {l : Launch} {e : Env} {s : State} {m : MethodId} {args : Array Value} {below : List Frame} {meth : Method} {c : Code} {D : va_G} {cy : Nat → ClassId} {a : Nat → Nat} (X : cx_ cX12_copyRow RX12 wsX12_copyRow 3 none 16 a D cy xfM p s m args meth c)   {σ' : Sg}  : ∀ (n : Nat), ∀ (σ : Sg) (x2 : Int32) (H : Heap) (locs : List Loc) (ls : Array Slot), lp_ (M_copyRow_1_3_2) (fun _ _ => none) n σ x2 = some ((), σ') → iv_ 16 a D (shM cy a σ) s H locs → lv_has ls 3 [(0, .ref (a 1)), (1, .ref (a 3)), (2, .int x2)] → W p l e ({ frames := 0, cells := 0, slots := 0, locals := 0 }) s m args below meth c H locs 0 0 (MQ below (qg_ 16 a D (shM cy a σ') none s.heap.size) args s 0 0 (fr_ 16 a s.heap.size)) (F0 m 2 ls []) := by
  intro n
  induction n with
  | zero =>
    intro _ _ _ _ _ h
    exact absurd h (fun q => by cases (show (none : Option _) = some _ from q))
  | succ n ih => exact kM_copyRow_1_3_2 X ih

def M_copyRow_1_3_0  (σ : Sg)  : Option (Unit × Sg) :=
  lp_ M_copyRow_1_3_2 (fun _ _ => none) FU σ (0 : Int32)
set_option maxRecDepth 100000 in
theorem kM_copyRow_1_3_0 {p : Program} {l : Launch} {e : Env} {s : State} {m : MethodId} {args : Array Value} {below : List Frame} {meth : Method} {c : Code} {D : va_G} {cy : Nat → ClassId} {a : Nat → Nat} (X : cx_ cX12_copyRow RX12 wsX12_copyRow 3 none 16 a D cy xfM p s m args meth c)   {σ' : Sg}  : ∀ (σ : Sg)  (H : Heap) (locs : List Loc) (ls : Array Slot), M_copyRow_1_3_0 σ = some ((), σ') → iv_ 16 a D (shM cy a σ) s H locs → lv_has ls 3 [(0, .ref (a 1)), (1, .ref (a 3))] → W p l e ({ frames := 0, cells := 0, slots := 0, locals := 0 }) s m args below meth c H locs 0 0 (MQ below (qg_ 16 a D (shM cy a σ') none s.heap.size) args s 0 0 (fr_ 16 a s.heap.size)) (F0 m 0 ls []) := by
  obtain ⟨hx, hb, hr, hml, hown, hts, hlk, hK, hA, hXf⟩ := id X
  intro σ  H locs ls h I hl
  unfold M_copyRow_1_3_0 at h
  refine lv_iconst (v := 0) hx hb dX12_copyRow_0 (by decide) ?_
  refine lv_istore_n (lv' := [(2, .int (0 : Int32)), (0, .ref (a 1)), (1, .ref (a 3))]) hx hb dX12_copyRow_1 rfl hl (by decide) rfl (fun ls hl => ?_)
  exact kM_copyRow_1_3_2L X  FU σ (0 : Int32) H locs ls h I (lv_sub hl [1, 2, 0] rfl)
theorem c_M_copyRow_1_3 {l : Launch} {D : va_G} {cy : Nat → ClassId} {a : Nat → Nat} {σ : Sg}   {σ' : Sg} (h : M_copyRow_1_3_0 σ  = some ((), σ')) (sz : Nat) : Met l yX12_copyRow wsX12_copyRow ({ frames := 0, cells := 0, slots := 0, locals := 0 }) (va_Pc [.ref (a 1), .ref (a 3)] (pr_ 16 a D cy (shM cy a σ) xfM sz)) (qg_ 16 a D (shM cy a σ') none sz) 0 0 (fr_ 16 a sz) := by
  refine ent_ (by decide) rfl (Nat.le_of_ble_eq_true rfl) ?_
  intro p e s m below meth c ls hsz X I hl
  subst hsz
  exact kM_copyRow_1_3_0 X σ  s.heap [] ls h I hl

def M_apart_0  (x0 : Int32) (x1 : Int32) : Option Int32 :=
  if x1 ≤ x0 then (some ((x0 - x1)))
  else (some ((x1 - x0)))
set_option maxRecDepth 100000 in
theorem kM_apart_0 {p : Program} {l : Launch} {e : Env} {s : State} {m : MethodId} {args : Array Value} {below : List Frame} {meth : Method} {c : Code} (X : px_ cX12_apart RX12 wsX12_apart 2 (some .int) p s m args meth c)  {r0 : Int32}  : ∀ (x0 : Int32) (x1 : Int32) (ls : Array Slot), M_apart_0 x0 x1 = some r0 → lv_has ls 2 [(0, .int x0), (1, .int x1)] → W p l e ({ frames := 0, cells := 0, slots := 0, locals := 0 }) s m args below meth c s.heap [] 0 0 (MQ below (qp_ (some (.int r0))) args s 0 0 (fun _ => False)) (F0 m 0 ls []) := by
  obtain ⟨hx, hb, hr, hml, hown, hts, hlk⟩ := id X
  intro x0 x1 ls h hl
  unfold M_apart_0 at h
  refine lv_iload_n hx hb dX12_apart_0 rfl (lv_at hl 0 rfl) ?_
  refine lv_iload_n hx hb dX12_apart_1 rfl (lv_at hl 1 rfl) ?_
  refine lv_icmp_ge (tgt := 11) hx hb dX12_apart_2 (by decide) (fun c_1 => ?_) (fun c_1 => ?_)
  · have h := if_t h c_1
    refine lv_iload_n hx hb dX12_apart_11 rfl (lv_at hl 0 rfl) ?_
    refine lv_iload_n hx hb dX12_apart_12 rfl (lv_at hl 1 rfl) ?_
    refine lv_isub hx hb dX12_apart_13 ?_
    obtain rfl := re_p h
    exact rpi_ X dX12_apart_14
  · have h := if_f h c_1
    refine lv_iload_n hx hb dX12_apart_5 rfl (lv_at hl 1 rfl) ?_
    refine lv_iload_n hx hb dX12_apart_6 rfl (lv_at hl 0 rfl) ?_
    refine lv_isub hx hb dX12_apart_7 ?_
    refine lv_goto (tgt := 14) hx hb dX12_apart_8 (by decide) ?_
    obtain rfl := re_p h
    exact rpi_ X dX12_apart_14
theorem c_M_apart {l : Launch} {x0 : Int32} {x1 : Int32} {r0 : Int32} (h : M_apart_0 x0 x1 = some r0) : Met l yX12_apart wsX12_apart ({ frames := 0, cells := 0, slots := 0, locals := 0 }) (pp_ [.int x0, .int x1]) (qp_ (some (.int r0))) 0 0 (fun _ => False) := by
  refine enp_ (by decide) rfl (Nat.le_of_ble_eq_true rfl) ?_
  intro p e s m below meth c ls X hl
  exact kM_apart_0 X x0 x1 ls h hl

def M_farNow_0  (σ : Sg) (x1 : Int32) : Option (Int32 × Sg) :=
  bi_ (M_its_0 σ x1 (1 : Int32)) fun r_3 σ_2 =>
  bi_ (M_its_0 σ_2 x1 (3 : Int32)) fun r_6 σ_5 =>
  bp_ (M_apart_0 r_3 r_6) fun r_8 =>
  some (r_8, σ_5)
set_option maxRecDepth 100000 in
theorem kM_farNow_0 {p : Program} {l : Launch} {e : Env} {s : State} {m : MethodId} {args : Array Value} {below : List Frame} {meth : Method} {c : Code} {D : va_G} {cy : Nat → ClassId} {a : Nat → Nat} (X : cx_ cX12_farNow RX12 wsX12_farNow 2 (some .int) 16 a D cy xfM p s m args meth c)  {r0 : Int32} {σ' : Sg}  : ∀ (σ : Sg) (x1 : Int32) (H : Heap) (locs : List Loc) (ls : Array Slot), M_farNow_0 σ x1 = some (r0, σ') → iv_ 16 a D (shM cy a σ) s H locs → lv_has ls 2 [(0, .ref (a 0)), (1, .int x1)] → W p l e ({ frames := 1, cells := 0, slots := 0, locals := 22 }) s m args below meth c H locs 0 0 (MQ below (qg_ 16 a D (shM cy a σ') (some (.int r0)) s.heap.size) args s 0 0 (fr_ 16 a s.heap.size)) (F0 m 0 ls []) := by
  obtain ⟨hx, hb, hr, hml, hown, hts, hlk, hK, hA, hXf⟩ := id X
  intro σ x1 H locs ls h I hl
  unfold M_farNow_0 at h
  refine lv_aload_n hx hb dX12_farNow_0 rfl (lv_at hl 0 rfl) ?_
  refine lv_iload_n hx hb dX12_farNow_1 rfl (lv_at hl 1 rfl) ?_
  refine lv_iconst (v := 1) hx hb dX12_farNow_2 (by decide) ?_
  obtain ⟨r_3, σ_2, hc_1, h⟩ := bi_of h
  refine cg_ (rV_ (nn := 2) (As := [.int x1, .int (1 : Int32)]) (rest := []) X xkM I (c_M_its hc_1 H.size) gX12_farNow_X12_its rfl ⟨rfl, rfl⟩ (by decide +kernel) ⟨Nat.le_of_ble_eq_true rfl, Nat.le_of_ble_eq_true rfl⟩ (by decide) shM_0 rfl rfl hl.1 rfl (Nat.le_of_ble_eq_true rfl) dX12_farNow_3) I (fun H locs I => ?_)
  refine lv_aload_n hx hb dX12_farNow_6 rfl (lv_at hl 0 rfl) ?_
  refine lv_iload_n hx hb dX12_farNow_7 rfl (lv_at hl 1 rfl) ?_
  refine lv_iconst (v := 3) hx hb dX12_farNow_8 (by decide) ?_
  obtain ⟨r_6, σ_5, hc_4, h⟩ := bi_of h
  refine cg_ (rV_ (nn := 2) (As := [.int x1, .int (3 : Int32)]) (rest := [.int r_3]) X xkM I (c_M_its hc_4 H.size) gX12_farNow_X12_its rfl ⟨rfl, rfl⟩ (by decide +kernel) ⟨Nat.le_of_ble_eq_true rfl, Nat.le_of_ble_eq_true rfl⟩ (by decide) shM_0 rfl rfl hl.1 rfl (Nat.le_of_ble_eq_true rfl) dX12_farNow_9) I (fun H locs I => ?_)
  obtain ⟨r_8, hc_7, h⟩ := bp_of h
  refine cp_ (rP_ (nn := 2) (As := [.int r_3, .int r_6]) (rest := []) ⟨hx, hb, hml, hown, hts⟩ (c_M_apart hc_7) gX12_farNow_X12_apart rfl ⟨rfl, rfl⟩ (by decide +kernel) ⟨Nat.le_of_ble_eq_true rfl, Nat.le_of_ble_eq_true rfl⟩ rfl hl.1 rfl (Nat.le_of_ble_eq_true rfl) dX12_farNow_12 ⟨Nat.zero_le _, Nat.zero_le _⟩) ?_
  obtain ⟨rfl, rfl⟩ := re_s h
  exact rti_ X I dX12_farNow_15
theorem c_M_farNow {l : Launch} {D : va_G} {cy : Nat → ClassId} {a : Nat → Nat} {σ : Sg} {x1 : Int32} {r0 : Int32} {σ' : Sg} (h : M_farNow_0 σ x1 = some (r0, σ')) (sz : Nat) : Met l yX12_farNow wsX12_farNow ({ frames := 1, cells := 0, slots := 0, locals := 22 }) (va_Pc [.ref (a 0), .int x1] (pr_ 16 a D cy (shM cy a σ) xfM sz)) (qg_ 16 a D (shM cy a σ') (some (.int r0)) sz) 0 0 (fr_ 16 a sz) := by
  refine ent_ (by decide) rfl (Nat.le_of_ble_eq_true rfl) ?_
  intro p e s m below meth c ls hsz X I hl
  subst hsz
  exact kM_farNow_0 X σ x1 s.heap [] ls h I hl

def M_farAll_4 (k4 : Sg → Int32 → Int32 → Option (Int32 × Sg)) (σ : Sg) (x1 : Int32) (x2 : Int32) : Option (Int32 × Sg) :=
  if (rd_ σ 1 0) ≤ x2 then (some (x1, σ))
  else (bi_ (M_farNow_0 σ x2) fun r_4 σ_3 =>
  lt_ ((x1 + r_4)) fun y_5 =>
  lt_ (x2 + (1 : Int32)) fun y_7 =>
  k4 σ_3 y_5 y_7)
set_option maxRecDepth 100000 in
theorem kM_farAll_4 {p : Program} {l : Launch} {e : Env} {s : State} {m : MethodId} {args : Array Value} {below : List Frame} {meth : Method} {c : Code} {D : va_G} {cy : Nat → ClassId} {a : Nat → Nat} (X : cx_ cX12_farAll RX12 wsX12_farAll 3 (some .int) 16 a D cy xfM p s m args meth c) {k4 : Sg → Int32 → Int32 → Option (Int32 × Sg)} {r0 : Int32} {σ' : Sg} (hk4 : ∀ (σ : Sg) (x1 : Int32) (x2 : Int32) (H : Heap) (locs : List Loc) (ls : Array Slot), k4 σ x1 x2 = some (r0, σ') → iv_ 16 a D (shM cy a σ) s H locs → lv_has ls 3 [(0, .ref (a 0)), (1, .int x1), (2, .int x2)] → W p l e ({ frames := 2, cells := 0, slots := 0, locals := 43 }) s m args below meth c H locs 0 0 (MQ below (qg_ 16 a D (shM cy a σ') (some (.int r0)) s.heap.size) args s 0 0 (fr_ 16 a s.heap.size)) (F0 m 4 ls [])) : ∀ (σ : Sg) (x1 : Int32) (x2 : Int32) (H : Heap) (locs : List Loc) (ls : Array Slot), M_farAll_4 k4 σ x1 x2 = some (r0, σ') → iv_ 16 a D (shM cy a σ) s H locs → lv_has ls 3 [(0, .ref (a 0)), (1, .int x1), (2, .int x2)] → W p l e ({ frames := 2, cells := 0, slots := 0, locals := 43 }) s m args below meth c H locs 0 0 (MQ below (qg_ 16 a D (shM cy a σ') (some (.int r0)) s.heap.size) args s 0 0 (fr_ 16 a s.heap.size)) (F0 m 4 ls []) := by
  obtain ⟨hx, hb, hr, hml, hown, hts, hlk, hK, hA, hXf⟩ := id X
  intro σ x1 x2 H locs ls h I hl
  unfold M_farAll_4 at h
  refine lv_iload_n hx hb dX12_farAll_4 rfl (lv_at hl 2 rfl) ?_
  refine lv_aload_n hx hb dX12_farAll_5 rfl (lv_at hl 0 rfl) ?_
  refine ig_ (index := 7) X I (fun _ q => List.mem_cons_of_mem _ (List.mem_append_right _ q)) 0 (by decide) shM_0 rfl 0 (by decide) (by decide +kernel) rfl (v := .ref (a 1)) rfl dX12_farAll_6 ?_
  refine lv_iconst (v := 0) hx hb dX12_farAll_9 (by decide) ?_
  refine ia_ X I 1 (by decide) shM_1 (in_of (by decide)) (v0 := rd_ σ 1 0) rfl dX12_farAll_10 ?_
  refine lv_icmp_ge (tgt := 28) hx hb dX12_farAll_11 (by decide) (fun c_1 => ?_) (fun c_1 => ?_)
  · have h := if_t h c_1
    refine lv_iload_n hx hb dX12_farAll_28 rfl (lv_at hl 1 rfl) ?_
    obtain ⟨rfl, rfl⟩ := re_s h
    exact rti_ X I dX12_farAll_29
  · have h := if_f h c_1
    refine lv_iload_n hx hb dX12_farAll_14 rfl (lv_at hl 1 rfl) ?_
    refine lv_aload_n hx hb dX12_farAll_15 rfl (lv_at hl 0 rfl) ?_
    refine lv_iload_n hx hb dX12_farAll_16 rfl (lv_at hl 2 rfl) ?_
    obtain ⟨r_4, σ_3, hc_2, h⟩ := bi_of h
    refine cg_ (rV_ (nn := 1) (As := [.int x2]) (rest := [.int x1]) X xkM I (c_M_farNow hc_2 H.size) gX12_farAll_X12_farNow rfl ⟨rfl, rfl⟩ (by decide +kernel) ⟨Nat.le_of_ble_eq_true rfl, Nat.le_of_ble_eq_true rfl⟩ (by decide) shM_0 rfl rfl hl.1 rfl (Nat.le_of_ble_eq_true rfl) dX12_farAll_17) I (fun H locs I => ?_)
    refine lv_iadd hx hb dX12_farAll_20 ?_
    refine lv_topi (fun y_5 e_6 => ?_)
    have h := lt_at h e_6
    refine lv_istore_n (lv' := [(1, .int y_5), (0, .ref (a 0)), (2, .int x2)]) hx hb dX12_farAll_21 rfl hl (by decide) rfl (fun ls hl => ?_)
    obtain ⟨y_7, e_8⟩ : ∃ q : Int32, q = x2 + (1 : Int32) := ⟨_, rfl⟩
    have h := lt_at h e_8
    refine lv_iinc (v := y_7) (lv' := [(2, .int y_7), (1, .int y_5), (0, .ref (a 0))]) hx hb dX12_farAll_22 hl (k := 2) rfl (by rw [e_8]; rfl) (by decide) rfl (fun ls hl => ?_)
    refine lv_goto (tgt := 4) hx hb dX12_farAll_25 (by decide) ?_
    exact hk4 σ_3 y_5 y_7 H locs ls h I (lv_sub hl [2, 1, 0] rfl)
set_option maxRecDepth 100000 in
theorem kM_farAll_4L {p : Program} {l : Launch} {e : Env} {s : State} {m : MethodId} {args : Array Value} {below : List Frame} {meth : Method} {c : Code} {D : va_G} {cy : Nat → ClassId} {a : Nat → Nat} (X : cx_ cX12_farAll RX12 wsX12_farAll 3 (some .int) 16 a D cy xfM p s m args meth c)  {r0 : Int32} {σ' : Sg}  : ∀ (n : Nat), ∀ (σ : Sg) (x1 : Int32) (x2 : Int32) (H : Heap) (locs : List Loc) (ls : Array Slot), lp_ (M_farAll_4) (fun _ _ _ => none) n σ x1 x2 = some (r0, σ') → iv_ 16 a D (shM cy a σ) s H locs → lv_has ls 3 [(0, .ref (a 0)), (1, .int x1), (2, .int x2)] → W p l e ({ frames := 2, cells := 0, slots := 0, locals := 43 }) s m args below meth c H locs 0 0 (MQ below (qg_ 16 a D (shM cy a σ') (some (.int r0)) s.heap.size) args s 0 0 (fr_ 16 a s.heap.size)) (F0 m 4 ls []) := by
  intro n
  induction n with
  | zero =>
    intro _ _ _ _ _ _ h
    exact absurd h (fun q => by cases (show (none : Option _) = some _ from q))
  | succ n ih => exact kM_farAll_4 X ih

def M_farAll_0  (σ : Sg)  : Option (Int32 × Sg) :=
  lp_ M_farAll_4 (fun _ _ _ => none) FU σ (0 : Int32) (0 : Int32)
set_option maxRecDepth 100000 in
theorem kM_farAll_0 {p : Program} {l : Launch} {e : Env} {s : State} {m : MethodId} {args : Array Value} {below : List Frame} {meth : Method} {c : Code} {D : va_G} {cy : Nat → ClassId} {a : Nat → Nat} (X : cx_ cX12_farAll RX12 wsX12_farAll 3 (some .int) 16 a D cy xfM p s m args meth c)  {r0 : Int32} {σ' : Sg}  : ∀ (σ : Sg)  (H : Heap) (locs : List Loc) (ls : Array Slot), M_farAll_0 σ = some (r0, σ') → iv_ 16 a D (shM cy a σ) s H locs → lv_has ls 3 [(0, .ref (a 0))] → W p l e ({ frames := 2, cells := 0, slots := 0, locals := 43 }) s m args below meth c H locs 0 0 (MQ below (qg_ 16 a D (shM cy a σ') (some (.int r0)) s.heap.size) args s 0 0 (fr_ 16 a s.heap.size)) (F0 m 0 ls []) := by
  obtain ⟨hx, hb, hr, hml, hown, hts, hlk, hK, hA, hXf⟩ := id X
  intro σ  H locs ls h I hl
  unfold M_farAll_0 at h
  refine lv_iconst (v := 0) hx hb dX12_farAll_0 (by decide) ?_
  refine lv_istore_n (lv' := [(1, .int (0 : Int32)), (0, .ref (a 0))]) hx hb dX12_farAll_1 rfl hl (by decide) rfl (fun ls hl => ?_)
  refine lv_iconst (v := 0) hx hb dX12_farAll_2 (by decide) ?_
  refine lv_istore_n (lv' := [(2, .int (0 : Int32)), (1, .int (0 : Int32)), (0, .ref (a 0))]) hx hb dX12_farAll_3 rfl hl (by decide) rfl (fun ls hl => ?_)
  exact kM_farAll_4L X  FU σ (0 : Int32) (0 : Int32) H locs ls h I (lv_sub hl [2, 1, 0] rfl)
theorem c_M_farAll {l : Launch} {D : va_G} {cy : Nat → ClassId} {a : Nat → Nat} {σ : Sg}  {r0 : Int32} {σ' : Sg} (h : M_farAll_0 σ  = some (r0, σ')) (sz : Nat) : Met l yX12_farAll wsX12_farAll ({ frames := 2, cells := 0, slots := 0, locals := 43 }) (va_Pc [.ref (a 0)] (pr_ 16 a D cy (shM cy a σ) xfM sz)) (qg_ 16 a D (shM cy a σ') (some (.int r0)) sz) 0 0 (fr_ 16 a sz) := by
  refine ent_ (by decide) rfl (Nat.le_of_ble_eq_true rfl) ?_
  intro p e s m below meth c ls hsz X I hl
  subst hsz
  exact kM_farAll_0 X σ  s.heap [] ls h I hl

def M_copyRow_3_1_2 (k2 : Sg → Int32 → Option (Unit × Sg)) (σ : Sg) (x2 : Int32) : Option (Unit × Sg) :=
  if (64 : Int32) ≤ x2 then (some ((), σ))
  else (gd_ (in_ x2 64) (
  gd_ (in_ x2 64) (
  lt_ (wr_ σ 1 x2.toNatClampNeg (rd_ σ 3 x2.toNatClampNeg)) fun σ_4 =>
  lt_ (x2 + (1 : Int32)) fun y_6 =>
  k2 σ_4 y_6)))
set_option maxRecDepth 100000 in
theorem kM_copyRow_3_1_2 {p : Program} {l : Launch} {e : Env} {s : State} {m : MethodId} {args : Array Value} {below : List Frame} {meth : Method} {c : Code} {D : va_G} {cy : Nat → ClassId} {a : Nat → Nat} (X : cx_ cX12_copyRow RX12 wsX12_copyRow 3 none 16 a D cy xfM p s m args meth c) {k2 : Sg → Int32 → Option (Unit × Sg)}  {σ' : Sg} (hk2 : ∀ (σ : Sg) (x2 : Int32) (H : Heap) (locs : List Loc) (ls : Array Slot), k2 σ x2 = some ((), σ') → iv_ 16 a D (shM cy a σ) s H locs → lv_has ls 3 [(0, .ref (a 3)), (1, .ref (a 1)), (2, .int x2)] → W p l e ({ frames := 0, cells := 0, slots := 0, locals := 0 }) s m args below meth c H locs 0 0 (MQ below (qg_ 16 a D (shM cy a σ') none s.heap.size) args s 0 0 (fr_ 16 a s.heap.size)) (F0 m 2 ls [])) : ∀ (σ : Sg) (x2 : Int32) (H : Heap) (locs : List Loc) (ls : Array Slot), M_copyRow_3_1_2 k2 σ x2 = some ((), σ') → iv_ 16 a D (shM cy a σ) s H locs → lv_has ls 3 [(0, .ref (a 3)), (1, .ref (a 1)), (2, .int x2)] → W p l e ({ frames := 0, cells := 0, slots := 0, locals := 0 }) s m args below meth c H locs 0 0 (MQ below (qg_ 16 a D (shM cy a σ') none s.heap.size) args s 0 0 (fr_ 16 a s.heap.size)) (F0 m 2 ls []) := by
  obtain ⟨hx, hb, hr, hml, hown, hts, hlk, hK, hA, hXf⟩ := id X
  intro σ x2 H locs ls h I hl
  unfold M_copyRow_3_1_2 at h
  refine lv_iload_n hx hb dX12_copyRow_2 rfl (lv_at hl 2 rfl) ?_
  refine lv_bipush (v := 64) hx hb dX12_copyRow_3 (by decide) ?_
  refine lv_icmp_ge (tgt := 20) hx hb dX12_copyRow_5 (by decide) (fun c_1 => ?_) (fun c_1 => ?_)
  · have h := if_t h c_1
    obtain rfl := re_v h
    exact rtv_ X I dX12_copyRow_20
  · have h := if_f h c_1
    refine lv_aload_n hx hb dX12_copyRow_8 rfl (lv_at hl 1 rfl) ?_
    refine lv_iload_n hx hb dX12_copyRow_9 rfl (lv_at hl 2 rfl) ?_
    refine lv_aload_n hx hb dX12_copyRow_10 rfl (lv_at hl 0 rfl) ?_
    refine lv_iload_n hx hb dX12_copyRow_11 rfl (lv_at hl 2 rfl) ?_
    obtain ⟨g_2, h⟩ := gd_of h
    refine ia_ X I 3 (by decide) shM_3 (in_of g_2) (v0 := rd_ σ 3 x2.toNatClampNeg) rfl dX12_copyRow_12 ?_
    obtain ⟨g_3, h⟩ := gd_of h
    refine is_ (σ2 := wr_ σ 1 x2.toNatClampNeg (rd_ σ 3 x2.toNatClampNeg)) X I 1 (by decide) shM_1 (in_of g_3) shM_st_1 dX12_copyRow_13 (fun σ_4 H locs e_5 I => ?_)
    have h := lt_at h e_5
    obtain ⟨y_6, e_7⟩ : ∃ q : Int32, q = x2 + (1 : Int32) := ⟨_, rfl⟩
    have h := lt_at h e_7
    refine lv_iinc (v := y_6) (lv' := [(2, .int y_6), (0, .ref (a 3)), (1, .ref (a 1))]) hx hb dX12_copyRow_14 hl (k := 2) rfl (by rw [e_7]; rfl) (by decide) rfl (fun ls hl => ?_)
    refine lv_goto (tgt := 2) hx hb dX12_copyRow_17 (by decide) ?_
    exact hk2 σ_4 y_6 H locs ls h I (lv_sub hl [1, 2, 0] rfl)
set_option maxRecDepth 100000 in
theorem kM_copyRow_3_1_2L {p : Program} {l : Launch} {e : Env} {s : State} {m : MethodId} {args : Array Value} {below : List Frame} {meth : Method} {c : Code} {D : va_G} {cy : Nat → ClassId} {a : Nat → Nat} (X : cx_ cX12_copyRow RX12 wsX12_copyRow 3 none 16 a D cy xfM p s m args meth c)   {σ' : Sg}  : ∀ (n : Nat), ∀ (σ : Sg) (x2 : Int32) (H : Heap) (locs : List Loc) (ls : Array Slot), lp_ (M_copyRow_3_1_2) (fun _ _ => none) n σ x2 = some ((), σ') → iv_ 16 a D (shM cy a σ) s H locs → lv_has ls 3 [(0, .ref (a 3)), (1, .ref (a 1)), (2, .int x2)] → W p l e ({ frames := 0, cells := 0, slots := 0, locals := 0 }) s m args below meth c H locs 0 0 (MQ below (qg_ 16 a D (shM cy a σ') none s.heap.size) args s 0 0 (fr_ 16 a s.heap.size)) (F0 m 2 ls []) := by
  intro n
  induction n with
  | zero =>
    intro _ _ _ _ _ h
    exact absurd h (fun q => by cases (show (none : Option _) = some _ from q))
  | succ n ih => exact kM_copyRow_3_1_2 X ih

def M_copyRow_3_1_0  (σ : Sg)  : Option (Unit × Sg) :=
  lp_ M_copyRow_3_1_2 (fun _ _ => none) FU σ (0 : Int32)
set_option maxRecDepth 100000 in
theorem kM_copyRow_3_1_0 {p : Program} {l : Launch} {e : Env} {s : State} {m : MethodId} {args : Array Value} {below : List Frame} {meth : Method} {c : Code} {D : va_G} {cy : Nat → ClassId} {a : Nat → Nat} (X : cx_ cX12_copyRow RX12 wsX12_copyRow 3 none 16 a D cy xfM p s m args meth c)   {σ' : Sg}  : ∀ (σ : Sg)  (H : Heap) (locs : List Loc) (ls : Array Slot), M_copyRow_3_1_0 σ = some ((), σ') → iv_ 16 a D (shM cy a σ) s H locs → lv_has ls 3 [(0, .ref (a 3)), (1, .ref (a 1))] → W p l e ({ frames := 0, cells := 0, slots := 0, locals := 0 }) s m args below meth c H locs 0 0 (MQ below (qg_ 16 a D (shM cy a σ') none s.heap.size) args s 0 0 (fr_ 16 a s.heap.size)) (F0 m 0 ls []) := by
  obtain ⟨hx, hb, hr, hml, hown, hts, hlk, hK, hA, hXf⟩ := id X
  intro σ  H locs ls h I hl
  unfold M_copyRow_3_1_0 at h
  refine lv_iconst (v := 0) hx hb dX12_copyRow_0 (by decide) ?_
  refine lv_istore_n (lv' := [(2, .int (0 : Int32)), (0, .ref (a 3)), (1, .ref (a 1))]) hx hb dX12_copyRow_1 rfl hl (by decide) rfl (fun ls hl => ?_)
  exact kM_copyRow_3_1_2L X  FU σ (0 : Int32) H locs ls h I (lv_sub hl [1, 2, 0] rfl)
theorem c_M_copyRow_3_1 {l : Launch} {D : va_G} {cy : Nat → ClassId} {a : Nat → Nat} {σ : Sg}   {σ' : Sg} (h : M_copyRow_3_1_0 σ  = some ((), σ')) (sz : Nat) : Met l yX12_copyRow wsX12_copyRow ({ frames := 0, cells := 0, slots := 0, locals := 0 }) (va_Pc [.ref (a 3), .ref (a 1)] (pr_ 16 a D cy (shM cy a σ) xfM sz)) (qg_ 16 a D (shM cy a σ') none sz) 0 0 (fr_ 16 a sz) := by
  refine ent_ (by decide) rfl (Nat.le_of_ble_eq_true rfl) ?_
  intro p e s m below meth c ls hsz X I hl
  subst hsz
  exact kM_copyRow_3_1_0 X σ  s.heap [] ls h I hl

def M_luck_92 (k47 : Sg → Int32 → Int32 → Int32 → Int32 → Int32 → Option (Int32 × Sg)) (σ : Sg) (x1 : Int32) (x2 : Int32) (x5 : Int32) (t1 : Int32) (t0 : Int32) : Option (Int32 × Sg) :=
  lt_ ((t0 + t1)) fun y_1 =>
  lt_ ((rd_ σ 1 2)) fun y_3 =>
  lt_ (x5 + (1 : Int32)) fun y_5 =>
  k47 σ x1 x2 y_3 y_1 y_5
set_option maxRecDepth 100000 in
theorem kM_luck_92 {p : Program} {l : Launch} {e : Env} {s : State} {m : MethodId} {args : Array Value} {below : List Frame} {meth : Method} {c : Code} {D : va_G} {cy : Nat → ClassId} {a : Nat → Nat} (X : cx_ cX12_luck RX12 wsX12_luck 7 (some .int) 16 a D cy xfM p s m args meth c) {k47 : Sg → Int32 → Int32 → Int32 → Int32 → Int32 → Option (Int32 × Sg)} {r0 : Int32} {σ' : Sg} (hk47 : ∀ (σ : Sg) (x1 : Int32) (x2 : Int32) (x3 : Int32) (x4 : Int32) (x5 : Int32) (H : Heap) (locs : List Loc) (ls : Array Slot), k47 σ x1 x2 x3 x4 x5 = some (r0, σ') → iv_ 16 a D (shM cy a σ) s H locs → lv_has ls 7 [(0, .ref (a 0)), (1, .int x1), (2, .int x2), (3, .int x3), (4, .int x4), (5, .int x5)] → W p l e ({ frames := 5, cells := 0, slots := 0, locals := 110 }) s m args below meth c H locs 0 0 (MQ below (qg_ 16 a D (shM cy a σ') (some (.int r0)) s.heap.size) args s 0 0 (fr_ 16 a s.heap.size)) (F0 m 47 ls [])) : ∀ (σ : Sg) (x1 : Int32) (x2 : Int32) (x5 : Int32) (t1 : Int32) (t0 : Int32) (H : Heap) (locs : List Loc) (ls : Array Slot), M_luck_92 k47 σ x1 x2 x5 t1 t0 = some (r0, σ') → iv_ 16 a D (shM cy a σ) s H locs → lv_has ls 7 [(0, .ref (a 0)), (1, .int x1), (2, .int x2), (5, .int x5)] → W p l e ({ frames := 5, cells := 0, slots := 0, locals := 110 }) s m args below meth c H locs 0 0 (MQ below (qg_ 16 a D (shM cy a σ') (some (.int r0)) s.heap.size) args s 0 0 (fr_ 16 a s.heap.size)) (F0 m 92 ls [.int t1, .int t0]) := by
  obtain ⟨hx, hb, hr, hml, hown, hts, hlk, hK, hA, hXf⟩ := id X
  intro σ x1 x2 x5 t1 t0 H locs ls h I hl
  unfold M_luck_92 at h
  refine lv_iadd hx hb dX12_luck_92 ?_
  refine lv_topi (fun y_1 e_2 => ?_)
  have h := lt_at h e_2
  refine lv_istore (lv' := [(4, .int y_1), (0, .ref (a 0)), (1, .int x1), (2, .int x2), (5, .int x5)]) hx hb dX12_luck_93 hl (by decide) rfl (fun ls hl => ?_)
  refine lv_aload_n hx hb dX12_luck_95 rfl (lv_at hl 1 rfl) ?_
  refine ig_ (index := 7) X I (fun _ q => List.mem_cons_of_mem _ (List.mem_append_right _ q)) 0 (by decide) shM_0 rfl 0 (by decide) (by decide +kernel) rfl (v := .ref (a 1)) rfl dX12_luck_96 ?_
  refine lv_iconst (v := 2) hx hb dX12_luck_99 (by decide) ?_
  refine ia_ X I 1 (by decide) shM_1 (in_of (by decide)) (v0 := rd_ σ 1 2) rfl dX12_luck_100 ?_
  refine lv_topi (fun y_3 e_4 => ?_)
  have h := lt_at h e_4
  refine lv_istore_n (lv' := [(3, .int y_3), (4, .int y_1), (0, .ref (a 0)), (1, .int x1), (2, .int x2), (5, .int x5)]) hx hb dX12_luck_101 rfl hl (by decide) rfl (fun ls hl => ?_)
  obtain ⟨y_5, e_6⟩ : ∃ q : Int32, q = x5 + (1 : Int32) := ⟨_, rfl⟩
  have h := lt_at h e_6
  refine lv_iinc (v := y_5) (lv' := [(5, .int y_5), (3, .int y_3), (4, .int y_1), (0, .ref (a 0)), (1, .int x1), (2, .int x2)]) hx hb dX12_luck_102 hl (k := 5) rfl (by rw [e_6]; rfl) (by decide) rfl (fun ls hl => ?_)
  refine lv_goto (tgt := 47) hx hb dX12_luck_105 (by decide) ?_
  exact hk47 σ x1 x2 y_3 y_1 y_5 H locs ls h I (lv_sub hl [3, 4, 5, 1, 2, 0] rfl)
def M_luck_47 (k47 : Sg → Int32 → Int32 → Int32 → Int32 → Int32 → Option (Int32 × Sg)) (σ : Sg) (x1 : Int32) (x2 : Int32) (x3 : Int32) (x4 : Int32) (x5 : Int32) : Option (Int32 × Sg) :=
  if x1 ≤ x5 then (bi_ (M_copyRow_3_1_0 σ) fun _ σ_3 =>
  some (x4, σ_3))
  else (bi_ (M_copyRow_3_1_0 σ) fun _ σ_5 =>
  lt_ (wr_ σ_5 1 2 x3) fun σ_6 =>
  bi_ (M_year_0 σ_6) fun r_10 σ_9 =>
  bi_ (M_farAll_0 σ_9) fun r_13 σ_12 =>
  if x2 ≤ r_13 then (M_luck_92 k47 σ_12 x1 x2 x5 (0 : Int32) x4)
  else (M_luck_92 k47 σ_12 x1 x2 x5 (1 : Int32) x4))
set_option maxRecDepth 100000 in
theorem kM_luck_47 {p : Program} {l : Launch} {e : Env} {s : State} {m : MethodId} {args : Array Value} {below : List Frame} {meth : Method} {c : Code} {D : va_G} {cy : Nat → ClassId} {a : Nat → Nat} (X : cx_ cX12_luck RX12 wsX12_luck 7 (some .int) 16 a D cy xfM p s m args meth c) {k47 : Sg → Int32 → Int32 → Int32 → Int32 → Int32 → Option (Int32 × Sg)} {r0 : Int32} {σ' : Sg} (hk47 : ∀ (σ : Sg) (x1 : Int32) (x2 : Int32) (x3 : Int32) (x4 : Int32) (x5 : Int32) (H : Heap) (locs : List Loc) (ls : Array Slot), k47 σ x1 x2 x3 x4 x5 = some (r0, σ') → iv_ 16 a D (shM cy a σ) s H locs → lv_has ls 7 [(0, .ref (a 0)), (1, .int x1), (2, .int x2), (3, .int x3), (4, .int x4), (5, .int x5)] → W p l e ({ frames := 5, cells := 0, slots := 0, locals := 110 }) s m args below meth c H locs 0 0 (MQ below (qg_ 16 a D (shM cy a σ') (some (.int r0)) s.heap.size) args s 0 0 (fr_ 16 a s.heap.size)) (F0 m 47 ls [])) : ∀ (σ : Sg) (x1 : Int32) (x2 : Int32) (x3 : Int32) (x4 : Int32) (x5 : Int32) (H : Heap) (locs : List Loc) (ls : Array Slot), M_luck_47 k47 σ x1 x2 x3 x4 x5 = some (r0, σ') → iv_ 16 a D (shM cy a σ) s H locs → lv_has ls 7 [(0, .ref (a 0)), (1, .int x1), (2, .int x2), (3, .int x3), (4, .int x4), (5, .int x5)] → W p l e ({ frames := 5, cells := 0, slots := 0, locals := 110 }) s m args below meth c H locs 0 0 (MQ below (qg_ 16 a D (shM cy a σ') (some (.int r0)) s.heap.size) args s 0 0 (fr_ 16 a s.heap.size)) (F0 m 47 ls []) := by
  obtain ⟨hx, hb, hr, hml, hown, hts, hlk, hK, hA, hXf⟩ := id X
  intro σ x1 x2 x3 x4 x5 H locs ls h I hl
  unfold M_luck_47 at h
  refine lv_iload hx hb dX12_luck_47 (lv_at hl 5 rfl) ?_
  refine lv_iload_n hx hb dX12_luck_49 rfl (lv_at hl 1 rfl) ?_
  refine lv_icmp_ge (tgt := 108) hx hb dX12_luck_50 (by decide) (fun c_1 => ?_) (fun c_1 => ?_)
  · have h := if_t h c_1
    refine lv_aload_n hx hb dX12_luck_108 rfl (lv_at hl 0 rfl) ?_
    refine ig_ (index := 16) X I (fun _ q => List.mem_cons_of_mem _ (List.mem_append_right _ q)) 0 (by decide) shM_0 rfl 2 (by decide) (by decide +kernel) rfl (v := .ref (a 3)) rfl dX12_luck_109 ?_
    refine lv_aload_n hx hb dX12_luck_112 rfl (lv_at hl 0 rfl) ?_
    refine ig_ (index := 7) X I (fun _ q => List.mem_cons_of_mem _ (List.mem_append_right _ q)) 0 (by decide) shM_0 rfl 0 (by decide) (by decide +kernel) rfl (v := .ref (a 1)) rfl dX12_luck_113 ?_
    obtain ⟨_, σ_3, hc_2, h⟩ := bi_of h
    refine cv_ (rS_ (nn := 2) (As := [.ref (a 3), .ref (a 1)]) (rest := []) X xkM I (c_M_copyRow_3_1 hc_2 H.size) gX12_luck_X12_copyRow rfl ⟨rfl, rfl⟩ (by decide +kernel) ⟨Nat.le_of_ble_eq_true rfl, Nat.le_of_ble_eq_true rfl⟩ rfl hl.1 rfl (Nat.le_of_ble_eq_true rfl) dX12_luck_116) I (fun H locs I => ?_)
    refine lv_iload hx hb dX12_luck_119 (lv_at hl 4 rfl) ?_
    obtain ⟨rfl, rfl⟩ := re_s h
    exact rti_ X I dX12_luck_121
  · have h := if_f h c_1
    refine lv_aload_n hx hb dX12_luck_53 rfl (lv_at hl 0 rfl) ?_
    refine ig_ (index := 16) X I (fun _ q => List.mem_cons_of_mem _ (List.mem_append_right _ q)) 0 (by decide) shM_0 rfl 2 (by decide) (by decide +kernel) rfl (v := .ref (a 3)) rfl dX12_luck_54 ?_
    refine lv_aload_n hx hb dX12_luck_57 rfl (lv_at hl 0 rfl) ?_
    refine ig_ (index := 7) X I (fun _ q => List.mem_cons_of_mem _ (List.mem_append_right _ q)) 0 (by decide) shM_0 rfl 0 (by decide) (by decide +kernel) rfl (v := .ref (a 1)) rfl dX12_luck_58 ?_
    obtain ⟨_, σ_5, hc_4, h⟩ := bi_of h
    refine cv_ (rS_ (nn := 2) (As := [.ref (a 3), .ref (a 1)]) (rest := []) X xkM I (c_M_copyRow_3_1 hc_4 H.size) gX12_luck_X12_copyRow rfl ⟨rfl, rfl⟩ (by decide +kernel) ⟨Nat.le_of_ble_eq_true rfl, Nat.le_of_ble_eq_true rfl⟩ rfl hl.1 rfl (Nat.le_of_ble_eq_true rfl) dX12_luck_61) I (fun H locs I => ?_)
    refine lv_aload_n hx hb dX12_luck_64 rfl (lv_at hl 0 rfl) ?_
    refine ig_ (index := 7) X I (fun _ q => List.mem_cons_of_mem _ (List.mem_append_right _ q)) 0 (by decide) shM_0 rfl 0 (by decide) (by decide +kernel) rfl (v := .ref (a 1)) rfl dX12_luck_65 ?_
    refine lv_iconst (v := 2) hx hb dX12_luck_68 (by decide) ?_
    refine lv_iload_n hx hb dX12_luck_69 rfl (lv_at hl 3 rfl) ?_
    refine is_ (σ2 := wr_ σ_5 1 2 x3) X I 1 (by decide) shM_1 (in_of (by decide)) shM_st_1 dX12_luck_70 (fun σ_6 H locs e_7 I => ?_)
    have h := lt_at h e_7
    refine lv_aload_n hx hb dX12_luck_71 rfl (lv_at hl 0 rfl) ?_
    obtain ⟨r_10, σ_9, hc_8, h⟩ := bi_of h
    refine cg_ (rV_ (nn := 0) (As := []) (rest := []) X xkM I (c_M_year hc_8 H.size) gX12_luck_X12_year rfl ⟨rfl, rfl⟩ (by decide +kernel) ⟨Nat.le_of_ble_eq_true rfl, Nat.le_of_ble_eq_true rfl⟩ (by decide) shM_0 rfl rfl hl.1 rfl (Nat.le_of_ble_eq_true rfl) dX12_luck_72) I (fun H locs I => ?_)
    refine lv_istore (lv' := [(6, .int r_10), (0, .ref (a 0)), (1, .int x1), (2, .int x2), (3, .int x3), (4, .int x4), (5, .int x5)]) hx hb dX12_luck_75 hl (by decide) rfl (fun ls hl => ?_)
    refine lv_iload hx hb dX12_luck_77 (lv_at hl 5 rfl) ?_
    refine lv_aload_n hx hb dX12_luck_79 rfl (lv_at hl 1 rfl) ?_
    obtain ⟨r_13, σ_12, hc_11, h⟩ := bi_of h
    refine cg_ (rV_ (nn := 0) (As := []) (rest := [.int x4]) X xkM I (c_M_farAll hc_11 H.size) gX12_luck_X12_farAll rfl ⟨rfl, rfl⟩ (by decide +kernel) ⟨Nat.le_of_ble_eq_true rfl, Nat.le_of_ble_eq_true rfl⟩ (by decide) shM_0 rfl rfl hl.1 rfl (Nat.le_of_ble_eq_true rfl) dX12_luck_80) I (fun H locs I => ?_)
    refine lv_iload_n hx hb dX12_luck_83 rfl (lv_at hl 3 rfl) ?_
    refine lv_icmp_ge (tgt := 91) hx hb dX12_luck_84 (by decide) (fun c_14 => ?_) (fun c_14 => ?_)
    · have h := if_t h c_14
      refine lv_iconst (v := 0) hx hb dX12_luck_91 (by decide) ?_
      exact kM_luck_92 X hk47 σ_12 x1 x2 x5 (0 : Int32) x4 H locs ls h I (lv_sub hl [1, 2, 3, 6] rfl)
    · have h := if_f h c_14
      refine lv_iconst (v := 1) hx hb dX12_luck_87 (by decide) ?_
      refine lv_goto (tgt := 92) hx hb dX12_luck_88 (by decide) ?_
      exact kM_luck_92 X hk47 σ_12 x1 x2 x5 (1 : Int32) x4 H locs ls h I (lv_sub hl [1, 2, 3, 6] rfl)
set_option maxRecDepth 100000 in
theorem kM_luck_47L {p : Program} {l : Launch} {e : Env} {s : State} {m : MethodId} {args : Array Value} {below : List Frame} {meth : Method} {c : Code} {D : va_G} {cy : Nat → ClassId} {a : Nat → Nat} (X : cx_ cX12_luck RX12 wsX12_luck 7 (some .int) 16 a D cy xfM p s m args meth c)  {r0 : Int32} {σ' : Sg}  : ∀ (n : Nat), ∀ (σ : Sg) (x1 : Int32) (x2 : Int32) (x3 : Int32) (x4 : Int32) (x5 : Int32) (H : Heap) (locs : List Loc) (ls : Array Slot), lp_ (M_luck_47) (fun _ _ _ _ _ _ => none) n σ x1 x2 x3 x4 x5 = some (r0, σ') → iv_ 16 a D (shM cy a σ) s H locs → lv_has ls 7 [(0, .ref (a 0)), (1, .int x1), (2, .int x2), (3, .int x3), (4, .int x4), (5, .int x5)] → W p l e ({ frames := 5, cells := 0, slots := 0, locals := 110 }) s m args below meth c H locs 0 0 (MQ below (qg_ 16 a D (shM cy a σ') (some (.int r0)) s.heap.size) args s 0 0 (fr_ 16 a s.heap.size)) (F0 m 47 ls []) := by
  intro n
  induction n with
  | zero =>
    intro _ _ _ _ _ _ _ _ _ h
    exact absurd h (fun q => by cases (show (none : Option _) = some _ from q))
  | succ n ih => exact kM_luck_47 X ih

def M_luck_0  (σ : Sg) (x1 : Int32) : Option (Int32 × Sg) :=
  bp_ (M_isIn_0 (x1).toInt64 (1 : Int64) (30 : Int64)) fun r_2 =>
  if r_2 = 0 then (some ((-1 : Int32), σ))
  else (bi_ (M_copyRow_1_3_0 σ) fun _ σ_5 =>
  bi_ (M_goesOn_0 σ_5) fun _ σ_7 =>
  bi_ (M_farAll_0 σ_7) fun r_10 σ_9 =>
  lt_ ((rd_ σ_9 3 2)) fun y_11 =>
  lp_ M_luck_47 (fun _ _ _ _ _ _ => none) FU σ_9 x1 r_10 y_11 (0 : Int32) (0 : Int32))
set_option maxRecDepth 100000 in
theorem kM_luck_0 {p : Program} {l : Launch} {e : Env} {s : State} {m : MethodId} {args : Array Value} {below : List Frame} {meth : Method} {c : Code} {D : va_G} {cy : Nat → ClassId} {a : Nat → Nat} (X : cx_ cX12_luck RX12 wsX12_luck 7 (some .int) 16 a D cy xfM p s m args meth c)  {r0 : Int32} {σ' : Sg}  : ∀ (σ : Sg) (x1 : Int32) (H : Heap) (locs : List Loc) (ls : Array Slot), M_luck_0 σ x1 = some (r0, σ') → iv_ 16 a D (shM cy a σ) s H locs → lv_has ls 7 [(0, .ref (a 0)), (1, .int x1)] → W p l e ({ frames := 5, cells := 0, slots := 0, locals := 110 }) s m args below meth c H locs 0 0 (MQ below (qg_ 16 a D (shM cy a σ') (some (.int r0)) s.heap.size) args s 0 0 (fr_ 16 a s.heap.size)) (F0 m 0 ls []) := by
  obtain ⟨hx, hb, hr, hml, hown, hts, hlk, hK, hA, hXf⟩ := id X
  intro σ x1 H locs ls h I hl
  unfold M_luck_0 at h
  refine lv_iload_n hx hb dX12_luck_0 rfl (lv_at hl 1 rfl) ?_
  refine lv_i2l hx hb dX12_luck_1 rfl ?_
  refine lv_lconst (v := 1) hx hb dX12_luck_2 (by decide) ?_
  refine lv_ldc2 (v := 30) hx hb hown (hts (.constantLong RX12 229 (30)) (by decide +kernel)) dX12_luck_3 ?_
  obtain ⟨r_2, hc_1, h⟩ := bp_of h
  refine cp_ (rP_ (nn := 3) (As := [.long (x1).toInt64, .long (1 : Int64), .long (30 : Int64)]) (rest := []) ⟨hx, hb, hml, hown, hts⟩ (c_M_isIn hc_1) gX12_luck_X12_isIn rfl ⟨rfl, rfl⟩ (by decide +kernel) ⟨Nat.le_of_ble_eq_true rfl, Nat.le_of_ble_eq_true rfl⟩ rfl hl.1 rfl (Nat.le_of_ble_eq_true rfl) dX12_luck_6 ⟨Nat.zero_le _, Nat.zero_le _⟩) ?_
  refine lv_if_ne (tgt := 14) hx hb dX12_luck_9 (by decide) (fun c_3 => ?_) (fun c_3 => ?_)
  · have h := if_f h c_3
    refine lv_aload_n hx hb dX12_luck_14 rfl (lv_at hl 0 rfl) ?_
    refine ig_ (index := 7) X I (fun _ q => List.mem_cons_of_mem _ (List.mem_append_right _ q)) 0 (by decide) shM_0 rfl 0 (by decide) (by decide +kernel) rfl (v := .ref (a 1)) rfl dX12_luck_15 ?_
    refine lv_aload_n hx hb dX12_luck_18 rfl (lv_at hl 0 rfl) ?_
    refine ig_ (index := 16) X I (fun _ q => List.mem_cons_of_mem _ (List.mem_append_right _ q)) 0 (by decide) shM_0 rfl 2 (by decide) (by decide +kernel) rfl (v := .ref (a 3)) rfl dX12_luck_19 ?_
    obtain ⟨_, σ_5, hc_4, h⟩ := bi_of h
    refine cv_ (rS_ (nn := 2) (As := [.ref (a 1), .ref (a 3)]) (rest := []) X xkM I (c_M_copyRow_1_3 hc_4 H.size) gX12_luck_X12_copyRow rfl ⟨rfl, rfl⟩ (by decide +kernel) ⟨Nat.le_of_ble_eq_true rfl, Nat.le_of_ble_eq_true rfl⟩ rfl hl.1 rfl (Nat.le_of_ble_eq_true rfl) dX12_luck_22) I (fun H locs I => ?_)
    refine lv_aload_n hx hb dX12_luck_25 rfl (lv_at hl 0 rfl) ?_
    obtain ⟨_, σ_7, hc_6, h⟩ := bi_of h
    refine cv_ (rV_ (nn := 0) (As := []) (rest := []) X xkM I (c_M_goesOn hc_6 H.size) gX12_luck_X12_goesOn rfl ⟨rfl, rfl⟩ (by decide +kernel) ⟨Nat.le_of_ble_eq_true rfl, Nat.le_of_ble_eq_true rfl⟩ (by decide) shM_0 rfl rfl hl.1 rfl (Nat.le_of_ble_eq_true rfl) dX12_luck_26) I (fun H locs I => ?_)
    refine lv_aload_n hx hb dX12_luck_29 rfl (lv_at hl 0 rfl) ?_
    obtain ⟨r_10, σ_9, hc_8, h⟩ := bi_of h
    refine cg_ (rV_ (nn := 0) (As := []) (rest := []) X xkM I (c_M_farAll hc_8 H.size) gX12_luck_X12_farAll rfl ⟨rfl, rfl⟩ (by decide +kernel) ⟨Nat.le_of_ble_eq_true rfl, Nat.le_of_ble_eq_true rfl⟩ (by decide) shM_0 rfl rfl hl.1 rfl (Nat.le_of_ble_eq_true rfl) dX12_luck_30) I (fun H locs I => ?_)
    refine lv_istore_n (lv' := [(2, .int r_10), (0, .ref (a 0)), (1, .int x1)]) hx hb dX12_luck_33 rfl hl (by decide) rfl (fun ls hl => ?_)
    refine lv_aload_n hx hb dX12_luck_34 rfl (lv_at hl 1 rfl) ?_
    refine ig_ (index := 16) X I (fun _ q => List.mem_cons_of_mem _ (List.mem_append_right _ q)) 0 (by decide) shM_0 rfl 2 (by decide) (by decide +kernel) rfl (v := .ref (a 3)) rfl dX12_luck_35 ?_
    refine lv_iconst (v := 2) hx hb dX12_luck_38 (by decide) ?_
    refine ia_ X I 3 (by decide) shM_3 (in_of (by decide)) (v0 := rd_ σ_9 3 2) rfl dX12_luck_39 ?_
    refine lv_topi (fun y_11 e_12 => ?_)
    have h := lt_at h e_12
    refine lv_istore_n (lv' := [(3, .int y_11), (2, .int r_10), (0, .ref (a 0)), (1, .int x1)]) hx hb dX12_luck_40 rfl hl (by decide) rfl (fun ls hl => ?_)
    refine lv_iconst (v := 0) hx hb dX12_luck_41 (by decide) ?_
    refine lv_istore (lv' := [(4, .int (0 : Int32)), (3, .int y_11), (2, .int r_10), (0, .ref (a 0)), (1, .int x1)]) hx hb dX12_luck_42 hl (by decide) rfl (fun ls hl => ?_)
    refine lv_iconst (v := 0) hx hb dX12_luck_44 (by decide) ?_
    refine lv_istore (lv' := [(5, .int (0 : Int32)), (4, .int (0 : Int32)), (3, .int y_11), (2, .int r_10), (0, .ref (a 0)), (1, .int x1)]) hx hb dX12_luck_45 hl (by decide) rfl (fun ls hl => ?_)
    exact kM_luck_47L X  FU σ_9 x1 r_10 y_11 (0 : Int32) (0 : Int32) H locs ls h I (lv_sub hl [4, 5, 3, 2, 1, 0] rfl)
  · have h := if_t h c_3
    refine lv_iconst (v := (-1)) hx hb dX12_luck_12 (by decide) ?_
    obtain ⟨rfl, rfl⟩ := re_s h
    exact rti_ X I dX12_luck_13
theorem c_M_luck {l : Launch} {D : va_G} {cy : Nat → ClassId} {a : Nat → Nat} {σ : Sg} {x1 : Int32} {r0 : Int32} {σ' : Sg} (h : M_luck_0 σ x1 = some (r0, σ')) (sz : Nat) : Met l yX12_luck wsX12_luck ({ frames := 5, cells := 0, slots := 0, locals := 110 }) (va_Pc [.ref (a 0), .int x1] (pr_ 16 a D cy (shM cy a σ) xfM sz)) (qg_ 16 a D (shM cy a σ') (some (.int r0)) sz) 0 0 (fr_ 16 a sz) := by
  refine ent_ (by decide) rfl (Nat.le_of_ble_eq_true rfl) ?_
  intro p e s m below meth c ls hsz X I hl
  subst hsz
  exact kM_luck_0 X σ x1 s.heap [] ls h I hl

def M_youngOnes_30 (k4 : Sg → Int32 → Int32 → Option (Int32 × Sg)) (σ : Sg) (x2 : Int32) (t1 : Int32) (t0 : Int32) : Option (Int32 × Sg) :=
  lt_ ((t0 ||| t1)) fun y_1 =>
  lt_ (x2 + (1 : Int32)) fun y_3 =>
  k4 σ y_1 y_3
set_option maxRecDepth 100000 in
theorem kM_youngOnes_30 {p : Program} {l : Launch} {e : Env} {s : State} {m : MethodId} {args : Array Value} {below : List Frame} {meth : Method} {c : Code} {D : va_G} {cy : Nat → ClassId} {a : Nat → Nat} (X : cx_ cX12_youngOnes RX12 wsX12_youngOnes 3 (some .int) 16 a D cy xfM p s m args meth c) {k4 : Sg → Int32 → Int32 → Option (Int32 × Sg)} {r0 : Int32} {σ' : Sg} (hk4 : ∀ (σ : Sg) (x1 : Int32) (x2 : Int32) (H : Heap) (locs : List Loc) (ls : Array Slot), k4 σ x1 x2 = some (r0, σ') → iv_ 16 a D (shM cy a σ) s H locs → lv_has ls 3 [(0, .ref (a 0)), (1, .int x1), (2, .int x2)] → W p l e ({ frames := 3, cells := 0, slots := 0, locals := 64 }) s m args below meth c H locs 0 0 (MQ below (qg_ 16 a D (shM cy a σ') (some (.int r0)) s.heap.size) args s 0 0 (fr_ 16 a s.heap.size)) (F0 m 4 ls [])) : ∀ (σ : Sg) (x2 : Int32) (t1 : Int32) (t0 : Int32) (H : Heap) (locs : List Loc) (ls : Array Slot), M_youngOnes_30 k4 σ x2 t1 t0 = some (r0, σ') → iv_ 16 a D (shM cy a σ) s H locs → lv_has ls 3 [(0, .ref (a 0)), (2, .int x2)] → W p l e ({ frames := 3, cells := 0, slots := 0, locals := 64 }) s m args below meth c H locs 0 0 (MQ below (qg_ 16 a D (shM cy a σ') (some (.int r0)) s.heap.size) args s 0 0 (fr_ 16 a s.heap.size)) (F0 m 30 ls [.int t1, .int t0]) := by
  obtain ⟨hx, hb, hr, hml, hown, hts, hlk, hK, hA, hXf⟩ := id X
  intro σ x2 t1 t0 H locs ls h I hl
  unfold M_youngOnes_30 at h
  refine lv_ior hx hb dX12_youngOnes_30 ?_
  refine lv_topi (fun y_1 e_2 => ?_)
  have h := lt_at h e_2
  refine lv_istore_n (lv' := [(1, .int y_1), (0, .ref (a 0)), (2, .int x2)]) hx hb dX12_youngOnes_31 rfl hl (by decide) rfl (fun ls hl => ?_)
  obtain ⟨y_3, e_4⟩ : ∃ q : Int32, q = x2 + (1 : Int32) := ⟨_, rfl⟩
  have h := lt_at h e_4
  refine lv_iinc (v := y_3) (lv' := [(2, .int y_3), (1, .int y_1), (0, .ref (a 0))]) hx hb dX12_youngOnes_32 hl (k := 2) rfl (by rw [e_4]; rfl) (by decide) rfl (fun ls hl => ?_)
  refine lv_goto (tgt := 4) hx hb dX12_youngOnes_35 (by decide) ?_
  exact hk4 σ y_1 y_3 H locs ls h I (lv_sub hl [2, 1, 0] rfl)
def M_youngOnes_4 (k4 : Sg → Int32 → Int32 → Option (Int32 × Sg)) (σ : Sg) (x1 : Int32) (x2 : Int32) : Option (Int32 × Sg) :=
  if (rd_ σ 1 0) ≤ x2 then (some (x1, σ))
  else (bi_ (M_isYoung_0 σ x2) fun r_4 σ_3 =>
  if r_4 = 0 then (M_youngOnes_30 k4 σ_3 x2 (0 : Int32) x1)
  else (M_youngOnes_30 k4 σ_3 x2 ((1 : Int32) <<< (x2 &&& 31)) x1))
set_option maxRecDepth 100000 in
theorem kM_youngOnes_4 {p : Program} {l : Launch} {e : Env} {s : State} {m : MethodId} {args : Array Value} {below : List Frame} {meth : Method} {c : Code} {D : va_G} {cy : Nat → ClassId} {a : Nat → Nat} (X : cx_ cX12_youngOnes RX12 wsX12_youngOnes 3 (some .int) 16 a D cy xfM p s m args meth c) {k4 : Sg → Int32 → Int32 → Option (Int32 × Sg)} {r0 : Int32} {σ' : Sg} (hk4 : ∀ (σ : Sg) (x1 : Int32) (x2 : Int32) (H : Heap) (locs : List Loc) (ls : Array Slot), k4 σ x1 x2 = some (r0, σ') → iv_ 16 a D (shM cy a σ) s H locs → lv_has ls 3 [(0, .ref (a 0)), (1, .int x1), (2, .int x2)] → W p l e ({ frames := 3, cells := 0, slots := 0, locals := 64 }) s m args below meth c H locs 0 0 (MQ below (qg_ 16 a D (shM cy a σ') (some (.int r0)) s.heap.size) args s 0 0 (fr_ 16 a s.heap.size)) (F0 m 4 ls [])) : ∀ (σ : Sg) (x1 : Int32) (x2 : Int32) (H : Heap) (locs : List Loc) (ls : Array Slot), M_youngOnes_4 k4 σ x1 x2 = some (r0, σ') → iv_ 16 a D (shM cy a σ) s H locs → lv_has ls 3 [(0, .ref (a 0)), (1, .int x1), (2, .int x2)] → W p l e ({ frames := 3, cells := 0, slots := 0, locals := 64 }) s m args below meth c H locs 0 0 (MQ below (qg_ 16 a D (shM cy a σ') (some (.int r0)) s.heap.size) args s 0 0 (fr_ 16 a s.heap.size)) (F0 m 4 ls []) := by
  obtain ⟨hx, hb, hr, hml, hown, hts, hlk, hK, hA, hXf⟩ := id X
  intro σ x1 x2 H locs ls h I hl
  unfold M_youngOnes_4 at h
  refine lv_iload_n hx hb dX12_youngOnes_4 rfl (lv_at hl 2 rfl) ?_
  refine lv_aload_n hx hb dX12_youngOnes_5 rfl (lv_at hl 0 rfl) ?_
  refine ig_ (index := 7) X I (fun _ q => List.mem_cons_of_mem _ (List.mem_append_right _ q)) 0 (by decide) shM_0 rfl 0 (by decide) (by decide +kernel) rfl (v := .ref (a 1)) rfl dX12_youngOnes_6 ?_
  refine lv_iconst (v := 0) hx hb dX12_youngOnes_9 (by decide) ?_
  refine ia_ X I 1 (by decide) shM_1 (in_of (by decide)) (v0 := rd_ σ 1 0) rfl dX12_youngOnes_10 ?_
  refine lv_icmp_ge (tgt := 38) hx hb dX12_youngOnes_11 (by decide) (fun c_1 => ?_) (fun c_1 => ?_)
  · have h := if_t h c_1
    refine lv_iload_n hx hb dX12_youngOnes_38 rfl (lv_at hl 1 rfl) ?_
    obtain ⟨rfl, rfl⟩ := re_s h
    exact rti_ X I dX12_youngOnes_39
  · have h := if_f h c_1
    refine lv_iload_n hx hb dX12_youngOnes_14 rfl (lv_at hl 1 rfl) ?_
    refine lv_aload_n hx hb dX12_youngOnes_15 rfl (lv_at hl 0 rfl) ?_
    refine lv_iload_n hx hb dX12_youngOnes_16 rfl (lv_at hl 2 rfl) ?_
    obtain ⟨r_4, σ_3, hc_2, h⟩ := bi_of h
    refine cg_ (rV_ (nn := 1) (As := [.int x2]) (rest := [.int x1]) X xkM I (c_M_isYoung hc_2 H.size) gX12_youngOnes_X12_isYoung rfl ⟨rfl, rfl⟩ (by decide +kernel) ⟨Nat.le_of_ble_eq_true rfl, Nat.le_of_ble_eq_true rfl⟩ (by decide) shM_0 rfl rfl hl.1 rfl (Nat.le_of_ble_eq_true rfl) dX12_youngOnes_17) I (fun H locs I => ?_)
    refine lv_if_eq (tgt := 29) hx hb dX12_youngOnes_20 (by decide) (fun c_5 => ?_) (fun c_5 => ?_)
    · have h := if_t h c_5
      refine lv_iconst (v := 0) hx hb dX12_youngOnes_29 (by decide) ?_
      exact kM_youngOnes_30 X hk4 σ_3 x2 (0 : Int32) x1 H locs ls h I (lv_sub hl [0, 2] rfl)
    · have h := if_f h c_5
      refine lv_iconst (v := 1) hx hb dX12_youngOnes_23 (by decide) ?_
      refine lv_iload_n hx hb dX12_youngOnes_24 rfl (lv_at hl 2 rfl) ?_
      refine lv_ishl hx hb dX12_youngOnes_25 ?_
      refine lv_goto (tgt := 30) hx hb dX12_youngOnes_26 (by decide) ?_
      exact kM_youngOnes_30 X hk4 σ_3 x2 ((1 : Int32) <<< (x2 &&& 31)) x1 H locs ls h I (lv_sub hl [0, 2] rfl)
set_option maxRecDepth 100000 in
theorem kM_youngOnes_4L {p : Program} {l : Launch} {e : Env} {s : State} {m : MethodId} {args : Array Value} {below : List Frame} {meth : Method} {c : Code} {D : va_G} {cy : Nat → ClassId} {a : Nat → Nat} (X : cx_ cX12_youngOnes RX12 wsX12_youngOnes 3 (some .int) 16 a D cy xfM p s m args meth c)  {r0 : Int32} {σ' : Sg}  : ∀ (n : Nat), ∀ (σ : Sg) (x1 : Int32) (x2 : Int32) (H : Heap) (locs : List Loc) (ls : Array Slot), lp_ (M_youngOnes_4) (fun _ _ _ => none) n σ x1 x2 = some (r0, σ') → iv_ 16 a D (shM cy a σ) s H locs → lv_has ls 3 [(0, .ref (a 0)), (1, .int x1), (2, .int x2)] → W p l e ({ frames := 3, cells := 0, slots := 0, locals := 64 }) s m args below meth c H locs 0 0 (MQ below (qg_ 16 a D (shM cy a σ') (some (.int r0)) s.heap.size) args s 0 0 (fr_ 16 a s.heap.size)) (F0 m 4 ls []) := by
  intro n
  induction n with
  | zero =>
    intro _ _ _ _ _ _ h
    exact absurd h (fun q => by cases (show (none : Option _) = some _ from q))
  | succ n ih => exact kM_youngOnes_4 X ih

def M_youngOnes_0  (σ : Sg)  : Option (Int32 × Sg) :=
  lp_ M_youngOnes_4 (fun _ _ _ => none) FU σ (0 : Int32) (0 : Int32)
set_option maxRecDepth 100000 in
theorem kM_youngOnes_0 {p : Program} {l : Launch} {e : Env} {s : State} {m : MethodId} {args : Array Value} {below : List Frame} {meth : Method} {c : Code} {D : va_G} {cy : Nat → ClassId} {a : Nat → Nat} (X : cx_ cX12_youngOnes RX12 wsX12_youngOnes 3 (some .int) 16 a D cy xfM p s m args meth c)  {r0 : Int32} {σ' : Sg}  : ∀ (σ : Sg)  (H : Heap) (locs : List Loc) (ls : Array Slot), M_youngOnes_0 σ = some (r0, σ') → iv_ 16 a D (shM cy a σ) s H locs → lv_has ls 3 [(0, .ref (a 0))] → W p l e ({ frames := 3, cells := 0, slots := 0, locals := 64 }) s m args below meth c H locs 0 0 (MQ below (qg_ 16 a D (shM cy a σ') (some (.int r0)) s.heap.size) args s 0 0 (fr_ 16 a s.heap.size)) (F0 m 0 ls []) := by
  obtain ⟨hx, hb, hr, hml, hown, hts, hlk, hK, hA, hXf⟩ := id X
  intro σ  H locs ls h I hl
  unfold M_youngOnes_0 at h
  refine lv_iconst (v := 0) hx hb dX12_youngOnes_0 (by decide) ?_
  refine lv_istore_n (lv' := [(1, .int (0 : Int32)), (0, .ref (a 0))]) hx hb dX12_youngOnes_1 rfl hl (by decide) rfl (fun ls hl => ?_)
  refine lv_iconst (v := 0) hx hb dX12_youngOnes_2 (by decide) ?_
  refine lv_istore_n (lv' := [(2, .int (0 : Int32)), (1, .int (0 : Int32)), (0, .ref (a 0))]) hx hb dX12_youngOnes_3 rfl hl (by decide) rfl (fun ls hl => ?_)
  exact kM_youngOnes_4L X  FU σ (0 : Int32) (0 : Int32) H locs ls h I (lv_sub hl [2, 1, 0] rfl)
theorem c_M_youngOnes {l : Launch} {D : va_G} {cy : Nat → ClassId} {a : Nat → Nat} {σ : Sg}  {r0 : Int32} {σ' : Sg} (h : M_youngOnes_0 σ  = some (r0, σ')) (sz : Nat) : Met l yX12_youngOnes wsX12_youngOnes ({ frames := 3, cells := 0, slots := 0, locals := 64 }) (va_Pc [.ref (a 0)] (pr_ 16 a D cy (shM cy a σ) xfM sz)) (qg_ 16 a D (shM cy a σ') (some (.int r0)) sz) 0 0 (fr_ 16 a sz) := by
  refine ent_ (by decide) rfl (Nat.le_of_ble_eq_true rfl) ?_
  intro p e s m below meth c ls hsz X I hl
  subst hsz
  exact kM_youngOnes_0 X σ  s.heap [] ls h I hl

def M_vices_4 (k4 : Sg → Int32 → Int32 → Option (Int32 × Sg)) (σ : Sg) (x1 : Int32) (x2 : Int32) : Option (Int32 × Sg) :=
  if (8 : Int32) ≤ x2 then (some (x1, σ))
  else (lt_ (((8 : Int32) + x2)) fun y_2 =>
  gd_ (in_ y_2 64) (
  lt_ ((x1 + (rd_ σ 1 y_2.toNatClampNeg))) fun y_5 =>
  lt_ (x2 + (1 : Int32)) fun y_7 =>
  k4 σ y_5 y_7))
set_option maxRecDepth 100000 in
theorem kM_vices_4 {p : Program} {l : Launch} {e : Env} {s : State} {m : MethodId} {args : Array Value} {below : List Frame} {meth : Method} {c : Code} {D : va_G} {cy : Nat → ClassId} {a : Nat → Nat} (X : cx_ cX12_vices RX12 wsX12_vices 3 (some .int) 16 a D cy xfM p s m args meth c) {k4 : Sg → Int32 → Int32 → Option (Int32 × Sg)} {r0 : Int32} {σ' : Sg} (hk4 : ∀ (σ : Sg) (x1 : Int32) (x2 : Int32) (H : Heap) (locs : List Loc) (ls : Array Slot), k4 σ x1 x2 = some (r0, σ') → iv_ 16 a D (shM cy a σ) s H locs → lv_has ls 3 [(0, .ref (a 0)), (1, .int x1), (2, .int x2)] → W p l e ({ frames := 0, cells := 0, slots := 0, locals := 0 }) s m args below meth c H locs 0 0 (MQ below (qg_ 16 a D (shM cy a σ') (some (.int r0)) s.heap.size) args s 0 0 (fr_ 16 a s.heap.size)) (F0 m 4 ls [])) : ∀ (σ : Sg) (x1 : Int32) (x2 : Int32) (H : Heap) (locs : List Loc) (ls : Array Slot), M_vices_4 k4 σ x1 x2 = some (r0, σ') → iv_ 16 a D (shM cy a σ) s H locs → lv_has ls 3 [(0, .ref (a 0)), (1, .int x1), (2, .int x2)] → W p l e ({ frames := 0, cells := 0, slots := 0, locals := 0 }) s m args below meth c H locs 0 0 (MQ below (qg_ 16 a D (shM cy a σ') (some (.int r0)) s.heap.size) args s 0 0 (fr_ 16 a s.heap.size)) (F0 m 4 ls []) := by
  obtain ⟨hx, hb, hr, hml, hown, hts, hlk, hK, hA, hXf⟩ := id X
  intro σ x1 x2 H locs ls h I hl
  unfold M_vices_4 at h
  refine lv_iload_n hx hb dX12_vices_4 rfl (lv_at hl 2 rfl) ?_
  refine lv_bipush (v := 8) hx hb dX12_vices_5 (by decide) ?_
  refine lv_icmp_ge (tgt := 28) hx hb dX12_vices_7 (by decide) (fun c_1 => ?_) (fun c_1 => ?_)
  · have h := if_t h c_1
    refine lv_iload_n hx hb dX12_vices_28 rfl (lv_at hl 1 rfl) ?_
    obtain ⟨rfl, rfl⟩ := re_s h
    exact rti_ X I dX12_vices_29
  · have h := if_f h c_1
    refine lv_iload_n hx hb dX12_vices_10 rfl (lv_at hl 1 rfl) ?_
    refine lv_aload_n hx hb dX12_vices_11 rfl (lv_at hl 0 rfl) ?_
    refine ig_ (index := 7) X I (fun _ q => List.mem_cons_of_mem _ (List.mem_append_right _ q)) 0 (by decide) shM_0 rfl 0 (by decide) (by decide +kernel) rfl (v := .ref (a 1)) rfl dX12_vices_12 ?_
    refine lv_bipush (v := 8) hx hb dX12_vices_15 (by decide) ?_
    refine lv_iload_n hx hb dX12_vices_17 rfl (lv_at hl 2 rfl) ?_
    refine lv_iadd hx hb dX12_vices_18 ?_
    refine lv_topi (fun y_2 e_3 => ?_)
    have h := lt_at h e_3
    obtain ⟨g_4, h⟩ := gd_of h
    refine ia_ X I 1 (by decide) shM_1 (in_of g_4) (v0 := rd_ σ 1 y_2.toNatClampNeg) rfl dX12_vices_19 ?_
    refine lv_iadd hx hb dX12_vices_20 ?_
    refine lv_topi (fun y_5 e_6 => ?_)
    have h := lt_at h e_6
    refine lv_istore_n (lv' := [(1, .int y_5), (0, .ref (a 0)), (2, .int x2)]) hx hb dX12_vices_21 rfl hl (by decide) rfl (fun ls hl => ?_)
    obtain ⟨y_7, e_8⟩ : ∃ q : Int32, q = x2 + (1 : Int32) := ⟨_, rfl⟩
    have h := lt_at h e_8
    refine lv_iinc (v := y_7) (lv' := [(2, .int y_7), (1, .int y_5), (0, .ref (a 0))]) hx hb dX12_vices_22 hl (k := 2) rfl (by rw [e_8]; rfl) (by decide) rfl (fun ls hl => ?_)
    refine lv_goto (tgt := 4) hx hb dX12_vices_25 (by decide) ?_
    exact hk4 σ y_5 y_7 H locs ls h I (lv_sub hl [2, 1, 0] rfl)
set_option maxRecDepth 100000 in
theorem kM_vices_4L {p : Program} {l : Launch} {e : Env} {s : State} {m : MethodId} {args : Array Value} {below : List Frame} {meth : Method} {c : Code} {D : va_G} {cy : Nat → ClassId} {a : Nat → Nat} (X : cx_ cX12_vices RX12 wsX12_vices 3 (some .int) 16 a D cy xfM p s m args meth c)  {r0 : Int32} {σ' : Sg}  : ∀ (n : Nat), ∀ (σ : Sg) (x1 : Int32) (x2 : Int32) (H : Heap) (locs : List Loc) (ls : Array Slot), lp_ (M_vices_4) (fun _ _ _ => none) n σ x1 x2 = some (r0, σ') → iv_ 16 a D (shM cy a σ) s H locs → lv_has ls 3 [(0, .ref (a 0)), (1, .int x1), (2, .int x2)] → W p l e ({ frames := 0, cells := 0, slots := 0, locals := 0 }) s m args below meth c H locs 0 0 (MQ below (qg_ 16 a D (shM cy a σ') (some (.int r0)) s.heap.size) args s 0 0 (fr_ 16 a s.heap.size)) (F0 m 4 ls []) := by
  intro n
  induction n with
  | zero =>
    intro _ _ _ _ _ _ h
    exact absurd h (fun q => by cases (show (none : Option _) = some _ from q))
  | succ n ih => exact kM_vices_4 X ih

def M_vices_0  (σ : Sg)  : Option (Int32 × Sg) :=
  lp_ M_vices_4 (fun _ _ _ => none) FU σ (0 : Int32) (0 : Int32)
set_option maxRecDepth 100000 in
theorem kM_vices_0 {p : Program} {l : Launch} {e : Env} {s : State} {m : MethodId} {args : Array Value} {below : List Frame} {meth : Method} {c : Code} {D : va_G} {cy : Nat → ClassId} {a : Nat → Nat} (X : cx_ cX12_vices RX12 wsX12_vices 3 (some .int) 16 a D cy xfM p s m args meth c)  {r0 : Int32} {σ' : Sg}  : ∀ (σ : Sg)  (H : Heap) (locs : List Loc) (ls : Array Slot), M_vices_0 σ = some (r0, σ') → iv_ 16 a D (shM cy a σ) s H locs → lv_has ls 3 [(0, .ref (a 0))] → W p l e ({ frames := 0, cells := 0, slots := 0, locals := 0 }) s m args below meth c H locs 0 0 (MQ below (qg_ 16 a D (shM cy a σ') (some (.int r0)) s.heap.size) args s 0 0 (fr_ 16 a s.heap.size)) (F0 m 0 ls []) := by
  obtain ⟨hx, hb, hr, hml, hown, hts, hlk, hK, hA, hXf⟩ := id X
  intro σ  H locs ls h I hl
  unfold M_vices_0 at h
  refine lv_iconst (v := 0) hx hb dX12_vices_0 (by decide) ?_
  refine lv_istore_n (lv' := [(1, .int (0 : Int32)), (0, .ref (a 0))]) hx hb dX12_vices_1 rfl hl (by decide) rfl (fun ls hl => ?_)
  refine lv_iconst (v := 0) hx hb dX12_vices_2 (by decide) ?_
  refine lv_istore_n (lv' := [(2, .int (0 : Int32)), (1, .int (0 : Int32)), (0, .ref (a 0))]) hx hb dX12_vices_3 rfl hl (by decide) rfl (fun ls hl => ?_)
  exact kM_vices_4L X  FU σ (0 : Int32) (0 : Int32) H locs ls h I (lv_sub hl [2, 1, 0] rfl)
theorem c_M_vices {l : Launch} {D : va_G} {cy : Nat → ClassId} {a : Nat → Nat} {σ : Sg}  {r0 : Int32} {σ' : Sg} (h : M_vices_0 σ  = some (r0, σ')) (sz : Nat) : Met l yX12_vices wsX12_vices ({ frames := 0, cells := 0, slots := 0, locals := 0 }) (va_Pc [.ref (a 0)] (pr_ 16 a D cy (shM cy a σ) xfM sz)) (qg_ 16 a D (shM cy a σ') (some (.int r0)) sz) 0 0 (fr_ 16 a sz) := by
  refine ent_ (by decide) rfl (Nat.le_of_ble_eq_true rfl) ?_
  intro p e s m below meth c ls hsz X I hl
  subst hsz
  exact kM_vices_0 X σ  s.heap [] ls h I hl

def M_state_0  (σ : Sg) (x1 : Int32) : Option (Int32 × Sg) :=
  if x1 = 0 then (some ((rd_ σ 1 1), σ))
  else (if x1 = 1 then (bi_ (M_traits_0 σ) fun r_5 σ_4 =>
  some (r_5, σ_4))
  else (if x1 = 2 then (bi_ (M_farAll_0 σ) fun r_9 σ_8 =>
  some (r_9, σ_8))
  else (if x1 = 3 then (bi_ (M_youngOnes_0 σ) fun r_13 σ_12 =>
  some (((((1 : Int32) <<< ((rd_ σ 1 0) &&& 31)) - (1 : Int32)) &&& (r_13 ^^^ (-1 : Int32))), σ_12))
  else (if x1 = 4 then (some ((rd_ σ 1 7), σ))
  else (if x1 = 5 then (bi_ (M_vices_0 σ) fun r_18 σ_17 =>
  some (r_18, σ_17))
  else (some ((-1 : Int32), σ)))))))
set_option maxRecDepth 100000 in
theorem kM_state_0 {p : Program} {l : Launch} {e : Env} {s : State} {m : MethodId} {args : Array Value} {below : List Frame} {meth : Method} {c : Code} {D : va_G} {cy : Nat → ClassId} {a : Nat → Nat} (X : cx_ cX12_state RX12 wsX12_state 2 (some .int) 16 a D cy xfM p s m args meth c)  {r0 : Int32} {σ' : Sg}  : ∀ (σ : Sg) (x1 : Int32) (H : Heap) (locs : List Loc) (ls : Array Slot), M_state_0 σ x1 = some (r0, σ') → iv_ 16 a D (shM cy a σ) s H locs → lv_has ls 2 [(0, .ref (a 0)), (1, .int x1)] → W p l e ({ frames := 4, cells := 0, slots := 0, locals := 86 }) s m args below meth c H locs 0 0 (MQ below (qg_ 16 a D (shM cy a σ') (some (.int r0)) s.heap.size) args s 0 0 (fr_ 16 a s.heap.size)) (F0 m 0 ls []) := by
  obtain ⟨hx, hb, hr, hml, hown, hts, hlk, hK, hA, hXf⟩ := id X
  intro σ x1 H locs ls h I hl
  unfold M_state_0 at h
  refine lv_iload_n hx hb dX12_state_0 rfl (lv_at hl 1 rfl) ?_
  by_cases c_1 : x1 = 0
  · have h := if_t h c_1
    refine lv_tableIn (tgt := 40) (off := 39) hx hb dX12_state_1 (by rw [c_1]; decide) (by rw [c_1]; decide) (by rw [c_1]; decide) (by decide) ?_
    refine lv_aload_n hx hb dX12_state_40 rfl (lv_at hl 0 rfl) ?_
    refine ig_ (index := 7) X I (fun _ q => List.mem_cons_of_mem _ (List.mem_append_right _ q)) 0 (by decide) shM_0 rfl 0 (by decide) (by decide +kernel) rfl (v := .ref (a 1)) rfl dX12_state_41 ?_
    refine lv_iconst (v := 1) hx hb dX12_state_44 (by decide) ?_
    refine ia_ X I 1 (by decide) shM_1 (in_of (by decide)) (v0 := rd_ σ 1 1) rfl dX12_state_45 ?_
    obtain ⟨rfl, rfl⟩ := re_s h
    exact rti_ X I dX12_state_46
  · have h := if_f h c_1
    by_cases c_2 : x1 = 1
    · have h := if_t h c_2
      refine lv_tableIn (tgt := 47) (off := 46) hx hb dX12_state_1 (by rw [c_2]; decide) (by rw [c_2]; decide) (by rw [c_2]; decide) (by decide) ?_
      refine lv_aload_n hx hb dX12_state_47 rfl (lv_at hl 0 rfl) ?_
      obtain ⟨r_5, σ_4, hc_3, h⟩ := bi_of h
      refine cg_ (rV_ (nn := 0) (As := []) (rest := []) X xkM I (c_M_traits hc_3 H.size) gX12_state_X12_traits rfl ⟨rfl, rfl⟩ (by decide +kernel) ⟨Nat.le_of_ble_eq_true rfl, Nat.le_of_ble_eq_true rfl⟩ (by decide) shM_0 rfl rfl hl.1 rfl (Nat.le_of_ble_eq_true rfl) dX12_state_48) I (fun H locs I => ?_)
      obtain ⟨rfl, rfl⟩ := re_s h
      exact rti_ X I dX12_state_51
    · have h := if_f h c_2
      by_cases c_6 : x1 = 2
      · have h := if_t h c_6
        refine lv_tableIn (tgt := 52) (off := 51) hx hb dX12_state_1 (by rw [c_6]; decide) (by rw [c_6]; decide) (by rw [c_6]; decide) (by decide) ?_
        refine lv_aload_n hx hb dX12_state_52 rfl (lv_at hl 0 rfl) ?_
        obtain ⟨r_9, σ_8, hc_7, h⟩ := bi_of h
        refine cg_ (rV_ (nn := 0) (As := []) (rest := []) X xkM I (c_M_farAll hc_7 H.size) gX12_state_X12_farAll rfl ⟨rfl, rfl⟩ (by decide +kernel) ⟨Nat.le_of_ble_eq_true rfl, Nat.le_of_ble_eq_true rfl⟩ (by decide) shM_0 rfl rfl hl.1 rfl (Nat.le_of_ble_eq_true rfl) dX12_state_53) I (fun H locs I => ?_)
        obtain ⟨rfl, rfl⟩ := re_s h
        exact rti_ X I dX12_state_56
      · have h := if_f h c_6
        by_cases c_10 : x1 = 3
        · have h := if_t h c_10
          refine lv_tableIn (tgt := 57) (off := 56) hx hb dX12_state_1 (by rw [c_10]; decide) (by rw [c_10]; decide) (by rw [c_10]; decide) (by decide) ?_
          refine lv_iconst (v := 1) hx hb dX12_state_57 (by decide) ?_
          refine lv_aload_n hx hb dX12_state_58 rfl (lv_at hl 0 rfl) ?_
          refine ig_ (index := 7) X I (fun _ q => List.mem_cons_of_mem _ (List.mem_append_right _ q)) 0 (by decide) shM_0 rfl 0 (by decide) (by decide +kernel) rfl (v := .ref (a 1)) rfl dX12_state_59 ?_
          refine lv_iconst (v := 0) hx hb dX12_state_62 (by decide) ?_
          refine ia_ X I 1 (by decide) shM_1 (in_of (by decide)) (v0 := rd_ σ 1 0) rfl dX12_state_63 ?_
          refine lv_ishl hx hb dX12_state_64 ?_
          refine lv_iconst (v := 1) hx hb dX12_state_65 (by decide) ?_
          refine lv_isub hx hb dX12_state_66 ?_
          refine lv_aload_n hx hb dX12_state_67 rfl (lv_at hl 0 rfl) ?_
          obtain ⟨r_13, σ_12, hc_11, h⟩ := bi_of h
          refine cg_ (rV_ (nn := 0) (As := []) (rest := [.int (((1 : Int32) <<< ((rd_ σ 1 0) &&& 31)) - (1 : Int32))]) X xkM I (c_M_youngOnes hc_11 H.size) gX12_state_X12_youngOnes rfl ⟨rfl, rfl⟩ (by decide +kernel) ⟨Nat.le_of_ble_eq_true rfl, Nat.le_of_ble_eq_true rfl⟩ (by decide) shM_0 rfl rfl hl.1 rfl (Nat.le_of_ble_eq_true rfl) dX12_state_68) I (fun H locs I => ?_)
          refine lv_iconst (v := (-1)) hx hb dX12_state_71 (by decide) ?_
          refine lv_ixor hx hb dX12_state_72 ?_
          refine lv_iand hx hb dX12_state_73 ?_
          obtain ⟨rfl, rfl⟩ := re_s h
          exact rti_ X I dX12_state_74
        · have h := if_f h c_10
          by_cases c_14 : x1 = 4
          · have h := if_t h c_14
            refine lv_tableIn (tgt := 75) (off := 74) hx hb dX12_state_1 (by rw [c_14]; decide) (by rw [c_14]; decide) (by rw [c_14]; decide) (by decide) ?_
            refine lv_aload_n hx hb dX12_state_75 rfl (lv_at hl 0 rfl) ?_
            refine ig_ (index := 7) X I (fun _ q => List.mem_cons_of_mem _ (List.mem_append_right _ q)) 0 (by decide) shM_0 rfl 0 (by decide) (by decide +kernel) rfl (v := .ref (a 1)) rfl dX12_state_76 ?_
            refine lv_bipush (v := 7) hx hb dX12_state_79 (by decide) ?_
            refine ia_ X I 1 (by decide) shM_1 (in_of (by decide)) (v0 := rd_ σ 1 7) rfl dX12_state_81 ?_
            obtain ⟨rfl, rfl⟩ := re_s h
            exact rti_ X I dX12_state_82
          · have h := if_f h c_14
            by_cases c_15 : x1 = 5
            · have h := if_t h c_15
              refine lv_tableIn (tgt := 83) (off := 82) hx hb dX12_state_1 (by rw [c_15]; decide) (by rw [c_15]; decide) (by rw [c_15]; decide) (by decide) ?_
              refine lv_aload_n hx hb dX12_state_83 rfl (lv_at hl 0 rfl) ?_
              obtain ⟨r_18, σ_17, hc_16, h⟩ := bi_of h
              refine cg_ (rV_ (nn := 0) (As := []) (rest := []) X xkM I (c_M_vices hc_16 H.size) gX12_state_X12_vices rfl ⟨rfl, rfl⟩ (by decide +kernel) ⟨Nat.le_of_ble_eq_true rfl, Nat.le_of_ble_eq_true rfl⟩ (by decide) shM_0 rfl rfl hl.1 rfl (Nat.le_of_ble_eq_true rfl) dX12_state_84) I (fun H locs I => ?_)
              obtain ⟨rfl, rfl⟩ := re_s h
              exact rti_ X I dX12_state_87
            · have h := if_f h c_15
              refine lv_tableOut (tgt := 88) hx hb dX12_state_1 (by have q0 := lv_neT (a := 0) c_1 rfl; have q1 := lv_neT (a := 1) c_2 rfl; have q2 := lv_neT (a := 2) c_6 rfl; have q3 := lv_neT (a := 3) c_10 rfl; have q4 := lv_neT (a := 4) c_14 rfl; have q5 := lv_neT (a := 5) c_15 rfl; omega) (by decide) ?_
              refine lv_iconst (v := (-1)) hx hb dX12_state_88 (by decide) ?_
              obtain ⟨rfl, rfl⟩ := re_s h
              exact rti_ X I dX12_state_89
theorem c_M_state {l : Launch} {D : va_G} {cy : Nat → ClassId} {a : Nat → Nat} {σ : Sg} {x1 : Int32} {r0 : Int32} {σ' : Sg} (h : M_state_0 σ x1 = some (r0, σ')) (sz : Nat) : Met l yX12_state wsX12_state ({ frames := 4, cells := 0, slots := 0, locals := 86 }) (va_Pc [.ref (a 0), .int x1] (pr_ 16 a D cy (shM cy a σ) xfM sz)) (qg_ 16 a D (shM cy a σ') (some (.int r0)) sz) 0 0 (fr_ 16 a sz) := by
  refine ent_ (by decide) rfl (Nat.le_of_ble_eq_true rfl) ?_
  intro p e s m below meth c ls hsz X I hl
  subst hsz
  exact kM_state_0 X σ x1 s.heap [] ls h I hl

def M_becomes_0  (σ : Sg) (x1 : Int32) (x2 : Int32) : Option (Int32 × Sg) :=
  bi_ (M_isOne_0 σ x1) fun r_3 σ_2 =>
  if r_3 = 0 then (some ((-1 : Int32), σ_2))
  else (bp_ (M_isIn_0 (x2).toInt64 (0 : Int64) (60 : Int64)) fun r_6 =>
  if r_6 = 0 then (some ((-1 : Int32), σ_2))
  else (bi_ (M_copyRow_1_3_0 σ_2) fun _ σ_9 =>
  bi_ (M_goes_0 σ_9 x2) fun _ σ_11 =>
  bi_ (M_its_0 σ_11 x1 (1 : Int32)) fun r_14 σ_13 =>
  bi_ (M_copyRow_3_1_0 σ_13) fun _ σ_16 =>
  some (r_14, σ_16)))
set_option maxRecDepth 100000 in
theorem kM_becomes_0 {p : Program} {l : Launch} {e : Env} {s : State} {m : MethodId} {args : Array Value} {below : List Frame} {meth : Method} {c : Code} {D : va_G} {cy : Nat → ClassId} {a : Nat → Nat} (X : cx_ cX12_becomes RX12 wsX12_becomes 4 (some .int) 16 a D cy xfM p s m args meth c)  {r0 : Int32} {σ' : Sg}  : ∀ (σ : Sg) (x1 : Int32) (x2 : Int32) (H : Heap) (locs : List Loc) (ls : Array Slot), M_becomes_0 σ x1 x2 = some (r0, σ') → iv_ 16 a D (shM cy a σ) s H locs → lv_has ls 4 [(0, .ref (a 0)), (1, .int x1), (2, .int x2)] → W p l e ({ frames := 5, cells := 0, slots := 0, locals := 111 }) s m args below meth c H locs 0 0 (MQ below (qg_ 16 a D (shM cy a σ') (some (.int r0)) s.heap.size) args s 0 0 (fr_ 16 a s.heap.size)) (F0 m 0 ls []) := by
  obtain ⟨hx, hb, hr, hml, hown, hts, hlk, hK, hA, hXf⟩ := id X
  intro σ x1 x2 H locs ls h I hl
  unfold M_becomes_0 at h
  refine lv_aload_n hx hb dX12_becomes_0 rfl (lv_at hl 0 rfl) ?_
  refine lv_iload_n hx hb dX12_becomes_1 rfl (lv_at hl 1 rfl) ?_
  obtain ⟨r_3, σ_2, hc_1, h⟩ := bi_of h
  refine cg_ (rV_ (nn := 1) (As := [.int x1]) (rest := []) X xkM I (c_M_isOne hc_1 H.size) gX12_becomes_X12_isOne rfl ⟨rfl, rfl⟩ (by decide +kernel) ⟨Nat.le_of_ble_eq_true rfl, Nat.le_of_ble_eq_true rfl⟩ (by decide) shM_0 rfl rfl hl.1 rfl (Nat.le_of_ble_eq_true rfl) dX12_becomes_2) I (fun H locs I => ?_)
  refine lv_if_eq (tgt := 20) hx hb dX12_becomes_5 (by decide) (fun c_4 => ?_) (fun c_4 => ?_)
  · have h := if_t h c_4
    refine lv_iconst (v := (-1)) hx hb dX12_becomes_20 (by decide) ?_
    obtain ⟨rfl, rfl⟩ := re_s h
    exact rti_ X I dX12_becomes_21
  · have h := if_f h c_4
    refine lv_iload_n hx hb dX12_becomes_8 rfl (lv_at hl 2 rfl) ?_
    refine lv_i2l hx hb dX12_becomes_9 rfl ?_
    refine lv_lconst (v := 0) hx hb dX12_becomes_10 (by decide) ?_
    refine lv_ldc2 (v := 60) hx hb hown (hts (.constantLong RX12 217 (60)) (by decide +kernel)) dX12_becomes_11 ?_
    obtain ⟨r_6, hc_5, h⟩ := bp_of h
    refine cp_ (rP_ (nn := 3) (As := [.long (x2).toInt64, .long (0 : Int64), .long (60 : Int64)]) (rest := []) ⟨hx, hb, hml, hown, hts⟩ (c_M_isIn hc_5) gX12_becomes_X12_isIn rfl ⟨rfl, rfl⟩ (by decide +kernel) ⟨Nat.le_of_ble_eq_true rfl, Nat.le_of_ble_eq_true rfl⟩ rfl hl.1 rfl (Nat.le_of_ble_eq_true rfl) dX12_becomes_14 ⟨Nat.zero_le _, Nat.zero_le _⟩) ?_
    refine lv_if_ne (tgt := 22) hx hb dX12_becomes_17 (by decide) (fun c_7 => ?_) (fun c_7 => ?_)
    · have h := if_f h c_7
      refine lv_aload_n hx hb dX12_becomes_22 rfl (lv_at hl 0 rfl) ?_
      refine ig_ (index := 7) X I (fun _ q => List.mem_cons_of_mem _ (List.mem_append_right _ q)) 0 (by decide) shM_0 rfl 0 (by decide) (by decide +kernel) rfl (v := .ref (a 1)) rfl dX12_becomes_23 ?_
      refine lv_aload_n hx hb dX12_becomes_26 rfl (lv_at hl 0 rfl) ?_
      refine ig_ (index := 16) X I (fun _ q => List.mem_cons_of_mem _ (List.mem_append_right _ q)) 0 (by decide) shM_0 rfl 2 (by decide) (by decide +kernel) rfl (v := .ref (a 3)) rfl dX12_becomes_27 ?_
      obtain ⟨_, σ_9, hc_8, h⟩ := bi_of h
      refine cv_ (rS_ (nn := 2) (As := [.ref (a 1), .ref (a 3)]) (rest := []) X xkM I (c_M_copyRow_1_3 hc_8 H.size) gX12_becomes_X12_copyRow rfl ⟨rfl, rfl⟩ (by decide +kernel) ⟨Nat.le_of_ble_eq_true rfl, Nat.le_of_ble_eq_true rfl⟩ rfl hl.1 rfl (Nat.le_of_ble_eq_true rfl) dX12_becomes_30) I (fun H locs I => ?_)
      refine lv_aload_n hx hb dX12_becomes_33 rfl (lv_at hl 0 rfl) ?_
      refine lv_iload_n hx hb dX12_becomes_34 rfl (lv_at hl 2 rfl) ?_
      obtain ⟨_, σ_11, hc_10, h⟩ := bi_of h
      refine cv_ (rV_ (nn := 1) (As := [.int x2]) (rest := []) X xkM I (c_M_goes hc_10 H.size) gX12_becomes_X12_goes rfl ⟨rfl, rfl⟩ (by decide +kernel) ⟨Nat.le_of_ble_eq_true rfl, Nat.le_of_ble_eq_true rfl⟩ (by decide) shM_0 rfl rfl hl.1 rfl (Nat.le_of_ble_eq_true rfl) dX12_becomes_35) I (fun H locs I => ?_)
      refine lv_aload_n hx hb dX12_becomes_38 rfl (lv_at hl 0 rfl) ?_
      refine lv_iload_n hx hb dX12_becomes_39 rfl (lv_at hl 1 rfl) ?_
      refine lv_iconst (v := 1) hx hb dX12_becomes_40 (by decide) ?_
      obtain ⟨r_14, σ_13, hc_12, h⟩ := bi_of h
      refine cg_ (rV_ (nn := 2) (As := [.int x1, .int (1 : Int32)]) (rest := []) X xkM I (c_M_its hc_12 H.size) gX12_becomes_X12_its rfl ⟨rfl, rfl⟩ (by decide +kernel) ⟨Nat.le_of_ble_eq_true rfl, Nat.le_of_ble_eq_true rfl⟩ (by decide) shM_0 rfl rfl hl.1 rfl (Nat.le_of_ble_eq_true rfl) dX12_becomes_41) I (fun H locs I => ?_)
      refine lv_istore_n (lv' := [(3, .int r_14), (0, .ref (a 0)), (1, .int x1), (2, .int x2)]) hx hb dX12_becomes_44 rfl hl (by decide) rfl (fun ls hl => ?_)
      refine lv_aload_n hx hb dX12_becomes_45 rfl (lv_at hl 1 rfl) ?_
      refine ig_ (index := 16) X I (fun _ q => List.mem_cons_of_mem _ (List.mem_append_right _ q)) 0 (by decide) shM_0 rfl 2 (by decide) (by decide +kernel) rfl (v := .ref (a 3)) rfl dX12_becomes_46 ?_
      refine lv_aload_n hx hb dX12_becomes_49 rfl (lv_at hl 1 rfl) ?_
      refine ig_ (index := 7) X I (fun _ q => List.mem_cons_of_mem _ (List.mem_append_right _ q)) 0 (by decide) shM_0 rfl 0 (by decide) (by decide +kernel) rfl (v := .ref (a 1)) rfl dX12_becomes_50 ?_
      obtain ⟨_, σ_16, hc_15, h⟩ := bi_of h
      refine cv_ (rS_ (nn := 2) (As := [.ref (a 3), .ref (a 1)]) (rest := []) X xkM I (c_M_copyRow_3_1 hc_15 H.size) gX12_becomes_X12_copyRow rfl ⟨rfl, rfl⟩ (by decide +kernel) ⟨Nat.le_of_ble_eq_true rfl, Nat.le_of_ble_eq_true rfl⟩ rfl hl.1 rfl (Nat.le_of_ble_eq_true rfl) dX12_becomes_53) I (fun H locs I => ?_)
      refine lv_iload_n hx hb dX12_becomes_56 rfl (lv_at hl 0 rfl) ?_
      obtain ⟨rfl, rfl⟩ := re_s h
      exact rti_ X I dX12_becomes_57
    · have h := if_t h c_7
      refine lv_iconst (v := (-1)) hx hb dX12_becomes_20 (by decide) ?_
      obtain ⟨rfl, rfl⟩ := re_s h
      exact rti_ X I dX12_becomes_21
theorem c_M_becomes {l : Launch} {D : va_G} {cy : Nat → ClassId} {a : Nat → Nat} {σ : Sg} {x1 : Int32} {x2 : Int32} {r0 : Int32} {σ' : Sg} (h : M_becomes_0 σ x1 x2 = some (r0, σ')) (sz : Nat) : Met l yX12_becomes wsX12_becomes ({ frames := 5, cells := 0, slots := 0, locals := 111 }) (va_Pc [.ref (a 0), .int x1, .int x2] (pr_ 16 a D cy (shM cy a σ) xfM sz)) (qg_ 16 a D (shM cy a σ') (some (.int r0)) sz) 0 0 (fr_ 16 a sz) := by
  refine ent_ (by decide) rfl (Nat.le_of_ble_eq_true rfl) ?_
  intro p e s m below meth c ls hsz X I hl
  subst hsz
  exact kM_becomes_0 X σ x1 x2 s.heap [] ls h I hl

def M_suited_53  (σ : Sg) (x2 : Int32) : Option (Int32 × Sg) :=
  bi_ (M_copyRow_3_1_0 σ) fun _ σ_2 =>
  if (60 : Int32) < x2 then (some ((-3 : Int32), σ_2))
  else (some (x2, σ_2))
set_option maxRecDepth 100000 in
theorem kM_suited_53 {p : Program} {l : Launch} {e : Env} {s : State} {m : MethodId} {args : Array Value} {below : List Frame} {meth : Method} {c : Code} {D : va_G} {cy : Nat → ClassId} {a : Nat → Nat} (X : cx_ cX12_suited RX12 wsX12_suited 3 (some .int) 16 a D cy xfM p s m args meth c)  {r0 : Int32} {σ' : Sg}  : ∀ (σ : Sg) (x2 : Int32) (H : Heap) (locs : List Loc) (ls : Array Slot), M_suited_53 σ x2 = some (r0, σ') → iv_ 16 a D (shM cy a σ) s H locs → lv_has ls 3 [(0, .ref (a 0)), (2, .int x2)] → W p l e ({ frames := 4, cells := 0, slots := 0, locals := 89 }) s m args below meth c H locs 0 0 (MQ below (qg_ 16 a D (shM cy a σ') (some (.int r0)) s.heap.size) args s 0 0 (fr_ 16 a s.heap.size)) (F0 m 53 ls []) := by
  obtain ⟨hx, hb, hr, hml, hown, hts, hlk, hK, hA, hXf⟩ := id X
  intro σ x2 H locs ls h I hl
  unfold M_suited_53 at h
  refine lv_aload_n hx hb dX12_suited_53 rfl (lv_at hl 0 rfl) ?_
  refine ig_ (index := 16) X I (fun _ q => List.mem_cons_of_mem _ (List.mem_append_right _ q)) 0 (by decide) shM_0 rfl 2 (by decide) (by decide +kernel) rfl (v := .ref (a 3)) rfl dX12_suited_54 ?_
  refine lv_aload_n hx hb dX12_suited_57 rfl (lv_at hl 0 rfl) ?_
  refine ig_ (index := 7) X I (fun _ q => List.mem_cons_of_mem _ (List.mem_append_right _ q)) 0 (by decide) shM_0 rfl 0 (by decide) (by decide +kernel) rfl (v := .ref (a 1)) rfl dX12_suited_58 ?_
  obtain ⟨_, σ_2, hc_1, h⟩ := bi_of h
  refine cv_ (rS_ (nn := 2) (As := [.ref (a 3), .ref (a 1)]) (rest := []) X xkM I (c_M_copyRow_3_1 hc_1 H.size) gX12_suited_X12_copyRow rfl ⟨rfl, rfl⟩ (by decide +kernel) ⟨Nat.le_of_ble_eq_true rfl, Nat.le_of_ble_eq_true rfl⟩ rfl hl.1 rfl (Nat.le_of_ble_eq_true rfl) dX12_suited_61) I (fun H locs I => ?_)
  refine lv_iload_n hx hb dX12_suited_64 rfl (lv_at hl 1 rfl) ?_
  refine lv_bipush (v := 60) hx hb dX12_suited_65 (by decide) ?_
  refine lv_icmp_gt (tgt := 74) hx hb dX12_suited_67 (by decide) (fun c_3 => ?_) (fun c_3 => ?_)
  · have h := if_t h c_3
    refine lv_bipush (v := (-3)) hx hb dX12_suited_74 (by decide) ?_
    obtain ⟨rfl, rfl⟩ := re_s h
    exact rti_ X I dX12_suited_76
  · have h := if_f h c_3
    refine lv_iload_n hx hb dX12_suited_70 rfl (lv_at hl 1 rfl) ?_
    refine lv_goto (tgt := 76) hx hb dX12_suited_71 (by decide) ?_
    obtain ⟨rfl, rfl⟩ := re_s h
    exact rti_ X I dX12_suited_76
def M_suited_23 (k23 : Sg → Int32 → Int32 → Option (Int32 × Sg)) (σ : Sg) (x1 : Int32) (x2 : Int32) : Option (Int32 × Sg) :=
  if (60 : Int32) < x2 then (M_suited_53 σ x2)
  else (bi_ (M_farNow_0 σ x1) fun r_4 σ_3 =>
  if r_4 ≤ (rd_ σ_3 1 5) then (M_suited_53 σ_3 x2)
  else (bi_ (M_goesOn_0 σ_3) fun _ σ_7 =>
  lt_ (x2 + (1 : Int32)) fun y_8 =>
  k23 σ_7 x1 y_8))
set_option maxRecDepth 100000 in
theorem kM_suited_23 {p : Program} {l : Launch} {e : Env} {s : State} {m : MethodId} {args : Array Value} {below : List Frame} {meth : Method} {c : Code} {D : va_G} {cy : Nat → ClassId} {a : Nat → Nat} (X : cx_ cX12_suited RX12 wsX12_suited 3 (some .int) 16 a D cy xfM p s m args meth c) {k23 : Sg → Int32 → Int32 → Option (Int32 × Sg)} {r0 : Int32} {σ' : Sg} (hk23 : ∀ (σ : Sg) (x1 : Int32) (x2 : Int32) (H : Heap) (locs : List Loc) (ls : Array Slot), k23 σ x1 x2 = some (r0, σ') → iv_ 16 a D (shM cy a σ) s H locs → lv_has ls 3 [(0, .ref (a 0)), (1, .int x1), (2, .int x2)] → W p l e ({ frames := 4, cells := 0, slots := 0, locals := 89 }) s m args below meth c H locs 0 0 (MQ below (qg_ 16 a D (shM cy a σ') (some (.int r0)) s.heap.size) args s 0 0 (fr_ 16 a s.heap.size)) (F0 m 23 ls [])) : ∀ (σ : Sg) (x1 : Int32) (x2 : Int32) (H : Heap) (locs : List Loc) (ls : Array Slot), M_suited_23 k23 σ x1 x2 = some (r0, σ') → iv_ 16 a D (shM cy a σ) s H locs → lv_has ls 3 [(0, .ref (a 0)), (1, .int x1), (2, .int x2)] → W p l e ({ frames := 4, cells := 0, slots := 0, locals := 89 }) s m args below meth c H locs 0 0 (MQ below (qg_ 16 a D (shM cy a σ') (some (.int r0)) s.heap.size) args s 0 0 (fr_ 16 a s.heap.size)) (F0 m 23 ls []) := by
  obtain ⟨hx, hb, hr, hml, hown, hts, hlk, hK, hA, hXf⟩ := id X
  intro σ x1 x2 H locs ls h I hl
  unfold M_suited_23 at h
  refine lv_iload_n hx hb dX12_suited_23 rfl (lv_at hl 2 rfl) ?_
  refine lv_bipush (v := 60) hx hb dX12_suited_24 (by decide) ?_
  refine lv_icmp_gt (tgt := 53) hx hb dX12_suited_26 (by decide) (fun c_1 => ?_) (fun c_1 => ?_)
  · have h := if_t h c_1
    exact kM_suited_53 X  σ x2 H locs ls h I (lv_sub hl [0, 2] rfl)
  · have h := if_f h c_1
    refine lv_aload_n hx hb dX12_suited_29 rfl (lv_at hl 0 rfl) ?_
    refine lv_iload_n hx hb dX12_suited_30 rfl (lv_at hl 1 rfl) ?_
    obtain ⟨r_4, σ_3, hc_2, h⟩ := bi_of h
    refine cg_ (rV_ (nn := 1) (As := [.int x1]) (rest := []) X xkM I (c_M_farNow hc_2 H.size) gX12_suited_X12_farNow rfl ⟨rfl, rfl⟩ (by decide +kernel) ⟨Nat.le_of_ble_eq_true rfl, Nat.le_of_ble_eq_true rfl⟩ (by decide) shM_0 rfl rfl hl.1 rfl (Nat.le_of_ble_eq_true rfl) dX12_suited_31) I (fun H locs I => ?_)
    refine lv_aload_n hx hb dX12_suited_34 rfl (lv_at hl 0 rfl) ?_
    refine ig_ (index := 7) X I (fun _ q => List.mem_cons_of_mem _ (List.mem_append_right _ q)) 0 (by decide) shM_0 rfl 0 (by decide) (by decide +kernel) rfl (v := .ref (a 1)) rfl dX12_suited_35 ?_
    refine lv_iconst (v := 5) hx hb dX12_suited_38 (by decide) ?_
    refine ia_ X I 1 (by decide) shM_1 (in_of (by decide)) (v0 := rd_ σ_3 1 5) rfl dX12_suited_39 ?_
    refine lv_icmp_le (tgt := 53) hx hb dX12_suited_40 (by decide) (fun c_5 => ?_) (fun c_5 => ?_)
    · have h := if_t h c_5
      exact kM_suited_53 X  σ_3 x2 H locs ls h I (lv_sub hl [0, 2] rfl)
    · have h := if_f h c_5
      refine lv_aload_n hx hb dX12_suited_43 rfl (lv_at hl 0 rfl) ?_
      obtain ⟨_, σ_7, hc_6, h⟩ := bi_of h
      refine cv_ (rV_ (nn := 0) (As := []) (rest := []) X xkM I (c_M_goesOn hc_6 H.size) gX12_suited_X12_goesOn rfl ⟨rfl, rfl⟩ (by decide +kernel) ⟨Nat.le_of_ble_eq_true rfl, Nat.le_of_ble_eq_true rfl⟩ (by decide) shM_0 rfl rfl hl.1 rfl (Nat.le_of_ble_eq_true rfl) dX12_suited_44) I (fun H locs I => ?_)
      obtain ⟨y_8, e_9⟩ : ∃ q : Int32, q = x2 + (1 : Int32) := ⟨_, rfl⟩
      have h := lt_at h e_9
      refine lv_iinc (v := y_8) (lv' := [(2, .int y_8), (0, .ref (a 0)), (1, .int x1)]) hx hb dX12_suited_47 hl (k := 2) rfl (by rw [e_9]; rfl) (by decide) rfl (fun ls hl => ?_)
      refine lv_goto (tgt := 23) hx hb dX12_suited_50 (by decide) ?_
      exact hk23 σ_7 x1 y_8 H locs ls h I (lv_sub hl [1, 2, 0] rfl)
set_option maxRecDepth 100000 in
theorem kM_suited_23L {p : Program} {l : Launch} {e : Env} {s : State} {m : MethodId} {args : Array Value} {below : List Frame} {meth : Method} {c : Code} {D : va_G} {cy : Nat → ClassId} {a : Nat → Nat} (X : cx_ cX12_suited RX12 wsX12_suited 3 (some .int) 16 a D cy xfM p s m args meth c)  {r0 : Int32} {σ' : Sg}  : ∀ (n : Nat), ∀ (σ : Sg) (x1 : Int32) (x2 : Int32) (H : Heap) (locs : List Loc) (ls : Array Slot), lp_ (M_suited_23) (fun _ _ _ => none) n σ x1 x2 = some (r0, σ') → iv_ 16 a D (shM cy a σ) s H locs → lv_has ls 3 [(0, .ref (a 0)), (1, .int x1), (2, .int x2)] → W p l e ({ frames := 4, cells := 0, slots := 0, locals := 89 }) s m args below meth c H locs 0 0 (MQ below (qg_ 16 a D (shM cy a σ') (some (.int r0)) s.heap.size) args s 0 0 (fr_ 16 a s.heap.size)) (F0 m 23 ls []) := by
  intro n
  induction n with
  | zero =>
    intro _ _ _ _ _ _ h
    exact absurd h (fun q => by cases (show (none : Option _) = some _ from q))
  | succ n ih => exact kM_suited_23 X ih

def M_suited_0  (σ : Sg) (x1 : Int32) : Option (Int32 × Sg) :=
  bi_ (M_isOne_0 σ x1) fun r_3 σ_2 =>
  if r_3 = 0 then (some ((-1 : Int32), σ_2))
  else (bi_ (M_copyRow_1_3_0 σ_2) fun _ σ_6 =>
  lp_ M_suited_23 (fun _ _ _ => none) FU σ_6 x1 (0 : Int32))
set_option maxRecDepth 100000 in
theorem kM_suited_0 {p : Program} {l : Launch} {e : Env} {s : State} {m : MethodId} {args : Array Value} {below : List Frame} {meth : Method} {c : Code} {D : va_G} {cy : Nat → ClassId} {a : Nat → Nat} (X : cx_ cX12_suited RX12 wsX12_suited 3 (some .int) 16 a D cy xfM p s m args meth c)  {r0 : Int32} {σ' : Sg}  : ∀ (σ : Sg) (x1 : Int32) (H : Heap) (locs : List Loc) (ls : Array Slot), M_suited_0 σ x1 = some (r0, σ') → iv_ 16 a D (shM cy a σ) s H locs → lv_has ls 3 [(0, .ref (a 0)), (1, .int x1)] → W p l e ({ frames := 4, cells := 0, slots := 0, locals := 89 }) s m args below meth c H locs 0 0 (MQ below (qg_ 16 a D (shM cy a σ') (some (.int r0)) s.heap.size) args s 0 0 (fr_ 16 a s.heap.size)) (F0 m 0 ls []) := by
  obtain ⟨hx, hb, hr, hml, hown, hts, hlk, hK, hA, hXf⟩ := id X
  intro σ x1 H locs ls h I hl
  unfold M_suited_0 at h
  refine lv_aload_n hx hb dX12_suited_0 rfl (lv_at hl 0 rfl) ?_
  refine lv_iload_n hx hb dX12_suited_1 rfl (lv_at hl 1 rfl) ?_
  obtain ⟨r_3, σ_2, hc_1, h⟩ := bi_of h
  refine cg_ (rV_ (nn := 1) (As := [.int x1]) (rest := []) X xkM I (c_M_isOne hc_1 H.size) gX12_suited_X12_isOne rfl ⟨rfl, rfl⟩ (by decide +kernel) ⟨Nat.le_of_ble_eq_true rfl, Nat.le_of_ble_eq_true rfl⟩ (by decide) shM_0 rfl rfl hl.1 rfl (Nat.le_of_ble_eq_true rfl) dX12_suited_2) I (fun H locs I => ?_)
  refine lv_if_ne (tgt := 10) hx hb dX12_suited_5 (by decide) (fun c_4 => ?_) (fun c_4 => ?_)
  · have h := if_f h c_4
    refine lv_aload_n hx hb dX12_suited_10 rfl (lv_at hl 0 rfl) ?_
    refine ig_ (index := 7) X I (fun _ q => List.mem_cons_of_mem _ (List.mem_append_right _ q)) 0 (by decide) shM_0 rfl 0 (by decide) (by decide +kernel) rfl (v := .ref (a 1)) rfl dX12_suited_11 ?_
    refine lv_aload_n hx hb dX12_suited_14 rfl (lv_at hl 0 rfl) ?_
    refine ig_ (index := 16) X I (fun _ q => List.mem_cons_of_mem _ (List.mem_append_right _ q)) 0 (by decide) shM_0 rfl 2 (by decide) (by decide +kernel) rfl (v := .ref (a 3)) rfl dX12_suited_15 ?_
    obtain ⟨_, σ_6, hc_5, h⟩ := bi_of h
    refine cv_ (rS_ (nn := 2) (As := [.ref (a 1), .ref (a 3)]) (rest := []) X xkM I (c_M_copyRow_1_3 hc_5 H.size) gX12_suited_X12_copyRow rfl ⟨rfl, rfl⟩ (by decide +kernel) ⟨Nat.le_of_ble_eq_true rfl, Nat.le_of_ble_eq_true rfl⟩ rfl hl.1 rfl (Nat.le_of_ble_eq_true rfl) dX12_suited_18) I (fun H locs I => ?_)
    refine lv_iconst (v := 0) hx hb dX12_suited_21 (by decide) ?_
    refine lv_istore_n (lv' := [(2, .int (0 : Int32)), (0, .ref (a 0)), (1, .int x1)]) hx hb dX12_suited_22 rfl hl (by decide) rfl (fun ls hl => ?_)
    exact kM_suited_23L X  FU σ_6 x1 (0 : Int32) H locs ls h I (lv_sub hl [1, 2, 0] rfl)
  · have h := if_t h c_4
    refine lv_iconst (v := (-1)) hx hb dX12_suited_8 (by decide) ?_
    obtain ⟨rfl, rfl⟩ := re_s h
    exact rti_ X I dX12_suited_9
theorem c_M_suited {l : Launch} {D : va_G} {cy : Nat → ClassId} {a : Nat → Nat} {σ : Sg} {x1 : Int32} {r0 : Int32} {σ' : Sg} (h : M_suited_0 σ x1 = some (r0, σ')) (sz : Nat) : Met l yX12_suited wsX12_suited ({ frames := 4, cells := 0, slots := 0, locals := 89 }) (va_Pc [.ref (a 0), .int x1] (pr_ 16 a D cy (shM cy a σ) xfM sz)) (qg_ 16 a D (shM cy a σ') (some (.int r0)) sz) 0 0 (fr_ 16 a sz) := by
  refine ent_ (by decide) rfl (Nat.le_of_ble_eq_true rfl) ?_
  intro p e s m below meth c ls hsz X I hl
  subst hsz
  exact kM_suited_0 X σ x1 s.heap [] ls h I hl

def M_grown_36  (σ : Sg) (x1 : Int32) : Option (Int32 × Sg) :=
  bi_ (M_copyRow_3_1_0 σ) fun _ σ_2 =>
  if (60 : Int32) < x1 then (some ((-3 : Int32), σ_2))
  else (some (x1, σ_2))
set_option maxRecDepth 100000 in
theorem kM_grown_36 {p : Program} {l : Launch} {e : Env} {s : State} {m : MethodId} {args : Array Value} {below : List Frame} {meth : Method} {c : Code} {D : va_G} {cy : Nat → ClassId} {a : Nat → Nat} (X : cx_ cX12_grown RX12 wsX12_grown 2 (some .int) 16 a D cy xfM p s m args meth c)  {r0 : Int32} {σ' : Sg}  : ∀ (σ : Sg) (x1 : Int32) (H : Heap) (locs : List Loc) (ls : Array Slot), M_grown_36 σ x1 = some (r0, σ') → iv_ 16 a D (shM cy a σ) s H locs → lv_has ls 2 [(0, .ref (a 0)), (1, .int x1)] → W p l e ({ frames := 4, cells := 0, slots := 0, locals := 89 }) s m args below meth c H locs 0 0 (MQ below (qg_ 16 a D (shM cy a σ') (some (.int r0)) s.heap.size) args s 0 0 (fr_ 16 a s.heap.size)) (F0 m 36 ls []) := by
  obtain ⟨hx, hb, hr, hml, hown, hts, hlk, hK, hA, hXf⟩ := id X
  intro σ x1 H locs ls h I hl
  unfold M_grown_36 at h
  refine lv_aload_n hx hb dX12_grown_36 rfl (lv_at hl 0 rfl) ?_
  refine ig_ (index := 16) X I (fun _ q => List.mem_cons_of_mem _ (List.mem_append_right _ q)) 0 (by decide) shM_0 rfl 2 (by decide) (by decide +kernel) rfl (v := .ref (a 3)) rfl dX12_grown_37 ?_
  refine lv_aload_n hx hb dX12_grown_40 rfl (lv_at hl 0 rfl) ?_
  refine ig_ (index := 7) X I (fun _ q => List.mem_cons_of_mem _ (List.mem_append_right _ q)) 0 (by decide) shM_0 rfl 0 (by decide) (by decide +kernel) rfl (v := .ref (a 1)) rfl dX12_grown_41 ?_
  obtain ⟨_, σ_2, hc_1, h⟩ := bi_of h
  refine cv_ (rS_ (nn := 2) (As := [.ref (a 3), .ref (a 1)]) (rest := []) X xkM I (c_M_copyRow_3_1 hc_1 H.size) gX12_grown_X12_copyRow rfl ⟨rfl, rfl⟩ (by decide +kernel) ⟨Nat.le_of_ble_eq_true rfl, Nat.le_of_ble_eq_true rfl⟩ rfl hl.1 rfl (Nat.le_of_ble_eq_true rfl) dX12_grown_44) I (fun H locs I => ?_)
  refine lv_iload_n hx hb dX12_grown_47 rfl (lv_at hl 1 rfl) ?_
  refine lv_bipush (v := 60) hx hb dX12_grown_48 (by decide) ?_
  refine lv_icmp_gt (tgt := 57) hx hb dX12_grown_50 (by decide) (fun c_3 => ?_) (fun c_3 => ?_)
  · have h := if_t h c_3
    refine lv_bipush (v := (-3)) hx hb dX12_grown_57 (by decide) ?_
    obtain ⟨rfl, rfl⟩ := re_s h
    exact rti_ X I dX12_grown_59
  · have h := if_f h c_3
    refine lv_iload_n hx hb dX12_grown_53 rfl (lv_at hl 1 rfl) ?_
    refine lv_goto (tgt := 59) hx hb dX12_grown_54 (by decide) ?_
    obtain ⟨rfl, rfl⟩ := re_s h
    exact rti_ X I dX12_grown_59
def M_grown_13 (k13 : Sg → Int32 → Option (Int32 × Sg)) (σ : Sg) (x1 : Int32) : Option (Int32 × Sg) :=
  if (60 : Int32) < x1 then (M_grown_36 σ x1)
  else (bi_ (M_youngOnes_0 σ) fun r_4 σ_3 =>
  if r_4 = 0 then (M_grown_36 σ_3 x1)
  else (bi_ (M_goesOn_0 σ_3) fun _ σ_7 =>
  lt_ (x1 + (1 : Int32)) fun y_8 =>
  k13 σ_7 y_8))
set_option maxRecDepth 100000 in
theorem kM_grown_13 {p : Program} {l : Launch} {e : Env} {s : State} {m : MethodId} {args : Array Value} {below : List Frame} {meth : Method} {c : Code} {D : va_G} {cy : Nat → ClassId} {a : Nat → Nat} (X : cx_ cX12_grown RX12 wsX12_grown 2 (some .int) 16 a D cy xfM p s m args meth c) {k13 : Sg → Int32 → Option (Int32 × Sg)} {r0 : Int32} {σ' : Sg} (hk13 : ∀ (σ : Sg) (x1 : Int32) (H : Heap) (locs : List Loc) (ls : Array Slot), k13 σ x1 = some (r0, σ') → iv_ 16 a D (shM cy a σ) s H locs → lv_has ls 2 [(0, .ref (a 0)), (1, .int x1)] → W p l e ({ frames := 4, cells := 0, slots := 0, locals := 89 }) s m args below meth c H locs 0 0 (MQ below (qg_ 16 a D (shM cy a σ') (some (.int r0)) s.heap.size) args s 0 0 (fr_ 16 a s.heap.size)) (F0 m 13 ls [])) : ∀ (σ : Sg) (x1 : Int32) (H : Heap) (locs : List Loc) (ls : Array Slot), M_grown_13 k13 σ x1 = some (r0, σ') → iv_ 16 a D (shM cy a σ) s H locs → lv_has ls 2 [(0, .ref (a 0)), (1, .int x1)] → W p l e ({ frames := 4, cells := 0, slots := 0, locals := 89 }) s m args below meth c H locs 0 0 (MQ below (qg_ 16 a D (shM cy a σ') (some (.int r0)) s.heap.size) args s 0 0 (fr_ 16 a s.heap.size)) (F0 m 13 ls []) := by
  obtain ⟨hx, hb, hr, hml, hown, hts, hlk, hK, hA, hXf⟩ := id X
  intro σ x1 H locs ls h I hl
  unfold M_grown_13 at h
  refine lv_iload_n hx hb dX12_grown_13 rfl (lv_at hl 1 rfl) ?_
  refine lv_bipush (v := 60) hx hb dX12_grown_14 (by decide) ?_
  refine lv_icmp_gt (tgt := 36) hx hb dX12_grown_16 (by decide) (fun c_1 => ?_) (fun c_1 => ?_)
  · have h := if_t h c_1
    exact kM_grown_36 X  σ x1 H locs ls h I (lv_sub hl [0, 1] rfl)
  · have h := if_f h c_1
    refine lv_aload_n hx hb dX12_grown_19 rfl (lv_at hl 0 rfl) ?_
    obtain ⟨r_4, σ_3, hc_2, h⟩ := bi_of h
    refine cg_ (rV_ (nn := 0) (As := []) (rest := []) X xkM I (c_M_youngOnes hc_2 H.size) gX12_grown_X12_youngOnes rfl ⟨rfl, rfl⟩ (by decide +kernel) ⟨Nat.le_of_ble_eq_true rfl, Nat.le_of_ble_eq_true rfl⟩ (by decide) shM_0 rfl rfl hl.1 rfl (Nat.le_of_ble_eq_true rfl) dX12_grown_20) I (fun H locs I => ?_)
    refine lv_if_eq (tgt := 36) hx hb dX12_grown_23 (by decide) (fun c_5 => ?_) (fun c_5 => ?_)
    · have h := if_t h c_5
      exact kM_grown_36 X  σ_3 x1 H locs ls h I (lv_sub hl [0, 1] rfl)
    · have h := if_f h c_5
      refine lv_aload_n hx hb dX12_grown_26 rfl (lv_at hl 0 rfl) ?_
      obtain ⟨_, σ_7, hc_6, h⟩ := bi_of h
      refine cv_ (rV_ (nn := 0) (As := []) (rest := []) X xkM I (c_M_goesOn hc_6 H.size) gX12_grown_X12_goesOn rfl ⟨rfl, rfl⟩ (by decide +kernel) ⟨Nat.le_of_ble_eq_true rfl, Nat.le_of_ble_eq_true rfl⟩ (by decide) shM_0 rfl rfl hl.1 rfl (Nat.le_of_ble_eq_true rfl) dX12_grown_27) I (fun H locs I => ?_)
      obtain ⟨y_8, e_9⟩ : ∃ q : Int32, q = x1 + (1 : Int32) := ⟨_, rfl⟩
      have h := lt_at h e_9
      refine lv_iinc (v := y_8) (lv' := [(1, .int y_8), (0, .ref (a 0))]) hx hb dX12_grown_30 hl (k := 1) rfl (by rw [e_9]; rfl) (by decide) rfl (fun ls hl => ?_)
      refine lv_goto (tgt := 13) hx hb dX12_grown_33 (by decide) ?_
      exact hk13 σ_7 y_8 H locs ls h I (lv_sub hl [1, 0] rfl)
set_option maxRecDepth 100000 in
theorem kM_grown_13L {p : Program} {l : Launch} {e : Env} {s : State} {m : MethodId} {args : Array Value} {below : List Frame} {meth : Method} {c : Code} {D : va_G} {cy : Nat → ClassId} {a : Nat → Nat} (X : cx_ cX12_grown RX12 wsX12_grown 2 (some .int) 16 a D cy xfM p s m args meth c)  {r0 : Int32} {σ' : Sg}  : ∀ (n : Nat), ∀ (σ : Sg) (x1 : Int32) (H : Heap) (locs : List Loc) (ls : Array Slot), lp_ (M_grown_13) (fun _ _ => none) n σ x1 = some (r0, σ') → iv_ 16 a D (shM cy a σ) s H locs → lv_has ls 2 [(0, .ref (a 0)), (1, .int x1)] → W p l e ({ frames := 4, cells := 0, slots := 0, locals := 89 }) s m args below meth c H locs 0 0 (MQ below (qg_ 16 a D (shM cy a σ') (some (.int r0)) s.heap.size) args s 0 0 (fr_ 16 a s.heap.size)) (F0 m 13 ls []) := by
  intro n
  induction n with
  | zero =>
    intro _ _ _ _ _ h
    exact absurd h (fun q => by cases (show (none : Option _) = some _ from q))
  | succ n ih => exact kM_grown_13 X ih

def M_grown_0  (σ : Sg)  : Option (Int32 × Sg) :=
  bi_ (M_copyRow_1_3_0 σ) fun _ σ_2 =>
  lp_ M_grown_13 (fun _ _ => none) FU σ_2 (0 : Int32)
set_option maxRecDepth 100000 in
theorem kM_grown_0 {p : Program} {l : Launch} {e : Env} {s : State} {m : MethodId} {args : Array Value} {below : List Frame} {meth : Method} {c : Code} {D : va_G} {cy : Nat → ClassId} {a : Nat → Nat} (X : cx_ cX12_grown RX12 wsX12_grown 2 (some .int) 16 a D cy xfM p s m args meth c)  {r0 : Int32} {σ' : Sg}  : ∀ (σ : Sg)  (H : Heap) (locs : List Loc) (ls : Array Slot), M_grown_0 σ = some (r0, σ') → iv_ 16 a D (shM cy a σ) s H locs → lv_has ls 2 [(0, .ref (a 0))] → W p l e ({ frames := 4, cells := 0, slots := 0, locals := 89 }) s m args below meth c H locs 0 0 (MQ below (qg_ 16 a D (shM cy a σ') (some (.int r0)) s.heap.size) args s 0 0 (fr_ 16 a s.heap.size)) (F0 m 0 ls []) := by
  obtain ⟨hx, hb, hr, hml, hown, hts, hlk, hK, hA, hXf⟩ := id X
  intro σ  H locs ls h I hl
  unfold M_grown_0 at h
  refine lv_aload_n hx hb dX12_grown_0 rfl (lv_at hl 0 rfl) ?_
  refine ig_ (index := 7) X I (fun _ q => List.mem_cons_of_mem _ (List.mem_append_right _ q)) 0 (by decide) shM_0 rfl 0 (by decide) (by decide +kernel) rfl (v := .ref (a 1)) rfl dX12_grown_1 ?_
  refine lv_aload_n hx hb dX12_grown_4 rfl (lv_at hl 0 rfl) ?_
  refine ig_ (index := 16) X I (fun _ q => List.mem_cons_of_mem _ (List.mem_append_right _ q)) 0 (by decide) shM_0 rfl 2 (by decide) (by decide +kernel) rfl (v := .ref (a 3)) rfl dX12_grown_5 ?_
  obtain ⟨_, σ_2, hc_1, h⟩ := bi_of h
  refine cv_ (rS_ (nn := 2) (As := [.ref (a 1), .ref (a 3)]) (rest := []) X xkM I (c_M_copyRow_1_3 hc_1 H.size) gX12_grown_X12_copyRow rfl ⟨rfl, rfl⟩ (by decide +kernel) ⟨Nat.le_of_ble_eq_true rfl, Nat.le_of_ble_eq_true rfl⟩ rfl hl.1 rfl (Nat.le_of_ble_eq_true rfl) dX12_grown_8) I (fun H locs I => ?_)
  refine lv_iconst (v := 0) hx hb dX12_grown_11 (by decide) ?_
  refine lv_istore_n (lv' := [(1, .int (0 : Int32)), (0, .ref (a 0))]) hx hb dX12_grown_12 rfl hl (by decide) rfl (fun ls hl => ?_)
  exact kM_grown_13L X  FU σ_2 (0 : Int32) H locs ls h I (lv_sub hl [1, 0] rfl)
theorem c_M_grown {l : Launch} {D : va_G} {cy : Nat → ClassId} {a : Nat → Nat} {σ : Sg}  {r0 : Int32} {σ' : Sg} (h : M_grown_0 σ  = some (r0, σ')) (sz : Nat) : Met l yX12_grown wsX12_grown ({ frames := 4, cells := 0, slots := 0, locals := 89 }) (va_Pc [.ref (a 0)] (pr_ 16 a D cy (shM cy a σ) xfM sz)) (qg_ 16 a D (shM cy a σ') (some (.int r0)) sz) 0 0 (fr_ 16 a sz) := by
  refine ent_ (by decide) rfl (Nat.le_of_ble_eq_true rfl) ?_
  intro p e s m below meth c ls hsz X I hl
  subst hsz
  exact kM_grown_0 X σ  s.heap [] ls h I hl

def M_farBehind_0  (σ : Sg) (x1 : Int32) (x2 : Int32) : Option (Int32 × Sg) :=
  bi_ (M_copyRow_1_3_0 σ) fun _ σ_2 =>
  bi_ (M_goes_0 σ_2 x2) fun _ σ_4 =>
  bi_ (M_farNow_0 σ_4 x1) fun r_7 σ_6 =>
  bi_ (M_copyRow_3_1_0 σ_6) fun _ σ_9 =>
  some (r_7, σ_9)
set_option maxRecDepth 100000 in
theorem kM_farBehind_0 {p : Program} {l : Launch} {e : Env} {s : State} {m : MethodId} {args : Array Value} {below : List Frame} {meth : Method} {c : Code} {D : va_G} {cy : Nat → ClassId} {a : Nat → Nat} (X : cx_ cX12_farBehind RX12 wsX12_farBehind 4 (some .int) 16 a D cy xfM p s m args meth c)  {r0 : Int32} {σ' : Sg}  : ∀ (σ : Sg) (x1 : Int32) (x2 : Int32) (H : Heap) (locs : List Loc) (ls : Array Slot), M_farBehind_0 σ x1 x2 = some (r0, σ') → iv_ 16 a D (shM cy a σ) s H locs → lv_has ls 4 [(0, .ref (a 0)), (1, .int x1), (2, .int x2)] → W p l e ({ frames := 5, cells := 0, slots := 0, locals := 111 }) s m args below meth c H locs 0 0 (MQ below (qg_ 16 a D (shM cy a σ') (some (.int r0)) s.heap.size) args s 0 0 (fr_ 16 a s.heap.size)) (F0 m 0 ls []) := by
  obtain ⟨hx, hb, hr, hml, hown, hts, hlk, hK, hA, hXf⟩ := id X
  intro σ x1 x2 H locs ls h I hl
  unfold M_farBehind_0 at h
  refine lv_aload_n hx hb dX12_farBehind_0 rfl (lv_at hl 0 rfl) ?_
  refine ig_ (index := 7) X I (fun _ q => List.mem_cons_of_mem _ (List.mem_append_right _ q)) 0 (by decide) shM_0 rfl 0 (by decide) (by decide +kernel) rfl (v := .ref (a 1)) rfl dX12_farBehind_1 ?_
  refine lv_aload_n hx hb dX12_farBehind_4 rfl (lv_at hl 0 rfl) ?_
  refine ig_ (index := 16) X I (fun _ q => List.mem_cons_of_mem _ (List.mem_append_right _ q)) 0 (by decide) shM_0 rfl 2 (by decide) (by decide +kernel) rfl (v := .ref (a 3)) rfl dX12_farBehind_5 ?_
  obtain ⟨_, σ_2, hc_1, h⟩ := bi_of h
  refine cv_ (rS_ (nn := 2) (As := [.ref (a 1), .ref (a 3)]) (rest := []) X xkM I (c_M_copyRow_1_3 hc_1 H.size) gX12_farBehind_X12_copyRow rfl ⟨rfl, rfl⟩ (by decide +kernel) ⟨Nat.le_of_ble_eq_true rfl, Nat.le_of_ble_eq_true rfl⟩ rfl hl.1 rfl (Nat.le_of_ble_eq_true rfl) dX12_farBehind_8) I (fun H locs I => ?_)
  refine lv_aload_n hx hb dX12_farBehind_11 rfl (lv_at hl 0 rfl) ?_
  refine lv_iload_n hx hb dX12_farBehind_12 rfl (lv_at hl 2 rfl) ?_
  obtain ⟨_, σ_4, hc_3, h⟩ := bi_of h
  refine cv_ (rV_ (nn := 1) (As := [.int x2]) (rest := []) X xkM I (c_M_goes hc_3 H.size) gX12_farBehind_X12_goes rfl ⟨rfl, rfl⟩ (by decide +kernel) ⟨Nat.le_of_ble_eq_true rfl, Nat.le_of_ble_eq_true rfl⟩ (by decide) shM_0 rfl rfl hl.1 rfl (Nat.le_of_ble_eq_true rfl) dX12_farBehind_13) I (fun H locs I => ?_)
  refine lv_aload_n hx hb dX12_farBehind_16 rfl (lv_at hl 0 rfl) ?_
  refine lv_iload_n hx hb dX12_farBehind_17 rfl (lv_at hl 1 rfl) ?_
  obtain ⟨r_7, σ_6, hc_5, h⟩ := bi_of h
  refine cg_ (rV_ (nn := 1) (As := [.int x1]) (rest := []) X xkM I (c_M_farNow hc_5 H.size) gX12_farBehind_X12_farNow rfl ⟨rfl, rfl⟩ (by decide +kernel) ⟨Nat.le_of_ble_eq_true rfl, Nat.le_of_ble_eq_true rfl⟩ (by decide) shM_0 rfl rfl hl.1 rfl (Nat.le_of_ble_eq_true rfl) dX12_farBehind_18) I (fun H locs I => ?_)
  refine lv_istore_n (lv' := [(3, .int r_7), (0, .ref (a 0)), (1, .int x1), (2, .int x2)]) hx hb dX12_farBehind_21 rfl hl (by decide) rfl (fun ls hl => ?_)
  refine lv_aload_n hx hb dX12_farBehind_22 rfl (lv_at hl 1 rfl) ?_
  refine ig_ (index := 16) X I (fun _ q => List.mem_cons_of_mem _ (List.mem_append_right _ q)) 0 (by decide) shM_0 rfl 2 (by decide) (by decide +kernel) rfl (v := .ref (a 3)) rfl dX12_farBehind_23 ?_
  refine lv_aload_n hx hb dX12_farBehind_26 rfl (lv_at hl 1 rfl) ?_
  refine ig_ (index := 7) X I (fun _ q => List.mem_cons_of_mem _ (List.mem_append_right _ q)) 0 (by decide) shM_0 rfl 0 (by decide) (by decide +kernel) rfl (v := .ref (a 1)) rfl dX12_farBehind_27 ?_
  obtain ⟨_, σ_9, hc_8, h⟩ := bi_of h
  refine cv_ (rS_ (nn := 2) (As := [.ref (a 3), .ref (a 1)]) (rest := []) X xkM I (c_M_copyRow_3_1 hc_8 H.size) gX12_farBehind_X12_copyRow rfl ⟨rfl, rfl⟩ (by decide +kernel) ⟨Nat.le_of_ble_eq_true rfl, Nat.le_of_ble_eq_true rfl⟩ rfl hl.1 rfl (Nat.le_of_ble_eq_true rfl) dX12_farBehind_30) I (fun H locs I => ?_)
  refine lv_iload_n hx hb dX12_farBehind_33 rfl (lv_at hl 0 rfl) ?_
  obtain ⟨rfl, rfl⟩ := re_s h
  exact rti_ X I dX12_farBehind_34
theorem c_M_farBehind {l : Launch} {D : va_G} {cy : Nat → ClassId} {a : Nat → Nat} {σ : Sg} {x1 : Int32} {x2 : Int32} {r0 : Int32} {σ' : Sg} (h : M_farBehind_0 σ x1 x2 = some (r0, σ')) (sz : Nat) : Met l yX12_farBehind wsX12_farBehind ({ frames := 5, cells := 0, slots := 0, locals := 111 }) (va_Pc [.ref (a 0), .int x1, .int x2] (pr_ 16 a D cy (shM cy a σ) xfM sz)) (qg_ 16 a D (shM cy a σ') (some (.int r0)) sz) 0 0 (fr_ 16 a sz) := by
  refine ent_ (by decide) rfl (Nat.le_of_ble_eq_true rfl) ?_
  intro p e s m below meth c ls hsz X I hl
  subst hsz
  exact kM_farBehind_0 X σ x1 x2 s.heap [] ls h I hl

def M_far_0  (σ : Sg) (x1 : Int32) (x2 : Int32) : Option (Int32 × Sg) :=
  bi_ (M_isOne_0 σ x1) fun r_3 σ_2 =>
  if r_3 = 0 then (some ((-1 : Int32), σ_2))
  else (bp_ (M_isIn_0 (x2).toInt64 (0 : Int64) (60 : Int64)) fun r_6 =>
  if r_6 = 0 then (some ((-1 : Int32), σ_2))
  else (bi_ (M_farBehind_0 σ_2 x1 x2) fun r_10 σ_9 =>
  some (r_10, σ_9)))
set_option maxRecDepth 100000 in
theorem kM_far_0 {p : Program} {l : Launch} {e : Env} {s : State} {m : MethodId} {args : Array Value} {below : List Frame} {meth : Method} {c : Code} {D : va_G} {cy : Nat → ClassId} {a : Nat → Nat} (X : cx_ cX12_far RX12 wsX12_far 3 (some .int) 16 a D cy xfM p s m args meth c)  {r0 : Int32} {σ' : Sg}  : ∀ (σ : Sg) (x1 : Int32) (x2 : Int32) (H : Heap) (locs : List Loc) (ls : Array Slot), M_far_0 σ x1 x2 = some (r0, σ') → iv_ 16 a D (shM cy a σ) s H locs → lv_has ls 3 [(0, .ref (a 0)), (1, .int x1), (2, .int x2)] → W p l e ({ frames := 6, cells := 0, slots := 0, locals := 134 }) s m args below meth c H locs 0 0 (MQ below (qg_ 16 a D (shM cy a σ') (some (.int r0)) s.heap.size) args s 0 0 (fr_ 16 a s.heap.size)) (F0 m 0 ls []) := by
  obtain ⟨hx, hb, hr, hml, hown, hts, hlk, hK, hA, hXf⟩ := id X
  intro σ x1 x2 H locs ls h I hl
  unfold M_far_0 at h
  refine lv_aload_n hx hb dX12_far_0 rfl (lv_at hl 0 rfl) ?_
  refine lv_iload_n hx hb dX12_far_1 rfl (lv_at hl 1 rfl) ?_
  obtain ⟨r_3, σ_2, hc_1, h⟩ := bi_of h
  refine cg_ (rV_ (nn := 1) (As := [.int x1]) (rest := []) X xkM I (c_M_isOne hc_1 H.size) gX12_far_X12_isOne rfl ⟨rfl, rfl⟩ (by decide +kernel) ⟨Nat.le_of_ble_eq_true rfl, Nat.le_of_ble_eq_true rfl⟩ (by decide) shM_0 rfl rfl hl.1 rfl (Nat.le_of_ble_eq_true rfl) dX12_far_2) I (fun H locs I => ?_)
  refine lv_if_eq (tgt := 29) hx hb dX12_far_5 (by decide) (fun c_4 => ?_) (fun c_4 => ?_)
  · have h := if_t h c_4
    refine lv_iconst (v := (-1)) hx hb dX12_far_29 (by decide) ?_
    obtain ⟨rfl, rfl⟩ := re_s h
    exact rti_ X I dX12_far_30
  · have h := if_f h c_4
    refine lv_iload_n hx hb dX12_far_8 rfl (lv_at hl 2 rfl) ?_
    refine lv_i2l hx hb dX12_far_9 rfl ?_
    refine lv_lconst (v := 0) hx hb dX12_far_10 (by decide) ?_
    refine lv_ldc2 (v := 60) hx hb hown (hts (.constantLong RX12 217 (60)) (by decide +kernel)) dX12_far_11 ?_
    obtain ⟨r_6, hc_5, h⟩ := bp_of h
    refine cp_ (rP_ (nn := 3) (As := [.long (x2).toInt64, .long (0 : Int64), .long (60 : Int64)]) (rest := []) ⟨hx, hb, hml, hown, hts⟩ (c_M_isIn hc_5) gX12_far_X12_isIn rfl ⟨rfl, rfl⟩ (by decide +kernel) ⟨Nat.le_of_ble_eq_true rfl, Nat.le_of_ble_eq_true rfl⟩ rfl hl.1 rfl (Nat.le_of_ble_eq_true rfl) dX12_far_14 ⟨Nat.zero_le _, Nat.zero_le _⟩) ?_
    refine lv_if_eq (tgt := 29) hx hb dX12_far_17 (by decide) (fun c_7 => ?_) (fun c_7 => ?_)
    · have h := if_t h c_7
      refine lv_iconst (v := (-1)) hx hb dX12_far_29 (by decide) ?_
      obtain ⟨rfl, rfl⟩ := re_s h
      exact rti_ X I dX12_far_30
    · have h := if_f h c_7
      refine lv_aload_n hx hb dX12_far_20 rfl (lv_at hl 0 rfl) ?_
      refine lv_iload_n hx hb dX12_far_21 rfl (lv_at hl 1 rfl) ?_
      refine lv_iload_n hx hb dX12_far_22 rfl (lv_at hl 2 rfl) ?_
      obtain ⟨r_10, σ_9, hc_8, h⟩ := bi_of h
      refine cg_ (rV_ (nn := 2) (As := [.int x1, .int x2]) (rest := []) X xkM I (c_M_farBehind hc_8 H.size) gX12_far_X12_farBehind rfl ⟨rfl, rfl⟩ (by decide +kernel) ⟨Nat.le_of_ble_eq_true rfl, Nat.le_of_ble_eq_true rfl⟩ (by decide) shM_0 rfl rfl hl.1 rfl (Nat.le_of_ble_eq_true rfl) dX12_far_23) I (fun H locs I => ?_)
      refine lv_goto (tgt := 30) hx hb dX12_far_26 (by decide) ?_
      obtain ⟨rfl, rfl⟩ := re_s h
      exact rti_ X I dX12_far_30
theorem c_M_far {l : Launch} {D : va_G} {cy : Nat → ClassId} {a : Nat → Nat} {σ : Sg} {x1 : Int32} {x2 : Int32} {r0 : Int32} {σ' : Sg} (h : M_far_0 σ x1 x2 = some (r0, σ')) (sz : Nat) : Met l yX12_far wsX12_far ({ frames := 6, cells := 0, slots := 0, locals := 134 }) (va_Pc [.ref (a 0), .int x1, .int x2] (pr_ 16 a D cy (shM cy a σ) xfM sz)) (qg_ 16 a D (shM cy a σ') (some (.int r0)) sz) 0 0 (fr_ 16 a sz) := by
  refine ent_ (by decide) rfl (Nat.le_of_ble_eq_true rfl) ?_
  intro p e s m below meth c ls hsz X I hl
  subst hsz
  exact kM_far_0 X σ x1 x2 s.heap [] ls h I hl

def M_isShort_0  (x0 : Int32) : Option Int32 :=
  bp_ (M_isIn_0 (x0).toInt64 (1 : Int64) (30 : Int64)) fun r_2 =>
  gd_ (bo_ r_2) (some (r_2))
set_option maxRecDepth 100000 in
theorem kM_isShort_0 {p : Program} {l : Launch} {e : Env} {s : State} {m : MethodId} {args : Array Value} {below : List Frame} {meth : Method} {c : Code} (X : px_ cX12_isShort RX12 wsX12_isShort 1 (some .boolean) p s m args meth c)  {r0 : Int32}  : ∀ (x0 : Int32) (ls : Array Slot), M_isShort_0 x0 = some r0 → lv_has ls 1 [(0, .int x0)] → W p l e ({ frames := 1, cells := 0, slots := 0, locals := 25 }) s m args below meth c s.heap [] 0 0 (MQ below (qp_ (some (.int r0))) args s 0 0 (fun _ => False)) (F0 m 0 ls []) := by
  obtain ⟨hx, hb, hr, hml, hown, hts, hlk⟩ := id X
  intro x0 ls h hl
  unfold M_isShort_0 at h
  refine lv_iload_n hx hb dX12_isShort_0 rfl (lv_at hl 0 rfl) ?_
  refine lv_i2l hx hb dX12_isShort_1 rfl ?_
  refine lv_lconst (v := 1) hx hb dX12_isShort_2 (by decide) ?_
  refine lv_ldc2 (v := 30) hx hb hown (hts (.constantLong RX12 229 (30)) (by decide +kernel)) dX12_isShort_3 ?_
  obtain ⟨r_2, hc_1, h⟩ := bp_of h
  refine cp_ (rP_ (nn := 3) (As := [.long (x0).toInt64, .long (1 : Int64), .long (30 : Int64)]) (rest := []) ⟨hx, hb, hml, hown, hts⟩ (c_M_isIn hc_1) gX12_isShort_X12_isIn rfl ⟨rfl, rfl⟩ (by decide +kernel) ⟨Nat.le_of_ble_eq_true rfl, Nat.le_of_ble_eq_true rfl⟩ rfl hl.1 rfl (Nat.le_of_ble_eq_true rfl) dX12_isShort_6 ⟨Nat.zero_le _, Nat.zero_le _⟩) ?_
  obtain ⟨g_3, h⟩ := gd_of h
  obtain rfl := re_p h
  exact rpz_ X (bo_of g_3).1 dX12_isShort_9
theorem c_M_isShort {l : Launch} {x0 : Int32} {r0 : Int32} (h : M_isShort_0 x0 = some r0) : Met l yX12_isShort wsX12_isShort ({ frames := 1, cells := 0, slots := 0, locals := 25 }) (pp_ [.int x0]) (qp_ (some (.int r0))) 0 0 (fun _ => False) := by
  refine enp_ (by decide) rfl (Nat.le_of_ble_eq_true rfl) ?_
  intro p e s m below meth c ls X hl
  exact kM_isShort_0 X x0 ls h hl
