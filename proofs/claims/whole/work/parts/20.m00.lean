def M_begins_68 (k68 : Sg → Int32 → Option (Unit × Sg)) (σ : Sg) (x2 : Int32) : Option (Unit × Sg) :=
  if (8 : Int32) ≤ x2 then (some ((), σ))
  else (gd_ (in_ ((8 : Int32) + x2) 64) (
  lt_ (wr_ σ 1 ((8 : Int32) + x2).toNatClampNeg (50 : Int32)) fun σ_3 =>
  lt_ (x2 + (1 : Int32)) fun y_5 =>
  k68 σ_3 y_5))
set_option maxRecDepth 100000 in
theorem kM_begins_68 {p : Program} {l : Launch} {e : Env} {s : State} {m : MethodId} {args : Array Value} {below : List Frame} {meth : Method} {c : Code} {D : va_G} {cy : Nat → ClassId} {a : Nat → Nat} (X : cx_ cX12_begins RX12 wsX12_begins 3 none 16 a D cy xfM p s m args meth c) {k68 : Sg → Int32 → Option (Unit × Sg)}  {σ' : Sg} (hk68 : ∀ (σ : Sg) (x2 : Int32) (H : Heap) (locs : List Loc) (ls : Array Slot), k68 σ x2 = some ((), σ') → iv_ 16 a D (shM cy a σ) s H locs → lv_has ls 3 [(0, .ref (a 0)), (2, .int x2)] → W p l e ({ frames := 0, cells := 0, slots := 0, locals := 0 }) s m args below meth c H locs 0 0 (MQ below (qg_ 16 a D (shM cy a σ') none s.heap.size) args s 0 0 (fr_ 16 a s.heap.size)) (F0 m 68 ls [])) : ∀ (σ : Sg) (x2 : Int32) (H : Heap) (locs : List Loc) (ls : Array Slot), M_begins_68 k68 σ x2 = some ((), σ') → iv_ 16 a D (shM cy a σ) s H locs → lv_has ls 3 [(0, .ref (a 0)), (2, .int x2)] → W p l e ({ frames := 0, cells := 0, slots := 0, locals := 0 }) s m args below meth c H locs 0 0 (MQ below (qg_ 16 a D (shM cy a σ') none s.heap.size) args s 0 0 (fr_ 16 a s.heap.size)) (F0 m 68 ls []) := by
  obtain ⟨hx, hb, hr, hml, hown, hts, hlk, hK, hA, hXf⟩ := id X
  intro σ x2 H locs ls h I hl
  unfold M_begins_68 at h
  refine lv_iload_n hx hb dX12_begins_68 rfl (lv_at hl 1 rfl) ?_
  refine lv_bipush (v := 8) hx hb dX12_begins_69 (by decide) ?_
  refine lv_icmp_ge (tgt := 91) hx hb dX12_begins_71 (by decide) (fun c_1 => ?_) (fun c_1 => ?_)
  · have h := if_t h c_1
    obtain rfl := re_v h
    exact rtv_ X I dX12_begins_91
  · have h := if_f h c_1
    refine lv_aload_n hx hb dX12_begins_74 rfl (lv_at hl 0 rfl) ?_
    refine ig_ (index := 7) X I (fun _ q => List.mem_cons_of_mem _ (List.mem_append_right _ q)) 0 (by decide) shM_0 rfl 0 (by decide) (by decide +kernel) rfl (v := .ref (a 1)) rfl dX12_begins_75 ?_
    refine lv_bipush (v := 8) hx hb dX12_begins_78 (by decide) ?_
    refine lv_iload_n hx hb dX12_begins_80 rfl (lv_at hl 1 rfl) ?_
    refine lv_iadd hx hb dX12_begins_81 ?_
    refine lv_bipush (v := 50) hx hb dX12_begins_82 (by decide) ?_
    obtain ⟨g_2, h⟩ := gd_of h
    refine is_ (σ2 := wr_ σ 1 ((8 : Int32) + x2).toNatClampNeg (50 : Int32)) X I 1 (by decide) shM_1 (in_of g_2) shM_st_1 dX12_begins_84 (fun σ_3 H locs e_4 I => ?_)
    have h := lt_at h e_4
    obtain ⟨y_5, e_6⟩ : ∃ q : Int32, q = x2 + (1 : Int32) := ⟨_, rfl⟩
    have h := lt_at h e_6
    refine lv_iinc (v := y_5) (lv' := [(2, .int y_5), (0, .ref (a 0))]) hx hb dX12_begins_85 hl (k := 1) rfl (by rw [e_6]; rfl) (by decide) rfl (fun ls hl => ?_)
    refine lv_goto (tgt := 68) hx hb dX12_begins_88 (by decide) ?_
    exact hk68 σ_3 y_5 H locs ls h I (lv_sub hl [1, 0] rfl)
set_option maxRecDepth 100000 in
theorem kM_begins_68L {p : Program} {l : Launch} {e : Env} {s : State} {m : MethodId} {args : Array Value} {below : List Frame} {meth : Method} {c : Code} {D : va_G} {cy : Nat → ClassId} {a : Nat → Nat} (X : cx_ cX12_begins RX12 wsX12_begins 3 none 16 a D cy xfM p s m args meth c)   {σ' : Sg}  : ∀ (n : Nat), ∀ (σ : Sg) (x2 : Int32) (H : Heap) (locs : List Loc) (ls : Array Slot), lp_ (M_begins_68) (fun _ _ => none) n σ x2 = some ((), σ') → iv_ 16 a D (shM cy a σ) s H locs → lv_has ls 3 [(0, .ref (a 0)), (2, .int x2)] → W p l e ({ frames := 0, cells := 0, slots := 0, locals := 0 }) s m args below meth c H locs 0 0 (MQ below (qg_ 16 a D (shM cy a σ') none s.heap.size) args s 0 0 (fr_ 16 a s.heap.size)) (F0 m 68 ls []) := by
  intro n
  induction n with
  | zero =>
    intro _ _ _ _ _ h
    exact absurd h (fun q => by cases (show (none : Option _) = some _ from q))
  | succ n ih => exact kM_begins_68 X ih

def M_begins_9 (k9 : Sg → Int32 → Int32 → Option (Unit × Sg)) (σ : Sg) (x1 : Int32) (x2 : Int32) : Option (Unit × Sg) :=
  if (64 : Int32) ≤ x2 then (lt_ (wr_ σ 1 2 x1) fun σ_2 =>
  lt_ (wr_ σ_2 1 3 (2 : Int32)) fun σ_4 =>
  lt_ (wr_ σ_4 1 4 (1 : Int32)) fun σ_6 =>
  lt_ (wr_ σ_6 1 5 (9 : Int32)) fun σ_8 =>
  lt_ (wr_ σ_8 1 6 (20 : Int32)) fun σ_10 =>
  lp_ M_begins_68 (fun _ _ => none) FU σ_10 (0 : Int32))
  else (gd_ (in_ x2 64) (
  lt_ (wr_ σ 1 x2.toNatClampNeg (0 : Int32)) fun σ_13 =>
  lt_ (x2 + (1 : Int32)) fun y_15 =>
  k9 σ_13 x1 y_15))
set_option maxRecDepth 100000 in
theorem kM_begins_9 {p : Program} {l : Launch} {e : Env} {s : State} {m : MethodId} {args : Array Value} {below : List Frame} {meth : Method} {c : Code} {D : va_G} {cy : Nat → ClassId} {a : Nat → Nat} (X : cx_ cX12_begins RX12 wsX12_begins 3 none 16 a D cy xfM p s m args meth c) {k9 : Sg → Int32 → Int32 → Option (Unit × Sg)}  {σ' : Sg} (hk9 : ∀ (σ : Sg) (x1 : Int32) (x2 : Int32) (H : Heap) (locs : List Loc) (ls : Array Slot), k9 σ x1 x2 = some ((), σ') → iv_ 16 a D (shM cy a σ) s H locs → lv_has ls 3 [(0, .ref (a 0)), (1, .int x1), (2, .int x2)] → W p l e ({ frames := 0, cells := 0, slots := 0, locals := 0 }) s m args below meth c H locs 0 0 (MQ below (qg_ 16 a D (shM cy a σ') none s.heap.size) args s 0 0 (fr_ 16 a s.heap.size)) (F0 m 9 ls [])) : ∀ (σ : Sg) (x1 : Int32) (x2 : Int32) (H : Heap) (locs : List Loc) (ls : Array Slot), M_begins_9 k9 σ x1 x2 = some ((), σ') → iv_ 16 a D (shM cy a σ) s H locs → lv_has ls 3 [(0, .ref (a 0)), (1, .int x1), (2, .int x2)] → W p l e ({ frames := 0, cells := 0, slots := 0, locals := 0 }) s m args below meth c H locs 0 0 (MQ below (qg_ 16 a D (shM cy a σ') none s.heap.size) args s 0 0 (fr_ 16 a s.heap.size)) (F0 m 9 ls []) := by
  obtain ⟨hx, hb, hr, hml, hown, hts, hlk, hK, hA, hXf⟩ := id X
  intro σ x1 x2 H locs ls h I hl
  unfold M_begins_9 at h
  refine lv_iload_n hx hb dX12_begins_9 rfl (lv_at hl 2 rfl) ?_
  refine lv_bipush (v := 64) hx hb dX12_begins_10 (by decide) ?_
  refine lv_icmp_ge (tgt := 28) hx hb dX12_begins_12 (by decide) (fun c_1 => ?_) (fun c_1 => ?_)
  · have h := if_t h c_1
    refine lv_aload_n hx hb dX12_begins_28 rfl (lv_at hl 0 rfl) ?_
    refine ig_ (index := 7) X I (fun _ q => List.mem_cons_of_mem _ (List.mem_append_right _ q)) 0 (by decide) shM_0 rfl 0 (by decide) (by decide +kernel) rfl (v := .ref (a 1)) rfl dX12_begins_29 ?_
    refine lv_iconst (v := 2) hx hb dX12_begins_32 (by decide) ?_
    refine lv_iload_n hx hb dX12_begins_33 rfl (lv_at hl 1 rfl) ?_
    refine is_ (σ2 := wr_ σ 1 2 x1) X I 1 (by decide) shM_1 (in_of (by decide)) shM_st_1 dX12_begins_34 (fun σ_2 H locs e_3 I => ?_)
    have h := lt_at h e_3
    refine lv_aload_n hx hb dX12_begins_35 rfl (lv_at hl 0 rfl) ?_
    refine ig_ (index := 7) X I (fun _ q => List.mem_cons_of_mem _ (List.mem_append_right _ q)) 0 (by decide) shM_0 rfl 0 (by decide) (by decide +kernel) rfl (v := .ref (a 1)) rfl dX12_begins_36 ?_
    refine lv_iconst (v := 3) hx hb dX12_begins_39 (by decide) ?_
    refine lv_iconst (v := 2) hx hb dX12_begins_40 (by decide) ?_
    refine is_ (σ2 := wr_ σ_2 1 3 (2 : Int32)) X I 1 (by decide) shM_1 (in_of (by decide)) shM_st_1 dX12_begins_41 (fun σ_4 H locs e_5 I => ?_)
    have h := lt_at h e_5
    refine lv_aload_n hx hb dX12_begins_42 rfl (lv_at hl 0 rfl) ?_
    refine ig_ (index := 7) X I (fun _ q => List.mem_cons_of_mem _ (List.mem_append_right _ q)) 0 (by decide) shM_0 rfl 0 (by decide) (by decide +kernel) rfl (v := .ref (a 1)) rfl dX12_begins_43 ?_
    refine lv_iconst (v := 4) hx hb dX12_begins_46 (by decide) ?_
    refine lv_iconst (v := 1) hx hb dX12_begins_47 (by decide) ?_
    refine is_ (σ2 := wr_ σ_4 1 4 (1 : Int32)) X I 1 (by decide) shM_1 (in_of (by decide)) shM_st_1 dX12_begins_48 (fun σ_6 H locs e_7 I => ?_)
    have h := lt_at h e_7
    refine lv_aload_n hx hb dX12_begins_49 rfl (lv_at hl 0 rfl) ?_
    refine ig_ (index := 7) X I (fun _ q => List.mem_cons_of_mem _ (List.mem_append_right _ q)) 0 (by decide) shM_0 rfl 0 (by decide) (by decide +kernel) rfl (v := .ref (a 1)) rfl dX12_begins_50 ?_
    refine lv_iconst (v := 5) hx hb dX12_begins_53 (by decide) ?_
    refine lv_bipush (v := 9) hx hb dX12_begins_54 (by decide) ?_
    refine is_ (σ2 := wr_ σ_6 1 5 (9 : Int32)) X I 1 (by decide) shM_1 (in_of (by decide)) shM_st_1 dX12_begins_56 (fun σ_8 H locs e_9 I => ?_)
    have h := lt_at h e_9
    refine lv_aload_n hx hb dX12_begins_57 rfl (lv_at hl 0 rfl) ?_
    refine ig_ (index := 7) X I (fun _ q => List.mem_cons_of_mem _ (List.mem_append_right _ q)) 0 (by decide) shM_0 rfl 0 (by decide) (by decide +kernel) rfl (v := .ref (a 1)) rfl dX12_begins_58 ?_
    refine lv_bipush (v := 6) hx hb dX12_begins_61 (by decide) ?_
    refine lv_bipush (v := 20) hx hb dX12_begins_63 (by decide) ?_
    refine is_ (σ2 := wr_ σ_8 1 6 (20 : Int32)) X I 1 (by decide) shM_1 (in_of (by decide)) shM_st_1 dX12_begins_65 (fun σ_10 H locs e_11 I => ?_)
    have h := lt_at h e_11
    refine lv_iconst (v := 0) hx hb dX12_begins_66 (by decide) ?_
    refine lv_istore_n (lv' := [(2, .int (0 : Int32)), (0, .ref (a 0)), (1, .int x1)]) hx hb dX12_begins_67 rfl hl (by decide) rfl (fun ls hl => ?_)
    exact kM_begins_68L X  FU σ_10 (0 : Int32) H locs ls h I (lv_sub hl [1, 0] rfl)
  · have h := if_f h c_1
    refine lv_aload_n hx hb dX12_begins_15 rfl (lv_at hl 0 rfl) ?_
    refine ig_ (index := 7) X I (fun _ q => List.mem_cons_of_mem _ (List.mem_append_right _ q)) 0 (by decide) shM_0 rfl 0 (by decide) (by decide +kernel) rfl (v := .ref (a 1)) rfl dX12_begins_16 ?_
    refine lv_iload_n hx hb dX12_begins_19 rfl (lv_at hl 2 rfl) ?_
    refine lv_iconst (v := 0) hx hb dX12_begins_20 (by decide) ?_
    obtain ⟨g_12, h⟩ := gd_of h
    refine is_ (σ2 := wr_ σ 1 x2.toNatClampNeg (0 : Int32)) X I 1 (by decide) shM_1 (in_of g_12) shM_st_1 dX12_begins_21 (fun σ_13 H locs e_14 I => ?_)
    have h := lt_at h e_14
    obtain ⟨y_15, e_16⟩ : ∃ q : Int32, q = x2 + (1 : Int32) := ⟨_, rfl⟩
    have h := lt_at h e_16
    refine lv_iinc (v := y_15) (lv' := [(2, .int y_15), (0, .ref (a 0)), (1, .int x1)]) hx hb dX12_begins_22 hl (k := 2) rfl (by rw [e_16]; rfl) (by decide) rfl (fun ls hl => ?_)
    refine lv_goto (tgt := 9) hx hb dX12_begins_25 (by decide) ?_
    exact hk9 σ_13 x1 y_15 H locs ls h I (lv_sub hl [1, 2, 0] rfl)
set_option maxRecDepth 100000 in
theorem kM_begins_9L {p : Program} {l : Launch} {e : Env} {s : State} {m : MethodId} {args : Array Value} {below : List Frame} {meth : Method} {c : Code} {D : va_G} {cy : Nat → ClassId} {a : Nat → Nat} (X : cx_ cX12_begins RX12 wsX12_begins 3 none 16 a D cy xfM p s m args meth c)   {σ' : Sg}  : ∀ (n : Nat), ∀ (σ : Sg) (x1 : Int32) (x2 : Int32) (H : Heap) (locs : List Loc) (ls : Array Slot), lp_ (M_begins_9) (fun _ _ _ => none) n σ x1 x2 = some ((), σ') → iv_ 16 a D (shM cy a σ) s H locs → lv_has ls 3 [(0, .ref (a 0)), (1, .int x1), (2, .int x2)] → W p l e ({ frames := 0, cells := 0, slots := 0, locals := 0 }) s m args below meth c H locs 0 0 (MQ below (qg_ 16 a D (shM cy a σ') none s.heap.size) args s 0 0 (fr_ 16 a s.heap.size)) (F0 m 9 ls []) := by
  intro n
  induction n with
  | zero =>
    intro _ _ _ _ _ _ h
    exact absurd h (fun q => by cases (show (none : Option _) = some _ from q))
  | succ n ih => exact kM_begins_9 X ih

def M_begins_0  (σ : Sg)  : Option (Unit × Sg) :=
  lt_ ((rd_ σ 1 2)) fun y_1 =>
  lp_ M_begins_9 (fun _ _ _ => none) FU σ y_1 (0 : Int32)
set_option maxRecDepth 100000 in
theorem kM_begins_0 {p : Program} {l : Launch} {e : Env} {s : State} {m : MethodId} {args : Array Value} {below : List Frame} {meth : Method} {c : Code} {D : va_G} {cy : Nat → ClassId} {a : Nat → Nat} (X : cx_ cX12_begins RX12 wsX12_begins 3 none 16 a D cy xfM p s m args meth c)   {σ' : Sg}  : ∀ (σ : Sg)  (H : Heap) (locs : List Loc) (ls : Array Slot), M_begins_0 σ = some ((), σ') → iv_ 16 a D (shM cy a σ) s H locs → lv_has ls 3 [(0, .ref (a 0))] → W p l e ({ frames := 0, cells := 0, slots := 0, locals := 0 }) s m args below meth c H locs 0 0 (MQ below (qg_ 16 a D (shM cy a σ') none s.heap.size) args s 0 0 (fr_ 16 a s.heap.size)) (F0 m 0 ls []) := by
  obtain ⟨hx, hb, hr, hml, hown, hts, hlk, hK, hA, hXf⟩ := id X
  intro σ  H locs ls h I hl
  unfold M_begins_0 at h
  refine lv_aload_n hx hb dX12_begins_0 rfl (lv_at hl 0 rfl) ?_
  refine ig_ (index := 7) X I (fun _ q => List.mem_cons_of_mem _ (List.mem_append_right _ q)) 0 (by decide) shM_0 rfl 0 (by decide) (by decide +kernel) rfl (v := .ref (a 1)) rfl dX12_begins_1 ?_
  refine lv_iconst (v := 2) hx hb dX12_begins_4 (by decide) ?_
  refine ia_ X I 1 (by decide) shM_1 (in_of (by decide)) (v0 := rd_ σ 1 2) rfl dX12_begins_5 ?_
  refine lv_topi (fun y_1 e_2 => ?_)
  have h := lt_at h e_2
  refine lv_istore_n (lv' := [(1, .int y_1), (0, .ref (a 0))]) hx hb dX12_begins_6 rfl hl (by decide) rfl (fun ls hl => ?_)
  refine lv_iconst (v := 0) hx hb dX12_begins_7 (by decide) ?_
  refine lv_istore_n (lv' := [(2, .int (0 : Int32)), (1, .int y_1), (0, .ref (a 0))]) hx hb dX12_begins_8 rfl hl (by decide) rfl (fun ls hl => ?_)
  exact kM_begins_9L X  FU σ y_1 (0 : Int32) H locs ls h I (lv_sub hl [2, 1, 0] rfl)
theorem c_M_begins {l : Launch} {D : va_G} {cy : Nat → ClassId} {a : Nat → Nat} {σ : Sg}   {σ' : Sg} (h : M_begins_0 σ  = some ((), σ')) (sz : Nat) : Met l yX12_begins wsX12_begins ({ frames := 0, cells := 0, slots := 0, locals := 0 }) (va_Pc [.ref (a 0)] (pr_ 16 a D cy (shM cy a σ) xfM sz)) (qg_ 16 a D (shM cy a σ') none sz) 0 0 (fr_ 16 a sz) := by
  refine ent_ (by decide) rfl (Nat.le_of_ble_eq_true rfl) ?_
  intro p e s m below meth c ls hsz X I hl
  subst hsz
  exact kM_begins_0 X σ  s.heap [] ls h I hl

def M_isIn_0  (x0 : Int64) (x2 : Int64) (x4 : Int64) : Option Int32 :=
  if (lg_cmp x0 x2) < 0 then (some ((0 : Int32)))
  else (if 0 < (lg_cmp x0 x4) then (some ((0 : Int32)))
  else (some ((1 : Int32))))
set_option maxRecDepth 100000 in
theorem kM_isIn_0 {p : Program} {l : Launch} {e : Env} {s : State} {m : MethodId} {args : Array Value} {below : List Frame} {meth : Method} {c : Code} (X : px_ cX12_isIn RX12 wsX12_isIn 6 (some .boolean) p s m args meth c)  {r0 : Int32}  : ∀ (x0 : Int64) (x2 : Int64) (x4 : Int64) (ls : Array Slot), M_isIn_0 x0 x2 x4 = some r0 → lv_has ls 6 [(0, .long x0), (2, .long x2), (4, .long x4)] → W p l e ({ frames := 0, cells := 0, slots := 0, locals := 0 }) s m args below meth c s.heap [] 0 0 (MQ below (qp_ (some (.int r0))) args s 0 0 (fun _ => False)) (F0 m 0 ls []) := by
  obtain ⟨hx, hb, hr, hml, hown, hts, hlk⟩ := id X
  intro x0 x2 x4 ls h hl
  unfold M_isIn_0 at h
  refine lv_lload_n hx hb dX12_isIn_0 rfl (lv_at hl 0 rfl) ?_
  refine lv_lload_n hx hb dX12_isIn_1 rfl (lv_at hl 1 rfl) ?_
  refine W.lcmp hx hb dX12_isIn_2 ?_
  refine lv_if_lt (tgt := 17) hx hb dX12_isIn_3 (by decide) (fun c_1 => ?_) (fun c_1 => ?_)
  · have h := if_t h c_1
    refine lv_iconst (v := 0) hx hb dX12_isIn_17 (by decide) ?_
    obtain rfl := re_p h
    exact rpz_ X (by decide) dX12_isIn_18
  · have h := if_f h c_1
    refine lv_lload_n hx hb dX12_isIn_6 rfl (lv_at hl 0 rfl) ?_
    refine lv_lload hx hb dX12_isIn_7 (lv_at hl 2 rfl) ?_
    refine W.lcmp hx hb dX12_isIn_9 ?_
    refine lv_if_gt (tgt := 17) hx hb dX12_isIn_10 (by decide) (fun c_2 => ?_) (fun c_2 => ?_)
    · have h := if_t h c_2
      refine lv_iconst (v := 0) hx hb dX12_isIn_17 (by decide) ?_
      obtain rfl := re_p h
      exact rpz_ X (by decide) dX12_isIn_18
    · have h := if_f h c_2
      refine lv_iconst (v := 1) hx hb dX12_isIn_13 (by decide) ?_
      refine lv_goto (tgt := 18) hx hb dX12_isIn_14 (by decide) ?_
      obtain rfl := re_p h
      exact rpz_ X (by decide) dX12_isIn_18
theorem c_M_isIn {l : Launch} {x0 : Int64} {x2 : Int64} {x4 : Int64} {r0 : Int32} (h : M_isIn_0 x0 x2 x4 = some r0) : Met l yX12_isIn wsX12_isIn ({ frames := 0, cells := 0, slots := 0, locals := 0 }) (pp_ [.long x0, .long x2, .long x4]) (qp_ (some (.int r0))) 0 0 (fun _ => False) := by
  refine enp_ (by decide) rfl (Nat.le_of_ble_eq_true rfl) ?_
  intro p e s m below meth c ls X hl
  exact kM_isIn_0 X x0 x2 x4 ls h hl

def M_feed_32 (k32 : Sg → Int64 → Int32 → Int32 → Option (Int32 × Sg)) (σ : Sg) (x1 : Int64) (x3 : Int32) (x4 : Int32) : Option (Int32 × Sg) :=
  if x3 ≤ x4 then (some ((rd_ σ 0 6), σ))
  else (gd_ (in_ (rd_ σ 0 6) 200) (
  lt_ (wr_ σ 5 (rd_ σ 0 6).toNatClampNeg ((x1 >>> (((8 : Int32) * x4).toInt64 &&& 63)) &&& (255 : Int64)).toInt32) fun σ_3 =>
  lt_ (wr_ σ_3 0 6 ((rd_ σ_3 0 6) + (1 : Int32))) fun σ_5 =>
  lt_ (x4 + (1 : Int32)) fun y_7 =>
  k32 σ_5 x1 x3 y_7))
set_option maxRecDepth 100000 in
theorem kM_feed_32 {p : Program} {l : Launch} {e : Env} {s : State} {m : MethodId} {args : Array Value} {below : List Frame} {meth : Method} {c : Code} {D : va_G} {cy : Nat → ClassId} {a : Nat → Nat} (X : cx_ cX12_feed RX12 wsX12_feed 5 (some .int) 16 a D cy xfM p s m args meth c) {k32 : Sg → Int64 → Int32 → Int32 → Option (Int32 × Sg)} {r0 : Int32} {σ' : Sg} (hk32 : ∀ (σ : Sg) (x1 : Int64) (x3 : Int32) (x4 : Int32) (H : Heap) (locs : List Loc) (ls : Array Slot), k32 σ x1 x3 x4 = some (r0, σ') → iv_ 16 a D (shM cy a σ) s H locs → lv_has ls 5 [(0, .ref (a 0)), (1, .long x1), (3, .int x3), (4, .int x4)] → W p l e ({ frames := 1, cells := 0, slots := 0, locals := 25 }) s m args below meth c H locs 0 0 (MQ below (qg_ 16 a D (shM cy a σ') (some (.int r0)) s.heap.size) args s 0 0 (fr_ 16 a s.heap.size)) (F0 m 32 ls [])) : ∀ (σ : Sg) (x1 : Int64) (x3 : Int32) (x4 : Int32) (H : Heap) (locs : List Loc) (ls : Array Slot), M_feed_32 k32 σ x1 x3 x4 = some (r0, σ') → iv_ 16 a D (shM cy a σ) s H locs → lv_has ls 5 [(0, .ref (a 0)), (1, .long x1), (3, .int x3), (4, .int x4)] → W p l e ({ frames := 1, cells := 0, slots := 0, locals := 25 }) s m args below meth c H locs 0 0 (MQ below (qg_ 16 a D (shM cy a σ') (some (.int r0)) s.heap.size) args s 0 0 (fr_ 16 a s.heap.size)) (F0 m 32 ls []) := by
  obtain ⟨hx, hb, hr, hml, hown, hts, hlk, hK, hA, hXf⟩ := id X
  intro σ x1 x3 x4 H locs ls h I hl
  unfold M_feed_32 at h
  refine lv_iload hx hb dX12_feed_32 (lv_at hl 3 rfl) ?_
  refine lv_iload_n hx hb dX12_feed_34 rfl (lv_at hl 2 rfl) ?_
  refine lv_icmp_ge (tgt := 75) hx hb dX12_feed_35 (by decide) (fun c_1 => ?_) (fun c_1 => ?_)
  · have h := if_t h c_1
    refine lv_aload_n hx hb dX12_feed_75 rfl (lv_at hl 0 rfl) ?_
    refine ig_ (index := 64) X I (fun _ q => List.mem_cons_of_mem _ (List.mem_append_right _ q)) 0 (by decide) shM_0 rfl 6 (by decide) (by decide +kernel) rfl (v := .int (rd_ σ 0 6)) rfl dX12_feed_76 ?_
    obtain ⟨rfl, rfl⟩ := re_s h
    exact rti_ X I dX12_feed_79
  · have h := if_f h c_1
    refine lv_aload_n hx hb dX12_feed_38 rfl (lv_at hl 0 rfl) ?_
    refine ig_ (index := 22) X I (fun _ q => List.mem_cons_of_mem _ (List.mem_append_right _ q)) 0 (by decide) shM_0 rfl 5 (by decide) (by decide +kernel) rfl (v := .ref (a 5)) rfl dX12_feed_39 ?_
    refine lv_aload_n hx hb dX12_feed_42 rfl (lv_at hl 0 rfl) ?_
    refine ig_ (index := 64) X I (fun _ q => List.mem_cons_of_mem _ (List.mem_append_right _ q)) 0 (by decide) shM_0 rfl 6 (by decide) (by decide +kernel) rfl (v := .int (rd_ σ 0 6)) rfl dX12_feed_43 ?_
    refine lv_lload_n hx hb dX12_feed_46 rfl (lv_at hl 1 rfl) ?_
    refine lv_bipush (v := 8) hx hb dX12_feed_47 (by decide) ?_
    refine lv_iload hx hb dX12_feed_49 (lv_at hl 3 rfl) ?_
    refine lv_imul hx hb dX12_feed_51 ?_
    refine lv_lshr hx hb dX12_feed_52 rfl ?_
    refine lv_ldc2 (v := 255) hx hb hown (hts (.constantLong RX12 68 (255)) (by decide +kernel)) dX12_feed_53 ?_
    refine lv_land hx hb dX12_feed_56 ?_
    refine lv_l2i hx hb dX12_feed_57 rfl ?_
    obtain ⟨g_2, h⟩ := gd_of h
    refine is_ (σ2 := wr_ σ 5 (rd_ σ 0 6).toNatClampNeg ((x1 >>> (((8 : Int32) * x4).toInt64 &&& 63)) &&& (255 : Int64)).toInt32) X I 5 (by decide) shM_5 (in_of g_2) shM_st_5 dX12_feed_58 (fun σ_3 H locs e_4 I => ?_)
    have h := lt_at h e_4
    refine lv_aload_n hx hb dX12_feed_59 rfl (lv_at hl 0 rfl) ?_
    refine lv_dup hx hb dX12_feed_60 rfl ?_
    refine ig_ (index := 64) X I (fun _ q => List.mem_cons_of_mem _ (List.mem_append_right _ q)) 0 (by decide) shM_0 rfl 6 (by decide) (by decide +kernel) rfl (v := .int (rd_ σ_3 0 6)) rfl dX12_feed_61 ?_
    refine lv_iconst (v := 1) hx hb dX12_feed_64 (by decide) ?_
    refine lv_iadd hx hb dX12_feed_65 ?_
    refine ip_ (index := 64) (ty := .int) X I (fun _ q => List.mem_cons_of_mem _ (List.mem_append_right _ q)) tyX12 tyX12_ok nmX12 0 (by decide) shM_0 rfl 6 (by decide) (by decide +kernel) rfl rfl (by decide +kernel) rfl rfl (Nat.le_of_ble_eq_true rfl) shM_pt_6 dX12_feed_66 (fun σ_5 H locs e_6 I => ?_)
    have h := lt_at h e_6
    obtain ⟨y_7, e_8⟩ : ∃ q : Int32, q = x4 + (1 : Int32) := ⟨_, rfl⟩
    have h := lt_at h e_8
    refine lv_iinc (v := y_7) (lv' := [(4, .int y_7), (0, .ref (a 0)), (1, .long x1), (3, .int x3)]) hx hb dX12_feed_69 hl (k := 3) rfl (by rw [e_8]; rfl) (by decide) rfl (fun ls hl => ?_)
    refine lv_goto (tgt := 32) hx hb dX12_feed_72 (by decide) ?_
    exact hk32 σ_5 x1 x3 y_7 H locs ls h I (lv_sub hl [1, 2, 3, 0] rfl)
set_option maxRecDepth 100000 in
theorem kM_feed_32L {p : Program} {l : Launch} {e : Env} {s : State} {m : MethodId} {args : Array Value} {below : List Frame} {meth : Method} {c : Code} {D : va_G} {cy : Nat → ClassId} {a : Nat → Nat} (X : cx_ cX12_feed RX12 wsX12_feed 5 (some .int) 16 a D cy xfM p s m args meth c)  {r0 : Int32} {σ' : Sg}  : ∀ (n : Nat), ∀ (σ : Sg) (x1 : Int64) (x3 : Int32) (x4 : Int32) (H : Heap) (locs : List Loc) (ls : Array Slot), lp_ (M_feed_32) (fun _ _ _ _ => none) n σ x1 x3 x4 = some (r0, σ') → iv_ 16 a D (shM cy a σ) s H locs → lv_has ls 5 [(0, .ref (a 0)), (1, .long x1), (3, .int x3), (4, .int x4)] → W p l e ({ frames := 1, cells := 0, slots := 0, locals := 25 }) s m args below meth c H locs 0 0 (MQ below (qg_ 16 a D (shM cy a σ') (some (.int r0)) s.heap.size) args s 0 0 (fr_ 16 a s.heap.size)) (F0 m 32 ls []) := by
  intro n
  induction n with
  | zero =>
    intro _ _ _ _ _ _ _ h
    exact absurd h (fun q => by cases (show (none : Option _) = some _ from q))
  | succ n ih => exact kM_feed_32 X ih

def M_feed_0  (σ : Sg) (x1 : Int64) (x3 : Int32) : Option (Int32 × Sg) :=
  bp_ (M_isIn_0 (x3).toInt64 (1 : Int64) (8 : Int64)) fun r_2 =>
  if r_2 = 0 then (some ((-1 : Int32), σ))
  else (if ((rd_ σ 0 6) + x3) ≤ (200 : Int32) then (lp_ M_feed_32 (fun _ _ _ _ => none) FU σ x1 x3 (0 : Int32))
  else (some ((-2 : Int32), σ)))
set_option maxRecDepth 100000 in
theorem kM_feed_0 {p : Program} {l : Launch} {e : Env} {s : State} {m : MethodId} {args : Array Value} {below : List Frame} {meth : Method} {c : Code} {D : va_G} {cy : Nat → ClassId} {a : Nat → Nat} (X : cx_ cX12_feed RX12 wsX12_feed 5 (some .int) 16 a D cy xfM p s m args meth c)  {r0 : Int32} {σ' : Sg}  : ∀ (σ : Sg) (x1 : Int64) (x3 : Int32) (H : Heap) (locs : List Loc) (ls : Array Slot), M_feed_0 σ x1 x3 = some (r0, σ') → iv_ 16 a D (shM cy a σ) s H locs → lv_has ls 5 [(0, .ref (a 0)), (1, .long x1), (3, .int x3)] → W p l e ({ frames := 1, cells := 0, slots := 0, locals := 25 }) s m args below meth c H locs 0 0 (MQ below (qg_ 16 a D (shM cy a σ') (some (.int r0)) s.heap.size) args s 0 0 (fr_ 16 a s.heap.size)) (F0 m 0 ls []) := by
  obtain ⟨hx, hb, hr, hml, hown, hts, hlk, hK, hA, hXf⟩ := id X
  intro σ x1 x3 H locs ls h I hl
  unfold M_feed_0 at h
  refine lv_iload_n hx hb dX12_feed_0 rfl (lv_at hl 2 rfl) ?_
  refine lv_i2l hx hb dX12_feed_1 rfl ?_
  refine lv_lconst (v := 1) hx hb dX12_feed_2 (by decide) ?_
  refine lv_ldc2 (v := 8) hx hb hown (hts (.constantLong RX12 58 (8)) (by decide +kernel)) dX12_feed_3 ?_
  obtain ⟨r_2, hc_1, h⟩ := bp_of h
  refine cp_ (rP_ (nn := 3) (As := [.long (x3).toInt64, .long (1 : Int64), .long (8 : Int64)]) (rest := []) ⟨hx, hb, hml, hown, hts⟩ (c_M_isIn hc_1) gX12_feed_X12_isIn rfl ⟨rfl, rfl⟩ (by decide +kernel) ⟨Nat.le_of_ble_eq_true rfl, Nat.le_of_ble_eq_true rfl⟩ rfl hl.1 rfl (Nat.le_of_ble_eq_true rfl) dX12_feed_6 ⟨Nat.zero_le _, Nat.zero_le _⟩) ?_
  refine lv_if_ne (tgt := 14) hx hb dX12_feed_9 (by decide) (fun c_3 => ?_) (fun c_3 => ?_)
  · have h := if_f h c_3
    refine lv_aload_n hx hb dX12_feed_14 rfl (lv_at hl 0 rfl) ?_
    refine ig_ (index := 64) X I (fun _ q => List.mem_cons_of_mem _ (List.mem_append_right _ q)) 0 (by decide) shM_0 rfl 6 (by decide) (by decide +kernel) rfl (v := .int (rd_ σ 0 6)) rfl dX12_feed_15 ?_
    refine lv_iload_n hx hb dX12_feed_18 rfl (lv_at hl 2 rfl) ?_
    refine lv_iadd hx hb dX12_feed_19 ?_
    refine lv_sipush (v := 200) hx hb dX12_feed_20 (by decide) ?_
    refine lv_icmp_le (tgt := 29) hx hb dX12_feed_23 (by decide) (fun c_4 => ?_) (fun c_4 => ?_)
    · have h := if_t h c_4
      refine lv_iconst (v := 0) hx hb dX12_feed_29 (by decide) ?_
      refine lv_istore (lv' := [(4, .int (0 : Int32)), (0, .ref (a 0)), (1, .long x1), (3, .int x3)]) hx hb dX12_feed_30 hl (by decide) rfl (fun ls hl => ?_)
      exact kM_feed_32L X  FU σ x1 x3 (0 : Int32) H locs ls h I (lv_sub hl [1, 2, 3, 0] rfl)
    · have h := if_f h c_4
      refine lv_bipush (v := (-2)) hx hb dX12_feed_26 (by decide) ?_
      obtain ⟨rfl, rfl⟩ := re_s h
      exact rti_ X I dX12_feed_28
  · have h := if_t h c_3
    refine lv_iconst (v := (-1)) hx hb dX12_feed_12 (by decide) ?_
    obtain ⟨rfl, rfl⟩ := re_s h
    exact rti_ X I dX12_feed_13
theorem c_M_feed {l : Launch} {D : va_G} {cy : Nat → ClassId} {a : Nat → Nat} {σ : Sg} {x1 : Int64} {x3 : Int32} {r0 : Int32} {σ' : Sg} (h : M_feed_0 σ x1 x3 = some (r0, σ')) (sz : Nat) : Met l yX12_feed wsX12_feed ({ frames := 1, cells := 0, slots := 0, locals := 25 }) (va_Pc [.ref (a 0), .long x1, .int x3] (pr_ 16 a D cy (shM cy a σ) xfM sz)) (qg_ 16 a D (shM cy a σ') (some (.int r0)) sz) 0 0 (fr_ 16 a sz) := by
  refine ent_ (by decide) rfl (Nat.le_of_ble_eq_true rfl) ?_
  intro p e s m below meth c ls hsz X I hl
  subst hsz
  exact kM_feed_0 X σ x1 x3 s.heap [] ls h I hl

def M_copyRow_1_4_2 (k2 : Sg → Int32 → Option (Unit × Sg)) (σ : Sg) (x2 : Int32) : Option (Unit × Sg) :=
  if (64 : Int32) ≤ x2 then (some ((), σ))
  else (gd_ (in_ x2 64) (
  gd_ (in_ x2 64) (
  lt_ (wr_ σ 4 x2.toNatClampNeg (rd_ σ 1 x2.toNatClampNeg)) fun σ_4 =>
  lt_ (x2 + (1 : Int32)) fun y_6 =>
  k2 σ_4 y_6)))
set_option maxRecDepth 100000 in
theorem kM_copyRow_1_4_2 {p : Program} {l : Launch} {e : Env} {s : State} {m : MethodId} {args : Array Value} {below : List Frame} {meth : Method} {c : Code} {D : va_G} {cy : Nat → ClassId} {a : Nat → Nat} (X : cx_ cX12_copyRow RX12 wsX12_copyRow 3 none 16 a D cy xfM p s m args meth c) {k2 : Sg → Int32 → Option (Unit × Sg)}  {σ' : Sg} (hk2 : ∀ (σ : Sg) (x2 : Int32) (H : Heap) (locs : List Loc) (ls : Array Slot), k2 σ x2 = some ((), σ') → iv_ 16 a D (shM cy a σ) s H locs → lv_has ls 3 [(0, .ref (a 1)), (1, .ref (a 4)), (2, .int x2)] → W p l e ({ frames := 0, cells := 0, slots := 0, locals := 0 }) s m args below meth c H locs 0 0 (MQ below (qg_ 16 a D (shM cy a σ') none s.heap.size) args s 0 0 (fr_ 16 a s.heap.size)) (F0 m 2 ls [])) : ∀ (σ : Sg) (x2 : Int32) (H : Heap) (locs : List Loc) (ls : Array Slot), M_copyRow_1_4_2 k2 σ x2 = some ((), σ') → iv_ 16 a D (shM cy a σ) s H locs → lv_has ls 3 [(0, .ref (a 1)), (1, .ref (a 4)), (2, .int x2)] → W p l e ({ frames := 0, cells := 0, slots := 0, locals := 0 }) s m args below meth c H locs 0 0 (MQ below (qg_ 16 a D (shM cy a σ') none s.heap.size) args s 0 0 (fr_ 16 a s.heap.size)) (F0 m 2 ls []) := by
  obtain ⟨hx, hb, hr, hml, hown, hts, hlk, hK, hA, hXf⟩ := id X
  intro σ x2 H locs ls h I hl
  unfold M_copyRow_1_4_2 at h
  refine lv_iload_n hx hb dX12_copyRow_2 rfl (lv_at hl 2 rfl) ?_
  refine lv_bipush (v := 64) hx hb dX12_copyRow_3 (by decide) ?_
  refine lv_icmp_ge (tgt := 20) hx hb dX12_copyRow_5 (by decide) (fun c_1 => ?_) (fun c_1 => ?_)
  · have h := if_t h c_1
    obtain rfl := re_v h
    exact rtv_ X I dX12_copyRow_20
  · have h := if_f h c_1
    refine lv_aload_n hx hb dX12_copyRow_8 rfl (lv_at hl 1 rfl) ?_
    refine lv_iload_n hx hb dX12_copyRow_9 rfl (lv_at hl 2 rfl) ?_
    refine lv_aload_n hx hb dX12_copyRow_10 rfl (lv_at hl 0 rfl) ?_
    refine lv_iload_n hx hb dX12_copyRow_11 rfl (lv_at hl 2 rfl) ?_
    obtain ⟨g_2, h⟩ := gd_of h
    refine ia_ X I 1 (by decide) shM_1 (in_of g_2) (v0 := rd_ σ 1 x2.toNatClampNeg) rfl dX12_copyRow_12 ?_
    obtain ⟨g_3, h⟩ := gd_of h
    refine is_ (σ2 := wr_ σ 4 x2.toNatClampNeg (rd_ σ 1 x2.toNatClampNeg)) X I 4 (by decide) shM_4 (in_of g_3) shM_st_4 dX12_copyRow_13 (fun σ_4 H locs e_5 I => ?_)
    have h := lt_at h e_5
    obtain ⟨y_6, e_7⟩ : ∃ q : Int32, q = x2 + (1 : Int32) := ⟨_, rfl⟩
    have h := lt_at h e_7
    refine lv_iinc (v := y_6) (lv' := [(2, .int y_6), (0, .ref (a 1)), (1, .ref (a 4))]) hx hb dX12_copyRow_14 hl (k := 2) rfl (by rw [e_7]; rfl) (by decide) rfl (fun ls hl => ?_)
    refine lv_goto (tgt := 2) hx hb dX12_copyRow_17 (by decide) ?_
    exact hk2 σ_4 y_6 H locs ls h I (lv_sub hl [1, 2, 0] rfl)
set_option maxRecDepth 100000 in
theorem kM_copyRow_1_4_2L {p : Program} {l : Launch} {e : Env} {s : State} {m : MethodId} {args : Array Value} {below : List Frame} {meth : Method} {c : Code} {D : va_G} {cy : Nat → ClassId} {a : Nat → Nat} (X : cx_ cX12_copyRow RX12 wsX12_copyRow 3 none 16 a D cy xfM p s m args meth c)   {σ' : Sg}  : ∀ (n : Nat), ∀ (σ : Sg) (x2 : Int32) (H : Heap) (locs : List Loc) (ls : Array Slot), lp_ (M_copyRow_1_4_2) (fun _ _ => none) n σ x2 = some ((), σ') → iv_ 16 a D (shM cy a σ) s H locs → lv_has ls 3 [(0, .ref (a 1)), (1, .ref (a 4)), (2, .int x2)] → W p l e ({ frames := 0, cells := 0, slots := 0, locals := 0 }) s m args below meth c H locs 0 0 (MQ below (qg_ 16 a D (shM cy a σ') none s.heap.size) args s 0 0 (fr_ 16 a s.heap.size)) (F0 m 2 ls []) := by
  intro n
  induction n with
  | zero =>
    intro _ _ _ _ _ h
    exact absurd h (fun q => by cases (show (none : Option _) = some _ from q))
  | succ n ih => exact kM_copyRow_1_4_2 X ih

def M_copyRow_1_4_0  (σ : Sg)  : Option (Unit × Sg) :=
  lp_ M_copyRow_1_4_2 (fun _ _ => none) FU σ (0 : Int32)
set_option maxRecDepth 100000 in
theorem kM_copyRow_1_4_0 {p : Program} {l : Launch} {e : Env} {s : State} {m : MethodId} {args : Array Value} {below : List Frame} {meth : Method} {c : Code} {D : va_G} {cy : Nat → ClassId} {a : Nat → Nat} (X : cx_ cX12_copyRow RX12 wsX12_copyRow 3 none 16 a D cy xfM p s m args meth c)   {σ' : Sg}  : ∀ (σ : Sg)  (H : Heap) (locs : List Loc) (ls : Array Slot), M_copyRow_1_4_0 σ = some ((), σ') → iv_ 16 a D (shM cy a σ) s H locs → lv_has ls 3 [(0, .ref (a 1)), (1, .ref (a 4))] → W p l e ({ frames := 0, cells := 0, slots := 0, locals := 0 }) s m args below meth c H locs 0 0 (MQ below (qg_ 16 a D (shM cy a σ') none s.heap.size) args s 0 0 (fr_ 16 a s.heap.size)) (F0 m 0 ls []) := by
  obtain ⟨hx, hb, hr, hml, hown, hts, hlk, hK, hA, hXf⟩ := id X
  intro σ  H locs ls h I hl
  unfold M_copyRow_1_4_0 at h
  refine lv_iconst (v := 0) hx hb dX12_copyRow_0 (by decide) ?_
  refine lv_istore_n (lv' := [(2, .int (0 : Int32)), (0, .ref (a 1)), (1, .ref (a 4))]) hx hb dX12_copyRow_1 rfl hl (by decide) rfl (fun ls hl => ?_)
  exact kM_copyRow_1_4_2L X  FU σ (0 : Int32) H locs ls h I (lv_sub hl [1, 2, 0] rfl)
theorem c_M_copyRow_1_4 {l : Launch} {D : va_G} {cy : Nat → ClassId} {a : Nat → Nat} {σ : Sg}   {σ' : Sg} (h : M_copyRow_1_4_0 σ  = some ((), σ')) (sz : Nat) : Met l yX12_copyRow wsX12_copyRow ({ frames := 0, cells := 0, slots := 0, locals := 0 }) (va_Pc [.ref (a 1), .ref (a 4)] (pr_ 16 a D cy (shM cy a σ) xfM sz)) (qg_ 16 a D (shM cy a σ') none sz) 0 0 (fr_ 16 a sz) := by
  refine ent_ (by decide) rfl (Nat.le_of_ble_eq_true rfl) ?_
  intro p e s m below meth c ls hsz X I hl
  subst hsz
  exact kM_copyRow_1_4_0 X σ  s.heap [] ls h I hl

def M_byteAt_0  (σ : Sg) (x1 : Int32) : Option (Int32 × Sg) :=
  if (rd_ σ 0 6) ≤ x1 then (some ((-1 : Int32), σ))
  else (gd_ (in_ x1 200) (
  some ((rd_ σ 5 x1.toNatClampNeg), σ)))
set_option maxRecDepth 100000 in
theorem kM_byteAt_0 {p : Program} {l : Launch} {e : Env} {s : State} {m : MethodId} {args : Array Value} {below : List Frame} {meth : Method} {c : Code} {D : va_G} {cy : Nat → ClassId} {a : Nat → Nat} (X : cx_ cX12_byteAt RX12 wsX12_byteAt 2 (some .int) 16 a D cy xfM p s m args meth c)  {r0 : Int32} {σ' : Sg}  : ∀ (σ : Sg) (x1 : Int32) (H : Heap) (locs : List Loc) (ls : Array Slot), M_byteAt_0 σ x1 = some (r0, σ') → iv_ 16 a D (shM cy a σ) s H locs → lv_has ls 2 [(0, .ref (a 0)), (1, .int x1)] → W p l e ({ frames := 0, cells := 0, slots := 0, locals := 0 }) s m args below meth c H locs 0 0 (MQ below (qg_ 16 a D (shM cy a σ') (some (.int r0)) s.heap.size) args s 0 0 (fr_ 16 a s.heap.size)) (F0 m 0 ls []) := by
  obtain ⟨hx, hb, hr, hml, hown, hts, hlk, hK, hA, hXf⟩ := id X
  intro σ x1 H locs ls h I hl
  unfold M_byteAt_0 at h
  refine lv_iload_n hx hb dX12_byteAt_0 rfl (lv_at hl 1 rfl) ?_
  refine lv_aload_n hx hb dX12_byteAt_1 rfl (lv_at hl 0 rfl) ?_
  refine ig_ (index := 64) X I (fun _ q => List.mem_cons_of_mem _ (List.mem_append_right _ q)) 0 (by decide) shM_0 rfl 6 (by decide) (by decide +kernel) rfl (v := .int (rd_ σ 0 6)) rfl dX12_byteAt_2 ?_
  refine lv_icmp_ge (tgt := 17) hx hb dX12_byteAt_5 (by decide) (fun c_1 => ?_) (fun c_1 => ?_)
  · have h := if_t h c_1
    refine lv_iconst (v := (-1)) hx hb dX12_byteAt_17 (by decide) ?_
    obtain ⟨rfl, rfl⟩ := re_s h
    exact rti_ X I dX12_byteAt_18
  · have h := if_f h c_1
    refine lv_aload_n hx hb dX12_byteAt_8 rfl (lv_at hl 0 rfl) ?_
    refine ig_ (index := 22) X I (fun _ q => List.mem_cons_of_mem _ (List.mem_append_right _ q)) 0 (by decide) shM_0 rfl 5 (by decide) (by decide +kernel) rfl (v := .ref (a 5)) rfl dX12_byteAt_9 ?_
    refine lv_iload_n hx hb dX12_byteAt_12 rfl (lv_at hl 1 rfl) ?_
    obtain ⟨g_2, h⟩ := gd_of h
    refine ia_ X I 5 (by decide) shM_5 (in_of g_2) (v0 := rd_ σ 5 x1.toNatClampNeg) rfl dX12_byteAt_13 ?_
    refine lv_goto (tgt := 18) hx hb dX12_byteAt_14 (by decide) ?_
    obtain ⟨rfl, rfl⟩ := re_s h
    exact rti_ X I dX12_byteAt_18
theorem c_M_byteAt {l : Launch} {D : va_G} {cy : Nat → ClassId} {a : Nat → Nat} {σ : Sg} {x1 : Int32} {r0 : Int32} {σ' : Sg} (h : M_byteAt_0 σ x1 = some (r0, σ')) (sz : Nat) : Met l yX12_byteAt wsX12_byteAt ({ frames := 0, cells := 0, slots := 0, locals := 0 }) (va_Pc [.ref (a 0), .int x1] (pr_ 16 a D cy (shM cy a σ) xfM sz)) (qg_ 16 a D (shM cy a σ') (some (.int r0)) sz) 0 0 (fr_ 16 a sz) := by
  refine ent_ (by decide) rfl (Nat.le_of_ble_eq_true rfl) ?_
  intro p e s m below meth c ls hsz X I hl
  subst hsz
  exact kM_byteAt_0 X σ x1 s.heap [] ls h I hl

def M_isAlpha_0  (x0 : Int32) : Option Int32 :=
  if x0 < (97 : Int32) then (some ((0 : Int32)))
  else (if (122 : Int32) < x0 then (some ((0 : Int32)))
  else (some ((1 : Int32))))
set_option maxRecDepth 100000 in
theorem kM_isAlpha_0 {p : Program} {l : Launch} {e : Env} {s : State} {m : MethodId} {args : Array Value} {below : List Frame} {meth : Method} {c : Code} (X : px_ cX12_isAlpha RX12 wsX12_isAlpha 1 (some .boolean) p s m args meth c)  {r0 : Int32}  : ∀ (x0 : Int32) (ls : Array Slot), M_isAlpha_0 x0 = some r0 → lv_has ls 1 [(0, .int x0)] → W p l e ({ frames := 0, cells := 0, slots := 0, locals := 0 }) s m args below meth c s.heap [] 0 0 (MQ below (qp_ (some (.int r0))) args s 0 0 (fun _ => False)) (F0 m 0 ls []) := by
  obtain ⟨hx, hb, hr, hml, hown, hts, hlk⟩ := id X
  intro x0 ls h hl
  unfold M_isAlpha_0 at h
  refine lv_iload_n hx hb dX12_isAlpha_0 rfl (lv_at hl 0 rfl) ?_
  refine lv_bipush (v := 97) hx hb dX12_isAlpha_1 (by decide) ?_
  refine lv_icmp_lt (tgt := 16) hx hb dX12_isAlpha_3 (by decide) (fun c_1 => ?_) (fun c_1 => ?_)
  · have h := if_t h c_1
    refine lv_iconst (v := 0) hx hb dX12_isAlpha_16 (by decide) ?_
    obtain rfl := re_p h
    exact rpz_ X (by decide) dX12_isAlpha_17
  · have h := if_f h c_1
    refine lv_iload_n hx hb dX12_isAlpha_6 rfl (lv_at hl 0 rfl) ?_
    refine lv_bipush (v := 122) hx hb dX12_isAlpha_7 (by decide) ?_
    refine lv_icmp_gt (tgt := 16) hx hb dX12_isAlpha_9 (by decide) (fun c_2 => ?_) (fun c_2 => ?_)
    · have h := if_t h c_2
      refine lv_iconst (v := 0) hx hb dX12_isAlpha_16 (by decide) ?_
      obtain rfl := re_p h
      exact rpz_ X (by decide) dX12_isAlpha_17
    · have h := if_f h c_2
      refine lv_iconst (v := 1) hx hb dX12_isAlpha_12 (by decide) ?_
      refine lv_goto (tgt := 17) hx hb dX12_isAlpha_13 (by decide) ?_
      obtain rfl := re_p h
      exact rpz_ X (by decide) dX12_isAlpha_17
theorem c_M_isAlpha {l : Launch} {x0 : Int32} {r0 : Int32} (h : M_isAlpha_0 x0 = some r0) : Met l yX12_isAlpha wsX12_isAlpha ({ frames := 0, cells := 0, slots := 0, locals := 0 }) (pp_ [.int x0]) (qp_ (some (.int r0))) 0 0 (fun _ => False) := by
  refine enp_ (by decide) rfl (Nat.le_of_ble_eq_true rfl) ?_
  intro p e s m below meth c ls X hl
  exact kM_isAlpha_0 X x0 ls h hl

def M_isDigit_0  (x0 : Int32) : Option Int32 :=
  if x0 < (48 : Int32) then (some ((0 : Int32)))
  else (if (57 : Int32) < x0 then (some ((0 : Int32)))
  else (some ((1 : Int32))))
set_option maxRecDepth 100000 in
theorem kM_isDigit_0 {p : Program} {l : Launch} {e : Env} {s : State} {m : MethodId} {args : Array Value} {below : List Frame} {meth : Method} {c : Code} (X : px_ cX12_isDigit RX12 wsX12_isDigit 1 (some .boolean) p s m args meth c)  {r0 : Int32}  : ∀ (x0 : Int32) (ls : Array Slot), M_isDigit_0 x0 = some r0 → lv_has ls 1 [(0, .int x0)] → W p l e ({ frames := 0, cells := 0, slots := 0, locals := 0 }) s m args below meth c s.heap [] 0 0 (MQ below (qp_ (some (.int r0))) args s 0 0 (fun _ => False)) (F0 m 0 ls []) := by
  obtain ⟨hx, hb, hr, hml, hown, hts, hlk⟩ := id X
  intro x0 ls h hl
  unfold M_isDigit_0 at h
  refine lv_iload_n hx hb dX12_isDigit_0 rfl (lv_at hl 0 rfl) ?_
  refine lv_bipush (v := 48) hx hb dX12_isDigit_1 (by decide) ?_
  refine lv_icmp_lt (tgt := 16) hx hb dX12_isDigit_3 (by decide) (fun c_1 => ?_) (fun c_1 => ?_)
  · have h := if_t h c_1
    refine lv_iconst (v := 0) hx hb dX12_isDigit_16 (by decide) ?_
    obtain rfl := re_p h
    exact rpz_ X (by decide) dX12_isDigit_17
  · have h := if_f h c_1
    refine lv_iload_n hx hb dX12_isDigit_6 rfl (lv_at hl 0 rfl) ?_
    refine lv_bipush (v := 57) hx hb dX12_isDigit_7 (by decide) ?_
    refine lv_icmp_gt (tgt := 16) hx hb dX12_isDigit_9 (by decide) (fun c_2 => ?_) (fun c_2 => ?_)
    · have h := if_t h c_2
      refine lv_iconst (v := 0) hx hb dX12_isDigit_16 (by decide) ?_
      obtain rfl := re_p h
      exact rpz_ X (by decide) dX12_isDigit_17
    · have h := if_f h c_2
      refine lv_iconst (v := 1) hx hb dX12_isDigit_12 (by decide) ?_
      refine lv_goto (tgt := 17) hx hb dX12_isDigit_13 (by decide) ?_
      obtain rfl := re_p h
      exact rpz_ X (by decide) dX12_isDigit_17
theorem c_M_isDigit {l : Launch} {x0 : Int32} {r0 : Int32} (h : M_isDigit_0 x0 = some r0) : Met l yX12_isDigit wsX12_isDigit ({ frames := 0, cells := 0, slots := 0, locals := 0 }) (pp_ [.int x0]) (qp_ (some (.int r0))) 0 0 (fun _ => False) := by
  refine enp_ (by decide) rfl (Nat.le_of_ble_eq_true rfl) ?_
  intro p e s m below meth c ls X hl
  exact kM_isDigit_0 X x0 ls h hl

def M_nextToken_185 (k126 : Sg → Option (Unit × Sg)) (σ : Sg) (t1 : Int32) : Option (Unit × Sg) :=
  lt_ (wr_ σ 0 10 t1) fun σ_1 =>
  lt_ (wr_ σ_1 0 9 ((rd_ σ_1 0 9) + (1 : Int32))) fun σ_3 =>
  k126 σ_3
set_option maxRecDepth 100000 in
theorem kM_nextToken_185 {p : Program} {l : Launch} {e : Env} {s : State} {m : MethodId} {args : Array Value} {below : List Frame} {meth : Method} {c : Code} {D : va_G} {cy : Nat → ClassId} {a : Nat → Nat} (X : cx_ cX12_nextToken RX12 wsX12_nextToken 2 none 16 a D cy xfM p s m args meth c) {k126 : Sg → Option (Unit × Sg)}  {σ' : Sg} (hk126 : ∀ (σ : Sg)  (H : Heap) (locs : List Loc) (ls : Array Slot), k126 σ = some ((), σ') → iv_ 16 a D (shM cy a σ) s H locs → lv_has ls 2 [(0, .ref (a 0))] → W p l e ({ frames := 1, cells := 0, slots := 0, locals := 21 }) s m args below meth c H locs 0 0 (MQ below (qg_ 16 a D (shM cy a σ') none s.heap.size) args s 0 0 (fr_ 16 a s.heap.size)) (F0 m 126 ls [])) : ∀ (σ : Sg) (t1 : Int32) (H : Heap) (locs : List Loc) (ls : Array Slot), M_nextToken_185 k126 σ t1 = some ((), σ') → iv_ 16 a D (shM cy a σ) s H locs → lv_has ls 2 [(0, .ref (a 0))] → W p l e ({ frames := 1, cells := 0, slots := 0, locals := 21 }) s m args below meth c H locs 0 0 (MQ below (qg_ 16 a D (shM cy a σ') none s.heap.size) args s 0 0 (fr_ 16 a s.heap.size)) (F0 m 185 ls [.int t1, .ref (a 0)]) := by
  obtain ⟨hx, hb, hr, hml, hown, hts, hlk, hK, hA, hXf⟩ := id X
  intro σ t1 H locs ls h I hl
  unfold M_nextToken_185 at h
  refine ip_ (index := 90) (ty := .int) X I (fun _ q => List.mem_cons_of_mem _ (List.mem_append_right _ q)) tyX12 tyX12_ok nmX12 0 (by decide) shM_0 rfl 10 (by decide) (by decide +kernel) rfl rfl (by decide +kernel) rfl rfl (Nat.le_of_ble_eq_true rfl) shM_pt_10 dX12_nextToken_185 (fun σ_1 H locs e_2 I => ?_)
  have h := lt_at h e_2
  refine lv_aload_n hx hb dX12_nextToken_188 rfl (lv_at hl 0 rfl) ?_
  refine lv_dup hx hb dX12_nextToken_189 rfl ?_
  refine ig_ (index := 70) X I (fun _ q => List.mem_cons_of_mem _ (List.mem_append_right _ q)) 0 (by decide) shM_0 rfl 9 (by decide) (by decide +kernel) rfl (v := .int (rd_ σ_1 0 9)) rfl dX12_nextToken_190 ?_
  refine lv_iconst (v := 1) hx hb dX12_nextToken_193 (by decide) ?_
  refine lv_iadd hx hb dX12_nextToken_194 ?_
  refine ip_ (index := 70) (ty := .int) X I (fun _ q => List.mem_cons_of_mem _ (List.mem_append_right _ q)) tyX12 tyX12_ok nmX12 0 (by decide) shM_0 rfl 9 (by decide) (by decide +kernel) rfl rfl (by decide +kernel) rfl rfl (Nat.le_of_ble_eq_true rfl) shM_pt_9 dX12_nextToken_195 (fun σ_3 H locs e_4 I => ?_)
  have h := lt_at h e_4
  refine lv_goto (tgt := 126) hx hb dX12_nextToken_198 (by decide) ?_
  exact hk126 σ_3 H locs ls h I (lv_sub hl [0] rfl)
def M_nextToken_219  (σ : Sg) (t2 : Int32) (t1 : Int32) : Option (Unit × Sg) :=
  lt_ (wr_ σ 0 9 (t1 + t2)) fun σ_1 =>
  some ((), σ_1)
set_option maxRecDepth 100000 in
theorem kM_nextToken_219 {p : Program} {l : Launch} {e : Env} {s : State} {m : MethodId} {args : Array Value} {below : List Frame} {meth : Method} {c : Code} {D : va_G} {cy : Nat → ClassId} {a : Nat → Nat} (X : cx_ cX12_nextToken RX12 wsX12_nextToken 2 none 16 a D cy xfM p s m args meth c)   {σ' : Sg}  : ∀ (σ : Sg) (t2 : Int32) (t1 : Int32) (H : Heap) (locs : List Loc) (ls : Array Slot), M_nextToken_219 σ t2 t1 = some ((), σ') → iv_ 16 a D (shM cy a σ) s H locs → lv_has ls 2 [] → W p l e ({ frames := 1, cells := 0, slots := 0, locals := 21 }) s m args below meth c H locs 0 0 (MQ below (qg_ 16 a D (shM cy a σ') none s.heap.size) args s 0 0 (fr_ 16 a s.heap.size)) (F0 m 219 ls [.int t2, .int t1, .ref (a 0)]) := by
  obtain ⟨hx, hb, hr, hml, hown, hts, hlk, hK, hA, hXf⟩ := id X
  intro σ t2 t1 H locs ls h I hl
  unfold M_nextToken_219 at h
  refine lv_iadd hx hb dX12_nextToken_219 ?_
  refine ip_ (index := 70) (ty := .int) X I (fun _ q => List.mem_cons_of_mem _ (List.mem_append_right _ q)) tyX12 tyX12_ok nmX12 0 (by decide) shM_0 rfl 9 (by decide) (by decide +kernel) rfl rfl (by decide +kernel) rfl rfl (Nat.le_of_ble_eq_true rfl) shM_pt_9 dX12_nextToken_220 (fun σ_1 H locs e_2 I => ?_)
  have h := lt_at h e_2
  obtain rfl := re_v h
  exact rtv_ X I dX12_nextToken_223
def M_nextToken_201  (σ : Sg)  : Option (Unit × Sg) :=
  if (rd_ σ 0 7) ≤ (2 : Int32) then (M_nextToken_219 σ (0 : Int32) (rd_ σ 0 9))
  else (M_nextToken_219 σ (1 : Int32) (rd_ σ 0 9))
set_option maxRecDepth 100000 in
theorem kM_nextToken_201 {p : Program} {l : Launch} {e : Env} {s : State} {m : MethodId} {args : Array Value} {below : List Frame} {meth : Method} {c : Code} {D : va_G} {cy : Nat → ClassId} {a : Nat → Nat} (X : cx_ cX12_nextToken RX12 wsX12_nextToken 2 none 16 a D cy xfM p s m args meth c)   {σ' : Sg}  : ∀ (σ : Sg)  (H : Heap) (locs : List Loc) (ls : Array Slot), M_nextToken_201 σ = some ((), σ') → iv_ 16 a D (shM cy a σ) s H locs → lv_has ls 2 [(0, .ref (a 0))] → W p l e ({ frames := 1, cells := 0, slots := 0, locals := 21 }) s m args below meth c H locs 0 0 (MQ below (qg_ 16 a D (shM cy a σ') none s.heap.size) args s 0 0 (fr_ 16 a s.heap.size)) (F0 m 201 ls []) := by
  obtain ⟨hx, hb, hr, hml, hown, hts, hlk, hK, hA, hXf⟩ := id X
  intro σ  H locs ls h I hl
  unfold M_nextToken_201 at h
  refine lv_aload_n hx hb dX12_nextToken_201 rfl (lv_at hl 0 rfl) ?_
  refine lv_dup hx hb dX12_nextToken_202 rfl ?_
  refine ig_ (index := 70) X I (fun _ q => List.mem_cons_of_mem _ (List.mem_append_right _ q)) 0 (by decide) shM_0 rfl 9 (by decide) (by decide +kernel) rfl (v := .int (rd_ σ 0 9)) rfl dX12_nextToken_203 ?_
  refine lv_aload_n hx hb dX12_nextToken_206 rfl (lv_at hl 0 rfl) ?_
  refine ig_ (index := 87) X I (fun _ q => List.mem_cons_of_mem _ (List.mem_append_right _ q)) 0 (by decide) shM_0 rfl 7 (by decide) (by decide +kernel) rfl (v := .int (rd_ σ 0 7)) rfl dX12_nextToken_207 ?_
  refine lv_iconst (v := 2) hx hb dX12_nextToken_210 (by decide) ?_
  refine lv_icmp_le (tgt := 218) hx hb dX12_nextToken_211 (by decide) (fun c_1 => ?_) (fun c_1 => ?_)
  · have h := if_t h c_1
    refine lv_iconst (v := 0) hx hb dX12_nextToken_218 (by decide) ?_
    exact kM_nextToken_219 X  σ (0 : Int32) (rd_ σ 0 9) H locs ls h I (lv_sub hl [] rfl)
  · have h := if_f h c_1
    refine lv_iconst (v := 1) hx hb dX12_nextToken_214 (by decide) ?_
    refine lv_goto (tgt := 219) hx hb dX12_nextToken_215 (by decide) ?_
    exact kM_nextToken_219 X  σ (1 : Int32) (rd_ σ 0 9) H locs ls h I (lv_sub hl [] rfl)
def M_nextToken_126 (k126 : Sg → Option (Unit × Sg)) (σ : Sg)  : Option (Unit × Sg) :=
  if (rd_ σ 0 7) = (2 : Int32) then (bi_ (M_byteAt_0 σ (rd_ σ 0 9)) fun r_4 σ_3 =>
  bp_ (M_isDigit_0 r_4) fun r_6 =>
  if r_6 = 0 then (M_nextToken_201 σ_3)
  else (if (rd_ σ_3 0 10) ≤ (999 : Int32) then (bi_ (M_byteAt_0 σ_3 (rd_ σ_3 0 9)) fun r_11 σ_10 =>
  M_nextToken_185 k126 σ_10 ((((10 : Int32) * (rd_ σ_3 0 10)) + r_11) - (48 : Int32)))
  else (M_nextToken_185 k126 σ_3 (rd_ σ_3 0 10))))
  else (M_nextToken_201 σ)
set_option maxRecDepth 100000 in
theorem kM_nextToken_126 {p : Program} {l : Launch} {e : Env} {s : State} {m : MethodId} {args : Array Value} {below : List Frame} {meth : Method} {c : Code} {D : va_G} {cy : Nat → ClassId} {a : Nat → Nat} (X : cx_ cX12_nextToken RX12 wsX12_nextToken 2 none 16 a D cy xfM p s m args meth c) {k126 : Sg → Option (Unit × Sg)}  {σ' : Sg} (hk126 : ∀ (σ : Sg)  (H : Heap) (locs : List Loc) (ls : Array Slot), k126 σ = some ((), σ') → iv_ 16 a D (shM cy a σ) s H locs → lv_has ls 2 [(0, .ref (a 0))] → W p l e ({ frames := 1, cells := 0, slots := 0, locals := 21 }) s m args below meth c H locs 0 0 (MQ below (qg_ 16 a D (shM cy a σ') none s.heap.size) args s 0 0 (fr_ 16 a s.heap.size)) (F0 m 126 ls [])) : ∀ (σ : Sg)  (H : Heap) (locs : List Loc) (ls : Array Slot), M_nextToken_126 k126 σ = some ((), σ') → iv_ 16 a D (shM cy a σ) s H locs → lv_has ls 2 [(0, .ref (a 0))] → W p l e ({ frames := 1, cells := 0, slots := 0, locals := 21 }) s m args below meth c H locs 0 0 (MQ below (qg_ 16 a D (shM cy a σ') none s.heap.size) args s 0 0 (fr_ 16 a s.heap.size)) (F0 m 126 ls []) := by
  obtain ⟨hx, hb, hr, hml, hown, hts, hlk, hK, hA, hXf⟩ := id X
  intro σ  H locs ls h I hl
  unfold M_nextToken_126 at h
  refine lv_aload_n hx hb dX12_nextToken_126 rfl (lv_at hl 0 rfl) ?_
  refine ig_ (index := 87) X I (fun _ q => List.mem_cons_of_mem _ (List.mem_append_right _ q)) 0 (by decide) shM_0 rfl 7 (by decide) (by decide +kernel) rfl (v := .int (rd_ σ 0 7)) rfl dX12_nextToken_127 ?_
  refine lv_iconst (v := 2) hx hb dX12_nextToken_130 (by decide) ?_
  refine lv_icmp_ne (tgt := 201) hx hb dX12_nextToken_131 (by decide) (fun c_1 => ?_) (fun c_1 => ?_)
  · have h := if_f h c_1
    exact kM_nextToken_201 X  σ H locs ls h I (lv_sub hl [0] rfl)
  · have h := if_t h c_1
    refine lv_aload_n hx hb dX12_nextToken_134 rfl (lv_at hl 0 rfl) ?_
    refine lv_aload_n hx hb dX12_nextToken_135 rfl (lv_at hl 0 rfl) ?_
    refine ig_ (index := 70) X I (fun _ q => List.mem_cons_of_mem _ (List.mem_append_right _ q)) 0 (by decide) shM_0 rfl 9 (by decide) (by decide +kernel) rfl (v := .int (rd_ σ 0 9)) rfl dX12_nextToken_136 ?_
    obtain ⟨r_4, σ_3, hc_2, h⟩ := bi_of h
    refine cg_ (rV_ (nn := 1) (As := [.int (rd_ σ 0 9)]) (rest := []) X xkM I (c_M_byteAt hc_2 H.size) gX12_nextToken_X12_byteAt rfl ⟨rfl, rfl⟩ (by decide +kernel) ⟨Nat.le_of_ble_eq_true rfl, Nat.le_of_ble_eq_true rfl⟩ (by decide) shM_0 rfl rfl hl.1 rfl (Nat.le_of_ble_eq_true rfl) dX12_nextToken_139) I (fun H locs I => ?_)
    obtain ⟨r_6, hc_5, h⟩ := bp_of h
    refine cp_ (rP_ (nn := 1) (As := [.int r_4]) (rest := []) ⟨hx, hb, hml, hown, hts⟩ (c_M_isDigit hc_5) gX12_nextToken_X12_isDigit rfl ⟨rfl, rfl⟩ (by decide +kernel) ⟨Nat.le_of_ble_eq_true rfl, Nat.le_of_ble_eq_true rfl⟩ rfl hl.1 rfl (Nat.le_of_ble_eq_true rfl) dX12_nextToken_142 ⟨Nat.zero_le _, Nat.zero_le _⟩) ?_
    refine lv_if_eq (tgt := 201) hx hb dX12_nextToken_145 (by decide) (fun c_7 => ?_) (fun c_7 => ?_)
    · have h := if_t h c_7
      exact kM_nextToken_201 X  σ_3 H locs ls h I (lv_sub hl [0] rfl)
    · have h := if_f h c_7
      refine lv_aload_n hx hb dX12_nextToken_148 rfl (lv_at hl 0 rfl) ?_
      refine lv_aload_n hx hb dX12_nextToken_149 rfl (lv_at hl 0 rfl) ?_
      refine ig_ (index := 90) X I (fun _ q => List.mem_cons_of_mem _ (List.mem_append_right _ q)) 0 (by decide) shM_0 rfl 10 (by decide) (by decide +kernel) rfl (v := .int (rd_ σ_3 0 10)) rfl dX12_nextToken_150 ?_
      refine lv_sipush (v := 999) hx hb dX12_nextToken_153 (by decide) ?_
      refine lv_icmp_le (tgt := 166) hx hb dX12_nextToken_156 (by decide) (fun c_8 => ?_) (fun c_8 => ?_)
      · have h := if_t h c_8
        refine lv_bipush (v := 10) hx hb dX12_nextToken_166 (by decide) ?_
        refine lv_aload_n hx hb dX12_nextToken_168 rfl (lv_at hl 0 rfl) ?_
        refine ig_ (index := 90) X I (fun _ q => List.mem_cons_of_mem _ (List.mem_append_right _ q)) 0 (by decide) shM_0 rfl 10 (by decide) (by decide +kernel) rfl (v := .int (rd_ σ_3 0 10)) rfl dX12_nextToken_169 ?_
        refine lv_imul hx hb dX12_nextToken_172 ?_
        refine lv_aload_n hx hb dX12_nextToken_173 rfl (lv_at hl 0 rfl) ?_
        refine lv_aload_n hx hb dX12_nextToken_174 rfl (lv_at hl 0 rfl) ?_
        refine ig_ (index := 70) X I (fun _ q => List.mem_cons_of_mem _ (List.mem_append_right _ q)) 0 (by decide) shM_0 rfl 9 (by decide) (by decide +kernel) rfl (v := .int (rd_ σ_3 0 9)) rfl dX12_nextToken_175 ?_
        obtain ⟨r_11, σ_10, hc_9, h⟩ := bi_of h
        refine cg_ (rV_ (nn := 1) (As := [.int (rd_ σ_3 0 9)]) (rest := [.int ((10 : Int32) * (rd_ σ_3 0 10)), .ref (a 0)]) X xkM I (c_M_byteAt hc_9 H.size) gX12_nextToken_X12_byteAt rfl ⟨rfl, rfl⟩ (by decide +kernel) ⟨Nat.le_of_ble_eq_true rfl, Nat.le_of_ble_eq_true rfl⟩ (by decide) shM_0 rfl rfl hl.1 rfl (Nat.le_of_ble_eq_true rfl) dX12_nextToken_178) I (fun H locs I => ?_)
        refine lv_iadd hx hb dX12_nextToken_181 ?_
        refine lv_bipush (v := 48) hx hb dX12_nextToken_182 (by decide) ?_
        refine lv_isub hx hb dX12_nextToken_184 ?_
        exact kM_nextToken_185 X hk126 σ_10 ((((10 : Int32) * (rd_ σ_3 0 10)) + r_11) - (48 : Int32)) H locs ls h I (lv_sub hl [0] rfl)
      · have h := if_f h c_8
        refine lv_aload_n hx hb dX12_nextToken_159 rfl (lv_at hl 0 rfl) ?_
        refine ig_ (index := 90) X I (fun _ q => List.mem_cons_of_mem _ (List.mem_append_right _ q)) 0 (by decide) shM_0 rfl 10 (by decide) (by decide +kernel) rfl (v := .int (rd_ σ_3 0 10)) rfl dX12_nextToken_160 ?_
        refine lv_goto (tgt := 185) hx hb dX12_nextToken_163 (by decide) ?_
        exact kM_nextToken_185 X hk126 σ_3 (rd_ σ_3 0 10) H locs ls h I (lv_sub hl [0] rfl)
set_option maxRecDepth 100000 in
theorem kM_nextToken_126L {p : Program} {l : Launch} {e : Env} {s : State} {m : MethodId} {args : Array Value} {below : List Frame} {meth : Method} {c : Code} {D : va_G} {cy : Nat → ClassId} {a : Nat → Nat} (X : cx_ cX12_nextToken RX12 wsX12_nextToken 2 none 16 a D cy xfM p s m args meth c)   {σ' : Sg}  : ∀ (n : Nat), ∀ (σ : Sg)  (H : Heap) (locs : List Loc) (ls : Array Slot), lp_ (M_nextToken_126) (fun _ => none) n σ = some ((), σ') → iv_ 16 a D (shM cy a σ) s H locs → lv_has ls 2 [(0, .ref (a 0))] → W p l e ({ frames := 1, cells := 0, slots := 0, locals := 21 }) s m args below meth c H locs 0 0 (MQ below (qg_ 16 a D (shM cy a σ') none s.heap.size) args s 0 0 (fr_ 16 a s.heap.size)) (F0 m 126 ls []) := by
  intro n
  induction n with
  | zero =>
    intro _ _ _ _ h
    exact absurd h (fun q => by cases (show (none : Option _) = some _ from q))
  | succ n ih => exact kM_nextToken_126 X ih

def M_nextToken_91 (k91 : Sg → Option (Unit × Sg)) (σ : Sg)  : Option (Unit × Sg) :=
  if (rd_ σ 0 7) = (1 : Int32) then (bi_ (M_byteAt_0 σ (rd_ σ 0 9)) fun r_4 σ_3 =>
  bp_ (M_isAlpha_0 r_4) fun r_6 =>
  if r_6 = 0 then (lp_ M_nextToken_126 (fun _ => none) FU σ_3)
  else (lt_ (wr_ σ_3 0 9 ((rd_ σ_3 0 9) + (1 : Int32))) fun σ_8 =>
  k91 σ_8))
  else (lp_ M_nextToken_126 (fun _ => none) FU σ)
set_option maxRecDepth 100000 in
theorem kM_nextToken_91 {p : Program} {l : Launch} {e : Env} {s : State} {m : MethodId} {args : Array Value} {below : List Frame} {meth : Method} {c : Code} {D : va_G} {cy : Nat → ClassId} {a : Nat → Nat} (X : cx_ cX12_nextToken RX12 wsX12_nextToken 2 none 16 a D cy xfM p s m args meth c) {k91 : Sg → Option (Unit × Sg)}  {σ' : Sg} (hk91 : ∀ (σ : Sg)  (H : Heap) (locs : List Loc) (ls : Array Slot), k91 σ = some ((), σ') → iv_ 16 a D (shM cy a σ) s H locs → lv_has ls 2 [(0, .ref (a 0))] → W p l e ({ frames := 1, cells := 0, slots := 0, locals := 21 }) s m args below meth c H locs 0 0 (MQ below (qg_ 16 a D (shM cy a σ') none s.heap.size) args s 0 0 (fr_ 16 a s.heap.size)) (F0 m 91 ls [])) : ∀ (σ : Sg)  (H : Heap) (locs : List Loc) (ls : Array Slot), M_nextToken_91 k91 σ = some ((), σ') → iv_ 16 a D (shM cy a σ) s H locs → lv_has ls 2 [(0, .ref (a 0))] → W p l e ({ frames := 1, cells := 0, slots := 0, locals := 21 }) s m args below meth c H locs 0 0 (MQ below (qg_ 16 a D (shM cy a σ') none s.heap.size) args s 0 0 (fr_ 16 a s.heap.size)) (F0 m 91 ls []) := by
  obtain ⟨hx, hb, hr, hml, hown, hts, hlk, hK, hA, hXf⟩ := id X
  intro σ  H locs ls h I hl
  unfold M_nextToken_91 at h
  refine lv_aload_n hx hb dX12_nextToken_91 rfl (lv_at hl 0 rfl) ?_
  refine ig_ (index := 87) X I (fun _ q => List.mem_cons_of_mem _ (List.mem_append_right _ q)) 0 (by decide) shM_0 rfl 7 (by decide) (by decide +kernel) rfl (v := .int (rd_ σ 0 7)) rfl dX12_nextToken_92 ?_
  refine lv_iconst (v := 1) hx hb dX12_nextToken_95 (by decide) ?_
  refine lv_icmp_ne (tgt := 126) hx hb dX12_nextToken_96 (by decide) (fun c_1 => ?_) (fun c_1 => ?_)
  · have h := if_f h c_1
    exact kM_nextToken_126L X  FU σ H locs ls h I (lv_sub hl [0] rfl)
  · have h := if_t h c_1
    refine lv_aload_n hx hb dX12_nextToken_99 rfl (lv_at hl 0 rfl) ?_
    refine lv_aload_n hx hb dX12_nextToken_100 rfl (lv_at hl 0 rfl) ?_
    refine ig_ (index := 70) X I (fun _ q => List.mem_cons_of_mem _ (List.mem_append_right _ q)) 0 (by decide) shM_0 rfl 9 (by decide) (by decide +kernel) rfl (v := .int (rd_ σ 0 9)) rfl dX12_nextToken_101 ?_
    obtain ⟨r_4, σ_3, hc_2, h⟩ := bi_of h
    refine cg_ (rV_ (nn := 1) (As := [.int (rd_ σ 0 9)]) (rest := []) X xkM I (c_M_byteAt hc_2 H.size) gX12_nextToken_X12_byteAt rfl ⟨rfl, rfl⟩ (by decide +kernel) ⟨Nat.le_of_ble_eq_true rfl, Nat.le_of_ble_eq_true rfl⟩ (by decide) shM_0 rfl rfl hl.1 rfl (Nat.le_of_ble_eq_true rfl) dX12_nextToken_104) I (fun H locs I => ?_)
    obtain ⟨r_6, hc_5, h⟩ := bp_of h
    refine cp_ (rP_ (nn := 1) (As := [.int r_4]) (rest := []) ⟨hx, hb, hml, hown, hts⟩ (c_M_isAlpha hc_5) gX12_nextToken_X12_isAlpha rfl ⟨rfl, rfl⟩ (by decide +kernel) ⟨Nat.le_of_ble_eq_true rfl, Nat.le_of_ble_eq_true rfl⟩ rfl hl.1 rfl (Nat.le_of_ble_eq_true rfl) dX12_nextToken_107 ⟨Nat.zero_le _, Nat.zero_le _⟩) ?_
    refine lv_if_eq (tgt := 126) hx hb dX12_nextToken_110 (by decide) (fun c_7 => ?_) (fun c_7 => ?_)
    · have h := if_t h c_7
      exact kM_nextToken_126L X  FU σ_3 H locs ls h I (lv_sub hl [0] rfl)
    · have h := if_f h c_7
      refine lv_aload_n hx hb dX12_nextToken_113 rfl (lv_at hl 0 rfl) ?_
      refine lv_dup hx hb dX12_nextToken_114 rfl ?_
      refine ig_ (index := 70) X I (fun _ q => List.mem_cons_of_mem _ (List.mem_append_right _ q)) 0 (by decide) shM_0 rfl 9 (by decide) (by decide +kernel) rfl (v := .int (rd_ σ_3 0 9)) rfl dX12_nextToken_115 ?_
      refine lv_iconst (v := 1) hx hb dX12_nextToken_118 (by decide) ?_
      refine lv_iadd hx hb dX12_nextToken_119 ?_
      refine ip_ (index := 70) (ty := .int) X I (fun _ q => List.mem_cons_of_mem _ (List.mem_append_right _ q)) tyX12 tyX12_ok nmX12 0 (by decide) shM_0 rfl 9 (by decide) (by decide +kernel) rfl rfl (by decide +kernel) rfl rfl (Nat.le_of_ble_eq_true rfl) shM_pt_9 dX12_nextToken_120 (fun σ_8 H locs e_9 I => ?_)
      have h := lt_at h e_9
      refine lv_goto (tgt := 91) hx hb dX12_nextToken_123 (by decide) ?_
      exact hk91 σ_8 H locs ls h I (lv_sub hl [0] rfl)
set_option maxRecDepth 100000 in
theorem kM_nextToken_91L {p : Program} {l : Launch} {e : Env} {s : State} {m : MethodId} {args : Array Value} {below : List Frame} {meth : Method} {c : Code} {D : va_G} {cy : Nat → ClassId} {a : Nat → Nat} (X : cx_ cX12_nextToken RX12 wsX12_nextToken 2 none 16 a D cy xfM p s m args meth c)   {σ' : Sg}  : ∀ (n : Nat), ∀ (σ : Sg)  (H : Heap) (locs : List Loc) (ls : Array Slot), lp_ (M_nextToken_91) (fun _ => none) n σ = some ((), σ') → iv_ 16 a D (shM cy a σ) s H locs → lv_has ls 2 [(0, .ref (a 0))] → W p l e ({ frames := 1, cells := 0, slots := 0, locals := 21 }) s m args below meth c H locs 0 0 (MQ below (qg_ 16 a D (shM cy a σ') none s.heap.size) args s 0 0 (fr_ 16 a s.heap.size)) (F0 m 91 ls []) := by
  intro n
  induction n with
  | zero =>
    intro _ _ _ _ h
    exact absurd h (fun q => by cases (show (none : Option _) = some _ from q))
  | succ n ih => exact kM_nextToken_91 X ih

def M_nextToken_83  (σ : Sg) (t1 : Int32) : Option (Unit × Sg) :=
  lt_ (wr_ σ 0 7 t1) fun σ_1 =>
  lt_ (wr_ σ_1 0 10 (0 : Int32)) fun σ_3 =>
  lp_ M_nextToken_91 (fun _ => none) FU σ_3
set_option maxRecDepth 100000 in
theorem kM_nextToken_83 {p : Program} {l : Launch} {e : Env} {s : State} {m : MethodId} {args : Array Value} {below : List Frame} {meth : Method} {c : Code} {D : va_G} {cy : Nat → ClassId} {a : Nat → Nat} (X : cx_ cX12_nextToken RX12 wsX12_nextToken 2 none 16 a D cy xfM p s m args meth c)   {σ' : Sg}  : ∀ (σ : Sg) (t1 : Int32) (H : Heap) (locs : List Loc) (ls : Array Slot), M_nextToken_83 σ t1 = some ((), σ') → iv_ 16 a D (shM cy a σ) s H locs → lv_has ls 2 [(0, .ref (a 0))] → W p l e ({ frames := 1, cells := 0, slots := 0, locals := 21 }) s m args below meth c H locs 0 0 (MQ below (qg_ 16 a D (shM cy a σ') none s.heap.size) args s 0 0 (fr_ 16 a s.heap.size)) (F0 m 83 ls [.int t1, .ref (a 0)]) := by
  obtain ⟨hx, hb, hr, hml, hown, hts, hlk, hK, hA, hXf⟩ := id X
  intro σ t1 H locs ls h I hl
  unfold M_nextToken_83 at h
  refine ip_ (index := 87) (ty := .int) X I (fun _ q => List.mem_cons_of_mem _ (List.mem_append_right _ q)) tyX12 tyX12_ok nmX12 0 (by decide) shM_0 rfl 7 (by decide) (by decide +kernel) rfl rfl (by decide +kernel) rfl rfl (Nat.le_of_ble_eq_true rfl) shM_pt_7 dX12_nextToken_83 (fun σ_1 H locs e_2 I => ?_)
  have h := lt_at h e_2
  refine lv_aload_n hx hb dX12_nextToken_86 rfl (lv_at hl 0 rfl) ?_
  refine lv_iconst (v := 0) hx hb dX12_nextToken_87 (by decide) ?_
  refine ip_ (index := 90) (ty := .int) X I (fun _ q => List.mem_cons_of_mem _ (List.mem_append_right _ q)) tyX12 tyX12_ok nmX12 0 (by decide) shM_0 rfl 10 (by decide) (by decide +kernel) rfl rfl (by decide +kernel) rfl rfl (Nat.le_of_ble_eq_true rfl) shM_pt_10 dX12_nextToken_88 (fun σ_3 H locs e_4 I => ?_)
  have h := lt_at h e_4
  exact kM_nextToken_91L X  FU σ_3 H locs ls h I (lv_sub hl [0] rfl)
def M_nextToken_8 (k8 : Sg → Option (Unit × Sg)) (σ : Sg)  : Option (Unit × Sg) :=
  bi_ (M_byteAt_0 σ (rd_ σ 0 8)) fun r_3 σ_2 =>
  if r_3 = (32 : Int32) then (lt_ (wr_ σ_2 0 8 ((rd_ σ_2 0 8) + (1 : Int32))) fun σ_17 =>
  k8 σ_17)
  else (lt_ (wr_ σ_2 0 9 (rd_ σ_2 0 8)) fun σ_5 =>
  bi_ (M_byteAt_0 σ_5 (rd_ σ_5 0 8)) fun r_9 σ_8 =>
  if 0 ≤ r_9 then (bp_ (M_isAlpha_0 r_9) fun r_12 =>
  if r_12 = 0 then (bp_ (M_isDigit_0 r_9) fun r_15 =>
  if r_15 = 0 then (M_nextToken_83 σ_8 (3 : Int32))
  else (M_nextToken_83 σ_8 (2 : Int32)))
  else (M_nextToken_83 σ_8 (1 : Int32)))
  else (M_nextToken_83 σ_8 (0 : Int32)))
set_option maxRecDepth 100000 in
theorem kM_nextToken_8 {p : Program} {l : Launch} {e : Env} {s : State} {m : MethodId} {args : Array Value} {below : List Frame} {meth : Method} {c : Code} {D : va_G} {cy : Nat → ClassId} {a : Nat → Nat} (X : cx_ cX12_nextToken RX12 wsX12_nextToken 2 none 16 a D cy xfM p s m args meth c) {k8 : Sg → Option (Unit × Sg)}  {σ' : Sg} (hk8 : ∀ (σ : Sg)  (H : Heap) (locs : List Loc) (ls : Array Slot), k8 σ = some ((), σ') → iv_ 16 a D (shM cy a σ) s H locs → lv_has ls 2 [(0, .ref (a 0))] → W p l e ({ frames := 1, cells := 0, slots := 0, locals := 21 }) s m args below meth c H locs 0 0 (MQ below (qg_ 16 a D (shM cy a σ') none s.heap.size) args s 0 0 (fr_ 16 a s.heap.size)) (F0 m 8 ls [])) : ∀ (σ : Sg)  (H : Heap) (locs : List Loc) (ls : Array Slot), M_nextToken_8 k8 σ = some ((), σ') → iv_ 16 a D (shM cy a σ) s H locs → lv_has ls 2 [(0, .ref (a 0))] → W p l e ({ frames := 1, cells := 0, slots := 0, locals := 21 }) s m args below meth c H locs 0 0 (MQ below (qg_ 16 a D (shM cy a σ') none s.heap.size) args s 0 0 (fr_ 16 a s.heap.size)) (F0 m 8 ls []) := by
  obtain ⟨hx, hb, hr, hml, hown, hts, hlk, hK, hA, hXf⟩ := id X
  intro σ  H locs ls h I hl
  unfold M_nextToken_8 at h
  refine lv_aload_n hx hb dX12_nextToken_8 rfl (lv_at hl 0 rfl) ?_
  refine lv_aload_n hx hb dX12_nextToken_9 rfl (lv_at hl 0 rfl) ?_
  refine ig_ (index := 73) X I (fun _ q => List.mem_cons_of_mem _ (List.mem_append_right _ q)) 0 (by decide) shM_0 rfl 8 (by decide) (by decide +kernel) rfl (v := .int (rd_ σ 0 8)) rfl dX12_nextToken_10 ?_
  obtain ⟨r_3, σ_2, hc_1, h⟩ := bi_of h
  refine cg_ (rV_ (nn := 1) (As := [.int (rd_ σ 0 8)]) (rest := []) X xkM I (c_M_byteAt hc_1 H.size) gX12_nextToken_X12_byteAt rfl ⟨rfl, rfl⟩ (by decide +kernel) ⟨Nat.le_of_ble_eq_true rfl, Nat.le_of_ble_eq_true rfl⟩ (by decide) shM_0 rfl rfl hl.1 rfl (Nat.le_of_ble_eq_true rfl) dX12_nextToken_13) I (fun H locs I => ?_)
  refine lv_bipush (v := 32) hx hb dX12_nextToken_16 (by decide) ?_
  refine lv_icmp_ne (tgt := 34) hx hb dX12_nextToken_18 (by decide) (fun c_4 => ?_) (fun c_4 => ?_)
  · have h := if_f h c_4
    refine lv_aload_n hx hb dX12_nextToken_34 rfl (lv_at hl 0 rfl) ?_
    refine lv_aload_n hx hb dX12_nextToken_35 rfl (lv_at hl 0 rfl) ?_
    refine ig_ (index := 73) X I (fun _ q => List.mem_cons_of_mem _ (List.mem_append_right _ q)) 0 (by decide) shM_0 rfl 8 (by decide) (by decide +kernel) rfl (v := .int (rd_ σ_2 0 8)) rfl dX12_nextToken_36 ?_
    refine ip_ (index := 70) (ty := .int) X I (fun _ q => List.mem_cons_of_mem _ (List.mem_append_right _ q)) tyX12 tyX12_ok nmX12 0 (by decide) shM_0 rfl 9 (by decide) (by decide +kernel) rfl rfl (by decide +kernel) rfl rfl (Nat.le_of_ble_eq_true rfl) shM_pt_9 dX12_nextToken_39 (fun σ_5 H locs e_6 I => ?_)
    have h := lt_at h e_6
    refine lv_aload_n hx hb dX12_nextToken_42 rfl (lv_at hl 0 rfl) ?_
    refine lv_aload_n hx hb dX12_nextToken_43 rfl (lv_at hl 0 rfl) ?_
    refine ig_ (index := 73) X I (fun _ q => List.mem_cons_of_mem _ (List.mem_append_right _ q)) 0 (by decide) shM_0 rfl 8 (by decide) (by decide +kernel) rfl (v := .int (rd_ σ_5 0 8)) rfl dX12_nextToken_44 ?_
    obtain ⟨r_9, σ_8, hc_7, h⟩ := bi_of h
    refine cg_ (rV_ (nn := 1) (As := [.int (rd_ σ_5 0 8)]) (rest := []) X xkM I (c_M_byteAt hc_7 H.size) gX12_nextToken_X12_byteAt rfl ⟨rfl, rfl⟩ (by decide +kernel) ⟨Nat.le_of_ble_eq_true rfl, Nat.le_of_ble_eq_true rfl⟩ (by decide) shM_0 rfl rfl hl.1 rfl (Nat.le_of_ble_eq_true rfl) dX12_nextToken_47) I (fun H locs I => ?_)
    refine lv_istore_n (lv' := [(1, .int r_9), (0, .ref (a 0))]) hx hb dX12_nextToken_50 rfl hl (by decide) rfl (fun ls hl => ?_)
    refine lv_aload_n hx hb dX12_nextToken_51 rfl (lv_at hl 1 rfl) ?_
    refine lv_iload_n hx hb dX12_nextToken_52 rfl (lv_at hl 0 rfl) ?_
    refine lv_if_ge (tgt := 60) hx hb dX12_nextToken_53 (by decide) (fun c_10 => ?_) (fun c_10 => ?_)
    · have h := if_t h c_10
      refine lv_iload_n hx hb dX12_nextToken_60 rfl (lv_at hl 0 rfl) ?_
      obtain ⟨r_12, hc_11, h⟩ := bp_of h
      refine cp_ (rP_ (nn := 1) (As := [.int r_9]) (rest := [.ref (a 0)]) ⟨hx, hb, hml, hown, hts⟩ (c_M_isAlpha hc_11) gX12_nextToken_X12_isAlpha rfl ⟨rfl, rfl⟩ (by decide +kernel) ⟨Nat.le_of_ble_eq_true rfl, Nat.le_of_ble_eq_true rfl⟩ rfl hl.1 rfl (Nat.le_of_ble_eq_true rfl) dX12_nextToken_61 ⟨Nat.zero_le _, Nat.zero_le _⟩) ?_
      refine lv_if_eq (tgt := 71) hx hb dX12_nextToken_64 (by decide) (fun c_13 => ?_) (fun c_13 => ?_)
      · have h := if_t h c_13
        refine lv_iload_n hx hb dX12_nextToken_71 rfl (lv_at hl 0 rfl) ?_
        obtain ⟨r_15, hc_14, h⟩ := bp_of h
        refine cp_ (rP_ (nn := 1) (As := [.int r_9]) (rest := [.ref (a 0)]) ⟨hx, hb, hml, hown, hts⟩ (c_M_isDigit hc_14) gX12_nextToken_X12_isDigit rfl ⟨rfl, rfl⟩ (by decide +kernel) ⟨Nat.le_of_ble_eq_true rfl, Nat.le_of_ble_eq_true rfl⟩ rfl hl.1 rfl (Nat.le_of_ble_eq_true rfl) dX12_nextToken_72 ⟨Nat.zero_le _, Nat.zero_le _⟩) ?_
        refine lv_if_eq (tgt := 82) hx hb dX12_nextToken_75 (by decide) (fun c_16 => ?_) (fun c_16 => ?_)
        · have h := if_t h c_16
          refine lv_iconst (v := 3) hx hb dX12_nextToken_82 (by decide) ?_
          exact kM_nextToken_83 X  σ_8 (3 : Int32) H locs ls h I (lv_sub hl [1] rfl)
        · have h := if_f h c_16
          refine lv_iconst (v := 2) hx hb dX12_nextToken_78 (by decide) ?_
          refine lv_goto (tgt := 83) hx hb dX12_nextToken_79 (by decide) ?_
          exact kM_nextToken_83 X  σ_8 (2 : Int32) H locs ls h I (lv_sub hl [1] rfl)
      · have h := if_f h c_13
        refine lv_iconst (v := 1) hx hb dX12_nextToken_67 (by decide) ?_
        refine lv_goto (tgt := 83) hx hb dX12_nextToken_68 (by decide) ?_
        exact kM_nextToken_83 X  σ_8 (1 : Int32) H locs ls h I (lv_sub hl [1] rfl)
    · have h := if_f h c_10
      refine lv_iconst (v := 0) hx hb dX12_nextToken_56 (by decide) ?_
      refine lv_goto (tgt := 83) hx hb dX12_nextToken_57 (by decide) ?_
      exact kM_nextToken_83 X  σ_8 (0 : Int32) H locs ls h I (lv_sub hl [1] rfl)
  · have h := if_t h c_4
    refine lv_aload_n hx hb dX12_nextToken_21 rfl (lv_at hl 0 rfl) ?_
    refine lv_dup hx hb dX12_nextToken_22 rfl ?_
    refine ig_ (index := 73) X I (fun _ q => List.mem_cons_of_mem _ (List.mem_append_right _ q)) 0 (by decide) shM_0 rfl 8 (by decide) (by decide +kernel) rfl (v := .int (rd_ σ_2 0 8)) rfl dX12_nextToken_23 ?_
    refine lv_iconst (v := 1) hx hb dX12_nextToken_26 (by decide) ?_
    refine lv_iadd hx hb dX12_nextToken_27 ?_
    refine ip_ (index := 73) (ty := .int) X I (fun _ q => List.mem_cons_of_mem _ (List.mem_append_right _ q)) tyX12 tyX12_ok nmX12 0 (by decide) shM_0 rfl 8 (by decide) (by decide +kernel) rfl rfl (by decide +kernel) rfl rfl (Nat.le_of_ble_eq_true rfl) shM_pt_8 dX12_nextToken_28 (fun σ_17 H locs e_18 I => ?_)
    have h := lt_at h e_18
    refine lv_goto (tgt := 8) hx hb dX12_nextToken_31 (by decide) ?_
    exact hk8 σ_17 H locs ls h I (lv_sub hl [0] rfl)
set_option maxRecDepth 100000 in
theorem kM_nextToken_8L {p : Program} {l : Launch} {e : Env} {s : State} {m : MethodId} {args : Array Value} {below : List Frame} {meth : Method} {c : Code} {D : va_G} {cy : Nat → ClassId} {a : Nat → Nat} (X : cx_ cX12_nextToken RX12 wsX12_nextToken 2 none 16 a D cy xfM p s m args meth c)   {σ' : Sg}  : ∀ (n : Nat), ∀ (σ : Sg)  (H : Heap) (locs : List Loc) (ls : Array Slot), lp_ (M_nextToken_8) (fun _ => none) n σ = some ((), σ') → iv_ 16 a D (shM cy a σ) s H locs → lv_has ls 2 [(0, .ref (a 0))] → W p l e ({ frames := 1, cells := 0, slots := 0, locals := 21 }) s m args below meth c H locs 0 0 (MQ below (qg_ 16 a D (shM cy a σ') none s.heap.size) args s 0 0 (fr_ 16 a s.heap.size)) (F0 m 8 ls []) := by
  intro n
  induction n with
  | zero =>
    intro _ _ _ _ h
    exact absurd h (fun q => by cases (show (none : Option _) = some _ from q))
  | succ n ih => exact kM_nextToken_8 X ih

def M_nextToken_0  (σ : Sg)  : Option (Unit × Sg) :=
  lt_ (wr_ σ 0 8 (rd_ σ 0 9)) fun σ_1 =>
  lp_ M_nextToken_8 (fun _ => none) FU σ_1
set_option maxRecDepth 100000 in
theorem kM_nextToken_0 {p : Program} {l : Launch} {e : Env} {s : State} {m : MethodId} {args : Array Value} {below : List Frame} {meth : Method} {c : Code} {D : va_G} {cy : Nat → ClassId} {a : Nat → Nat} (X : cx_ cX12_nextToken RX12 wsX12_nextToken 2 none 16 a D cy xfM p s m args meth c)   {σ' : Sg}  : ∀ (σ : Sg)  (H : Heap) (locs : List Loc) (ls : Array Slot), M_nextToken_0 σ = some ((), σ') → iv_ 16 a D (shM cy a σ) s H locs → lv_has ls 2 [(0, .ref (a 0))] → W p l e ({ frames := 1, cells := 0, slots := 0, locals := 21 }) s m args below meth c H locs 0 0 (MQ below (qg_ 16 a D (shM cy a σ') none s.heap.size) args s 0 0 (fr_ 16 a s.heap.size)) (F0 m 0 ls []) := by
  obtain ⟨hx, hb, hr, hml, hown, hts, hlk, hK, hA, hXf⟩ := id X
  intro σ  H locs ls h I hl
  unfold M_nextToken_0 at h
  refine lv_aload_n hx hb dX12_nextToken_0 rfl (lv_at hl 0 rfl) ?_
  refine lv_aload_n hx hb dX12_nextToken_1 rfl (lv_at hl 0 rfl) ?_
  refine ig_ (index := 70) X I (fun _ q => List.mem_cons_of_mem _ (List.mem_append_right _ q)) 0 (by decide) shM_0 rfl 9 (by decide) (by decide +kernel) rfl (v := .int (rd_ σ 0 9)) rfl dX12_nextToken_2 ?_
  refine ip_ (index := 73) (ty := .int) X I (fun _ q => List.mem_cons_of_mem _ (List.mem_append_right _ q)) tyX12 tyX12_ok nmX12 0 (by decide) shM_0 rfl 8 (by decide) (by decide +kernel) rfl rfl (by decide +kernel) rfl rfl (Nat.le_of_ble_eq_true rfl) shM_pt_8 dX12_nextToken_5 (fun σ_1 H locs e_2 I => ?_)
  have h := lt_at h e_2
  exact kM_nextToken_8L X  FU σ_1 H locs ls h I (lv_sub hl [0] rfl)
theorem c_M_nextToken {l : Launch} {D : va_G} {cy : Nat → ClassId} {a : Nat → Nat} {σ : Sg}   {σ' : Sg} (h : M_nextToken_0 σ  = some ((), σ')) (sz : Nat) : Met l yX12_nextToken wsX12_nextToken ({ frames := 1, cells := 0, slots := 0, locals := 21 }) (va_Pc [.ref (a 0)] (pr_ 16 a D cy (shM cy a σ) xfM sz)) (qg_ 16 a D (shM cy a σ') none sz) 0 0 (fr_ 16 a sz) := by
  refine ent_ (by decide) rfl (Nat.le_of_ble_eq_true rfl) ?_
  intro p e s m below meth c ls hsz X I hl
  subst hsz
  exact kM_nextToken_0 X σ  s.heap [] ls h I hl

def M_isName_0  (σ : Sg) (x1 : Int32) (x2 : Int32) (x3 : Int32) (x4 : Int32) (x5 : Int32) : Option (Int32 × Sg) :=
  if (rd_ σ 0 7) = (1 : Int32) then (if ((rd_ σ 0 9) - (rd_ σ 0 8)) = x1 then (bi_ (M_byteAt_0 σ (rd_ σ 0 8)) fun r_5 σ_4 =>
  if r_5 = x2 then (bi_ (M_byteAt_0 σ_4 ((rd_ σ_4 0 8) + (1 : Int32))) fun r_9 σ_8 =>
  if r_9 = x3 then (bi_ (M_byteAt_0 σ_8 ((rd_ σ_8 0 8) + (2 : Int32))) fun r_13 σ_12 =>
  if r_13 = x4 then (bi_ (M_byteAt_0 σ_12 ((rd_ σ_12 0 9) - (1 : Int32))) fun r_17 σ_16 =>
  if r_17 = x5 then (some ((1 : Int32), σ_16))
  else (some ((0 : Int32), σ_16)))
  else (some ((0 : Int32), σ_12)))
  else (some ((0 : Int32), σ_8)))
  else (some ((0 : Int32), σ_4)))
  else (some ((0 : Int32), σ)))
  else (some ((0 : Int32), σ))
set_option maxRecDepth 100000 in
theorem kM_isName_0 {p : Program} {l : Launch} {e : Env} {s : State} {m : MethodId} {args : Array Value} {below : List Frame} {meth : Method} {c : Code} {D : va_G} {cy : Nat → ClassId} {a : Nat → Nat} (X : cx_ cX12_isName RX12 wsX12_isName 6 (some .boolean) 16 a D cy xfM p s m args meth c)  {r0 : Int32} {σ' : Sg}  : ∀ (σ : Sg) (x1 : Int32) (x2 : Int32) (x3 : Int32) (x4 : Int32) (x5 : Int32) (H : Heap) (locs : List Loc) (ls : Array Slot), M_isName_0 σ x1 x2 x3 x4 x5 = some (r0, σ') → iv_ 16 a D (shM cy a σ) s H locs → lv_has ls 6 [(0, .ref (a 0)), (1, .int x1), (2, .int x2), (3, .int x3), (4, .int x4), (5, .int x5)] → W p l e ({ frames := 1, cells := 0, slots := 0, locals := 21 }) s m args below meth c H locs 0 0 (MQ below (qg_ 16 a D (shM cy a σ') (some (.int r0)) s.heap.size) args s 0 0 (fr_ 16 a s.heap.size)) (F0 m 0 ls []) := by
  obtain ⟨hx, hb, hr, hml, hown, hts, hlk, hK, hA, hXf⟩ := id X
  intro σ x1 x2 x3 x4 x5 H locs ls h I hl
  unfold M_isName_0 at h
  refine lv_aload_n hx hb dX12_isName_0 rfl (lv_at hl 0 rfl) ?_
  refine ig_ (index := 87) X I (fun _ q => List.mem_cons_of_mem _ (List.mem_append_right _ q)) 0 (by decide) shM_0 rfl 7 (by decide) (by decide +kernel) rfl (v := .int (rd_ σ 0 7)) rfl dX12_isName_1 ?_
  refine lv_iconst (v := 1) hx hb dX12_isName_4 (by decide) ?_
  refine lv_icmp_ne (tgt := 81) hx hb dX12_isName_5 (by decide) (fun c_1 => ?_) (fun c_1 => ?_)
  · have h := if_f h c_1
    refine lv_iconst (v := 0) hx hb dX12_isName_81 (by decide) ?_
    obtain ⟨rfl, rfl⟩ := re_s h
    exact rtz_ X I (by decide) dX12_isName_82
  · have h := if_t h c_1
    refine lv_aload_n hx hb dX12_isName_8 rfl (lv_at hl 0 rfl) ?_
    refine ig_ (index := 70) X I (fun _ q => List.mem_cons_of_mem _ (List.mem_append_right _ q)) 0 (by decide) shM_0 rfl 9 (by decide) (by decide +kernel) rfl (v := .int (rd_ σ 0 9)) rfl dX12_isName_9 ?_
    refine lv_aload_n hx hb dX12_isName_12 rfl (lv_at hl 0 rfl) ?_
    refine ig_ (index := 73) X I (fun _ q => List.mem_cons_of_mem _ (List.mem_append_right _ q)) 0 (by decide) shM_0 rfl 8 (by decide) (by decide +kernel) rfl (v := .int (rd_ σ 0 8)) rfl dX12_isName_13 ?_
    refine lv_isub hx hb dX12_isName_16 ?_
    refine lv_iload_n hx hb dX12_isName_17 rfl (lv_at hl 1 rfl) ?_
    refine lv_icmp_ne (tgt := 81) hx hb dX12_isName_18 (by decide) (fun c_2 => ?_) (fun c_2 => ?_)
    · have h := if_f h c_2
      refine lv_iconst (v := 0) hx hb dX12_isName_81 (by decide) ?_
      obtain ⟨rfl, rfl⟩ := re_s h
      exact rtz_ X I (by decide) dX12_isName_82
    · have h := if_t h c_2
      refine lv_aload_n hx hb dX12_isName_21 rfl (lv_at hl 0 rfl) ?_
      refine lv_aload_n hx hb dX12_isName_22 rfl (lv_at hl 0 rfl) ?_
      refine ig_ (index := 73) X I (fun _ q => List.mem_cons_of_mem _ (List.mem_append_right _ q)) 0 (by decide) shM_0 rfl 8 (by decide) (by decide +kernel) rfl (v := .int (rd_ σ 0 8)) rfl dX12_isName_23 ?_
      obtain ⟨r_5, σ_4, hc_3, h⟩ := bi_of h
      refine cg_ (rV_ (nn := 1) (As := [.int (rd_ σ 0 8)]) (rest := []) X xkM I (c_M_byteAt hc_3 H.size) gX12_isName_X12_byteAt rfl ⟨rfl, rfl⟩ (by decide +kernel) ⟨Nat.le_of_ble_eq_true rfl, Nat.le_of_ble_eq_true rfl⟩ (by decide) shM_0 rfl rfl hl.1 rfl (Nat.le_of_ble_eq_true rfl) dX12_isName_26) I (fun H locs I => ?_)
      refine lv_iload_n hx hb dX12_isName_29 rfl (lv_at hl 2 rfl) ?_
      refine lv_icmp_ne (tgt := 81) hx hb dX12_isName_30 (by decide) (fun c_6 => ?_) (fun c_6 => ?_)
      · have h := if_f h c_6
        refine lv_iconst (v := 0) hx hb dX12_isName_81 (by decide) ?_
        obtain ⟨rfl, rfl⟩ := re_s h
        exact rtz_ X I (by decide) dX12_isName_82
      · have h := if_t h c_6
        refine lv_aload_n hx hb dX12_isName_33 rfl (lv_at hl 0 rfl) ?_
        refine lv_aload_n hx hb dX12_isName_34 rfl (lv_at hl 0 rfl) ?_
        refine ig_ (index := 73) X I (fun _ q => List.mem_cons_of_mem _ (List.mem_append_right _ q)) 0 (by decide) shM_0 rfl 8 (by decide) (by decide +kernel) rfl (v := .int (rd_ σ_4 0 8)) rfl dX12_isName_35 ?_
        refine lv_iconst (v := 1) hx hb dX12_isName_38 (by decide) ?_
        refine lv_iadd hx hb dX12_isName_39 ?_
        obtain ⟨r_9, σ_8, hc_7, h⟩ := bi_of h
        refine cg_ (rV_ (nn := 1) (As := [.int ((rd_ σ_4 0 8) + (1 : Int32))]) (rest := []) X xkM I (c_M_byteAt hc_7 H.size) gX12_isName_X12_byteAt rfl ⟨rfl, rfl⟩ (by decide +kernel) ⟨Nat.le_of_ble_eq_true rfl, Nat.le_of_ble_eq_true rfl⟩ (by decide) shM_0 rfl rfl hl.1 rfl (Nat.le_of_ble_eq_true rfl) dX12_isName_40) I (fun H locs I => ?_)
        refine lv_iload_n hx hb dX12_isName_43 rfl (lv_at hl 3 rfl) ?_
        refine lv_icmp_ne (tgt := 81) hx hb dX12_isName_44 (by decide) (fun c_10 => ?_) (fun c_10 => ?_)
        · have h := if_f h c_10
          refine lv_iconst (v := 0) hx hb dX12_isName_81 (by decide) ?_
          obtain ⟨rfl, rfl⟩ := re_s h
          exact rtz_ X I (by decide) dX12_isName_82
        · have h := if_t h c_10
          refine lv_aload_n hx hb dX12_isName_47 rfl (lv_at hl 0 rfl) ?_
          refine lv_aload_n hx hb dX12_isName_48 rfl (lv_at hl 0 rfl) ?_
          refine ig_ (index := 73) X I (fun _ q => List.mem_cons_of_mem _ (List.mem_append_right _ q)) 0 (by decide) shM_0 rfl 8 (by decide) (by decide +kernel) rfl (v := .int (rd_ σ_8 0 8)) rfl dX12_isName_49 ?_
          refine lv_iconst (v := 2) hx hb dX12_isName_52 (by decide) ?_
          refine lv_iadd hx hb dX12_isName_53 ?_
          obtain ⟨r_13, σ_12, hc_11, h⟩ := bi_of h
          refine cg_ (rV_ (nn := 1) (As := [.int ((rd_ σ_8 0 8) + (2 : Int32))]) (rest := []) X xkM I (c_M_byteAt hc_11 H.size) gX12_isName_X12_byteAt rfl ⟨rfl, rfl⟩ (by decide +kernel) ⟨Nat.le_of_ble_eq_true rfl, Nat.le_of_ble_eq_true rfl⟩ (by decide) shM_0 rfl rfl hl.1 rfl (Nat.le_of_ble_eq_true rfl) dX12_isName_54) I (fun H locs I => ?_)
          refine lv_iload hx hb dX12_isName_57 (lv_at hl 4 rfl) ?_
          refine lv_icmp_ne (tgt := 81) hx hb dX12_isName_59 (by decide) (fun c_14 => ?_) (fun c_14 => ?_)
          · have h := if_f h c_14
            refine lv_iconst (v := 0) hx hb dX12_isName_81 (by decide) ?_
            obtain ⟨rfl, rfl⟩ := re_s h
            exact rtz_ X I (by decide) dX12_isName_82
          · have h := if_t h c_14
            refine lv_aload_n hx hb dX12_isName_62 rfl (lv_at hl 0 rfl) ?_
            refine lv_aload_n hx hb dX12_isName_63 rfl (lv_at hl 0 rfl) ?_
            refine ig_ (index := 70) X I (fun _ q => List.mem_cons_of_mem _ (List.mem_append_right _ q)) 0 (by decide) shM_0 rfl 9 (by decide) (by decide +kernel) rfl (v := .int (rd_ σ_12 0 9)) rfl dX12_isName_64 ?_
            refine lv_iconst (v := 1) hx hb dX12_isName_67 (by decide) ?_
            refine lv_isub hx hb dX12_isName_68 ?_
            obtain ⟨r_17, σ_16, hc_15, h⟩ := bi_of h
            refine cg_ (rV_ (nn := 1) (As := [.int ((rd_ σ_12 0 9) - (1 : Int32))]) (rest := []) X xkM I (c_M_byteAt hc_15 H.size) gX12_isName_X12_byteAt rfl ⟨rfl, rfl⟩ (by decide +kernel) ⟨Nat.le_of_ble_eq_true rfl, Nat.le_of_ble_eq_true rfl⟩ (by decide) shM_0 rfl rfl hl.1 rfl (Nat.le_of_ble_eq_true rfl) dX12_isName_69) I (fun H locs I => ?_)
            refine lv_iload hx hb dX12_isName_72 (lv_at hl 5 rfl) ?_
            refine lv_icmp_ne (tgt := 81) hx hb dX12_isName_74 (by decide) (fun c_18 => ?_) (fun c_18 => ?_)
            · have h := if_f h c_18
              refine lv_iconst (v := 0) hx hb dX12_isName_81 (by decide) ?_
              obtain ⟨rfl, rfl⟩ := re_s h
              exact rtz_ X I (by decide) dX12_isName_82
            · have h := if_t h c_18
              refine lv_iconst (v := 1) hx hb dX12_isName_77 (by decide) ?_
              refine lv_goto (tgt := 82) hx hb dX12_isName_78 (by decide) ?_
              obtain ⟨rfl, rfl⟩ := re_s h
              exact rtz_ X I (by decide) dX12_isName_82
theorem c_M_isName {l : Launch} {D : va_G} {cy : Nat → ClassId} {a : Nat → Nat} {σ : Sg} {x1 : Int32} {x2 : Int32} {x3 : Int32} {x4 : Int32} {x5 : Int32} {r0 : Int32} {σ' : Sg} (h : M_isName_0 σ x1 x2 x3 x4 x5 = some (r0, σ')) (sz : Nat) : Met l yX12_isName wsX12_isName ({ frames := 1, cells := 0, slots := 0, locals := 21 }) (va_Pc [.ref (a 0), .int x1, .int x2, .int x3, .int x4, .int x5] (pr_ 16 a D cy (shM cy a σ) xfM sz)) (qg_ 16 a D (shM cy a σ') (some (.int r0)) sz) 0 0 (fr_ 16 a sz) := by
  refine ent_ (by decide) rfl (Nat.le_of_ble_eq_true rfl) ?_
  intro p e s m below meth c ls hsz X I hl
  subst hsz
  exact kM_isName_0 X σ x1 x2 x3 x4 x5 s.heap [] ls h I hl

def M_isFive_0  (σ : Sg) (x1 : Int32) (x2 : Int32) (x3 : Int32) (x4 : Int32) (x5 : Int32) : Option (Int32 × Sg) :=
  bi_ (M_isName_0 σ (5 : Int32) x1 x2 x3 x5) fun r_3 σ_2 =>
  if r_3 = 0 then (some ((0 : Int32), σ_2))
  else (bi_ (M_byteAt_0 σ_2 ((rd_ σ_2 0 8) + (3 : Int32))) fun r_7 σ_6 =>
  if r_7 = x4 then (some ((1 : Int32), σ_6))
  else (some ((0 : Int32), σ_6)))
set_option maxRecDepth 100000 in
theorem kM_isFive_0 {p : Program} {l : Launch} {e : Env} {s : State} {m : MethodId} {args : Array Value} {below : List Frame} {meth : Method} {c : Code} {D : va_G} {cy : Nat → ClassId} {a : Nat → Nat} (X : cx_ cX12_isFive RX12 wsX12_isFive 6 (some .boolean) 16 a D cy xfM p s m args meth c)  {r0 : Int32} {σ' : Sg}  : ∀ (σ : Sg) (x1 : Int32) (x2 : Int32) (x3 : Int32) (x4 : Int32) (x5 : Int32) (H : Heap) (locs : List Loc) (ls : Array Slot), M_isFive_0 σ x1 x2 x3 x4 x5 = some (r0, σ') → iv_ 16 a D (shM cy a σ) s H locs → lv_has ls 6 [(0, .ref (a 0)), (1, .int x1), (2, .int x2), (3, .int x3), (4, .int x4), (5, .int x5)] → W p l e ({ frames := 2, cells := 0, slots := 0, locals := 46 }) s m args below meth c H locs 0 0 (MQ below (qg_ 16 a D (shM cy a σ') (some (.int r0)) s.heap.size) args s 0 0 (fr_ 16 a s.heap.size)) (F0 m 0 ls []) := by
  obtain ⟨hx, hb, hr, hml, hown, hts, hlk, hK, hA, hXf⟩ := id X
  intro σ x1 x2 x3 x4 x5 H locs ls h I hl
  unfold M_isFive_0 at h
  refine lv_aload_n hx hb dX12_isFive_0 rfl (lv_at hl 0 rfl) ?_
  refine lv_iconst (v := 5) hx hb dX12_isFive_1 (by decide) ?_
  refine lv_iload_n hx hb dX12_isFive_2 rfl (lv_at hl 1 rfl) ?_
  refine lv_iload_n hx hb dX12_isFive_3 rfl (lv_at hl 2 rfl) ?_
  refine lv_iload_n hx hb dX12_isFive_4 rfl (lv_at hl 3 rfl) ?_
  refine lv_iload hx hb dX12_isFive_5 (lv_at hl 5 rfl) ?_
  obtain ⟨r_3, σ_2, hc_1, h⟩ := bi_of h
  refine cg_ (rV_ (nn := 5) (As := [.int (5 : Int32), .int x1, .int x2, .int x3, .int x5]) (rest := []) X xkM I (c_M_isName hc_1 H.size) gX12_isFive_X12_isName rfl ⟨rfl, rfl⟩ (by decide +kernel) ⟨Nat.le_of_ble_eq_true rfl, Nat.le_of_ble_eq_true rfl⟩ (by decide) shM_0 rfl rfl hl.1 rfl (Nat.le_of_ble_eq_true rfl) dX12_isFive_7) I (fun H locs I => ?_)
  refine lv_if_eq (tgt := 32) hx hb dX12_isFive_10 (by decide) (fun c_4 => ?_) (fun c_4 => ?_)
  · have h := if_t h c_4
    refine lv_iconst (v := 0) hx hb dX12_isFive_32 (by decide) ?_
    obtain ⟨rfl, rfl⟩ := re_s h
    exact rtz_ X I (by decide) dX12_isFive_33
  · have h := if_f h c_4
    refine lv_aload_n hx hb dX12_isFive_13 rfl (lv_at hl 0 rfl) ?_
    refine lv_aload_n hx hb dX12_isFive_14 rfl (lv_at hl 0 rfl) ?_
    refine ig_ (index := 73) X I (fun _ q => List.mem_cons_of_mem _ (List.mem_append_right _ q)) 0 (by decide) shM_0 rfl 8 (by decide) (by decide +kernel) rfl (v := .int (rd_ σ_2 0 8)) rfl dX12_isFive_15 ?_
    refine lv_iconst (v := 3) hx hb dX12_isFive_18 (by decide) ?_
    refine lv_iadd hx hb dX12_isFive_19 ?_
    obtain ⟨r_7, σ_6, hc_5, h⟩ := bi_of h
    refine cg_ (rV_ (nn := 1) (As := [.int ((rd_ σ_2 0 8) + (3 : Int32))]) (rest := []) X xkM I (c_M_byteAt hc_5 H.size) gX12_isFive_X12_byteAt rfl ⟨rfl, rfl⟩ (by decide +kernel) ⟨Nat.le_of_ble_eq_true rfl, Nat.le_of_ble_eq_true rfl⟩ (by decide) shM_0 rfl rfl hl.1 rfl (Nat.le_of_ble_eq_true rfl) dX12_isFive_20) I (fun H locs I => ?_)
    refine lv_iload hx hb dX12_isFive_23 (lv_at hl 4 rfl) ?_
    refine lv_icmp_ne (tgt := 32) hx hb dX12_isFive_25 (by decide) (fun c_8 => ?_) (fun c_8 => ?_)
    · have h := if_f h c_8
      refine lv_iconst (v := 0) hx hb dX12_isFive_32 (by decide) ?_
      obtain ⟨rfl, rfl⟩ := re_s h
      exact rtz_ X I (by decide) dX12_isFive_33
    · have h := if_t h c_8
      refine lv_iconst (v := 1) hx hb dX12_isFive_28 (by decide) ?_
      refine lv_goto (tgt := 33) hx hb dX12_isFive_29 (by decide) ?_
      obtain ⟨rfl, rfl⟩ := re_s h
      exact rtz_ X I (by decide) dX12_isFive_33
theorem c_M_isFive {l : Launch} {D : va_G} {cy : Nat → ClassId} {a : Nat → Nat} {σ : Sg} {x1 : Int32} {x2 : Int32} {x3 : Int32} {x4 : Int32} {x5 : Int32} {r0 : Int32} {σ' : Sg} (h : M_isFive_0 σ x1 x2 x3 x4 x5 = some (r0, σ')) (sz : Nat) : Met l yX12_isFive wsX12_isFive ({ frames := 2, cells := 0, slots := 0, locals := 46 }) (va_Pc [.ref (a 0), .int x1, .int x2, .int x3, .int x4, .int x5] (pr_ 16 a D cy (shM cy a σ) xfM sz)) (qg_ 16 a D (shM cy a σ') (some (.int r0)) sz) 0 0 (fr_ 16 a sz) := by
  refine ent_ (by decide) rfl (Nat.le_of_ble_eq_true rfl) ?_
  intro p e s m below meth c ls hsz X I hl
  subst hsz
  exact kM_isFive_0 X σ x1 x2 x3 x4 x5 s.heap [] ls h I hl

def M_isFour_0  (σ : Sg) (x1 : Int32) (x2 : Int32) (x3 : Int32) (x4 : Int32) : Option (Int32 × Sg) :=
  bi_ (M_isName_0 σ (4 : Int32) x1 x2 x3 x4) fun r_3 σ_2 =>
  gd_ (bo_ r_3) (some (r_3, σ_2))
set_option maxRecDepth 100000 in
theorem kM_isFour_0 {p : Program} {l : Launch} {e : Env} {s : State} {m : MethodId} {args : Array Value} {below : List Frame} {meth : Method} {c : Code} {D : va_G} {cy : Nat → ClassId} {a : Nat → Nat} (X : cx_ cX12_isFour RX12 wsX12_isFour 5 (some .boolean) 16 a D cy xfM p s m args meth c)  {r0 : Int32} {σ' : Sg}  : ∀ (σ : Sg) (x1 : Int32) (x2 : Int32) (x3 : Int32) (x4 : Int32) (H : Heap) (locs : List Loc) (ls : Array Slot), M_isFour_0 σ x1 x2 x3 x4 = some (r0, σ') → iv_ 16 a D (shM cy a σ) s H locs → lv_has ls 5 [(0, .ref (a 0)), (1, .int x1), (2, .int x2), (3, .int x3), (4, .int x4)] → W p l e ({ frames := 2, cells := 0, slots := 0, locals := 46 }) s m args below meth c H locs 0 0 (MQ below (qg_ 16 a D (shM cy a σ') (some (.int r0)) s.heap.size) args s 0 0 (fr_ 16 a s.heap.size)) (F0 m 0 ls []) := by
  obtain ⟨hx, hb, hr, hml, hown, hts, hlk, hK, hA, hXf⟩ := id X
  intro σ x1 x2 x3 x4 H locs ls h I hl
  unfold M_isFour_0 at h
  refine lv_aload_n hx hb dX12_isFour_0 rfl (lv_at hl 0 rfl) ?_
  refine lv_iconst (v := 4) hx hb dX12_isFour_1 (by decide) ?_
  refine lv_iload_n hx hb dX12_isFour_2 rfl (lv_at hl 1 rfl) ?_
  refine lv_iload_n hx hb dX12_isFour_3 rfl (lv_at hl 2 rfl) ?_
  refine lv_iload_n hx hb dX12_isFour_4 rfl (lv_at hl 3 rfl) ?_
  refine lv_iload hx hb dX12_isFour_5 (lv_at hl 4 rfl) ?_
  obtain ⟨r_3, σ_2, hc_1, h⟩ := bi_of h
  refine cg_ (rV_ (nn := 5) (As := [.int (4 : Int32), .int x1, .int x2, .int x3, .int x4]) (rest := []) X xkM I (c_M_isName hc_1 H.size) gX12_isFour_X12_isName rfl ⟨rfl, rfl⟩ (by decide +kernel) ⟨Nat.le_of_ble_eq_true rfl, Nat.le_of_ble_eq_true rfl⟩ (by decide) shM_0 rfl rfl hl.1 rfl (Nat.le_of_ble_eq_true rfl) dX12_isFour_7) I (fun H locs I => ?_)
  obtain ⟨g_4, h⟩ := gd_of h
  obtain ⟨rfl, rfl⟩ := re_s h
  exact rtz_ X I (bo_of g_4).1 dX12_isFour_10
theorem c_M_isFour {l : Launch} {D : va_G} {cy : Nat → ClassId} {a : Nat → Nat} {σ : Sg} {x1 : Int32} {x2 : Int32} {x3 : Int32} {x4 : Int32} {r0 : Int32} {σ' : Sg} (h : M_isFour_0 σ x1 x2 x3 x4 = some (r0, σ')) (sz : Nat) : Met l yX12_isFour wsX12_isFour ({ frames := 2, cells := 0, slots := 0, locals := 46 }) (va_Pc [.ref (a 0), .int x1, .int x2, .int x3, .int x4] (pr_ 16 a D cy (shM cy a σ) xfM sz)) (qg_ 16 a D (shM cy a σ') (some (.int r0)) sz) 0 0 (fr_ 16 a sz) := by
  refine ent_ (by decide) rfl (Nat.le_of_ble_eq_true rfl) ?_
  intro p e s m below meth c ls hsz X I hl
  subst hsz
  exact kM_isFour_0 X σ x1 x2 x3 x4 s.heap [] ls h I hl

def M_isSame_0  (σ : Sg) (x1 : Int32) (x2 : Int32) (x3 : Int32) (x4 : Int32) : Option (Int32 × Sg) :=
  bi_ (M_byteAt_0 σ ((rd_ σ 0 8) + x1)) fun r_3 σ_2 =>
  if r_3 = x2 then (bi_ (M_byteAt_0 σ_2 (((rd_ σ_2 0 8) + x1) + (1 : Int32))) fun r_7 σ_6 =>
  if r_7 = x3 then (bi_ (M_byteAt_0 σ_6 (((rd_ σ_6 0 8) + x1) + (2 : Int32))) fun r_11 σ_10 =>
  if r_11 = x4 then (some ((1 : Int32), σ_10))
  else (some ((0 : Int32), σ_10)))
  else (some ((0 : Int32), σ_6)))
  else (some ((0 : Int32), σ_2))
set_option maxRecDepth 100000 in
theorem kM_isSame_0 {p : Program} {l : Launch} {e : Env} {s : State} {m : MethodId} {args : Array Value} {below : List Frame} {meth : Method} {c : Code} {D : va_G} {cy : Nat → ClassId} {a : Nat → Nat} (X : cx_ cX12_isSame RX12 wsX12_isSame 5 (some .boolean) 16 a D cy xfM p s m args meth c)  {r0 : Int32} {σ' : Sg}  : ∀ (σ : Sg) (x1 : Int32) (x2 : Int32) (x3 : Int32) (x4 : Int32) (H : Heap) (locs : List Loc) (ls : Array Slot), M_isSame_0 σ x1 x2 x3 x4 = some (r0, σ') → iv_ 16 a D (shM cy a σ) s H locs → lv_has ls 5 [(0, .ref (a 0)), (1, .int x1), (2, .int x2), (3, .int x3), (4, .int x4)] → W p l e ({ frames := 1, cells := 0, slots := 0, locals := 21 }) s m args below meth c H locs 0 0 (MQ below (qg_ 16 a D (shM cy a σ') (some (.int r0)) s.heap.size) args s 0 0 (fr_ 16 a s.heap.size)) (F0 m 0 ls []) := by
  obtain ⟨hx, hb, hr, hml, hown, hts, hlk, hK, hA, hXf⟩ := id X
  intro σ x1 x2 x3 x4 H locs ls h I hl
  unfold M_isSame_0 at h
  refine lv_aload_n hx hb dX12_isSame_0 rfl (lv_at hl 0 rfl) ?_
  refine lv_aload_n hx hb dX12_isSame_1 rfl (lv_at hl 0 rfl) ?_
  refine ig_ (index := 73) X I (fun _ q => List.mem_cons_of_mem _ (List.mem_append_right _ q)) 0 (by decide) shM_0 rfl 8 (by decide) (by decide +kernel) rfl (v := .int (rd_ σ 0 8)) rfl dX12_isSame_2 ?_
  refine lv_iload_n hx hb dX12_isSame_5 rfl (lv_at hl 1 rfl) ?_
  refine lv_iadd hx hb dX12_isSame_6 ?_
  obtain ⟨r_3, σ_2, hc_1, h⟩ := bi_of h
  refine cg_ (rV_ (nn := 1) (As := [.int ((rd_ σ 0 8) + x1)]) (rest := []) X xkM I (c_M_byteAt hc_1 H.size) gX12_isSame_X12_byteAt rfl ⟨rfl, rfl⟩ (by decide +kernel) ⟨Nat.le_of_ble_eq_true rfl, Nat.le_of_ble_eq_true rfl⟩ (by decide) shM_0 rfl rfl hl.1 rfl (Nat.le_of_ble_eq_true rfl) dX12_isSame_7) I (fun H locs I => ?_)
  refine lv_iload_n hx hb dX12_isSame_10 rfl (lv_at hl 2 rfl) ?_
  refine lv_icmp_ne (tgt := 51) hx hb dX12_isSame_11 (by decide) (fun c_4 => ?_) (fun c_4 => ?_)
  · have h := if_f h c_4
    refine lv_iconst (v := 0) hx hb dX12_isSame_51 (by decide) ?_
    obtain ⟨rfl, rfl⟩ := re_s h
    exact rtz_ X I (by decide) dX12_isSame_52
  · have h := if_t h c_4
    refine lv_aload_n hx hb dX12_isSame_14 rfl (lv_at hl 0 rfl) ?_
    refine lv_aload_n hx hb dX12_isSame_15 rfl (lv_at hl 0 rfl) ?_
    refine ig_ (index := 73) X I (fun _ q => List.mem_cons_of_mem _ (List.mem_append_right _ q)) 0 (by decide) shM_0 rfl 8 (by decide) (by decide +kernel) rfl (v := .int (rd_ σ_2 0 8)) rfl dX12_isSame_16 ?_
    refine lv_iload_n hx hb dX12_isSame_19 rfl (lv_at hl 1 rfl) ?_
    refine lv_iadd hx hb dX12_isSame_20 ?_
    refine lv_iconst (v := 1) hx hb dX12_isSame_21 (by decide) ?_
    refine lv_iadd hx hb dX12_isSame_22 ?_
    obtain ⟨r_7, σ_6, hc_5, h⟩ := bi_of h
    refine cg_ (rV_ (nn := 1) (As := [.int (((rd_ σ_2 0 8) + x1) + (1 : Int32))]) (rest := []) X xkM I (c_M_byteAt hc_5 H.size) gX12_isSame_X12_byteAt rfl ⟨rfl, rfl⟩ (by decide +kernel) ⟨Nat.le_of_ble_eq_true rfl, Nat.le_of_ble_eq_true rfl⟩ (by decide) shM_0 rfl rfl hl.1 rfl (Nat.le_of_ble_eq_true rfl) dX12_isSame_23) I (fun H locs I => ?_)
    refine lv_iload_n hx hb dX12_isSame_26 rfl (lv_at hl 3 rfl) ?_
    refine lv_icmp_ne (tgt := 51) hx hb dX12_isSame_27 (by decide) (fun c_8 => ?_) (fun c_8 => ?_)
    · have h := if_f h c_8
      refine lv_iconst (v := 0) hx hb dX12_isSame_51 (by decide) ?_
      obtain ⟨rfl, rfl⟩ := re_s h
      exact rtz_ X I (by decide) dX12_isSame_52
    · have h := if_t h c_8
      refine lv_aload_n hx hb dX12_isSame_30 rfl (lv_at hl 0 rfl) ?_
      refine lv_aload_n hx hb dX12_isSame_31 rfl (lv_at hl 0 rfl) ?_
      refine ig_ (index := 73) X I (fun _ q => List.mem_cons_of_mem _ (List.mem_append_right _ q)) 0 (by decide) shM_0 rfl 8 (by decide) (by decide +kernel) rfl (v := .int (rd_ σ_6 0 8)) rfl dX12_isSame_32 ?_
      refine lv_iload_n hx hb dX12_isSame_35 rfl (lv_at hl 1 rfl) ?_
      refine lv_iadd hx hb dX12_isSame_36 ?_
      refine lv_iconst (v := 2) hx hb dX12_isSame_37 (by decide) ?_
      refine lv_iadd hx hb dX12_isSame_38 ?_
      obtain ⟨r_11, σ_10, hc_9, h⟩ := bi_of h
      refine cg_ (rV_ (nn := 1) (As := [.int (((rd_ σ_6 0 8) + x1) + (2 : Int32))]) (rest := []) X xkM I (c_M_byteAt hc_9 H.size) gX12_isSame_X12_byteAt rfl ⟨rfl, rfl⟩ (by decide +kernel) ⟨Nat.le_of_ble_eq_true rfl, Nat.le_of_ble_eq_true rfl⟩ (by decide) shM_0 rfl rfl hl.1 rfl (Nat.le_of_ble_eq_true rfl) dX12_isSame_39) I (fun H locs I => ?_)
      refine lv_iload hx hb dX12_isSame_42 (lv_at hl 4 rfl) ?_
      refine lv_icmp_ne (tgt := 51) hx hb dX12_isSame_44 (by decide) (fun c_12 => ?_) (fun c_12 => ?_)
      · have h := if_f h c_12
        refine lv_iconst (v := 0) hx hb dX12_isSame_51 (by decide) ?_
        obtain ⟨rfl, rfl⟩ := re_s h
        exact rtz_ X I (by decide) dX12_isSame_52
      · have h := if_t h c_12
        refine lv_iconst (v := 1) hx hb dX12_isSame_47 (by decide) ?_
        refine lv_goto (tgt := 52) hx hb dX12_isSame_48 (by decide) ?_
        obtain ⟨rfl, rfl⟩ := re_s h
        exact rtz_ X I (by decide) dX12_isSame_52
theorem c_M_isSame {l : Launch} {D : va_G} {cy : Nat → ClassId} {a : Nat → Nat} {σ : Sg} {x1 : Int32} {x2 : Int32} {x3 : Int32} {x4 : Int32} {r0 : Int32} {σ' : Sg} (h : M_isSame_0 σ x1 x2 x3 x4 = some (r0, σ')) (sz : Nat) : Met l yX12_isSame wsX12_isSame ({ frames := 1, cells := 0, slots := 0, locals := 21 }) (va_Pc [.ref (a 0), .int x1, .int x2, .int x3, .int x4] (pr_ 16 a D cy (shM cy a σ) xfM sz)) (qg_ 16 a D (shM cy a σ') (some (.int r0)) sz) 0 0 (fr_ 16 a sz) := by
  refine ent_ (by decide) rfl (Nat.le_of_ble_eq_true rfl) ?_
  intro p e s m below meth c ls hsz X I hl
  subst hsz
  exact kM_isSame_0 X σ x1 x2 x3 x4 s.heap [] ls h I hl
