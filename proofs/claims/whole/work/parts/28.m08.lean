def M_kicksPlain_0  (σ : Sg) (x1 : Int32) : Option (Int32 × Sg) :=
  bi_ (M_runs_0 σ (10 : Int32)) fun _ σ_2 =>
  some (((x1 * (9 : Int32)) - (rd_ σ_2 0 25)), σ_2)
set_option maxRecDepth 100000 in
theorem kM_kicksPlain_0 {p : Program} {l : Launch} {e : Env} {s : State} {m : MethodId} {args : Array Value} {below : List Frame} {meth : Method} {c : Code} {D : va_G} {cy : Nat → ClassId} {a : Nat → Nat} (X : cx_ cX12_kicksPlain RX12 wsX12_kicksPlain 2 (some .int) 16 a D cy xfM p s m args meth c)  {r0 : Int32} {σ' : Sg}  : ∀ (σ : Sg) (x1 : Int32) (H : Heap) (locs : List Loc) (ls : Array Slot), M_kicksPlain_0 σ x1 = some (r0, σ') → iv_ 16 a D (shM cy a σ) s H locs → lv_has ls 2 [(0, .ref (a 0)), (1, .int x1)] → W p l e ({ frames := 1, cells := 0, slots := 0, locals := 21 }) s m args below meth c H locs 0 0 (MQ below (qg_ 16 a D (shM cy a σ') (some (.int r0)) s.heap.size) args s 0 0 (fr_ 16 a s.heap.size)) (F0 m 0 ls []) := by
  obtain ⟨hx, hb, hr, hml, hown, hts, hlk, hK, hA, hXf⟩ := id X
  intro σ x1 H locs ls h I hl
  unfold M_kicksPlain_0 at h
  refine lv_aload_n hx hb dX12_kicksPlain_0 rfl (lv_at hl 0 rfl) ?_
  refine lv_bipush (v := 10) hx hb dX12_kicksPlain_1 (by decide) ?_
  obtain ⟨_, σ_2, hc_1, h⟩ := bi_of h
  refine cv_ (rV_ (nn := 1) (As := [.int (10 : Int32)]) (rest := []) X xkM I (c_M_runs hc_1 H.size) gX12_kicksPlain_X12_runs rfl ⟨rfl, rfl⟩ (by decide +kernel) ⟨Nat.le_of_ble_eq_true rfl, Nat.le_of_ble_eq_true rfl⟩ (by decide) shM_0 rfl rfl hl.1 rfl (Nat.le_of_ble_eq_true rfl) dX12_kicksPlain_3) I (fun H locs I => ?_)
  refine lv_iload_n hx hb dX12_kicksPlain_6 rfl (lv_at hl 1 rfl) ?_
  refine lv_bipush (v := 9) hx hb dX12_kicksPlain_7 (by decide) ?_
  refine lv_imul hx hb dX12_kicksPlain_9 ?_
  refine lv_aload_n hx hb dX12_kicksPlain_10 rfl (lv_at hl 0 rfl) ?_
  refine ig_ (index := 308) X I (fun _ q => List.mem_cons_of_mem _ (List.mem_append_right _ q)) 0 (by decide) shM_0 rfl 25 (by decide) (by decide +kernel) rfl (v := .int (rd_ σ_2 0 25)) rfl dX12_kicksPlain_11 ?_
  refine lv_isub hx hb dX12_kicksPlain_14 ?_
  obtain ⟨rfl, rfl⟩ := re_s h
  exact rti_ X I dX12_kicksPlain_15
theorem c_M_kicksPlain {l : Launch} {D : va_G} {cy : Nat → ClassId} {a : Nat → Nat} {σ : Sg} {x1 : Int32} {r0 : Int32} {σ' : Sg} (h : M_kicksPlain_0 σ x1 = some (r0, σ')) (sz : Nat) : Met l yX12_kicksPlain wsX12_kicksPlain ({ frames := 1, cells := 0, slots := 0, locals := 21 }) (va_Pc [.ref (a 0), .int x1] (pr_ 16 a D cy (shM cy a σ) xfM sz)) (qg_ 16 a D (shM cy a σ') (some (.int r0)) sz) 0 0 (fr_ 16 a sz) := by
  refine ent_ (by decide) rfl (Nat.le_of_ble_eq_true rfl) ?_
  intro p e s m below meth c ls hsz X I hl
  subst hsz
  exact kM_kicksPlain_0 X σ x1 s.heap [] ls h I hl

def M_kicksOfUrchin_0  (σ : Sg) (x1 : Int32) : Option (Int32 × Sg) :=
  bi_ (M_runs_0 σ (30 : Int32)) fun _ σ_2 =>
  bi_ (M_kicksPlain_0 σ_2 x1) fun r_5 σ_4 =>
  some (((0 : Int32) - r_5), σ_4)
set_option maxRecDepth 100000 in
theorem kM_kicksOfUrchin_0 {p : Program} {l : Launch} {e : Env} {s : State} {m : MethodId} {args : Array Value} {below : List Frame} {meth : Method} {c : Code} {D : va_G} {cy : Nat → ClassId} {a : Nat → Nat} (X : cx_ cX12_kicksOfUrchin RX12 wsX12_kicksOfUrchin 2 (some .int) 16 a D cy xfM p s m args meth c)  {r0 : Int32} {σ' : Sg}  : ∀ (σ : Sg) (x1 : Int32) (H : Heap) (locs : List Loc) (ls : Array Slot), M_kicksOfUrchin_0 σ x1 = some (r0, σ') → iv_ 16 a D (shM cy a σ) s H locs → lv_has ls 2 [(0, .ref (a 0)), (1, .int x1)] → W p l e ({ frames := 2, cells := 0, slots := 0, locals := 42 }) s m args below meth c H locs 0 0 (MQ below (qg_ 16 a D (shM cy a σ') (some (.int r0)) s.heap.size) args s 0 0 (fr_ 16 a s.heap.size)) (F0 m 0 ls []) := by
  obtain ⟨hx, hb, hr, hml, hown, hts, hlk, hK, hA, hXf⟩ := id X
  intro σ x1 H locs ls h I hl
  unfold M_kicksOfUrchin_0 at h
  refine lv_aload_n hx hb dX12_kicksOfUrchin_0 rfl (lv_at hl 0 rfl) ?_
  refine lv_bipush (v := 30) hx hb dX12_kicksOfUrchin_1 (by decide) ?_
  obtain ⟨_, σ_2, hc_1, h⟩ := bi_of h
  refine cv_ (rV_ (nn := 1) (As := [.int (30 : Int32)]) (rest := []) X xkM I (c_M_runs hc_1 H.size) gX12_kicksOfUrchin_X12_runs rfl ⟨rfl, rfl⟩ (by decide +kernel) ⟨Nat.le_of_ble_eq_true rfl, Nat.le_of_ble_eq_true rfl⟩ (by decide) shM_0 rfl rfl hl.1 rfl (Nat.le_of_ble_eq_true rfl) dX12_kicksOfUrchin_3) I (fun H locs I => ?_)
  refine lv_iconst (v := 0) hx hb dX12_kicksOfUrchin_6 (by decide) ?_
  refine lv_aload_n hx hb dX12_kicksOfUrchin_7 rfl (lv_at hl 0 rfl) ?_
  refine lv_iload_n hx hb dX12_kicksOfUrchin_8 rfl (lv_at hl 1 rfl) ?_
  obtain ⟨r_5, σ_4, hc_3, h⟩ := bi_of h
  refine cg_ (rV_ (nn := 1) (As := [.int x1]) (rest := [.int (0 : Int32)]) X xkM I (c_M_kicksPlain hc_3 H.size) gX12_kicksOfUrchin_X12_kicksPlain rfl ⟨rfl, rfl⟩ (by decide +kernel) ⟨Nat.le_of_ble_eq_true rfl, Nat.le_of_ble_eq_true rfl⟩ (by decide) shM_0 rfl rfl hl.1 rfl (Nat.le_of_ble_eq_true rfl) dX12_kicksOfUrchin_9) I (fun H locs I => ?_)
  refine lv_isub hx hb dX12_kicksOfUrchin_12 ?_
  obtain ⟨rfl, rfl⟩ := re_s h
  exact rti_ X I dX12_kicksOfUrchin_13
theorem c_M_kicksOfUrchin {l : Launch} {D : va_G} {cy : Nat → ClassId} {a : Nat → Nat} {σ : Sg} {x1 : Int32} {r0 : Int32} {σ' : Sg} (h : M_kicksOfUrchin_0 σ x1 = some (r0, σ')) (sz : Nat) : Met l yX12_kicksOfUrchin wsX12_kicksOfUrchin ({ frames := 2, cells := 0, slots := 0, locals := 42 }) (va_Pc [.ref (a 0), .int x1] (pr_ 16 a D cy (shM cy a σ) xfM sz)) (qg_ 16 a D (shM cy a σ') (some (.int r0)) sz) 0 0 (fr_ 16 a sz) := by
  refine ent_ (by decide) rfl (Nat.le_of_ble_eq_true rfl) ?_
  intro p e s m below meth c ls hsz X I hl
  subst hsz
  exact kM_kicksOfUrchin_0 X σ x1 s.heap [] ls h I hl

def M_kicks_0  (σ : Sg) (x1 : Int32) : Option (Int32 × Sg) :=
  lt_ ((rd_ σ 0 24)) fun y_1 =>
  if y_1 = 2 then (bi_ (M_kicksOfUrchin_0 σ x1) fun r_6 σ_5 =>
  some (r_6, σ_5))
  else (if y_1 = 3 then (bi_ (M_runs_0 σ (51 : Int32)) fun _ σ_9 =>
  bi_ (M_kicksPlain_0 σ_9 x1) fun r_12 σ_11 =>
  some ((r_12 + (rd_ σ_11 0 26)), σ_11))
  else (if y_1 = 4 then (bi_ (M_runs_0 σ (40 : Int32)) fun _ σ_15 =>
  bi_ (M_kicksOfUrchin_0 σ_15 x1) fun r_18 σ_17 =>
  some ((r_18 ^^^ (6 : Int32)), σ_17))
  else (bi_ (M_kicksPlain_0 σ x1) fun r_21 σ_20 =>
  some (r_21, σ_20))))
set_option maxRecDepth 100000 in
theorem kM_kicks_0 {p : Program} {l : Launch} {e : Env} {s : State} {m : MethodId} {args : Array Value} {below : List Frame} {meth : Method} {c : Code} {D : va_G} {cy : Nat → ClassId} {a : Nat → Nat} (X : cx_ cX12_kicks RX12 wsX12_kicks 2 (some .int) 16 a D cy xfM p s m args meth c)  {r0 : Int32} {σ' : Sg}  : ∀ (σ : Sg) (x1 : Int32) (H : Heap) (locs : List Loc) (ls : Array Slot), M_kicks_0 σ x1 = some (r0, σ') → iv_ 16 a D (shM cy a σ) s H locs → lv_has ls 2 [(0, .ref (a 0)), (1, .int x1)] → W p l e ({ frames := 3, cells := 0, slots := 0, locals := 63 }) s m args below meth c H locs 0 0 (MQ below (qg_ 16 a D (shM cy a σ') (some (.int r0)) s.heap.size) args s 0 0 (fr_ 16 a s.heap.size)) (F0 m 0 ls []) := by
  obtain ⟨hx, hb, hr, hml, hown, hts, hlk, hK, hA, hXf⟩ := id X
  intro σ x1 H locs ls h I hl
  unfold M_kicks_0 at h
  refine lv_aload_n hx hb dX12_kicks_0 rfl (lv_at hl 0 rfl) ?_
  refine ig_ (index := 314) X I (fun _ q => List.mem_cons_of_mem _ (List.mem_append_right _ q)) 0 (by decide) shM_0 rfl 24 (by decide) (by decide +kernel) rfl (v := .int (rd_ σ 0 24)) rfl dX12_kicks_1 ?_
  refine lv_topi (fun y_1 e_2 => ?_)
  have h := lt_at h e_2
  by_cases c_3 : y_1 = 2
  · have h := if_t h c_3
    refine lv_tableIn (tgt := 32) (off := 28) hx hb dX12_kicks_4 (by rw [c_3]; decide) (by rw [c_3]; decide) (by rw [c_3]; decide) (by decide) ?_
    refine lv_aload_n hx hb dX12_kicks_32 rfl (lv_at hl 0 rfl) ?_
    refine lv_iload_n hx hb dX12_kicks_33 rfl (lv_at hl 1 rfl) ?_
    obtain ⟨r_6, σ_5, hc_4, h⟩ := bi_of h
    refine cg_ (rV_ (nn := 1) (As := [.int x1]) (rest := []) X xkM I (c_M_kicksOfUrchin hc_4 H.size) gX12_kicks_X12_kicksOfUrchin rfl ⟨rfl, rfl⟩ (by decide +kernel) ⟨Nat.le_of_ble_eq_true rfl, Nat.le_of_ble_eq_true rfl⟩ (by decide) shM_0 rfl rfl hl.1 rfl (Nat.le_of_ble_eq_true rfl) dX12_kicks_34) I (fun H locs I => ?_)
    obtain ⟨rfl, rfl⟩ := re_s h
    exact rti_ X I dX12_kicks_37
  · have h := if_f h c_3
    by_cases c_7 : y_1 = 3
    · have h := if_t h c_7
      refine lv_tableIn (tgt := 53) (off := 49) hx hb dX12_kicks_4 (by rw [c_7]; decide) (by rw [c_7]; decide) (by rw [c_7]; decide) (by decide) ?_
      refine lv_aload_n hx hb dX12_kicks_53 rfl (lv_at hl 0 rfl) ?_
      refine lv_bipush (v := 51) hx hb dX12_kicks_54 (by decide) ?_
      obtain ⟨_, σ_9, hc_8, h⟩ := bi_of h
      refine cv_ (rV_ (nn := 1) (As := [.int (51 : Int32)]) (rest := []) X xkM I (c_M_runs hc_8 H.size) gX12_kicks_X12_runs rfl ⟨rfl, rfl⟩ (by decide +kernel) ⟨Nat.le_of_ble_eq_true rfl, Nat.le_of_ble_eq_true rfl⟩ (by decide) shM_0 rfl rfl hl.1 rfl (Nat.le_of_ble_eq_true rfl) dX12_kicks_56) I (fun H locs I => ?_)
      refine lv_aload_n hx hb dX12_kicks_59 rfl (lv_at hl 0 rfl) ?_
      refine lv_iload_n hx hb dX12_kicks_60 rfl (lv_at hl 1 rfl) ?_
      obtain ⟨r_12, σ_11, hc_10, h⟩ := bi_of h
      refine cg_ (rV_ (nn := 1) (As := [.int x1]) (rest := []) X xkM I (c_M_kicksPlain hc_10 H.size) gX12_kicks_X12_kicksPlain rfl ⟨rfl, rfl⟩ (by decide +kernel) ⟨Nat.le_of_ble_eq_true rfl, Nat.le_of_ble_eq_true rfl⟩ (by decide) shM_0 rfl rfl hl.1 rfl (Nat.le_of_ble_eq_true rfl) dX12_kicks_61) I (fun H locs I => ?_)
      refine lv_aload_n hx hb dX12_kicks_64 rfl (lv_at hl 0 rfl) ?_
      refine ig_ (index := 320) X I (fun _ q => List.mem_cons_of_mem _ (List.mem_append_right _ q)) 0 (by decide) shM_0 rfl 26 (by decide) (by decide +kernel) rfl (v := .int (rd_ σ_11 0 26)) rfl dX12_kicks_65 ?_
      refine lv_iadd hx hb dX12_kicks_68 ?_
      obtain ⟨rfl, rfl⟩ := re_s h
      exact rti_ X I dX12_kicks_69
    · have h := if_f h c_7
      by_cases c_13 : y_1 = 4
      · have h := if_t h c_13
        refine lv_tableIn (tgt := 38) (off := 34) hx hb dX12_kicks_4 (by rw [c_13]; decide) (by rw [c_13]; decide) (by rw [c_13]; decide) (by decide) ?_
        refine lv_aload_n hx hb dX12_kicks_38 rfl (lv_at hl 0 rfl) ?_
        refine lv_bipush (v := 40) hx hb dX12_kicks_39 (by decide) ?_
        obtain ⟨_, σ_15, hc_14, h⟩ := bi_of h
        refine cv_ (rV_ (nn := 1) (As := [.int (40 : Int32)]) (rest := []) X xkM I (c_M_runs hc_14 H.size) gX12_kicks_X12_runs rfl ⟨rfl, rfl⟩ (by decide +kernel) ⟨Nat.le_of_ble_eq_true rfl, Nat.le_of_ble_eq_true rfl⟩ (by decide) shM_0 rfl rfl hl.1 rfl (Nat.le_of_ble_eq_true rfl) dX12_kicks_41) I (fun H locs I => ?_)
        refine lv_aload_n hx hb dX12_kicks_44 rfl (lv_at hl 0 rfl) ?_
        refine lv_iload_n hx hb dX12_kicks_45 rfl (lv_at hl 1 rfl) ?_
        obtain ⟨r_18, σ_17, hc_16, h⟩ := bi_of h
        refine cg_ (rV_ (nn := 1) (As := [.int x1]) (rest := []) X xkM I (c_M_kicksOfUrchin hc_16 H.size) gX12_kicks_X12_kicksOfUrchin rfl ⟨rfl, rfl⟩ (by decide +kernel) ⟨Nat.le_of_ble_eq_true rfl, Nat.le_of_ble_eq_true rfl⟩ (by decide) shM_0 rfl rfl hl.1 rfl (Nat.le_of_ble_eq_true rfl) dX12_kicks_46) I (fun H locs I => ?_)
        refine lv_bipush (v := 6) hx hb dX12_kicks_49 (by decide) ?_
        refine lv_ixor hx hb dX12_kicks_51 ?_
        obtain ⟨rfl, rfl⟩ := re_s h
        exact rti_ X I dX12_kicks_52
      · have h := if_f h c_13
        refine lv_tableOut (tgt := 70) hx hb dX12_kicks_4 (by have q0 := lv_neT (a := 2) c_3 rfl; have q1 := lv_neT (a := 3) c_7 rfl; have q2 := lv_neT (a := 4) c_13 rfl; omega) (by decide) ?_
        refine lv_aload_n hx hb dX12_kicks_70 rfl (lv_at hl 0 rfl) ?_
        refine lv_iload_n hx hb dX12_kicks_71 rfl (lv_at hl 1 rfl) ?_
        obtain ⟨r_21, σ_20, hc_19, h⟩ := bi_of h
        refine cg_ (rV_ (nn := 1) (As := [.int x1]) (rest := []) X xkM I (c_M_kicksPlain hc_19 H.size) gX12_kicks_X12_kicksPlain rfl ⟨rfl, rfl⟩ (by decide +kernel) ⟨Nat.le_of_ble_eq_true rfl, Nat.le_of_ble_eq_true rfl⟩ (by decide) shM_0 rfl rfl hl.1 rfl (Nat.le_of_ble_eq_true rfl) dX12_kicks_72) I (fun H locs I => ?_)
        obtain ⟨rfl, rfl⟩ := re_s h
        exact rti_ X I dX12_kicks_75
theorem c_M_kicks {l : Launch} {D : va_G} {cy : Nat → ClassId} {a : Nat → Nat} {σ : Sg} {x1 : Int32} {r0 : Int32} {σ' : Sg} (h : M_kicks_0 σ x1 = some (r0, σ')) (sz : Nat) : Met l yX12_kicks wsX12_kicks ({ frames := 3, cells := 0, slots := 0, locals := 63 }) (va_Pc [.ref (a 0), .int x1] (pr_ 16 a D cy (shM cy a σ) xfM sz)) (qg_ 16 a D (shM cy a σ') (some (.int r0)) sz) 0 0 (fr_ 16 a sz) := by
  refine ent_ (by decide) rfl (Nat.le_of_ble_eq_true rfl) ?_
  intro p e s m below meth c ls hsz X I hl
  subst hsz
  exact kM_kicks_0 X σ x1 s.heap [] ls h I hl

def M_praysPlain_0  (σ : Sg) (x1 : Int32) : Option (Int32 × Sg) :=
  bi_ (M_runs_0 σ (11 : Int32)) fun _ σ_2 =>
  bi_ (M_kicks_0 σ_2 x1) fun r_5 σ_4 =>
  some ((r_5 - ((rd_ σ_4 0 26) * (2 : Int32))), σ_4)
set_option maxRecDepth 100000 in
theorem kM_praysPlain_0 {p : Program} {l : Launch} {e : Env} {s : State} {m : MethodId} {args : Array Value} {below : List Frame} {meth : Method} {c : Code} {D : va_G} {cy : Nat → ClassId} {a : Nat → Nat} (X : cx_ cX12_praysPlain RX12 wsX12_praysPlain 2 (some .int) 16 a D cy xfM p s m args meth c)  {r0 : Int32} {σ' : Sg}  : ∀ (σ : Sg) (x1 : Int32) (H : Heap) (locs : List Loc) (ls : Array Slot), M_praysPlain_0 σ x1 = some (r0, σ') → iv_ 16 a D (shM cy a σ) s H locs → lv_has ls 2 [(0, .ref (a 0)), (1, .int x1)] → W p l e ({ frames := 4, cells := 0, slots := 0, locals := 84 }) s m args below meth c H locs 0 0 (MQ below (qg_ 16 a D (shM cy a σ') (some (.int r0)) s.heap.size) args s 0 0 (fr_ 16 a s.heap.size)) (F0 m 0 ls []) := by
  obtain ⟨hx, hb, hr, hml, hown, hts, hlk, hK, hA, hXf⟩ := id X
  intro σ x1 H locs ls h I hl
  unfold M_praysPlain_0 at h
  refine lv_aload_n hx hb dX12_praysPlain_0 rfl (lv_at hl 0 rfl) ?_
  refine lv_bipush (v := 11) hx hb dX12_praysPlain_1 (by decide) ?_
  obtain ⟨_, σ_2, hc_1, h⟩ := bi_of h
  refine cv_ (rV_ (nn := 1) (As := [.int (11 : Int32)]) (rest := []) X xkM I (c_M_runs hc_1 H.size) gX12_praysPlain_X12_runs rfl ⟨rfl, rfl⟩ (by decide +kernel) ⟨Nat.le_of_ble_eq_true rfl, Nat.le_of_ble_eq_true rfl⟩ (by decide) shM_0 rfl rfl hl.1 rfl (Nat.le_of_ble_eq_true rfl) dX12_praysPlain_3) I (fun H locs I => ?_)
  refine lv_aload_n hx hb dX12_praysPlain_6 rfl (lv_at hl 0 rfl) ?_
  refine lv_iload_n hx hb dX12_praysPlain_7 rfl (lv_at hl 1 rfl) ?_
  obtain ⟨r_5, σ_4, hc_3, h⟩ := bi_of h
  refine cg_ (rV_ (nn := 1) (As := [.int x1]) (rest := []) X xkM I (c_M_kicks hc_3 H.size) gX12_praysPlain_X12_kicks rfl ⟨rfl, rfl⟩ (by decide +kernel) ⟨Nat.le_of_ble_eq_true rfl, Nat.le_of_ble_eq_true rfl⟩ (by decide) shM_0 rfl rfl hl.1 rfl (Nat.le_of_ble_eq_true rfl) dX12_praysPlain_8) I (fun H locs I => ?_)
  refine lv_aload_n hx hb dX12_praysPlain_11 rfl (lv_at hl 0 rfl) ?_
  refine ig_ (index := 320) X I (fun _ q => List.mem_cons_of_mem _ (List.mem_append_right _ q)) 0 (by decide) shM_0 rfl 26 (by decide) (by decide +kernel) rfl (v := .int (rd_ σ_4 0 26)) rfl dX12_praysPlain_12 ?_
  refine lv_iconst (v := 2) hx hb dX12_praysPlain_15 (by decide) ?_
  refine lv_imul hx hb dX12_praysPlain_16 ?_
  refine lv_isub hx hb dX12_praysPlain_17 ?_
  obtain ⟨rfl, rfl⟩ := re_s h
  exact rti_ X I dX12_praysPlain_18
theorem c_M_praysPlain {l : Launch} {D : va_G} {cy : Nat → ClassId} {a : Nat → Nat} {σ : Sg} {x1 : Int32} {r0 : Int32} {σ' : Sg} (h : M_praysPlain_0 σ x1 = some (r0, σ')) (sz : Nat) : Met l yX12_praysPlain wsX12_praysPlain ({ frames := 4, cells := 0, slots := 0, locals := 84 }) (va_Pc [.ref (a 0), .int x1] (pr_ 16 a D cy (shM cy a σ) xfM sz)) (qg_ 16 a D (shM cy a σ') (some (.int r0)) sz) 0 0 (fr_ 16 a sz) := by
  refine ent_ (by decide) rfl (Nat.le_of_ble_eq_true rfl) ?_
  intro p e s m below meth c ls hsz X I hl
  subst hsz
  exact kM_praysPlain_0 X σ x1 s.heap [] ls h I hl

def M_prays_16  (σ : Sg) (x1 : Int32) : Option (Int32 × Sg) :=
  bi_ (M_runs_0 σ (20 : Int32)) fun _ σ_2 =>
  bi_ (M_praysPlain_0 σ_2 x1) fun r_5 σ_4 =>
  some ((r_5 + (3 : Int32)), σ_4)
set_option maxRecDepth 100000 in
theorem kM_prays_16 {p : Program} {l : Launch} {e : Env} {s : State} {m : MethodId} {args : Array Value} {below : List Frame} {meth : Method} {c : Code} {D : va_G} {cy : Nat → ClassId} {a : Nat → Nat} (X : cx_ cX12_prays RX12 wsX12_prays 3 (some .int) 16 a D cy xfM p s m args meth c)  {r0 : Int32} {σ' : Sg}  : ∀ (σ : Sg) (x1 : Int32) (H : Heap) (locs : List Loc) (ls : Array Slot), M_prays_16 σ x1 = some (r0, σ') → iv_ 16 a D (shM cy a σ) s H locs → lv_has ls 3 [(0, .ref (a 0)), (1, .int x1)] → W p l e ({ frames := 5, cells := 0, slots := 0, locals := 105 }) s m args below meth c H locs 0 0 (MQ below (qg_ 16 a D (shM cy a σ') (some (.int r0)) s.heap.size) args s 0 0 (fr_ 16 a s.heap.size)) (F0 m 16 ls []) := by
  obtain ⟨hx, hb, hr, hml, hown, hts, hlk, hK, hA, hXf⟩ := id X
  intro σ x1 H locs ls h I hl
  unfold M_prays_16 at h
  refine lv_aload_n hx hb dX12_prays_16 rfl (lv_at hl 0 rfl) ?_
  refine lv_bipush (v := 20) hx hb dX12_prays_17 (by decide) ?_
  obtain ⟨_, σ_2, hc_1, h⟩ := bi_of h
  refine cv_ (rV_ (nn := 1) (As := [.int (20 : Int32)]) (rest := []) X xkM I (c_M_runs hc_1 H.size) gX12_prays_X12_runs rfl ⟨rfl, rfl⟩ (by decide +kernel) ⟨Nat.le_of_ble_eq_true rfl, Nat.le_of_ble_eq_true rfl⟩ (by decide) shM_0 rfl rfl hl.1 rfl (Nat.le_of_ble_eq_true rfl) dX12_prays_19) I (fun H locs I => ?_)
  refine lv_aload_n hx hb dX12_prays_22 rfl (lv_at hl 0 rfl) ?_
  refine lv_iload_n hx hb dX12_prays_23 rfl (lv_at hl 1 rfl) ?_
  obtain ⟨r_5, σ_4, hc_3, h⟩ := bi_of h
  refine cg_ (rV_ (nn := 1) (As := [.int x1]) (rest := []) X xkM I (c_M_praysPlain hc_3 H.size) gX12_prays_X12_praysPlain rfl ⟨rfl, rfl⟩ (by decide +kernel) ⟨Nat.le_of_ble_eq_true rfl, Nat.le_of_ble_eq_true rfl⟩ (by decide) shM_0 rfl rfl hl.1 rfl (Nat.le_of_ble_eq_true rfl) dX12_prays_24) I (fun H locs I => ?_)
  refine lv_iconst (v := 3) hx hb dX12_prays_27 (by decide) ?_
  refine lv_iadd hx hb dX12_prays_28 ?_
  obtain ⟨rfl, rfl⟩ := re_s h
  exact rti_ X I dX12_prays_29
def M_prays_0  (σ : Sg) (x1 : Int32) : Option (Int32 × Sg) :=
  if (rd_ σ 0 24) = (1 : Int32) then (M_prays_16 σ x1)
  else (if (rd_ σ 0 24) = (3 : Int32) then (M_prays_16 σ x1)
  else (if (rd_ σ 0 24) = (4 : Int32) then (bi_ (M_runs_0 σ (41 : Int32)) fun _ σ_8 =>
  bi_ (M_praysPlain_0 σ_8 x1) fun r_11 σ_10 =>
  bi_ (M_kicks_0 σ_10 (rd_ σ_10 0 26)) fun r_14 σ_13 =>
  some ((r_11 - r_14), σ_13))
  else (bi_ (M_praysPlain_0 σ x1) fun r_6 σ_5 =>
  some (r_6, σ_5))))
set_option maxRecDepth 100000 in
theorem kM_prays_0 {p : Program} {l : Launch} {e : Env} {s : State} {m : MethodId} {args : Array Value} {below : List Frame} {meth : Method} {c : Code} {D : va_G} {cy : Nat → ClassId} {a : Nat → Nat} (X : cx_ cX12_prays RX12 wsX12_prays 3 (some .int) 16 a D cy xfM p s m args meth c)  {r0 : Int32} {σ' : Sg}  : ∀ (σ : Sg) (x1 : Int32) (H : Heap) (locs : List Loc) (ls : Array Slot), M_prays_0 σ x1 = some (r0, σ') → iv_ 16 a D (shM cy a σ) s H locs → lv_has ls 3 [(0, .ref (a 0)), (1, .int x1)] → W p l e ({ frames := 5, cells := 0, slots := 0, locals := 105 }) s m args below meth c H locs 0 0 (MQ below (qg_ 16 a D (shM cy a σ') (some (.int r0)) s.heap.size) args s 0 0 (fr_ 16 a s.heap.size)) (F0 m 0 ls []) := by
  obtain ⟨hx, hb, hr, hml, hown, hts, hlk, hK, hA, hXf⟩ := id X
  intro σ x1 H locs ls h I hl
  unfold M_prays_0 at h
  refine lv_aload_n hx hb dX12_prays_0 rfl (lv_at hl 0 rfl) ?_
  refine ig_ (index := 314) X I (fun _ q => List.mem_cons_of_mem _ (List.mem_append_right _ q)) 0 (by decide) shM_0 rfl 24 (by decide) (by decide +kernel) rfl (v := .int (rd_ σ 0 24)) rfl dX12_prays_1 ?_
  refine lv_iconst (v := 1) hx hb dX12_prays_4 (by decide) ?_
  refine lv_icmp_eq (tgt := 16) hx hb dX12_prays_5 (by decide) (fun c_1 => ?_) (fun c_1 => ?_)
  · have h := if_t h c_1
    exact kM_prays_16 X  σ x1 H locs ls h I (lv_sub hl [0, 1] rfl)
  · have h := if_f h c_1
    refine lv_aload_n hx hb dX12_prays_8 rfl (lv_at hl 0 rfl) ?_
    refine ig_ (index := 314) X I (fun _ q => List.mem_cons_of_mem _ (List.mem_append_right _ q)) 0 (by decide) shM_0 rfl 24 (by decide) (by decide +kernel) rfl (v := .int (rd_ σ 0 24)) rfl dX12_prays_9 ?_
    refine lv_iconst (v := 3) hx hb dX12_prays_12 (by decide) ?_
    refine lv_icmp_ne (tgt := 30) hx hb dX12_prays_13 (by decide) (fun c_2 => ?_) (fun c_2 => ?_)
    · have h := if_f h c_2
      refine lv_aload_n hx hb dX12_prays_30 rfl (lv_at hl 0 rfl) ?_
      refine ig_ (index := 314) X I (fun _ q => List.mem_cons_of_mem _ (List.mem_append_right _ q)) 0 (by decide) shM_0 rfl 24 (by decide) (by decide +kernel) rfl (v := .int (rd_ σ 0 24)) rfl dX12_prays_31 ?_
      refine lv_iconst (v := 4) hx hb dX12_prays_34 (by decide) ?_
      refine lv_icmp_ne (tgt := 61) hx hb dX12_prays_35 (by decide) (fun c_3 => ?_) (fun c_3 => ?_)
      · have h := if_f h c_3
        refine lv_aload_n hx hb dX12_prays_61 rfl (lv_at hl 0 rfl) ?_
        refine lv_iload_n hx hb dX12_prays_62 rfl (lv_at hl 1 rfl) ?_
        obtain ⟨r_6, σ_5, hc_4, h⟩ := bi_of h
        refine cg_ (rV_ (nn := 1) (As := [.int x1]) (rest := []) X xkM I (c_M_praysPlain hc_4 H.size) gX12_prays_X12_praysPlain rfl ⟨rfl, rfl⟩ (by decide +kernel) ⟨Nat.le_of_ble_eq_true rfl, Nat.le_of_ble_eq_true rfl⟩ (by decide) shM_0 rfl rfl hl.1 rfl (Nat.le_of_ble_eq_true rfl) dX12_prays_63) I (fun H locs I => ?_)
        obtain ⟨rfl, rfl⟩ := re_s h
        exact rti_ X I dX12_prays_66
      · have h := if_t h c_3
        refine lv_aload_n hx hb dX12_prays_38 rfl (lv_at hl 0 rfl) ?_
        refine lv_bipush (v := 41) hx hb dX12_prays_39 (by decide) ?_
        obtain ⟨_, σ_8, hc_7, h⟩ := bi_of h
        refine cv_ (rV_ (nn := 1) (As := [.int (41 : Int32)]) (rest := []) X xkM I (c_M_runs hc_7 H.size) gX12_prays_X12_runs rfl ⟨rfl, rfl⟩ (by decide +kernel) ⟨Nat.le_of_ble_eq_true rfl, Nat.le_of_ble_eq_true rfl⟩ (by decide) shM_0 rfl rfl hl.1 rfl (Nat.le_of_ble_eq_true rfl) dX12_prays_41) I (fun H locs I => ?_)
        refine lv_aload_n hx hb dX12_prays_44 rfl (lv_at hl 0 rfl) ?_
        refine lv_iload_n hx hb dX12_prays_45 rfl (lv_at hl 1 rfl) ?_
        obtain ⟨r_11, σ_10, hc_9, h⟩ := bi_of h
        refine cg_ (rV_ (nn := 1) (As := [.int x1]) (rest := []) X xkM I (c_M_praysPlain hc_9 H.size) gX12_prays_X12_praysPlain rfl ⟨rfl, rfl⟩ (by decide +kernel) ⟨Nat.le_of_ble_eq_true rfl, Nat.le_of_ble_eq_true rfl⟩ (by decide) shM_0 rfl rfl hl.1 rfl (Nat.le_of_ble_eq_true rfl) dX12_prays_46) I (fun H locs I => ?_)
        refine lv_istore_n (lv' := [(2, .int r_11), (0, .ref (a 0)), (1, .int x1)]) hx hb dX12_prays_49 rfl hl (by decide) rfl (fun ls hl => ?_)
        refine lv_iload_n hx hb dX12_prays_50 rfl (lv_at hl 0 rfl) ?_
        refine lv_aload_n hx hb dX12_prays_51 rfl (lv_at hl 1 rfl) ?_
        refine lv_aload_n hx hb dX12_prays_52 rfl (lv_at hl 1 rfl) ?_
        refine ig_ (index := 320) X I (fun _ q => List.mem_cons_of_mem _ (List.mem_append_right _ q)) 0 (by decide) shM_0 rfl 26 (by decide) (by decide +kernel) rfl (v := .int (rd_ σ_10 0 26)) rfl dX12_prays_53 ?_
        obtain ⟨r_14, σ_13, hc_12, h⟩ := bi_of h
        refine cg_ (rV_ (nn := 1) (As := [.int (rd_ σ_10 0 26)]) (rest := [.int r_11]) X xkM I (c_M_kicks hc_12 H.size) gX12_prays_X12_kicks rfl ⟨rfl, rfl⟩ (by decide +kernel) ⟨Nat.le_of_ble_eq_true rfl, Nat.le_of_ble_eq_true rfl⟩ (by decide) shM_0 rfl rfl hl.1 rfl (Nat.le_of_ble_eq_true rfl) dX12_prays_56) I (fun H locs I => ?_)
        refine lv_isub hx hb dX12_prays_59 ?_
        obtain ⟨rfl, rfl⟩ := re_s h
        exact rti_ X I dX12_prays_60
    · have h := if_t h c_2
      exact kM_prays_16 X  σ x1 H locs ls h I (lv_sub hl [0, 1] rfl)
theorem c_M_prays {l : Launch} {D : va_G} {cy : Nat → ClassId} {a : Nat → Nat} {σ : Sg} {x1 : Int32} {r0 : Int32} {σ' : Sg} (h : M_prays_0 σ x1 = some (r0, σ')) (sz : Nat) : Met l yX12_prays wsX12_prays ({ frames := 5, cells := 0, slots := 0, locals := 105 }) (va_Pc [.ref (a 0), .int x1] (pr_ 16 a D cy (shM cy a σ) xfM sz)) (qg_ 16 a D (shM cy a σ') (some (.int r0)) sz) 0 0 (fr_ 16 a sz) := by
  refine ent_ (by decide) rfl (Nat.le_of_ble_eq_true rfl) ?_
  intro p e s m below meth c ls hsz X I hl
  subst hsz
  exact kM_prays_0 X σ x1 s.heap [] ls h I hl

def M_growsPlain_0  (σ : Sg) (x1 : Int32) : Option (Int32 × Sg) :=
  bi_ (M_runs_0 σ (13 : Int32)) fun _ σ_2 =>
  bi_ (M_prays_0 σ_2 x1) fun r_5 σ_4 =>
  some ((r_5 ^^^ (80 : Int32)), σ_4)
set_option maxRecDepth 100000 in
theorem kM_growsPlain_0 {p : Program} {l : Launch} {e : Env} {s : State} {m : MethodId} {args : Array Value} {below : List Frame} {meth : Method} {c : Code} {D : va_G} {cy : Nat → ClassId} {a : Nat → Nat} (X : cx_ cX12_growsPlain RX12 wsX12_growsPlain 2 (some .int) 16 a D cy xfM p s m args meth c)  {r0 : Int32} {σ' : Sg}  : ∀ (σ : Sg) (x1 : Int32) (H : Heap) (locs : List Loc) (ls : Array Slot), M_growsPlain_0 σ x1 = some (r0, σ') → iv_ 16 a D (shM cy a σ) s H locs → lv_has ls 2 [(0, .ref (a 0)), (1, .int x1)] → W p l e ({ frames := 6, cells := 0, slots := 0, locals := 127 }) s m args below meth c H locs 0 0 (MQ below (qg_ 16 a D (shM cy a σ') (some (.int r0)) s.heap.size) args s 0 0 (fr_ 16 a s.heap.size)) (F0 m 0 ls []) := by
  obtain ⟨hx, hb, hr, hml, hown, hts, hlk, hK, hA, hXf⟩ := id X
  intro σ x1 H locs ls h I hl
  unfold M_growsPlain_0 at h
  refine lv_aload_n hx hb dX12_growsPlain_0 rfl (lv_at hl 0 rfl) ?_
  refine lv_bipush (v := 13) hx hb dX12_growsPlain_1 (by decide) ?_
  obtain ⟨_, σ_2, hc_1, h⟩ := bi_of h
  refine cv_ (rV_ (nn := 1) (As := [.int (13 : Int32)]) (rest := []) X xkM I (c_M_runs hc_1 H.size) gX12_growsPlain_X12_runs rfl ⟨rfl, rfl⟩ (by decide +kernel) ⟨Nat.le_of_ble_eq_true rfl, Nat.le_of_ble_eq_true rfl⟩ (by decide) shM_0 rfl rfl hl.1 rfl (Nat.le_of_ble_eq_true rfl) dX12_growsPlain_3) I (fun H locs I => ?_)
  refine lv_aload_n hx hb dX12_growsPlain_6 rfl (lv_at hl 0 rfl) ?_
  refine lv_iload_n hx hb dX12_growsPlain_7 rfl (lv_at hl 1 rfl) ?_
  obtain ⟨r_5, σ_4, hc_3, h⟩ := bi_of h
  refine cg_ (rV_ (nn := 1) (As := [.int x1]) (rest := []) X xkM I (c_M_prays hc_3 H.size) gX12_growsPlain_X12_prays rfl ⟨rfl, rfl⟩ (by decide +kernel) ⟨Nat.le_of_ble_eq_true rfl, Nat.le_of_ble_eq_true rfl⟩ (by decide) shM_0 rfl rfl hl.1 rfl (Nat.le_of_ble_eq_true rfl) dX12_growsPlain_8) I (fun H locs I => ?_)
  refine lv_bipush (v := 80) hx hb dX12_growsPlain_11 (by decide) ?_
  refine lv_ixor hx hb dX12_growsPlain_13 ?_
  obtain ⟨rfl, rfl⟩ := re_s h
  exact rti_ X I dX12_growsPlain_14
theorem c_M_growsPlain {l : Launch} {D : va_G} {cy : Nat → ClassId} {a : Nat → Nat} {σ : Sg} {x1 : Int32} {r0 : Int32} {σ' : Sg} (h : M_growsPlain_0 σ x1 = some (r0, σ')) (sz : Nat) : Met l yX12_growsPlain wsX12_growsPlain ({ frames := 6, cells := 0, slots := 0, locals := 127 }) (va_Pc [.ref (a 0), .int x1] (pr_ 16 a D cy (shM cy a σ) xfM sz)) (qg_ 16 a D (shM cy a σ') (some (.int r0)) sz) 0 0 (fr_ 16 a sz) := by
  refine ent_ (by decide) rfl (Nat.le_of_ble_eq_true rfl) ?_
  intro p e s m below meth c ls hsz X I hl
  subst hsz
  exact kM_growsPlain_0 X σ x1 s.heap [] ls h I hl

def M_partsPlain_30  (σ : Sg) (x1 : Int32) (t1 : Int32) : Option (Int32 × Sg) :=
  gd_ (bo_ t1) (
  lt_ (wr_ σ 0 27 t1) fun σ_2 =>
  if (rd_ σ_2 0 27) = 0 then (gd_ (nz_ ((rd_ σ_2 0 26) - (rd_ σ_2 0 25))) (
  some ((x1 / ((rd_ σ_2 0 26) - (rd_ σ_2 0 25))), σ_2)))
  else (some ((0 : Int32), σ_2)))
set_option maxRecDepth 100000 in
theorem kM_partsPlain_30 {p : Program} {l : Launch} {e : Env} {s : State} {m : MethodId} {args : Array Value} {below : List Frame} {meth : Method} {c : Code} {D : va_G} {cy : Nat → ClassId} {a : Nat → Nat} (X : cx_ cX12_partsPlain RX12 wsX12_partsPlain 2 (some .int) 16 a D cy xfM p s m args meth c)  {r0 : Int32} {σ' : Sg}  : ∀ (σ : Sg) (x1 : Int32) (t1 : Int32) (H : Heap) (locs : List Loc) (ls : Array Slot), M_partsPlain_30 σ x1 t1 = some (r0, σ') → iv_ 16 a D (shM cy a σ) s H locs → lv_has ls 2 [(0, .ref (a 0)), (1, .int x1)] → W p l e ({ frames := 1, cells := 0, slots := 0, locals := 21 }) s m args below meth c H locs 0 0 (MQ below (qg_ 16 a D (shM cy a σ') (some (.int r0)) s.heap.size) args s 0 0 (fr_ 16 a s.heap.size)) (F0 m 30 ls [.int t1, .ref (a 0)]) := by
  obtain ⟨hx, hb, hr, hml, hown, hts, hlk, hK, hA, hXf⟩ := id X
  intro σ x1 t1 H locs ls h I hl
  unfold M_partsPlain_30 at h
  obtain ⟨g_1, h⟩ := gd_of h
  refine ip_ (index := 329) (ty := .boolean) X I (fun _ q => List.mem_cons_of_mem _ (List.mem_append_right _ q)) tyX12 tyX12_ok nmX12 0 (by decide) shM_0 rfl 27 (by decide) (by decide +kernel) rfl rfl (by decide +kernel) (bo_of g_1).1 (bo_of g_1).2 (Nat.le_of_ble_eq_true rfl) shM_pt_27 dX12_partsPlain_30 (fun σ_2 H locs e_3 I => ?_)
  have h := lt_at h e_3
  refine lv_aload_n hx hb dX12_partsPlain_33 rfl (lv_at hl 0 rfl) ?_
  refine ig_ (index := 329) X I (fun _ q => List.mem_cons_of_mem _ (List.mem_append_right _ q)) 0 (by decide) shM_0 rfl 27 (by decide) (by decide +kernel) rfl (v := .int (rd_ σ_2 0 27)) rfl dX12_partsPlain_34 ?_
  refine lv_if_eq (tgt := 44) hx hb dX12_partsPlain_37 (by decide) (fun c_4 => ?_) (fun c_4 => ?_)
  · have h := if_t h c_4
    refine lv_iload_n hx hb dX12_partsPlain_44 rfl (lv_at hl 1 rfl) ?_
    refine lv_aload_n hx hb dX12_partsPlain_45 rfl (lv_at hl 0 rfl) ?_
    refine ig_ (index := 320) X I (fun _ q => List.mem_cons_of_mem _ (List.mem_append_right _ q)) 0 (by decide) shM_0 rfl 26 (by decide) (by decide +kernel) rfl (v := .int (rd_ σ_2 0 26)) rfl dX12_partsPlain_46 ?_
    refine lv_aload_n hx hb dX12_partsPlain_49 rfl (lv_at hl 0 rfl) ?_
    refine ig_ (index := 308) X I (fun _ q => List.mem_cons_of_mem _ (List.mem_append_right _ q)) 0 (by decide) shM_0 rfl 25 (by decide) (by decide +kernel) rfl (v := .int (rd_ σ_2 0 25)) rfl dX12_partsPlain_50 ?_
    refine lv_isub hx hb dX12_partsPlain_53 ?_
    obtain ⟨g_5, h⟩ := gd_of h
    refine lv_idiv hx hb dX12_partsPlain_54 (nz_of g_5) ?_
    obtain ⟨rfl, rfl⟩ := re_s h
    exact rti_ X I dX12_partsPlain_55
  · have h := if_f h c_4
    refine lv_iconst (v := 0) hx hb dX12_partsPlain_40 (by decide) ?_
    refine lv_goto (tgt := 55) hx hb dX12_partsPlain_41 (by decide) ?_
    obtain ⟨rfl, rfl⟩ := re_s h
    exact rti_ X I dX12_partsPlain_55
def M_partsPlain_25  (σ : Sg) (x1 : Int32) : Option (Int32 × Sg) :=
  M_partsPlain_30 σ x1 (1 : Int32)
set_option maxRecDepth 100000 in
theorem kM_partsPlain_25 {p : Program} {l : Launch} {e : Env} {s : State} {m : MethodId} {args : Array Value} {below : List Frame} {meth : Method} {c : Code} {D : va_G} {cy : Nat → ClassId} {a : Nat → Nat} (X : cx_ cX12_partsPlain RX12 wsX12_partsPlain 2 (some .int) 16 a D cy xfM p s m args meth c)  {r0 : Int32} {σ' : Sg}  : ∀ (σ : Sg) (x1 : Int32) (H : Heap) (locs : List Loc) (ls : Array Slot), M_partsPlain_25 σ x1 = some (r0, σ') → iv_ 16 a D (shM cy a σ) s H locs → lv_has ls 2 [(0, .ref (a 0)), (1, .int x1)] → W p l e ({ frames := 1, cells := 0, slots := 0, locals := 21 }) s m args below meth c H locs 0 0 (MQ below (qg_ 16 a D (shM cy a σ') (some (.int r0)) s.heap.size) args s 0 0 (fr_ 16 a s.heap.size)) (F0 m 25 ls [.ref (a 0)]) := by
  obtain ⟨hx, hb, hr, hml, hown, hts, hlk, hK, hA, hXf⟩ := id X
  intro σ x1 H locs ls h I hl
  unfold M_partsPlain_25 at h
  refine lv_iconst (v := 1) hx hb dX12_partsPlain_25 (by decide) ?_
  refine lv_goto (tgt := 30) hx hb dX12_partsPlain_26 (by decide) ?_
  exact kM_partsPlain_30 X  σ x1 (1 : Int32) H locs ls h I (lv_sub hl [0, 1] rfl)
def M_partsPlain_0  (σ : Sg) (x1 : Int32) : Option (Int32 × Sg) :=
  bi_ (M_runs_0 σ (12 : Int32)) fun _ σ_2 =>
  if (rd_ σ_2 0 27) = 0 then (if (rd_ σ_2 0 25) = (rd_ σ_2 0 26) then (M_partsPlain_25 σ_2 x1)
  else (M_partsPlain_30 σ_2 x1 (0 : Int32)))
  else (M_partsPlain_25 σ_2 x1)
set_option maxRecDepth 100000 in
theorem kM_partsPlain_0 {p : Program} {l : Launch} {e : Env} {s : State} {m : MethodId} {args : Array Value} {below : List Frame} {meth : Method} {c : Code} {D : va_G} {cy : Nat → ClassId} {a : Nat → Nat} (X : cx_ cX12_partsPlain RX12 wsX12_partsPlain 2 (some .int) 16 a D cy xfM p s m args meth c)  {r0 : Int32} {σ' : Sg}  : ∀ (σ : Sg) (x1 : Int32) (H : Heap) (locs : List Loc) (ls : Array Slot), M_partsPlain_0 σ x1 = some (r0, σ') → iv_ 16 a D (shM cy a σ) s H locs → lv_has ls 2 [(0, .ref (a 0)), (1, .int x1)] → W p l e ({ frames := 1, cells := 0, slots := 0, locals := 21 }) s m args below meth c H locs 0 0 (MQ below (qg_ 16 a D (shM cy a σ') (some (.int r0)) s.heap.size) args s 0 0 (fr_ 16 a s.heap.size)) (F0 m 0 ls []) := by
  obtain ⟨hx, hb, hr, hml, hown, hts, hlk, hK, hA, hXf⟩ := id X
  intro σ x1 H locs ls h I hl
  unfold M_partsPlain_0 at h
  refine lv_aload_n hx hb dX12_partsPlain_0 rfl (lv_at hl 0 rfl) ?_
  refine lv_bipush (v := 12) hx hb dX12_partsPlain_1 (by decide) ?_
  obtain ⟨_, σ_2, hc_1, h⟩ := bi_of h
  refine cv_ (rV_ (nn := 1) (As := [.int (12 : Int32)]) (rest := []) X xkM I (c_M_runs hc_1 H.size) gX12_partsPlain_X12_runs rfl ⟨rfl, rfl⟩ (by decide +kernel) ⟨Nat.le_of_ble_eq_true rfl, Nat.le_of_ble_eq_true rfl⟩ (by decide) shM_0 rfl rfl hl.1 rfl (Nat.le_of_ble_eq_true rfl) dX12_partsPlain_3) I (fun H locs I => ?_)
  refine lv_aload_n hx hb dX12_partsPlain_6 rfl (lv_at hl 0 rfl) ?_
  refine lv_aload_n hx hb dX12_partsPlain_7 rfl (lv_at hl 0 rfl) ?_
  refine ig_ (index := 329) X I (fun _ q => List.mem_cons_of_mem _ (List.mem_append_right _ q)) 0 (by decide) shM_0 rfl 27 (by decide) (by decide +kernel) rfl (v := .int (rd_ σ_2 0 27)) rfl dX12_partsPlain_8 ?_
  refine lv_if_ne (tgt := 25) hx hb dX12_partsPlain_11 (by decide) (fun c_3 => ?_) (fun c_3 => ?_)
  · have h := if_f h c_3
    exact kM_partsPlain_25 X  σ_2 x1 H locs ls h I (lv_sub hl [0, 1] rfl)
  · have h := if_t h c_3
    refine lv_aload_n hx hb dX12_partsPlain_14 rfl (lv_at hl 0 rfl) ?_
    refine ig_ (index := 308) X I (fun _ q => List.mem_cons_of_mem _ (List.mem_append_right _ q)) 0 (by decide) shM_0 rfl 25 (by decide) (by decide +kernel) rfl (v := .int (rd_ σ_2 0 25)) rfl dX12_partsPlain_15 ?_
    refine lv_aload_n hx hb dX12_partsPlain_18 rfl (lv_at hl 0 rfl) ?_
    refine ig_ (index := 320) X I (fun _ q => List.mem_cons_of_mem _ (List.mem_append_right _ q)) 0 (by decide) shM_0 rfl 26 (by decide) (by decide +kernel) rfl (v := .int (rd_ σ_2 0 26)) rfl dX12_partsPlain_19 ?_
    refine lv_icmp_ne (tgt := 29) hx hb dX12_partsPlain_22 (by decide) (fun c_4 => ?_) (fun c_4 => ?_)
    · have h := if_f h c_4
      refine lv_iconst (v := 0) hx hb dX12_partsPlain_29 (by decide) ?_
      exact kM_partsPlain_30 X  σ_2 x1 (0 : Int32) H locs ls h I (lv_sub hl [0, 1] rfl)
    · have h := if_t h c_4
      exact kM_partsPlain_25 X  σ_2 x1 H locs ls h I (lv_sub hl [0, 1] rfl)
theorem c_M_partsPlain {l : Launch} {D : va_G} {cy : Nat → ClassId} {a : Nat → Nat} {σ : Sg} {x1 : Int32} {r0 : Int32} {σ' : Sg} (h : M_partsPlain_0 σ x1 = some (r0, σ')) (sz : Nat) : Met l yX12_partsPlain wsX12_partsPlain ({ frames := 1, cells := 0, slots := 0, locals := 21 }) (va_Pc [.ref (a 0), .int x1] (pr_ 16 a D cy (shM cy a σ) xfM sz)) (qg_ 16 a D (shM cy a σ') (some (.int r0)) sz) 0 0 (fr_ 16 a sz) := by
  refine ent_ (by decide) rfl (Nat.le_of_ble_eq_true rfl) ?_
  intro p e s m below meth c ls hsz X I hl
  subst hsz
  exact kM_partsPlain_0 X σ x1 s.heap [] ls h I hl

def M_parts_0  (σ : Sg) (x1 : Int32) : Option (Int32 × Sg) :=
  if (rd_ σ 0 24) = (3 : Int32) then (bi_ (M_runs_0 σ (50 : Int32)) fun _ σ_16 =>
  bi_ (M_partsPlain_0 σ_16 (x1 * (2 : Int32))) fun r_19 σ_18 =>
  some ((r_19 - (4 : Int32)), σ_18))
  else (if (rd_ σ 0 24) = (5 : Int32) then (bi_ (M_runs_0 σ (61 : Int32)) fun _ σ_7 =>
  bi_ (M_partsPlain_0 σ_7 x1) fun r_10 σ_9 =>
  if (rd_ σ_9 0 27) = 0 then (bi_ (M_kicks_0 σ_9 (rd_ σ_9 0 25)) fun r_14 σ_13 =>
  some ((r_10 + r_14), σ_13))
  else (some ((0 : Int32), σ_9)))
  else (bi_ (M_partsPlain_0 σ x1) fun r_5 σ_4 =>
  some (r_5, σ_4)))
set_option maxRecDepth 100000 in
theorem kM_parts_0 {p : Program} {l : Launch} {e : Env} {s : State} {m : MethodId} {args : Array Value} {below : List Frame} {meth : Method} {c : Code} {D : va_G} {cy : Nat → ClassId} {a : Nat → Nat} (X : cx_ cX12_parts RX12 wsX12_parts 3 (some .int) 16 a D cy xfM p s m args meth c)  {r0 : Int32} {σ' : Sg}  : ∀ (σ : Sg) (x1 : Int32) (H : Heap) (locs : List Loc) (ls : Array Slot), M_parts_0 σ x1 = some (r0, σ') → iv_ 16 a D (shM cy a σ) s H locs → lv_has ls 3 [(0, .ref (a 0)), (1, .int x1)] → W p l e ({ frames := 4, cells := 0, slots := 0, locals := 84 }) s m args below meth c H locs 0 0 (MQ below (qg_ 16 a D (shM cy a σ') (some (.int r0)) s.heap.size) args s 0 0 (fr_ 16 a s.heap.size)) (F0 m 0 ls []) := by
  obtain ⟨hx, hb, hr, hml, hown, hts, hlk, hK, hA, hXf⟩ := id X
  intro σ x1 H locs ls h I hl
  unfold M_parts_0 at h
  refine lv_aload_n hx hb dX12_parts_0 rfl (lv_at hl 0 rfl) ?_
  refine ig_ (index := 314) X I (fun _ q => List.mem_cons_of_mem _ (List.mem_append_right _ q)) 0 (by decide) shM_0 rfl 24 (by decide) (by decide +kernel) rfl (v := .int (rd_ σ 0 24)) rfl dX12_parts_1 ?_
  refine lv_iconst (v := 3) hx hb dX12_parts_4 (by decide) ?_
  refine lv_icmp_ne (tgt := 24) hx hb dX12_parts_5 (by decide) (fun c_1 => ?_) (fun c_1 => ?_)
  · have h := if_f h c_1
    refine lv_aload_n hx hb dX12_parts_24 rfl (lv_at hl 0 rfl) ?_
    refine ig_ (index := 314) X I (fun _ q => List.mem_cons_of_mem _ (List.mem_append_right _ q)) 0 (by decide) shM_0 rfl 24 (by decide) (by decide +kernel) rfl (v := .int (rd_ σ 0 24)) rfl dX12_parts_25 ?_
    refine lv_iconst (v := 5) hx hb dX12_parts_28 (by decide) ?_
    refine lv_icmp_ne (tgt := 66) hx hb dX12_parts_29 (by decide) (fun c_2 => ?_) (fun c_2 => ?_)
    · have h := if_f h c_2
      refine lv_aload_n hx hb dX12_parts_66 rfl (lv_at hl 0 rfl) ?_
      refine lv_iload_n hx hb dX12_parts_67 rfl (lv_at hl 1 rfl) ?_
      obtain ⟨r_5, σ_4, hc_3, h⟩ := bi_of h
      refine cg_ (rV_ (nn := 1) (As := [.int x1]) (rest := []) X xkM I (c_M_partsPlain hc_3 H.size) gX12_parts_X12_partsPlain rfl ⟨rfl, rfl⟩ (by decide +kernel) ⟨Nat.le_of_ble_eq_true rfl, Nat.le_of_ble_eq_true rfl⟩ (by decide) shM_0 rfl rfl hl.1 rfl (Nat.le_of_ble_eq_true rfl) dX12_parts_68) I (fun H locs I => ?_)
      obtain ⟨rfl, rfl⟩ := re_s h
      exact rti_ X I dX12_parts_71
    · have h := if_t h c_2
      refine lv_aload_n hx hb dX12_parts_32 rfl (lv_at hl 0 rfl) ?_
      refine lv_bipush (v := 61) hx hb dX12_parts_33 (by decide) ?_
      obtain ⟨_, σ_7, hc_6, h⟩ := bi_of h
      refine cv_ (rV_ (nn := 1) (As := [.int (61 : Int32)]) (rest := []) X xkM I (c_M_runs hc_6 H.size) gX12_parts_X12_runs rfl ⟨rfl, rfl⟩ (by decide +kernel) ⟨Nat.le_of_ble_eq_true rfl, Nat.le_of_ble_eq_true rfl⟩ (by decide) shM_0 rfl rfl hl.1 rfl (Nat.le_of_ble_eq_true rfl) dX12_parts_35) I (fun H locs I => ?_)
      refine lv_aload_n hx hb dX12_parts_38 rfl (lv_at hl 0 rfl) ?_
      refine lv_iload_n hx hb dX12_parts_39 rfl (lv_at hl 1 rfl) ?_
      obtain ⟨r_10, σ_9, hc_8, h⟩ := bi_of h
      refine cg_ (rV_ (nn := 1) (As := [.int x1]) (rest := []) X xkM I (c_M_partsPlain hc_8 H.size) gX12_parts_X12_partsPlain rfl ⟨rfl, rfl⟩ (by decide +kernel) ⟨Nat.le_of_ble_eq_true rfl, Nat.le_of_ble_eq_true rfl⟩ (by decide) shM_0 rfl rfl hl.1 rfl (Nat.le_of_ble_eq_true rfl) dX12_parts_40) I (fun H locs I => ?_)
      refine lv_istore_n (lv' := [(2, .int r_10), (0, .ref (a 0)), (1, .int x1)]) hx hb dX12_parts_43 rfl hl (by decide) rfl (fun ls hl => ?_)
      refine lv_aload_n hx hb dX12_parts_44 rfl (lv_at hl 1 rfl) ?_
      refine ig_ (index := 329) X I (fun _ q => List.mem_cons_of_mem _ (List.mem_append_right _ q)) 0 (by decide) shM_0 rfl 27 (by decide) (by decide +kernel) rfl (v := .int (rd_ σ_9 0 27)) rfl dX12_parts_45 ?_
      refine lv_if_eq (tgt := 55) hx hb dX12_parts_48 (by decide) (fun c_11 => ?_) (fun c_11 => ?_)
      · have h := if_t h c_11
        refine lv_iload_n hx hb dX12_parts_55 rfl (lv_at hl 0 rfl) ?_
        refine lv_aload_n hx hb dX12_parts_56 rfl (lv_at hl 1 rfl) ?_
        refine lv_aload_n hx hb dX12_parts_57 rfl (lv_at hl 1 rfl) ?_
        refine ig_ (index := 308) X I (fun _ q => List.mem_cons_of_mem _ (List.mem_append_right _ q)) 0 (by decide) shM_0 rfl 25 (by decide) (by decide +kernel) rfl (v := .int (rd_ σ_9 0 25)) rfl dX12_parts_58 ?_
        obtain ⟨r_14, σ_13, hc_12, h⟩ := bi_of h
        refine cg_ (rV_ (nn := 1) (As := [.int (rd_ σ_9 0 25)]) (rest := [.int r_10]) X xkM I (c_M_kicks hc_12 H.size) gX12_parts_X12_kicks rfl ⟨rfl, rfl⟩ (by decide +kernel) ⟨Nat.le_of_ble_eq_true rfl, Nat.le_of_ble_eq_true rfl⟩ (by decide) shM_0 rfl rfl hl.1 rfl (Nat.le_of_ble_eq_true rfl) dX12_parts_61) I (fun H locs I => ?_)
        refine lv_iadd hx hb dX12_parts_64 ?_
        obtain ⟨rfl, rfl⟩ := re_s h
        exact rti_ X I dX12_parts_65
      · have h := if_f h c_11
        refine lv_iconst (v := 0) hx hb dX12_parts_51 (by decide) ?_
        refine lv_goto (tgt := 65) hx hb dX12_parts_52 (by decide) ?_
        obtain ⟨rfl, rfl⟩ := re_s h
        exact rti_ X I dX12_parts_65
  · have h := if_t h c_1
    refine lv_aload_n hx hb dX12_parts_8 rfl (lv_at hl 0 rfl) ?_
    refine lv_bipush (v := 50) hx hb dX12_parts_9 (by decide) ?_
    obtain ⟨_, σ_16, hc_15, h⟩ := bi_of h
    refine cv_ (rV_ (nn := 1) (As := [.int (50 : Int32)]) (rest := []) X xkM I (c_M_runs hc_15 H.size) gX12_parts_X12_runs rfl ⟨rfl, rfl⟩ (by decide +kernel) ⟨Nat.le_of_ble_eq_true rfl, Nat.le_of_ble_eq_true rfl⟩ (by decide) shM_0 rfl rfl hl.1 rfl (Nat.le_of_ble_eq_true rfl) dX12_parts_11) I (fun H locs I => ?_)
    refine lv_aload_n hx hb dX12_parts_14 rfl (lv_at hl 0 rfl) ?_
    refine lv_iload_n hx hb dX12_parts_15 rfl (lv_at hl 1 rfl) ?_
    refine lv_iconst (v := 2) hx hb dX12_parts_16 (by decide) ?_
    refine lv_imul hx hb dX12_parts_17 ?_
    obtain ⟨r_19, σ_18, hc_17, h⟩ := bi_of h
    refine cg_ (rV_ (nn := 1) (As := [.int (x1 * (2 : Int32))]) (rest := []) X xkM I (c_M_partsPlain hc_17 H.size) gX12_parts_X12_partsPlain rfl ⟨rfl, rfl⟩ (by decide +kernel) ⟨Nat.le_of_ble_eq_true rfl, Nat.le_of_ble_eq_true rfl⟩ (by decide) shM_0 rfl rfl hl.1 rfl (Nat.le_of_ble_eq_true rfl) dX12_parts_18) I (fun H locs I => ?_)
    refine lv_iconst (v := 4) hx hb dX12_parts_21 (by decide) ?_
    refine lv_isub hx hb dX12_parts_22 ?_
    obtain ⟨rfl, rfl⟩ := re_s h
    exact rti_ X I dX12_parts_23
theorem c_M_parts {l : Launch} {D : va_G} {cy : Nat → ClassId} {a : Nat → Nat} {σ : Sg} {x1 : Int32} {r0 : Int32} {σ' : Sg} (h : M_parts_0 σ x1 = some (r0, σ')) (sz : Nat) : Met l yX12_parts wsX12_parts ({ frames := 4, cells := 0, slots := 0, locals := 84 }) (va_Pc [.ref (a 0), .int x1] (pr_ 16 a D cy (shM cy a σ) xfM sz)) (qg_ 16 a D (shM cy a σ') (some (.int r0)) sz) 0 0 (fr_ 16 a sz) := by
  refine ent_ (by decide) rfl (Nat.le_of_ble_eq_true rfl) ?_
  intro p e s m below meth c ls hsz X I hl
  subst hsz
  exact kM_parts_0 X σ x1 s.heap [] ls h I hl

def M_grows_16  (σ : Sg) (x1 : Int32) : Option (Int32 × Sg) :=
  bi_ (M_runs_0 σ (31 : Int32)) fun _ σ_2 =>
  bi_ (M_growsPlain_0 σ_2 x1) fun r_5 σ_4 =>
  bi_ (M_parts_0 σ_4 (rd_ σ_4 0 25)) fun r_8 σ_7 =>
  some ((r_5 + r_8), σ_7)
set_option maxRecDepth 100000 in
theorem kM_grows_16 {p : Program} {l : Launch} {e : Env} {s : State} {m : MethodId} {args : Array Value} {below : List Frame} {meth : Method} {c : Code} {D : va_G} {cy : Nat → ClassId} {a : Nat → Nat} (X : cx_ cX12_grows RX12 wsX12_grows 3 (some .int) 16 a D cy xfM p s m args meth c)  {r0 : Int32} {σ' : Sg}  : ∀ (σ : Sg) (x1 : Int32) (H : Heap) (locs : List Loc) (ls : Array Slot), M_grows_16 σ x1 = some (r0, σ') → iv_ 16 a D (shM cy a σ) s H locs → lv_has ls 3 [(0, .ref (a 0)), (1, .int x1)] → W p l e ({ frames := 7, cells := 0, slots := 0, locals := 148 }) s m args below meth c H locs 0 0 (MQ below (qg_ 16 a D (shM cy a σ') (some (.int r0)) s.heap.size) args s 0 0 (fr_ 16 a s.heap.size)) (F0 m 16 ls []) := by
  obtain ⟨hx, hb, hr, hml, hown, hts, hlk, hK, hA, hXf⟩ := id X
  intro σ x1 H locs ls h I hl
  unfold M_grows_16 at h
  refine lv_aload_n hx hb dX12_grows_16 rfl (lv_at hl 0 rfl) ?_
  refine lv_bipush (v := 31) hx hb dX12_grows_17 (by decide) ?_
  obtain ⟨_, σ_2, hc_1, h⟩ := bi_of h
  refine cv_ (rV_ (nn := 1) (As := [.int (31 : Int32)]) (rest := []) X xkM I (c_M_runs hc_1 H.size) gX12_grows_X12_runs rfl ⟨rfl, rfl⟩ (by decide +kernel) ⟨Nat.le_of_ble_eq_true rfl, Nat.le_of_ble_eq_true rfl⟩ (by decide) shM_0 rfl rfl hl.1 rfl (Nat.le_of_ble_eq_true rfl) dX12_grows_19) I (fun H locs I => ?_)
  refine lv_aload_n hx hb dX12_grows_22 rfl (lv_at hl 0 rfl) ?_
  refine lv_iload_n hx hb dX12_grows_23 rfl (lv_at hl 1 rfl) ?_
  obtain ⟨r_5, σ_4, hc_3, h⟩ := bi_of h
  refine cg_ (rV_ (nn := 1) (As := [.int x1]) (rest := []) X xkM I (c_M_growsPlain hc_3 H.size) gX12_grows_X12_growsPlain rfl ⟨rfl, rfl⟩ (by decide +kernel) ⟨Nat.le_of_ble_eq_true rfl, Nat.le_of_ble_eq_true rfl⟩ (by decide) shM_0 rfl rfl hl.1 rfl (Nat.le_of_ble_eq_true rfl) dX12_grows_24) I (fun H locs I => ?_)
  refine lv_istore_n (lv' := [(2, .int r_5), (0, .ref (a 0)), (1, .int x1)]) hx hb dX12_grows_27 rfl hl (by decide) rfl (fun ls hl => ?_)
  refine lv_iload_n hx hb dX12_grows_28 rfl (lv_at hl 0 rfl) ?_
  refine lv_aload_n hx hb dX12_grows_29 rfl (lv_at hl 1 rfl) ?_
  refine lv_aload_n hx hb dX12_grows_30 rfl (lv_at hl 1 rfl) ?_
  refine ig_ (index := 308) X I (fun _ q => List.mem_cons_of_mem _ (List.mem_append_right _ q)) 0 (by decide) shM_0 rfl 25 (by decide) (by decide +kernel) rfl (v := .int (rd_ σ_4 0 25)) rfl dX12_grows_31 ?_
  obtain ⟨r_8, σ_7, hc_6, h⟩ := bi_of h
  refine cg_ (rV_ (nn := 1) (As := [.int (rd_ σ_4 0 25)]) (rest := [.int r_5]) X xkM I (c_M_parts hc_6 H.size) gX12_grows_X12_parts rfl ⟨rfl, rfl⟩ (by decide +kernel) ⟨Nat.le_of_ble_eq_true rfl, Nat.le_of_ble_eq_true rfl⟩ (by decide) shM_0 rfl rfl hl.1 rfl (Nat.le_of_ble_eq_true rfl) dX12_grows_34) I (fun H locs I => ?_)
  refine lv_iadd hx hb dX12_grows_37 ?_
  obtain ⟨rfl, rfl⟩ := re_s h
  exact rti_ X I dX12_grows_38
def M_grows_0  (σ : Sg) (x1 : Int32) : Option (Int32 × Sg) :=
  if (rd_ σ 0 24) = (2 : Int32) then (M_grows_16 σ x1)
  else (if (rd_ σ 0 24) = (4 : Int32) then (M_grows_16 σ x1)
  else (if (rd_ σ 0 24) = (5 : Int32) then (bi_ (M_runs_0 σ (60 : Int32)) fun _ σ_8 =>
  bi_ (M_growsPlain_0 σ_8 x1) fun r_11 σ_10 =>
  some ((r_11 * (3 : Int32)), σ_10))
  else (bi_ (M_growsPlain_0 σ x1) fun r_6 σ_5 =>
  some (r_6, σ_5))))
set_option maxRecDepth 100000 in
theorem kM_grows_0 {p : Program} {l : Launch} {e : Env} {s : State} {m : MethodId} {args : Array Value} {below : List Frame} {meth : Method} {c : Code} {D : va_G} {cy : Nat → ClassId} {a : Nat → Nat} (X : cx_ cX12_grows RX12 wsX12_grows 3 (some .int) 16 a D cy xfM p s m args meth c)  {r0 : Int32} {σ' : Sg}  : ∀ (σ : Sg) (x1 : Int32) (H : Heap) (locs : List Loc) (ls : Array Slot), M_grows_0 σ x1 = some (r0, σ') → iv_ 16 a D (shM cy a σ) s H locs → lv_has ls 3 [(0, .ref (a 0)), (1, .int x1)] → W p l e ({ frames := 7, cells := 0, slots := 0, locals := 148 }) s m args below meth c H locs 0 0 (MQ below (qg_ 16 a D (shM cy a σ') (some (.int r0)) s.heap.size) args s 0 0 (fr_ 16 a s.heap.size)) (F0 m 0 ls []) := by
  obtain ⟨hx, hb, hr, hml, hown, hts, hlk, hK, hA, hXf⟩ := id X
  intro σ x1 H locs ls h I hl
  unfold M_grows_0 at h
  refine lv_aload_n hx hb dX12_grows_0 rfl (lv_at hl 0 rfl) ?_
  refine ig_ (index := 314) X I (fun _ q => List.mem_cons_of_mem _ (List.mem_append_right _ q)) 0 (by decide) shM_0 rfl 24 (by decide) (by decide +kernel) rfl (v := .int (rd_ σ 0 24)) rfl dX12_grows_1 ?_
  refine lv_iconst (v := 2) hx hb dX12_grows_4 (by decide) ?_
  refine lv_icmp_eq (tgt := 16) hx hb dX12_grows_5 (by decide) (fun c_1 => ?_) (fun c_1 => ?_)
  · have h := if_t h c_1
    exact kM_grows_16 X  σ x1 H locs ls h I (lv_sub hl [0, 1] rfl)
  · have h := if_f h c_1
    refine lv_aload_n hx hb dX12_grows_8 rfl (lv_at hl 0 rfl) ?_
    refine ig_ (index := 314) X I (fun _ q => List.mem_cons_of_mem _ (List.mem_append_right _ q)) 0 (by decide) shM_0 rfl 24 (by decide) (by decide +kernel) rfl (v := .int (rd_ σ 0 24)) rfl dX12_grows_9 ?_
    refine lv_iconst (v := 4) hx hb dX12_grows_12 (by decide) ?_
    refine lv_icmp_ne (tgt := 39) hx hb dX12_grows_13 (by decide) (fun c_2 => ?_) (fun c_2 => ?_)
    · have h := if_f h c_2
      refine lv_aload_n hx hb dX12_grows_39 rfl (lv_at hl 0 rfl) ?_
      refine ig_ (index := 314) X I (fun _ q => List.mem_cons_of_mem _ (List.mem_append_right _ q)) 0 (by decide) shM_0 rfl 24 (by decide) (by decide +kernel) rfl (v := .int (rd_ σ 0 24)) rfl dX12_grows_40 ?_
      refine lv_iconst (v := 5) hx hb dX12_grows_43 (by decide) ?_
      refine lv_icmp_ne (tgt := 61) hx hb dX12_grows_44 (by decide) (fun c_3 => ?_) (fun c_3 => ?_)
      · have h := if_f h c_3
        refine lv_aload_n hx hb dX12_grows_61 rfl (lv_at hl 0 rfl) ?_
        refine lv_iload_n hx hb dX12_grows_62 rfl (lv_at hl 1 rfl) ?_
        obtain ⟨r_6, σ_5, hc_4, h⟩ := bi_of h
        refine cg_ (rV_ (nn := 1) (As := [.int x1]) (rest := []) X xkM I (c_M_growsPlain hc_4 H.size) gX12_grows_X12_growsPlain rfl ⟨rfl, rfl⟩ (by decide +kernel) ⟨Nat.le_of_ble_eq_true rfl, Nat.le_of_ble_eq_true rfl⟩ (by decide) shM_0 rfl rfl hl.1 rfl (Nat.le_of_ble_eq_true rfl) dX12_grows_63) I (fun H locs I => ?_)
        obtain ⟨rfl, rfl⟩ := re_s h
        exact rti_ X I dX12_grows_66
      · have h := if_t h c_3
        refine lv_aload_n hx hb dX12_grows_47 rfl (lv_at hl 0 rfl) ?_
        refine lv_bipush (v := 60) hx hb dX12_grows_48 (by decide) ?_
        obtain ⟨_, σ_8, hc_7, h⟩ := bi_of h
        refine cv_ (rV_ (nn := 1) (As := [.int (60 : Int32)]) (rest := []) X xkM I (c_M_runs hc_7 H.size) gX12_grows_X12_runs rfl ⟨rfl, rfl⟩ (by decide +kernel) ⟨Nat.le_of_ble_eq_true rfl, Nat.le_of_ble_eq_true rfl⟩ (by decide) shM_0 rfl rfl hl.1 rfl (Nat.le_of_ble_eq_true rfl) dX12_grows_50) I (fun H locs I => ?_)
        refine lv_aload_n hx hb dX12_grows_53 rfl (lv_at hl 0 rfl) ?_
        refine lv_iload_n hx hb dX12_grows_54 rfl (lv_at hl 1 rfl) ?_
        obtain ⟨r_11, σ_10, hc_9, h⟩ := bi_of h
        refine cg_ (rV_ (nn := 1) (As := [.int x1]) (rest := []) X xkM I (c_M_growsPlain hc_9 H.size) gX12_grows_X12_growsPlain rfl ⟨rfl, rfl⟩ (by decide +kernel) ⟨Nat.le_of_ble_eq_true rfl, Nat.le_of_ble_eq_true rfl⟩ (by decide) shM_0 rfl rfl hl.1 rfl (Nat.le_of_ble_eq_true rfl) dX12_grows_55) I (fun H locs I => ?_)
        refine lv_iconst (v := 3) hx hb dX12_grows_58 (by decide) ?_
        refine lv_imul hx hb dX12_grows_59 ?_
        obtain ⟨rfl, rfl⟩ := re_s h
        exact rti_ X I dX12_grows_60
    · have h := if_t h c_2
      exact kM_grows_16 X  σ x1 H locs ls h I (lv_sub hl [0, 1] rfl)
theorem c_M_grows {l : Launch} {D : va_G} {cy : Nat → ClassId} {a : Nat → Nat} {σ : Sg} {x1 : Int32} {r0 : Int32} {σ' : Sg} (h : M_grows_0 σ x1 = some (r0, σ')) (sz : Nat) : Met l yX12_grows wsX12_grows ({ frames := 7, cells := 0, slots := 0, locals := 148 }) (va_Pc [.ref (a 0), .int x1] (pr_ 16 a D cy (shM cy a σ) xfM sz)) (qg_ 16 a D (shM cy a σ') (some (.int r0)) sz) 0 0 (fr_ 16 a sz) := by
  refine ent_ (by decide) rfl (Nat.le_of_ble_eq_true rfl) ?_
  intro p e s m below meth c ls hsz X I hl
  subst hsz
  exact kM_grows_0 X σ x1 s.heap [] ls h I hl

def M_act_123  (σ : Sg) (t0 : Int32) : Option (Int32 × Sg) :=
  if (rd_ σ 0 27) = 0 then (some (t0, σ))
  else (some ((-15 : Int32), σ))
set_option maxRecDepth 100000 in
theorem kM_act_123 {p : Program} {l : Launch} {e : Env} {s : State} {m : MethodId} {args : Array Value} {below : List Frame} {meth : Method} {c : Code} {D : va_G} {cy : Nat → ClassId} {a : Nat → Nat} (X : cx_ cX12_act RX12 wsX12_act 5 (some .int) 16 a D cy xfM p s m args meth c)  {r0 : Int32} {σ' : Sg}  : ∀ (σ : Sg) (t0 : Int32) (H : Heap) (locs : List Loc) (ls : Array Slot), M_act_123 σ t0 = some (r0, σ') → iv_ 16 a D (shM cy a σ) s H locs → lv_has ls 5 [(0, .ref (a 0))] → W p l e ({ frames := 8, cells := 0, slots := 0, locals := 170 }) s m args below meth c H locs 0 0 (MQ below (qg_ 16 a D (shM cy a σ') (some (.int r0)) s.heap.size) args s 0 0 (fr_ 16 a s.heap.size)) (F0 m 123 ls [.int t0]) := by
  obtain ⟨hx, hb, hr, hml, hown, hts, hlk, hK, hA, hXf⟩ := id X
  intro σ t0 H locs ls h I hl
  unfold M_act_123 at h
  refine lv_istore (lv' := [(4, .int t0), (0, .ref (a 0))]) hx hb dX12_act_123 hl (by decide) rfl (fun ls hl => ?_)
  refine lv_aload_n hx hb dX12_act_125 rfl (lv_at hl 1 rfl) ?_
  refine ig_ (index := 329) X I (fun _ q => List.mem_cons_of_mem _ (List.mem_append_right _ q)) 0 (by decide) shM_0 rfl 27 (by decide) (by decide +kernel) rfl (v := .int (rd_ σ 0 27)) rfl dX12_act_126 ?_
  refine lv_if_eq (tgt := 137) hx hb dX12_act_129 (by decide) (fun c_1 => ?_) (fun c_1 => ?_)
  · have h := if_t h c_1
    refine lv_iload hx hb dX12_act_137 (lv_at hl 0 rfl) ?_
    obtain ⟨rfl, rfl⟩ := re_s h
    exact rti_ X I dX12_act_139
  · have h := if_f h c_1
    refine lv_bipush (v := (-15)) hx hb dX12_act_132 (by decide) ?_
    refine lv_goto (tgt := 139) hx hb dX12_act_134 (by decide) ?_
    obtain ⟨rfl, rfl⟩ := re_s h
    exact rti_ X I dX12_act_139
def M_act_0  (σ : Sg) (x1 : Int32) (x2 : Int32) (x3 : Int32) : Option (Int32 × Sg) :=
  lt_ (wr_ σ 0 23 (0 : Int32)) fun σ_1 =>
  bp_ (M_isShelf_0 x1) fun r_4 =>
  if r_4 = 0 then (some ((0 : Int32), σ_1))
  else (bp_ (M_isIn_0 (x2).toInt64 (0 : Int64) (3 : Int64)) fun r_7 =>
  if r_7 = 0 then (some ((0 : Int32), σ_1))
  else (bi_ (M_heldOn_0 σ_1 x1) fun r_11 σ_10 =>
  if r_11 = (1 : Int32) then (lt_ (wr_ σ_10 0 27 (0 : Int32)) fun σ_13 =>
  gd_ (in_ x1 4) (
  bi_ (M_its_0 σ_13 (rd_ σ_13 13 x1.toNatClampNeg) (0 : Int32)) fun r_18 σ_17 =>
  lt_ (wr_ σ_17 0 24 r_18) fun σ_19 =>
  gd_ (in_ x1 4) (
  lt_ (wr_ σ_19 0 25 (rd_ σ_19 13 x1.toNatClampNeg)) fun σ_22 =>
  gd_ (in_ x1 4) (
  bi_ (M_its_0 σ_22 (rd_ σ_22 13 x1.toNatClampNeg) (5 : Int32)) fun r_27 σ_26 =>
  lt_ (wr_ σ_26 0 26 r_27) fun σ_28 =>
  if x2 = 0 then (bi_ (M_kicks_0 σ_28 x3) fun r_44 σ_43 =>
  M_act_123 σ_43 r_44)
  else (if x2 = (1 : Int32) then (bi_ (M_prays_0 σ_28 x3) fun r_41 σ_40 =>
  M_act_123 σ_40 r_41)
  else (if x2 = (2 : Int32) then (bi_ (M_parts_0 σ_28 x3) fun r_38 σ_37 =>
  M_act_123 σ_37 r_38)
  else (bi_ (M_grows_0 σ_28 x3) fun r_35 σ_34 =>
  M_act_123 σ_34 r_35)))))))
  else (some ((0 : Int32), σ_10))))
set_option maxRecDepth 100000 in
theorem kM_act_0 {p : Program} {l : Launch} {e : Env} {s : State} {m : MethodId} {args : Array Value} {below : List Frame} {meth : Method} {c : Code} {D : va_G} {cy : Nat → ClassId} {a : Nat → Nat} (X : cx_ cX12_act RX12 wsX12_act 5 (some .int) 16 a D cy xfM p s m args meth c)  {r0 : Int32} {σ' : Sg}  : ∀ (σ : Sg) (x1 : Int32) (x2 : Int32) (x3 : Int32) (H : Heap) (locs : List Loc) (ls : Array Slot), M_act_0 σ x1 x2 x3 = some (r0, σ') → iv_ 16 a D (shM cy a σ) s H locs → lv_has ls 5 [(0, .ref (a 0)), (1, .int x1), (2, .int x2), (3, .int x3)] → W p l e ({ frames := 8, cells := 0, slots := 0, locals := 170 }) s m args below meth c H locs 0 0 (MQ below (qg_ 16 a D (shM cy a σ') (some (.int r0)) s.heap.size) args s 0 0 (fr_ 16 a s.heap.size)) (F0 m 0 ls []) := by
  obtain ⟨hx, hb, hr, hml, hown, hts, hlk, hK, hA, hXf⟩ := id X
  intro σ x1 x2 x3 H locs ls h I hl
  unfold M_act_0 at h
  refine lv_aload_n hx hb dX12_act_0 rfl (lv_at hl 0 rfl) ?_
  refine lv_iconst (v := 0) hx hb dX12_act_1 (by decide) ?_
  refine ip_ (index := 302) (ty := .int) X I (fun _ q => List.mem_cons_of_mem _ (List.mem_append_right _ q)) tyX12 tyX12_ok nmX12 0 (by decide) shM_0 rfl 23 (by decide) (by decide +kernel) rfl rfl (by decide +kernel) rfl rfl (Nat.le_of_ble_eq_true rfl) shM_pt_23 dX12_act_2 (fun σ_1 H locs e_2 I => ?_)
  have h := lt_at h e_2
  refine lv_iload_n hx hb dX12_act_5 rfl (lv_at hl 1 rfl) ?_
  obtain ⟨r_4, hc_3, h⟩ := bp_of h
  refine cp_ (rP_ (nn := 1) (As := [.int x1]) (rest := []) ⟨hx, hb, hml, hown, hts⟩ (c_M_isShelf hc_3) gX12_act_X12_isShelf rfl ⟨rfl, rfl⟩ (by decide +kernel) ⟨Nat.le_of_ble_eq_true rfl, Nat.le_of_ble_eq_true rfl⟩ rfl hl.1 rfl (Nat.le_of_ble_eq_true rfl) dX12_act_6 ⟨Nat.zero_le _, Nat.zero_le _⟩) ?_
  refine lv_if_eq (tgt := 33) hx hb dX12_act_9 (by decide) (fun c_5 => ?_) (fun c_5 => ?_)
  · have h := if_t h c_5
    refine lv_iconst (v := 0) hx hb dX12_act_33 (by decide) ?_
    obtain ⟨rfl, rfl⟩ := re_s h
    exact rti_ X I dX12_act_34
  · have h := if_f h c_5
    refine lv_iload_n hx hb dX12_act_12 rfl (lv_at hl 2 rfl) ?_
    refine lv_i2l hx hb dX12_act_13 rfl ?_
    refine lv_lconst (v := 0) hx hb dX12_act_14 (by decide) ?_
    refine lv_ldc2 (v := 3) hx hb hown (hts (.constantLong RX12 161 (3)) (by decide +kernel)) dX12_act_15 ?_
    obtain ⟨r_7, hc_6, h⟩ := bp_of h
    refine cp_ (rP_ (nn := 3) (As := [.long (x2).toInt64, .long (0 : Int64), .long (3 : Int64)]) (rest := []) ⟨hx, hb, hml, hown, hts⟩ (c_M_isIn hc_6) gX12_act_X12_isIn rfl ⟨rfl, rfl⟩ (by decide +kernel) ⟨Nat.le_of_ble_eq_true rfl, Nat.le_of_ble_eq_true rfl⟩ rfl hl.1 rfl (Nat.le_of_ble_eq_true rfl) dX12_act_18 ⟨Nat.zero_le _, Nat.zero_le _⟩) ?_
    refine lv_if_eq (tgt := 33) hx hb dX12_act_21 (by decide) (fun c_8 => ?_) (fun c_8 => ?_)
    · have h := if_t h c_8
      refine lv_iconst (v := 0) hx hb dX12_act_33 (by decide) ?_
      obtain ⟨rfl, rfl⟩ := re_s h
      exact rti_ X I dX12_act_34
    · have h := if_f h c_8
      refine lv_aload_n hx hb dX12_act_24 rfl (lv_at hl 0 rfl) ?_
      refine lv_iload_n hx hb dX12_act_25 rfl (lv_at hl 1 rfl) ?_
      obtain ⟨r_11, σ_10, hc_9, h⟩ := bi_of h
      refine cg_ (rV_ (nn := 1) (As := [.int x1]) (rest := []) X xkM I (c_M_heldOn hc_9 H.size) gX12_act_X12_heldOn rfl ⟨rfl, rfl⟩ (by decide +kernel) ⟨Nat.le_of_ble_eq_true rfl, Nat.le_of_ble_eq_true rfl⟩ (by decide) shM_0 rfl rfl hl.1 rfl (Nat.le_of_ble_eq_true rfl) dX12_act_26) I (fun H locs I => ?_)
      refine lv_iconst (v := 1) hx hb dX12_act_29 (by decide) ?_
      refine lv_icmp_eq (tgt := 35) hx hb dX12_act_30 (by decide) (fun c_12 => ?_) (fun c_12 => ?_)
      · have h := if_t h c_12
        refine lv_aload_n hx hb dX12_act_35 rfl (lv_at hl 0 rfl) ?_
        refine lv_iconst (v := 0) hx hb dX12_act_36 (by decide) ?_
        refine ip_ (index := 329) (ty := .boolean) X I (fun _ q => List.mem_cons_of_mem _ (List.mem_append_right _ q)) tyX12 tyX12_ok nmX12 0 (by decide) shM_0 rfl 27 (by decide) (by decide +kernel) rfl rfl (by decide +kernel) (by decide) (by decide) (Nat.le_of_ble_eq_true rfl) shM_pt_27 dX12_act_37 (fun σ_13 H locs e_14 I => ?_)
        have h := lt_at h e_14
        refine lv_aload_n hx hb dX12_act_40 rfl (lv_at hl 0 rfl) ?_
        refine lv_aload_n hx hb dX12_act_41 rfl (lv_at hl 0 rfl) ?_
        refine lv_aload_n hx hb dX12_act_42 rfl (lv_at hl 0 rfl) ?_
        refine ig_ (index := 46) X I (fun _ q => List.mem_cons_of_mem _ (List.mem_append_right _ q)) 0 (by decide) shM_0 rfl 20 (by decide) (by decide +kernel) rfl (v := .ref (a 13)) rfl dX12_act_43 ?_
        refine lv_iload_n hx hb dX12_act_46 rfl (lv_at hl 1 rfl) ?_
        obtain ⟨g_15, h⟩ := gd_of h
        refine ia_ X I 13 (by decide) shM_13 (in_of g_15) (v0 := rd_ σ_13 13 x1.toNatClampNeg) rfl dX12_act_47 ?_
        refine lv_iconst (v := 0) hx hb dX12_act_48 (by decide) ?_
        obtain ⟨r_18, σ_17, hc_16, h⟩ := bi_of h
        refine cg_ (rV_ (nn := 2) (As := [.int (rd_ σ_13 13 x1.toNatClampNeg), .int (0 : Int32)]) (rest := [.ref (a 0)]) X xkM I (c_M_its hc_16 H.size) gX12_act_X12_its rfl ⟨rfl, rfl⟩ (by decide +kernel) ⟨Nat.le_of_ble_eq_true rfl, Nat.le_of_ble_eq_true rfl⟩ (by decide) shM_0 rfl rfl hl.1 rfl (Nat.le_of_ble_eq_true rfl) dX12_act_49) I (fun H locs I => ?_)
        refine ip_ (index := 314) (ty := .int) X I (fun _ q => List.mem_cons_of_mem _ (List.mem_append_right _ q)) tyX12 tyX12_ok nmX12 0 (by decide) shM_0 rfl 24 (by decide) (by decide +kernel) rfl rfl (by decide +kernel) rfl rfl (Nat.le_of_ble_eq_true rfl) shM_pt_24 dX12_act_52 (fun σ_19 H locs e_20 I => ?_)
        have h := lt_at h e_20
        refine lv_aload_n hx hb dX12_act_55 rfl (lv_at hl 0 rfl) ?_
        refine lv_aload_n hx hb dX12_act_56 rfl (lv_at hl 0 rfl) ?_
        refine ig_ (index := 46) X I (fun _ q => List.mem_cons_of_mem _ (List.mem_append_right _ q)) 0 (by decide) shM_0 rfl 20 (by decide) (by decide +kernel) rfl (v := .ref (a 13)) rfl dX12_act_57 ?_
        refine lv_iload_n hx hb dX12_act_60 rfl (lv_at hl 1 rfl) ?_
        obtain ⟨g_21, h⟩ := gd_of h
        refine ia_ X I 13 (by decide) shM_13 (in_of g_21) (v0 := rd_ σ_19 13 x1.toNatClampNeg) rfl dX12_act_61 ?_
        refine ip_ (index := 308) (ty := .int) X I (fun _ q => List.mem_cons_of_mem _ (List.mem_append_right _ q)) tyX12 tyX12_ok nmX12 0 (by decide) shM_0 rfl 25 (by decide) (by decide +kernel) rfl rfl (by decide +kernel) rfl rfl (Nat.le_of_ble_eq_true rfl) shM_pt_25 dX12_act_62 (fun σ_22 H locs e_23 I => ?_)
        have h := lt_at h e_23
        refine lv_aload_n hx hb dX12_act_65 rfl (lv_at hl 0 rfl) ?_
        refine lv_aload_n hx hb dX12_act_66 rfl (lv_at hl 0 rfl) ?_
        refine lv_aload_n hx hb dX12_act_67 rfl (lv_at hl 0 rfl) ?_
        refine ig_ (index := 46) X I (fun _ q => List.mem_cons_of_mem _ (List.mem_append_right _ q)) 0 (by decide) shM_0 rfl 20 (by decide) (by decide +kernel) rfl (v := .ref (a 13)) rfl dX12_act_68 ?_
        refine lv_iload_n hx hb dX12_act_71 rfl (lv_at hl 1 rfl) ?_
        obtain ⟨g_24, h⟩ := gd_of h
        refine ia_ X I 13 (by decide) shM_13 (in_of g_24) (v0 := rd_ σ_22 13 x1.toNatClampNeg) rfl dX12_act_72 ?_
        refine lv_iconst (v := 5) hx hb dX12_act_73 (by decide) ?_
        obtain ⟨r_27, σ_26, hc_25, h⟩ := bi_of h
        refine cg_ (rV_ (nn := 2) (As := [.int (rd_ σ_22 13 x1.toNatClampNeg), .int (5 : Int32)]) (rest := [.ref (a 0)]) X xkM I (c_M_its hc_25 H.size) gX12_act_X12_its rfl ⟨rfl, rfl⟩ (by decide +kernel) ⟨Nat.le_of_ble_eq_true rfl, Nat.le_of_ble_eq_true rfl⟩ (by decide) shM_0 rfl rfl hl.1 rfl (Nat.le_of_ble_eq_true rfl) dX12_act_74) I (fun H locs I => ?_)
        refine ip_ (index := 320) (ty := .int) X I (fun _ q => List.mem_cons_of_mem _ (List.mem_append_right _ q)) tyX12 tyX12_ok nmX12 0 (by decide) shM_0 rfl 26 (by decide) (by decide +kernel) rfl rfl (by decide +kernel) rfl rfl (Nat.le_of_ble_eq_true rfl) shM_pt_26 dX12_act_77 (fun σ_28 H locs e_29 I => ?_)
        have h := lt_at h e_29
        refine lv_iload_n hx hb dX12_act_80 rfl (lv_at hl 2 rfl) ?_
        refine lv_if_ne (tgt := 92) hx hb dX12_act_81 (by decide) (fun c_30 => ?_) (fun c_30 => ?_)
        · have h := if_f h c_30
          refine lv_iload_n hx hb dX12_act_92 rfl (lv_at hl 2 rfl) ?_
          refine lv_iconst (v := 1) hx hb dX12_act_93 (by decide) ?_
          refine lv_icmp_ne (tgt := 105) hx hb dX12_act_94 (by decide) (fun c_31 => ?_) (fun c_31 => ?_)
          · have h := if_f h c_31
            refine lv_iload_n hx hb dX12_act_105 rfl (lv_at hl 2 rfl) ?_
            refine lv_iconst (v := 2) hx hb dX12_act_106 (by decide) ?_
            refine lv_icmp_ne (tgt := 118) hx hb dX12_act_107 (by decide) (fun c_32 => ?_) (fun c_32 => ?_)
            · have h := if_f h c_32
              refine lv_aload_n hx hb dX12_act_118 rfl (lv_at hl 0 rfl) ?_
              refine lv_iload_n hx hb dX12_act_119 rfl (lv_at hl 3 rfl) ?_
              obtain ⟨r_35, σ_34, hc_33, h⟩ := bi_of h
              refine cg_ (rV_ (nn := 1) (As := [.int x3]) (rest := []) X xkM I (c_M_grows hc_33 H.size) gX12_act_X12_grows rfl ⟨rfl, rfl⟩ (by decide +kernel) ⟨Nat.le_of_ble_eq_true rfl, Nat.le_of_ble_eq_true rfl⟩ (by decide) shM_0 rfl rfl hl.1 rfl (Nat.le_of_ble_eq_true rfl) dX12_act_120) I (fun H locs I => ?_)
              exact kM_act_123 X  σ_34 r_35 H locs ls h I (lv_sub hl [0] rfl)
            · have h := if_t h c_32
              refine lv_aload_n hx hb dX12_act_110 rfl (lv_at hl 0 rfl) ?_
              refine lv_iload_n hx hb dX12_act_111 rfl (lv_at hl 3 rfl) ?_
              obtain ⟨r_38, σ_37, hc_36, h⟩ := bi_of h
              refine cg_ (rV_ (nn := 1) (As := [.int x3]) (rest := []) X xkM I (c_M_parts hc_36 H.size) gX12_act_X12_parts rfl ⟨rfl, rfl⟩ (by decide +kernel) ⟨Nat.le_of_ble_eq_true rfl, Nat.le_of_ble_eq_true rfl⟩ (by decide) shM_0 rfl rfl hl.1 rfl (Nat.le_of_ble_eq_true rfl) dX12_act_112) I (fun H locs I => ?_)
              refine lv_goto (tgt := 123) hx hb dX12_act_115 (by decide) ?_
              exact kM_act_123 X  σ_37 r_38 H locs ls h I (lv_sub hl [0] rfl)
          · have h := if_t h c_31
            refine lv_aload_n hx hb dX12_act_97 rfl (lv_at hl 0 rfl) ?_
            refine lv_iload_n hx hb dX12_act_98 rfl (lv_at hl 3 rfl) ?_
            obtain ⟨r_41, σ_40, hc_39, h⟩ := bi_of h
            refine cg_ (rV_ (nn := 1) (As := [.int x3]) (rest := []) X xkM I (c_M_prays hc_39 H.size) gX12_act_X12_prays rfl ⟨rfl, rfl⟩ (by decide +kernel) ⟨Nat.le_of_ble_eq_true rfl, Nat.le_of_ble_eq_true rfl⟩ (by decide) shM_0 rfl rfl hl.1 rfl (Nat.le_of_ble_eq_true rfl) dX12_act_99) I (fun H locs I => ?_)
            refine lv_goto (tgt := 123) hx hb dX12_act_102 (by decide) ?_
            exact kM_act_123 X  σ_40 r_41 H locs ls h I (lv_sub hl [0] rfl)
        · have h := if_t h c_30
          refine lv_aload_n hx hb dX12_act_84 rfl (lv_at hl 0 rfl) ?_
          refine lv_iload_n hx hb dX12_act_85 rfl (lv_at hl 3 rfl) ?_
          obtain ⟨r_44, σ_43, hc_42, h⟩ := bi_of h
          refine cg_ (rV_ (nn := 1) (As := [.int x3]) (rest := []) X xkM I (c_M_kicks hc_42 H.size) gX12_act_X12_kicks rfl ⟨rfl, rfl⟩ (by decide +kernel) ⟨Nat.le_of_ble_eq_true rfl, Nat.le_of_ble_eq_true rfl⟩ (by decide) shM_0 rfl rfl hl.1 rfl (Nat.le_of_ble_eq_true rfl) dX12_act_86) I (fun H locs I => ?_)
          refine lv_goto (tgt := 123) hx hb dX12_act_89 (by decide) ?_
          exact kM_act_123 X  σ_43 r_44 H locs ls h I (lv_sub hl [0] rfl)
      · have h := if_f h c_12
        refine lv_iconst (v := 0) hx hb dX12_act_33 (by decide) ?_
        obtain ⟨rfl, rfl⟩ := re_s h
        exact rti_ X I dX12_act_34
theorem c_M_act {l : Launch} {D : va_G} {cy : Nat → ClassId} {a : Nat → Nat} {σ : Sg} {x1 : Int32} {x2 : Int32} {x3 : Int32} {r0 : Int32} {σ' : Sg} (h : M_act_0 σ x1 x2 x3 = some (r0, σ')) (sz : Nat) : Met l yX12_act wsX12_act ({ frames := 8, cells := 0, slots := 0, locals := 170 }) (va_Pc [.ref (a 0), .int x1, .int x2, .int x3] (pr_ 16 a D cy (shM cy a σ) xfM sz)) (qg_ 16 a D (shM cy a σ') (some (.int r0)) sz) 0 0 (fr_ 16 a sz) := by
  refine ent_ (by decide) rfl (Nat.le_of_ble_eq_true rfl) ?_
  intro p e s m below meth c ls hsz X I hl
  subst hsz
  exact kM_act_0 X σ x1 x2 x3 s.heap [] ls h I hl

def M_trace_0  (σ : Sg) (x1 : Int32) : Option (Int32 × Sg) :=
  bp_ (M_isIn_0 (x1).toInt64 (0 : Int64) ((rd_ σ 0 23) - (1 : Int32)).toInt64) fun r_2 =>
  if r_2 = 0 then (some ((-3 : Int32), σ))
  else (gd_ (in_ x1 30) (
  some ((rd_ σ 15 x1.toNatClampNeg), σ)))
set_option maxRecDepth 100000 in
theorem kM_trace_0 {p : Program} {l : Launch} {e : Env} {s : State} {m : MethodId} {args : Array Value} {below : List Frame} {meth : Method} {c : Code} {D : va_G} {cy : Nat → ClassId} {a : Nat → Nat} (X : cx_ cX12_trace RX12 wsX12_trace 2 (some .int) 16 a D cy xfM p s m args meth c)  {r0 : Int32} {σ' : Sg}  : ∀ (σ : Sg) (x1 : Int32) (H : Heap) (locs : List Loc) (ls : Array Slot), M_trace_0 σ x1 = some (r0, σ') → iv_ 16 a D (shM cy a σ) s H locs → lv_has ls 2 [(0, .ref (a 0)), (1, .int x1)] → W p l e ({ frames := 1, cells := 0, slots := 0, locals := 25 }) s m args below meth c H locs 0 0 (MQ below (qg_ 16 a D (shM cy a σ') (some (.int r0)) s.heap.size) args s 0 0 (fr_ 16 a s.heap.size)) (F0 m 0 ls []) := by
  obtain ⟨hx, hb, hr, hml, hown, hts, hlk, hK, hA, hXf⟩ := id X
  intro σ x1 H locs ls h I hl
  unfold M_trace_0 at h
  refine lv_iload_n hx hb dX12_trace_0 rfl (lv_at hl 1 rfl) ?_
  refine lv_i2l hx hb dX12_trace_1 rfl ?_
  refine lv_lconst (v := 0) hx hb dX12_trace_2 (by decide) ?_
  refine lv_aload_n hx hb dX12_trace_3 rfl (lv_at hl 0 rfl) ?_
  refine ig_ (index := 302) X I (fun _ q => List.mem_cons_of_mem _ (List.mem_append_right _ q)) 0 (by decide) shM_0 rfl 23 (by decide) (by decide +kernel) rfl (v := .int (rd_ σ 0 23)) rfl dX12_trace_4 ?_
  refine lv_iconst (v := 1) hx hb dX12_trace_7 (by decide) ?_
  refine lv_isub hx hb dX12_trace_8 ?_
  refine lv_i2l hx hb dX12_trace_9 rfl ?_
  obtain ⟨r_2, hc_1, h⟩ := bp_of h
  refine cp_ (rP_ (nn := 3) (As := [.long (x1).toInt64, .long (0 : Int64), .long ((rd_ σ 0 23) - (1 : Int32)).toInt64]) (rest := []) ⟨hx, hb, hml, hown, hts⟩ (c_M_isIn hc_1) gX12_trace_X12_isIn rfl ⟨rfl, rfl⟩ (by decide +kernel) ⟨Nat.le_of_ble_eq_true rfl, Nat.le_of_ble_eq_true rfl⟩ rfl hl.1 rfl (Nat.le_of_ble_eq_true rfl) dX12_trace_10 ⟨Nat.zero_le _, Nat.zero_le _⟩) ?_
  refine lv_if_eq (tgt := 25) hx hb dX12_trace_13 (by decide) (fun c_3 => ?_) (fun c_3 => ?_)
  · have h := if_t h c_3
    refine lv_bipush (v := (-3)) hx hb dX12_trace_25 (by decide) ?_
    obtain ⟨rfl, rfl⟩ := re_s h
    exact rti_ X I dX12_trace_27
  · have h := if_f h c_3
    refine lv_aload_n hx hb dX12_trace_16 rfl (lv_at hl 0 rfl) ?_
    refine ig_ (index := 52) X I (fun _ q => List.mem_cons_of_mem _ (List.mem_append_right _ q)) 0 (by decide) shM_0 rfl 22 (by decide) (by decide +kernel) rfl (v := .ref (a 15)) rfl dX12_trace_17 ?_
    refine lv_iload_n hx hb dX12_trace_20 rfl (lv_at hl 1 rfl) ?_
    obtain ⟨g_4, h⟩ := gd_of h
    refine ia_ X I 15 (by decide) shM_15 (in_of g_4) (v0 := rd_ σ 15 x1.toNatClampNeg) rfl dX12_trace_21 ?_
    refine lv_goto (tgt := 27) hx hb dX12_trace_22 (by decide) ?_
    obtain ⟨rfl, rfl⟩ := re_s h
    exact rti_ X I dX12_trace_27
theorem c_M_trace {l : Launch} {D : va_G} {cy : Nat → ClassId} {a : Nat → Nat} {σ : Sg} {x1 : Int32} {r0 : Int32} {σ' : Sg} (h : M_trace_0 σ x1 = some (r0, σ')) (sz : Nat) : Met l yX12_trace wsX12_trace ({ frames := 1, cells := 0, slots := 0, locals := 25 }) (va_Pc [.ref (a 0), .int x1] (pr_ 16 a D cy (shM cy a σ) xfM sz)) (qg_ 16 a D (shM cy a σ') (some (.int r0)) sz) 0 0 (fr_ 16 a sz) := by
  refine ent_ (by decide) rfl (Nat.le_of_ble_eq_true rfl) ?_
  intro p e s m below meth c ls hsz X I hl
  subst hsz
  exact kM_trace_0 X σ x1 s.heap [] ls h I hl

def M_many_92 (k72 : Sg → Int32 → Int32 → Option (Int32 × Sg)) (σ : Sg) (x3 : Int32) (t1 : Int32) (t0 : Int32) : Option (Int32 × Sg) :=
  lt_ ((t0 + t1)) fun y_1 =>
  lt_ (x3 + (1 : Int32)) fun y_3 =>
  k72 σ y_1 y_3
set_option maxRecDepth 100000 in
theorem kM_many_92 {p : Program} {l : Launch} {e : Env} {s : State} {m : MethodId} {args : Array Value} {below : List Frame} {meth : Method} {c : Code} {D : va_G} {cy : Nat → ClassId} {a : Nat → Nat} (X : cx_ cX12_many RX12 wsX12_many 4 (some .int) 16 a D cy xfM p s m args meth c) {k72 : Sg → Int32 → Int32 → Option (Int32 × Sg)} {r0 : Int32} {σ' : Sg} (hk72 : ∀ (σ : Sg) (x2 : Int32) (x3 : Int32) (H : Heap) (locs : List Loc) (ls : Array Slot), k72 σ x2 x3 = some (r0, σ') → iv_ 16 a D (shM cy a σ) s H locs → lv_has ls 4 [(0, .ref (a 0)), (2, .int x2), (3, .int x3)] → W p l e ({ frames := 4, cells := 0, slots := 0, locals := 86 }) s m args below meth c H locs 0 0 (MQ below (qg_ 16 a D (shM cy a σ') (some (.int r0)) s.heap.size) args s 0 0 (fr_ 16 a s.heap.size)) (F0 m 72 ls [])) : ∀ (σ : Sg) (x3 : Int32) (t1 : Int32) (t0 : Int32) (H : Heap) (locs : List Loc) (ls : Array Slot), M_many_92 k72 σ x3 t1 t0 = some (r0, σ') → iv_ 16 a D (shM cy a σ) s H locs → lv_has ls 4 [(0, .ref (a 0)), (3, .int x3)] → W p l e ({ frames := 4, cells := 0, slots := 0, locals := 86 }) s m args below meth c H locs 0 0 (MQ below (qg_ 16 a D (shM cy a σ') (some (.int r0)) s.heap.size) args s 0 0 (fr_ 16 a s.heap.size)) (F0 m 92 ls [.int t1, .int t0]) := by
  obtain ⟨hx, hb, hr, hml, hown, hts, hlk, hK, hA, hXf⟩ := id X
  intro σ x3 t1 t0 H locs ls h I hl
  unfold M_many_92 at h
  refine lv_iadd hx hb dX12_many_92 ?_
  refine lv_topi (fun y_1 e_2 => ?_)
  have h := lt_at h e_2
  refine lv_istore_n (lv' := [(2, .int y_1), (0, .ref (a 0)), (3, .int x3)]) hx hb dX12_many_93 rfl hl (by decide) rfl (fun ls hl => ?_)
  obtain ⟨y_3, e_4⟩ : ∃ q : Int32, q = x3 + (1 : Int32) := ⟨_, rfl⟩
  have h := lt_at h e_4
  refine lv_iinc (v := y_3) (lv' := [(3, .int y_3), (2, .int y_1), (0, .ref (a 0))]) hx hb dX12_many_94 hl (k := 2) rfl (by rw [e_4]; rfl) (by decide) rfl (fun ls hl => ?_)
  refine lv_goto (tgt := 72) hx hb dX12_many_97 (by decide) ?_
  exact hk72 σ y_1 y_3 H locs ls h I (lv_sub hl [2, 1, 0] rfl)
def M_many_72 (k72 : Sg → Int32 → Int32 → Option (Int32 × Sg)) (σ : Sg) (x2 : Int32) (x3 : Int32) : Option (Int32 × Sg) :=
  if (8 : Int32) ≤ x3 then (some (x2, σ))
  else (bi_ (M_swornTo_0 σ x3) fun r_4 σ_3 =>
  if r_4 = 0 then (M_many_92 k72 σ_3 x3 (0 : Int32) x2)
  else (M_many_92 k72 σ_3 x3 (1 : Int32) x2))
set_option maxRecDepth 100000 in
theorem kM_many_72 {p : Program} {l : Launch} {e : Env} {s : State} {m : MethodId} {args : Array Value} {below : List Frame} {meth : Method} {c : Code} {D : va_G} {cy : Nat → ClassId} {a : Nat → Nat} (X : cx_ cX12_many RX12 wsX12_many 4 (some .int) 16 a D cy xfM p s m args meth c) {k72 : Sg → Int32 → Int32 → Option (Int32 × Sg)} {r0 : Int32} {σ' : Sg} (hk72 : ∀ (σ : Sg) (x2 : Int32) (x3 : Int32) (H : Heap) (locs : List Loc) (ls : Array Slot), k72 σ x2 x3 = some (r0, σ') → iv_ 16 a D (shM cy a σ) s H locs → lv_has ls 4 [(0, .ref (a 0)), (2, .int x2), (3, .int x3)] → W p l e ({ frames := 4, cells := 0, slots := 0, locals := 86 }) s m args below meth c H locs 0 0 (MQ below (qg_ 16 a D (shM cy a σ') (some (.int r0)) s.heap.size) args s 0 0 (fr_ 16 a s.heap.size)) (F0 m 72 ls [])) : ∀ (σ : Sg) (x2 : Int32) (x3 : Int32) (H : Heap) (locs : List Loc) (ls : Array Slot), M_many_72 k72 σ x2 x3 = some (r0, σ') → iv_ 16 a D (shM cy a σ) s H locs → lv_has ls 4 [(0, .ref (a 0)), (2, .int x2), (3, .int x3)] → W p l e ({ frames := 4, cells := 0, slots := 0, locals := 86 }) s m args below meth c H locs 0 0 (MQ below (qg_ 16 a D (shM cy a σ') (some (.int r0)) s.heap.size) args s 0 0 (fr_ 16 a s.heap.size)) (F0 m 72 ls []) := by
  obtain ⟨hx, hb, hr, hml, hown, hts, hlk, hK, hA, hXf⟩ := id X
  intro σ x2 x3 H locs ls h I hl
  unfold M_many_72 at h
  refine lv_iload_n hx hb dX12_many_72 rfl (lv_at hl 2 rfl) ?_
  refine lv_bipush (v := 8) hx hb dX12_many_73 (by decide) ?_
  refine lv_icmp_ge (tgt := 100) hx hb dX12_many_75 (by decide) (fun c_1 => ?_) (fun c_1 => ?_)
  · have h := if_t h c_1
    refine lv_iload_n hx hb dX12_many_100 rfl (lv_at hl 1 rfl) ?_
    obtain ⟨rfl, rfl⟩ := re_s h
    exact rti_ X I dX12_many_101
  · have h := if_f h c_1
    refine lv_iload_n hx hb dX12_many_78 rfl (lv_at hl 1 rfl) ?_
    refine lv_aload_n hx hb dX12_many_79 rfl (lv_at hl 0 rfl) ?_
    refine lv_iload_n hx hb dX12_many_80 rfl (lv_at hl 2 rfl) ?_
    obtain ⟨r_4, σ_3, hc_2, h⟩ := bi_of h
    refine cg_ (rV_ (nn := 1) (As := [.int x3]) (rest := [.int x2]) X xkM I (c_M_swornTo hc_2 H.size) gX12_many_X12_swornTo rfl ⟨rfl, rfl⟩ (by decide +kernel) ⟨Nat.le_of_ble_eq_true rfl, Nat.le_of_ble_eq_true rfl⟩ (by decide) shM_0 rfl rfl hl.1 rfl (Nat.le_of_ble_eq_true rfl) dX12_many_81) I (fun H locs I => ?_)
    refine lv_if_ne (tgt := 91) hx hb dX12_many_84 (by decide) (fun c_5 => ?_) (fun c_5 => ?_)
    · have h := if_f h c_5
      refine lv_iconst (v := 1) hx hb dX12_many_91 (by decide) ?_
      exact kM_many_92 X hk72 σ_3 x3 (1 : Int32) x2 H locs ls h I (lv_sub hl [0, 2] rfl)
    · have h := if_t h c_5
      refine lv_iconst (v := 0) hx hb dX12_many_87 (by decide) ?_
      refine lv_goto (tgt := 92) hx hb dX12_many_88 (by decide) ?_
      exact kM_many_92 X hk72 σ_3 x3 (0 : Int32) x2 H locs ls h I (lv_sub hl [0, 2] rfl)
set_option maxRecDepth 100000 in
theorem kM_many_72L {p : Program} {l : Launch} {e : Env} {s : State} {m : MethodId} {args : Array Value} {below : List Frame} {meth : Method} {c : Code} {D : va_G} {cy : Nat → ClassId} {a : Nat → Nat} (X : cx_ cX12_many RX12 wsX12_many 4 (some .int) 16 a D cy xfM p s m args meth c)  {r0 : Int32} {σ' : Sg}  : ∀ (n : Nat), ∀ (σ : Sg) (x2 : Int32) (x3 : Int32) (H : Heap) (locs : List Loc) (ls : Array Slot), lp_ (M_many_72) (fun _ _ _ => none) n σ x2 x3 = some (r0, σ') → iv_ 16 a D (shM cy a σ) s H locs → lv_has ls 4 [(0, .ref (a 0)), (2, .int x2), (3, .int x3)] → W p l e ({ frames := 4, cells := 0, slots := 0, locals := 86 }) s m args below meth c H locs 0 0 (MQ below (qg_ 16 a D (shM cy a σ') (some (.int r0)) s.heap.size) args s 0 0 (fr_ 16 a s.heap.size)) (F0 m 72 ls []) := by
  intro n
  induction n with
  | zero =>
    intro _ _ _ _ _ _ h
    exact absurd h (fun q => by cases (show (none : Option _) = some _ from q))
  | succ n ih => exact kM_many_72 X ih

def M_many_0  (σ : Sg) (x1 : Int32) : Option (Int32 × Sg) :=
  if x1 = 0 then (some ((rd_ σ 1 0), σ))
  else (if x1 = 1 then (bi_ (M_youngOnes_0 σ) fun r_5 σ_4 =>
  bp_ (M_size_0 r_5) fun r_7 =>
  some (r_7, σ_4))
  else (if x1 = 2 then (bp_ (M_size_0 (rd_ σ 1 7)) fun r_10 =>
  some (r_10, σ))
  else (if x1 = 3 then (lp_ M_many_72 (fun _ _ _ => none) FU σ (0 : Int32) (0 : Int32))
  else (if x1 = 4 then (some ((rd_ σ 0 15), σ))
  else (if x1 = 5 then (some ((rd_ σ 0 6), σ))
  else (if x1 = 6 then (some ((rd_ σ 0 23), σ))
  else (some ((-1 : Int32), σ))))))))
set_option maxRecDepth 100000 in
theorem kM_many_0 {p : Program} {l : Launch} {e : Env} {s : State} {m : MethodId} {args : Array Value} {below : List Frame} {meth : Method} {c : Code} {D : va_G} {cy : Nat → ClassId} {a : Nat → Nat} (X : cx_ cX12_many RX12 wsX12_many 4 (some .int) 16 a D cy xfM p s m args meth c)  {r0 : Int32} {σ' : Sg}  : ∀ (σ : Sg) (x1 : Int32) (H : Heap) (locs : List Loc) (ls : Array Slot), M_many_0 σ x1 = some (r0, σ') → iv_ 16 a D (shM cy a σ) s H locs → lv_has ls 4 [(0, .ref (a 0)), (1, .int x1)] → W p l e ({ frames := 4, cells := 0, slots := 0, locals := 86 }) s m args below meth c H locs 0 0 (MQ below (qg_ 16 a D (shM cy a σ') (some (.int r0)) s.heap.size) args s 0 0 (fr_ 16 a s.heap.size)) (F0 m 0 ls []) := by
  obtain ⟨hx, hb, hr, hml, hown, hts, hlk, hK, hA, hXf⟩ := id X
  intro σ x1 H locs ls h I hl
  unfold M_many_0 at h
  refine lv_iconst (v := 0) hx hb dX12_many_0 (by decide) ?_
  refine lv_istore_n (lv' := [(2, .int (0 : Int32)), (0, .ref (a 0)), (1, .int x1)]) hx hb dX12_many_1 rfl hl (by decide) rfl (fun ls hl => ?_)
  refine lv_iload_n hx hb dX12_many_2 rfl (lv_at hl 2 rfl) ?_
  by_cases c_1 : x1 = 0
  · have h := if_t h c_1
    refine lv_tableIn (tgt := 44) (off := 41) hx hb dX12_many_3 (by rw [c_1]; decide) (by rw [c_1]; decide) (by rw [c_1]; decide) (by decide) ?_
    refine lv_aload_n hx hb dX12_many_44 rfl (lv_at hl 1 rfl) ?_
    refine ig_ (index := 7) X I (fun _ q => List.mem_cons_of_mem _ (List.mem_append_right _ q)) 0 (by decide) shM_0 rfl 0 (by decide) (by decide +kernel) rfl (v := .ref (a 1)) rfl dX12_many_45 ?_
    refine lv_iconst (v := 0) hx hb dX12_many_48 (by decide) ?_
    refine ia_ X I 1 (by decide) shM_1 (in_of (by decide)) (v0 := rd_ σ 1 0) rfl dX12_many_49 ?_
    obtain ⟨rfl, rfl⟩ := re_s h
    exact rti_ X I dX12_many_50
  · have h := if_f h c_1
    by_cases c_2 : x1 = 1
    · have h := if_t h c_2
      refine lv_tableIn (tgt := 51) (off := 48) hx hb dX12_many_3 (by rw [c_2]; decide) (by rw [c_2]; decide) (by rw [c_2]; decide) (by decide) ?_
      refine lv_aload_n hx hb dX12_many_51 rfl (lv_at hl 1 rfl) ?_
      obtain ⟨r_5, σ_4, hc_3, h⟩ := bi_of h
      refine cg_ (rV_ (nn := 0) (As := []) (rest := []) X xkM I (c_M_youngOnes hc_3 H.size) gX12_many_X12_youngOnes rfl ⟨rfl, rfl⟩ (by decide +kernel) ⟨Nat.le_of_ble_eq_true rfl, Nat.le_of_ble_eq_true rfl⟩ (by decide) shM_0 rfl rfl hl.1 rfl (Nat.le_of_ble_eq_true rfl) dX12_many_52) I (fun H locs I => ?_)
      obtain ⟨r_7, hc_6, h⟩ := bp_of h
      refine cp_ (rP_ (nn := 1) (As := [.int r_5]) (rest := []) ⟨hx, hb, hml, hown, hts⟩ (c_M_size hc_6) gX12_many_X12_size rfl ⟨rfl, rfl⟩ (by decide +kernel) ⟨Nat.le_of_ble_eq_true rfl, Nat.le_of_ble_eq_true rfl⟩ rfl hl.1 rfl (Nat.le_of_ble_eq_true rfl) dX12_many_55 ⟨Nat.zero_le _, Nat.zero_le _⟩) ?_
      obtain ⟨rfl, rfl⟩ := re_s h
      exact rti_ X I dX12_many_58
    · have h := if_f h c_2
      by_cases c_8 : x1 = 2
      · have h := if_t h c_8
        refine lv_tableIn (tgt := 59) (off := 56) hx hb dX12_many_3 (by rw [c_8]; decide) (by rw [c_8]; decide) (by rw [c_8]; decide) (by decide) ?_
        refine lv_aload_n hx hb dX12_many_59 rfl (lv_at hl 1 rfl) ?_
        refine ig_ (index := 7) X I (fun _ q => List.mem_cons_of_mem _ (List.mem_append_right _ q)) 0 (by decide) shM_0 rfl 0 (by decide) (by decide +kernel) rfl (v := .ref (a 1)) rfl dX12_many_60 ?_
        refine lv_bipush (v := 7) hx hb dX12_many_63 (by decide) ?_
        refine ia_ X I 1 (by decide) shM_1 (in_of (by decide)) (v0 := rd_ σ 1 7) rfl dX12_many_65 ?_
        obtain ⟨r_10, hc_9, h⟩ := bp_of h
        refine cp_ (rP_ (nn := 1) (As := [.int (rd_ σ 1 7)]) (rest := []) ⟨hx, hb, hml, hown, hts⟩ (c_M_size hc_9) gX12_many_X12_size rfl ⟨rfl, rfl⟩ (by decide +kernel) ⟨Nat.le_of_ble_eq_true rfl, Nat.le_of_ble_eq_true rfl⟩ rfl hl.1 rfl (Nat.le_of_ble_eq_true rfl) dX12_many_66 ⟨Nat.zero_le _, Nat.zero_le _⟩) ?_
        obtain ⟨rfl, rfl⟩ := re_s h
        exact rti_ X I dX12_many_69
      · have h := if_f h c_8
        by_cases c_11 : x1 = 3
        · have h := if_t h c_11
          refine lv_tableIn (tgt := 70) (off := 67) hx hb dX12_many_3 (by rw [c_11]; decide) (by rw [c_11]; decide) (by rw [c_11]; decide) (by decide) ?_
          refine lv_iconst (v := 0) hx hb dX12_many_70 (by decide) ?_
          refine lv_istore_n (lv' := [(3, .int (0 : Int32)), (2, .int (0 : Int32)), (0, .ref (a 0)), (1, .int x1)]) hx hb dX12_many_71 rfl hl (by decide) rfl (fun ls hl => ?_)
          exact kM_many_72L X  FU σ (0 : Int32) (0 : Int32) H locs ls h I (lv_sub hl [2, 1, 0] rfl)
        · have h := if_f h c_11
          by_cases c_12 : x1 = 4
          · have h := if_t h c_12
            refine lv_tableIn (tgt := 102) (off := 99) hx hb dX12_many_3 (by rw [c_12]; decide) (by rw [c_12]; decide) (by rw [c_12]; decide) (by decide) ?_
            refine lv_aload_n hx hb dX12_many_102 rfl (lv_at hl 1 rfl) ?_
            refine ig_ (index := 158) X I (fun _ q => List.mem_cons_of_mem _ (List.mem_append_right _ q)) 0 (by decide) shM_0 rfl 15 (by decide) (by decide +kernel) rfl (v := .int (rd_ σ 0 15)) rfl dX12_many_103 ?_
            obtain ⟨rfl, rfl⟩ := re_s h
            exact rti_ X I dX12_many_106
          · have h := if_f h c_12
            by_cases c_13 : x1 = 5
            · have h := if_t h c_13
              refine lv_tableIn (tgt := 107) (off := 104) hx hb dX12_many_3 (by rw [c_13]; decide) (by rw [c_13]; decide) (by rw [c_13]; decide) (by decide) ?_
              refine lv_aload_n hx hb dX12_many_107 rfl (lv_at hl 1 rfl) ?_
              refine ig_ (index := 64) X I (fun _ q => List.mem_cons_of_mem _ (List.mem_append_right _ q)) 0 (by decide) shM_0 rfl 6 (by decide) (by decide +kernel) rfl (v := .int (rd_ σ 0 6)) rfl dX12_many_108 ?_
              obtain ⟨rfl, rfl⟩ := re_s h
              exact rti_ X I dX12_many_111
            · have h := if_f h c_13
              by_cases c_14 : x1 = 6
              · have h := if_t h c_14
                refine lv_tableIn (tgt := 112) (off := 109) hx hb dX12_many_3 (by rw [c_14]; decide) (by rw [c_14]; decide) (by rw [c_14]; decide) (by decide) ?_
                refine lv_aload_n hx hb dX12_many_112 rfl (lv_at hl 1 rfl) ?_
                refine ig_ (index := 302) X I (fun _ q => List.mem_cons_of_mem _ (List.mem_append_right _ q)) 0 (by decide) shM_0 rfl 23 (by decide) (by decide +kernel) rfl (v := .int (rd_ σ 0 23)) rfl dX12_many_113 ?_
                obtain ⟨rfl, rfl⟩ := re_s h
                exact rti_ X I dX12_many_116
              · have h := if_f h c_14
                refine lv_tableOut (tgt := 117) hx hb dX12_many_3 (by have q0 := lv_neT (a := 0) c_1 rfl; have q1 := lv_neT (a := 1) c_2 rfl; have q2 := lv_neT (a := 2) c_8 rfl; have q3 := lv_neT (a := 3) c_11 rfl; have q4 := lv_neT (a := 4) c_12 rfl; have q5 := lv_neT (a := 5) c_13 rfl; have q6 := lv_neT (a := 6) c_14 rfl; omega) (by decide) ?_
                refine lv_iconst (v := (-1)) hx hb dX12_many_117 (by decide) ?_
                obtain ⟨rfl, rfl⟩ := re_s h
                exact rti_ X I dX12_many_118
theorem c_M_many {l : Launch} {D : va_G} {cy : Nat → ClassId} {a : Nat → Nat} {σ : Sg} {x1 : Int32} {r0 : Int32} {σ' : Sg} (h : M_many_0 σ x1 = some (r0, σ')) (sz : Nat) : Met l yX12_many wsX12_many ({ frames := 4, cells := 0, slots := 0, locals := 86 }) (va_Pc [.ref (a 0), .int x1] (pr_ 16 a D cy (shM cy a σ) xfM sz)) (qg_ 16 a D (shM cy a σ') (some (.int r0)) sz) 0 0 (fr_ 16 a sz) := by
  refine ent_ (by decide) rfl (Nat.le_of_ble_eq_true rfl) ?_
  intro p e s m below meth c ls hsz X I hl
  subst hsz
  exact kM_many_0 X σ x1 s.heap [] ls h I hl

def M_keep_2 (k2 : Sg → Int32 → Option (Int32 × Sg)) (σ : Sg) (x1 : Int32) : Option (Int32 × Sg) :=
  if (64 : Int32) ≤ x1 then (lt_ (wr_ σ 0 4 (1 : Int32)) fun σ_2 =>
  some ((1 : Int32), σ_2))
  else (gd_ (in_ x1 64) (
  gd_ (in_ x1 64) (
  lt_ (wr_ σ 2 x1.toNatClampNeg (rd_ σ 1 x1.toNatClampNeg)) fun σ_6 =>
  lt_ (x1 + (1 : Int32)) fun y_8 =>
  k2 σ_6 y_8)))
set_option maxRecDepth 100000 in
theorem kM_keep_2 {p : Program} {l : Launch} {e : Env} {s : State} {m : MethodId} {args : Array Value} {below : List Frame} {meth : Method} {c : Code} {D : va_G} {cy : Nat → ClassId} {a : Nat → Nat} (X : cx_ cX12_keep RX12 wsX12_keep 2 (some .int) 16 a D cy xfM p s m args meth c) {k2 : Sg → Int32 → Option (Int32 × Sg)} {r0 : Int32} {σ' : Sg} (hk2 : ∀ (σ : Sg) (x1 : Int32) (H : Heap) (locs : List Loc) (ls : Array Slot), k2 σ x1 = some (r0, σ') → iv_ 16 a D (shM cy a σ) s H locs → lv_has ls 2 [(0, .ref (a 0)), (1, .int x1)] → W p l e ({ frames := 0, cells := 0, slots := 0, locals := 0 }) s m args below meth c H locs 0 0 (MQ below (qg_ 16 a D (shM cy a σ') (some (.int r0)) s.heap.size) args s 0 0 (fr_ 16 a s.heap.size)) (F0 m 2 ls [])) : ∀ (σ : Sg) (x1 : Int32) (H : Heap) (locs : List Loc) (ls : Array Slot), M_keep_2 k2 σ x1 = some (r0, σ') → iv_ 16 a D (shM cy a σ) s H locs → lv_has ls 2 [(0, .ref (a 0)), (1, .int x1)] → W p l e ({ frames := 0, cells := 0, slots := 0, locals := 0 }) s m args below meth c H locs 0 0 (MQ below (qg_ 16 a D (shM cy a σ') (some (.int r0)) s.heap.size) args s 0 0 (fr_ 16 a s.heap.size)) (F0 m 2 ls []) := by
  obtain ⟨hx, hb, hr, hml, hown, hts, hlk, hK, hA, hXf⟩ := id X
  intro σ x1 H locs ls h I hl
  unfold M_keep_2 at h
  refine lv_iload_n hx hb dX12_keep_2 rfl (lv_at hl 1 rfl) ?_
  refine lv_bipush (v := 64) hx hb dX12_keep_3 (by decide) ?_
  refine lv_icmp_ge (tgt := 26) hx hb dX12_keep_5 (by decide) (fun c_1 => ?_) (fun c_1 => ?_)
  · have h := if_t h c_1
    refine lv_aload_n hx hb dX12_keep_26 rfl (lv_at hl 0 rfl) ?_
    refine lv_iconst (v := 1) hx hb dX12_keep_27 (by decide) ?_
    refine ip_ (index := 347) (ty := .boolean) X I (fun _ q => List.mem_cons_of_mem _ (List.mem_append_right _ q)) tyX12 tyX12_ok nmX12 0 (by decide) shM_0 rfl 4 (by decide) (by decide +kernel) rfl rfl (by decide +kernel) (by decide) (by decide) (Nat.le_of_ble_eq_true rfl) shM_pt_4 dX12_keep_28 (fun σ_2 H locs e_3 I => ?_)
    have h := lt_at h e_3
    refine lv_iconst (v := 1) hx hb dX12_keep_31 (by decide) ?_
    obtain ⟨rfl, rfl⟩ := re_s h
    exact rti_ X I dX12_keep_32
  · have h := if_f h c_1
    refine lv_aload_n hx hb dX12_keep_8 rfl (lv_at hl 0 rfl) ?_
    refine ig_ (index := 13) X I (fun _ q => List.mem_cons_of_mem _ (List.mem_append_right _ q)) 0 (by decide) shM_0 rfl 1 (by decide) (by decide +kernel) rfl (v := .ref (a 2)) rfl dX12_keep_9 ?_
    refine lv_iload_n hx hb dX12_keep_12 rfl (lv_at hl 1 rfl) ?_
    refine lv_aload_n hx hb dX12_keep_13 rfl (lv_at hl 0 rfl) ?_
    refine ig_ (index := 7) X I (fun _ q => List.mem_cons_of_mem _ (List.mem_append_right _ q)) 0 (by decide) shM_0 rfl 0 (by decide) (by decide +kernel) rfl (v := .ref (a 1)) rfl dX12_keep_14 ?_
    refine lv_iload_n hx hb dX12_keep_17 rfl (lv_at hl 1 rfl) ?_
    obtain ⟨g_4, h⟩ := gd_of h
    refine ia_ X I 1 (by decide) shM_1 (in_of g_4) (v0 := rd_ σ 1 x1.toNatClampNeg) rfl dX12_keep_18 ?_
    obtain ⟨g_5, h⟩ := gd_of h
    refine is_ (σ2 := wr_ σ 2 x1.toNatClampNeg (rd_ σ 1 x1.toNatClampNeg)) X I 2 (by decide) shM_2 (in_of g_5) shM_st_2 dX12_keep_19 (fun σ_6 H locs e_7 I => ?_)
    have h := lt_at h e_7
    obtain ⟨y_8, e_9⟩ : ∃ q : Int32, q = x1 + (1 : Int32) := ⟨_, rfl⟩
    have h := lt_at h e_9
    refine lv_iinc (v := y_8) (lv' := [(1, .int y_8), (0, .ref (a 0))]) hx hb dX12_keep_20 hl (k := 1) rfl (by rw [e_9]; rfl) (by decide) rfl (fun ls hl => ?_)
    refine lv_goto (tgt := 2) hx hb dX12_keep_23 (by decide) ?_
    exact hk2 σ_6 y_8 H locs ls h I (lv_sub hl [1, 0] rfl)
set_option maxRecDepth 100000 in
theorem kM_keep_2L {p : Program} {l : Launch} {e : Env} {s : State} {m : MethodId} {args : Array Value} {below : List Frame} {meth : Method} {c : Code} {D : va_G} {cy : Nat → ClassId} {a : Nat → Nat} (X : cx_ cX12_keep RX12 wsX12_keep 2 (some .int) 16 a D cy xfM p s m args meth c)  {r0 : Int32} {σ' : Sg}  : ∀ (n : Nat), ∀ (σ : Sg) (x1 : Int32) (H : Heap) (locs : List Loc) (ls : Array Slot), lp_ (M_keep_2) (fun _ _ => none) n σ x1 = some (r0, σ') → iv_ 16 a D (shM cy a σ) s H locs → lv_has ls 2 [(0, .ref (a 0)), (1, .int x1)] → W p l e ({ frames := 0, cells := 0, slots := 0, locals := 0 }) s m args below meth c H locs 0 0 (MQ below (qg_ 16 a D (shM cy a σ') (some (.int r0)) s.heap.size) args s 0 0 (fr_ 16 a s.heap.size)) (F0 m 2 ls []) := by
  intro n
  induction n with
  | zero =>
    intro _ _ _ _ _ h
    exact absurd h (fun q => by cases (show (none : Option _) = some _ from q))
  | succ n ih => exact kM_keep_2 X ih

def M_keep_0  (σ : Sg)  : Option (Int32 × Sg) :=
  lp_ M_keep_2 (fun _ _ => none) FU σ (0 : Int32)
set_option maxRecDepth 100000 in
theorem kM_keep_0 {p : Program} {l : Launch} {e : Env} {s : State} {m : MethodId} {args : Array Value} {below : List Frame} {meth : Method} {c : Code} {D : va_G} {cy : Nat → ClassId} {a : Nat → Nat} (X : cx_ cX12_keep RX12 wsX12_keep 2 (some .int) 16 a D cy xfM p s m args meth c)  {r0 : Int32} {σ' : Sg}  : ∀ (σ : Sg)  (H : Heap) (locs : List Loc) (ls : Array Slot), M_keep_0 σ = some (r0, σ') → iv_ 16 a D (shM cy a σ) s H locs → lv_has ls 2 [(0, .ref (a 0))] → W p l e ({ frames := 0, cells := 0, slots := 0, locals := 0 }) s m args below meth c H locs 0 0 (MQ below (qg_ 16 a D (shM cy a σ') (some (.int r0)) s.heap.size) args s 0 0 (fr_ 16 a s.heap.size)) (F0 m 0 ls []) := by
  obtain ⟨hx, hb, hr, hml, hown, hts, hlk, hK, hA, hXf⟩ := id X
  intro σ  H locs ls h I hl
  unfold M_keep_0 at h
  refine lv_iconst (v := 0) hx hb dX12_keep_0 (by decide) ?_
  refine lv_istore_n (lv' := [(1, .int (0 : Int32)), (0, .ref (a 0))]) hx hb dX12_keep_1 rfl hl (by decide) rfl (fun ls hl => ?_)
  exact kM_keep_2L X  FU σ (0 : Int32) H locs ls h I (lv_sub hl [1, 0] rfl)
theorem c_M_keep {l : Launch} {D : va_G} {cy : Nat → ClassId} {a : Nat → Nat} {σ : Sg}  {r0 : Int32} {σ' : Sg} (h : M_keep_0 σ  = some (r0, σ')) (sz : Nat) : Met l yX12_keep wsX12_keep ({ frames := 0, cells := 0, slots := 0, locals := 0 }) (va_Pc [.ref (a 0)] (pr_ 16 a D cy (shM cy a σ) xfM sz)) (qg_ 16 a D (shM cy a σ') (some (.int r0)) sz) 0 0 (fr_ 16 a sz) := by
  refine ent_ (by decide) rfl (Nat.le_of_ble_eq_true rfl) ?_
  intro p e s m below meth c ls hsz X I hl
  subst hsz
  exact kM_keep_0 X σ  s.heap [] ls h I hl

def M_again_12 (k12 : Sg → Int32 → Option (Int32 × Sg)) (σ : Sg) (x1 : Int32) : Option (Int32 × Sg) :=
  if (64 : Int32) ≤ x1 then (some ((rd_ σ 1 0), σ))
  else (gd_ (in_ x1 64) (
  gd_ (in_ x1 64) (
  lt_ (wr_ σ 1 x1.toNatClampNeg (rd_ σ 2 x1.toNatClampNeg)) fun σ_4 =>
  lt_ (x1 + (1 : Int32)) fun y_6 =>
  k12 σ_4 y_6)))
set_option maxRecDepth 100000 in
theorem kM_again_12 {p : Program} {l : Launch} {e : Env} {s : State} {m : MethodId} {args : Array Value} {below : List Frame} {meth : Method} {c : Code} {D : va_G} {cy : Nat → ClassId} {a : Nat → Nat} (X : cx_ cX12_again RX12 wsX12_again 2 (some .int) 16 a D cy xfM p s m args meth c) {k12 : Sg → Int32 → Option (Int32 × Sg)} {r0 : Int32} {σ' : Sg} (hk12 : ∀ (σ : Sg) (x1 : Int32) (H : Heap) (locs : List Loc) (ls : Array Slot), k12 σ x1 = some (r0, σ') → iv_ 16 a D (shM cy a σ) s H locs → lv_has ls 2 [(0, .ref (a 0)), (1, .int x1)] → W p l e ({ frames := 0, cells := 0, slots := 0, locals := 0 }) s m args below meth c H locs 0 0 (MQ below (qg_ 16 a D (shM cy a σ') (some (.int r0)) s.heap.size) args s 0 0 (fr_ 16 a s.heap.size)) (F0 m 12 ls [])) : ∀ (σ : Sg) (x1 : Int32) (H : Heap) (locs : List Loc) (ls : Array Slot), M_again_12 k12 σ x1 = some (r0, σ') → iv_ 16 a D (shM cy a σ) s H locs → lv_has ls 2 [(0, .ref (a 0)), (1, .int x1)] → W p l e ({ frames := 0, cells := 0, slots := 0, locals := 0 }) s m args below meth c H locs 0 0 (MQ below (qg_ 16 a D (shM cy a σ') (some (.int r0)) s.heap.size) args s 0 0 (fr_ 16 a s.heap.size)) (F0 m 12 ls []) := by
  obtain ⟨hx, hb, hr, hml, hown, hts, hlk, hK, hA, hXf⟩ := id X
  intro σ x1 H locs ls h I hl
  unfold M_again_12 at h
  refine lv_iload_n hx hb dX12_again_12 rfl (lv_at hl 1 rfl) ?_
  refine lv_bipush (v := 64) hx hb dX12_again_13 (by decide) ?_
  refine lv_icmp_ge (tgt := 36) hx hb dX12_again_15 (by decide) (fun c_1 => ?_) (fun c_1 => ?_)
  · have h := if_t h c_1
    refine lv_aload_n hx hb dX12_again_36 rfl (lv_at hl 0 rfl) ?_
    refine ig_ (index := 7) X I (fun _ q => List.mem_cons_of_mem _ (List.mem_append_right _ q)) 0 (by decide) shM_0 rfl 0 (by decide) (by decide +kernel) rfl (v := .ref (a 1)) rfl dX12_again_37 ?_
    refine lv_iconst (v := 0) hx hb dX12_again_40 (by decide) ?_
    refine ia_ X I 1 (by decide) shM_1 (in_of (by decide)) (v0 := rd_ σ 1 0) rfl dX12_again_41 ?_
    obtain ⟨rfl, rfl⟩ := re_s h
    exact rti_ X I dX12_again_42
  · have h := if_f h c_1
    refine lv_aload_n hx hb dX12_again_18 rfl (lv_at hl 0 rfl) ?_
    refine ig_ (index := 7) X I (fun _ q => List.mem_cons_of_mem _ (List.mem_append_right _ q)) 0 (by decide) shM_0 rfl 0 (by decide) (by decide +kernel) rfl (v := .ref (a 1)) rfl dX12_again_19 ?_
    refine lv_iload_n hx hb dX12_again_22 rfl (lv_at hl 1 rfl) ?_
    refine lv_aload_n hx hb dX12_again_23 rfl (lv_at hl 0 rfl) ?_
    refine ig_ (index := 13) X I (fun _ q => List.mem_cons_of_mem _ (List.mem_append_right _ q)) 0 (by decide) shM_0 rfl 1 (by decide) (by decide +kernel) rfl (v := .ref (a 2)) rfl dX12_again_24 ?_
    refine lv_iload_n hx hb dX12_again_27 rfl (lv_at hl 1 rfl) ?_
    obtain ⟨g_2, h⟩ := gd_of h
    refine ia_ X I 2 (by decide) shM_2 (in_of g_2) (v0 := rd_ σ 2 x1.toNatClampNeg) rfl dX12_again_28 ?_
    obtain ⟨g_3, h⟩ := gd_of h
    refine is_ (σ2 := wr_ σ 1 x1.toNatClampNeg (rd_ σ 2 x1.toNatClampNeg)) X I 1 (by decide) shM_1 (in_of g_3) shM_st_1 dX12_again_29 (fun σ_4 H locs e_5 I => ?_)
    have h := lt_at h e_5
    obtain ⟨y_6, e_7⟩ : ∃ q : Int32, q = x1 + (1 : Int32) := ⟨_, rfl⟩
    have h := lt_at h e_7
    refine lv_iinc (v := y_6) (lv' := [(1, .int y_6), (0, .ref (a 0))]) hx hb dX12_again_30 hl (k := 1) rfl (by rw [e_7]; rfl) (by decide) rfl (fun ls hl => ?_)
    refine lv_goto (tgt := 12) hx hb dX12_again_33 (by decide) ?_
    exact hk12 σ_4 y_6 H locs ls h I (lv_sub hl [1, 0] rfl)
set_option maxRecDepth 100000 in
theorem kM_again_12L {p : Program} {l : Launch} {e : Env} {s : State} {m : MethodId} {args : Array Value} {below : List Frame} {meth : Method} {c : Code} {D : va_G} {cy : Nat → ClassId} {a : Nat → Nat} (X : cx_ cX12_again RX12 wsX12_again 2 (some .int) 16 a D cy xfM p s m args meth c)  {r0 : Int32} {σ' : Sg}  : ∀ (n : Nat), ∀ (σ : Sg) (x1 : Int32) (H : Heap) (locs : List Loc) (ls : Array Slot), lp_ (M_again_12) (fun _ _ => none) n σ x1 = some (r0, σ') → iv_ 16 a D (shM cy a σ) s H locs → lv_has ls 2 [(0, .ref (a 0)), (1, .int x1)] → W p l e ({ frames := 0, cells := 0, slots := 0, locals := 0 }) s m args below meth c H locs 0 0 (MQ below (qg_ 16 a D (shM cy a σ') (some (.int r0)) s.heap.size) args s 0 0 (fr_ 16 a s.heap.size)) (F0 m 12 ls []) := by
  intro n
  induction n with
  | zero =>
    intro _ _ _ _ _ h
    exact absurd h (fun q => by cases (show (none : Option _) = some _ from q))
  | succ n ih => exact kM_again_12 X ih

def M_again_0  (σ : Sg)  : Option (Int32 × Sg) :=
  if (rd_ σ 0 4) = 0 then (some ((-3 : Int32), σ))
  else (lp_ M_again_12 (fun _ _ => none) FU σ (0 : Int32))
set_option maxRecDepth 100000 in
theorem kM_again_0 {p : Program} {l : Launch} {e : Env} {s : State} {m : MethodId} {args : Array Value} {below : List Frame} {meth : Method} {c : Code} {D : va_G} {cy : Nat → ClassId} {a : Nat → Nat} (X : cx_ cX12_again RX12 wsX12_again 2 (some .int) 16 a D cy xfM p s m args meth c)  {r0 : Int32} {σ' : Sg}  : ∀ (σ : Sg)  (H : Heap) (locs : List Loc) (ls : Array Slot), M_again_0 σ = some (r0, σ') → iv_ 16 a D (shM cy a σ) s H locs → lv_has ls 2 [(0, .ref (a 0))] → W p l e ({ frames := 0, cells := 0, slots := 0, locals := 0 }) s m args below meth c H locs 0 0 (MQ below (qg_ 16 a D (shM cy a σ') (some (.int r0)) s.heap.size) args s 0 0 (fr_ 16 a s.heap.size)) (F0 m 0 ls []) := by
  obtain ⟨hx, hb, hr, hml, hown, hts, hlk, hK, hA, hXf⟩ := id X
  intro σ  H locs ls h I hl
  unfold M_again_0 at h
  refine lv_aload_n hx hb dX12_again_0 rfl (lv_at hl 0 rfl) ?_
  refine ig_ (index := 347) X I (fun _ q => List.mem_cons_of_mem _ (List.mem_append_right _ q)) 0 (by decide) shM_0 rfl 4 (by decide) (by decide +kernel) rfl (v := .int (rd_ σ 0 4)) rfl dX12_again_1 ?_
  refine lv_if_ne (tgt := 10) hx hb dX12_again_4 (by decide) (fun c_1 => ?_) (fun c_1 => ?_)
  · have h := if_f h c_1
    refine lv_iconst (v := 0) hx hb dX12_again_10 (by decide) ?_
    refine lv_istore_n (lv' := [(1, .int (0 : Int32)), (0, .ref (a 0))]) hx hb dX12_again_11 rfl hl (by decide) rfl (fun ls hl => ?_)
    exact kM_again_12L X  FU σ (0 : Int32) H locs ls h I (lv_sub hl [1, 0] rfl)
  · have h := if_t h c_1
    refine lv_bipush (v := (-3)) hx hb dX12_again_7 (by decide) ?_
    obtain ⟨rfl, rfl⟩ := re_s h
    exact rti_ X I dX12_again_9
theorem c_M_again {l : Launch} {D : va_G} {cy : Nat → ClassId} {a : Nat → Nat} {σ : Sg}  {r0 : Int32} {σ' : Sg} (h : M_again_0 σ  = some (r0, σ')) (sz : Nat) : Met l yX12_again wsX12_again ({ frames := 0, cells := 0, slots := 0, locals := 0 }) (va_Pc [.ref (a 0)] (pr_ 16 a D cy (shM cy a σ) xfM sz)) (qg_ 16 a D (shM cy a σ') (some (.int r0)) sz) 0 0 (fr_ 16 a sz) := by
  refine ent_ (by decide) rfl (Nat.le_of_ble_eq_true rfl) ?_
  intro p e s m below meth c ls hsz X I hl
  subst hsz
  exact kM_again_0 X σ  s.heap [] ls h I hl
