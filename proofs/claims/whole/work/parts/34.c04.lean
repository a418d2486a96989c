def C1_vicesTogether_4 (k4 : Sg → Int32 → Int32 → Option (Int32 × Sg)) (σ : Sg) (x1 : Int32) (x2 : Int32) : Option (Int32 × Sg) :=
  if (8 : Int32) ≤ x2 then (some (x1, σ))
  else (gd_ (in_ x2 8) (
  lt_ ((x1 + (rd_ σ 7 x2.toNatClampNeg))) fun y_3 =>
  lt_ (x2 + (1 : Int32)) fun y_5 =>
  k4 σ y_3 y_5))
set_option maxRecDepth 100000 in
theorem kC1_vicesTogether_4 {p : Program} {l : Launch} {e : Env} {s : State} {m : MethodId} {args : Array Value} {below : List Frame} {meth : Method} {c : Code} {D : va_G} {cy : Nat → ClassId} {a gs : Nat → Nat} (X : cx_ cX1_vicesTogether RX1 wsX1_vicesTogether 3 (some .int) 59 a D cy (xfC gs) p s m args meth c) {k4 : Sg → Int32 → Int32 → Option (Int32 × Sg)} {r0 : Int32} {σ' : Sg} (hk4 : ∀ (σ : Sg) (x1 : Int32) (x2 : Int32) (H : Heap) (locs : List Loc) (ls : Array Slot), k4 σ x1 x2 = some (r0, σ') → iv_ 59 a D (shC cy a σ) s H locs → lv_has ls 3 [(0, .ref (a 1)), (1, .int x1), (2, .int x2)] → W p l e ({ frames := 0, cells := 0, slots := 0, locals := 0 }) s m args below meth c H locs 0 0 (MQ below (qg_ 59 a D (shC cy a σ') (some (.int r0)) s.heap.size) args s 0 0 (fr_ 59 a s.heap.size)) (F0 m 4 ls [])) : ∀ (σ : Sg) (x1 : Int32) (x2 : Int32) (H : Heap) (locs : List Loc) (ls : Array Slot), C1_vicesTogether_4 k4 σ x1 x2 = some (r0, σ') → iv_ 59 a D (shC cy a σ) s H locs → lv_has ls 3 [(0, .ref (a 1)), (1, .int x1), (2, .int x2)] → W p l e ({ frames := 0, cells := 0, slots := 0, locals := 0 }) s m args below meth c H locs 0 0 (MQ below (qg_ 59 a D (shC cy a σ') (some (.int r0)) s.heap.size) args s 0 0 (fr_ 59 a s.heap.size)) (F0 m 4 ls []) := by
  obtain ⟨hx, hb, hr, hml, hown, hts, hlk, hK, hA, hXf⟩ := id X
  intro σ x1 x2 H locs ls h I hl
  unfold C1_vicesTogether_4 at h
  refine lv_iload_n hx hb dX1_vicesTogether_4 rfl (lv_at hl 2 rfl) ?_
  refine lv_bipush (v := 8) hx hb dX1_vicesTogether_5 (by decide) ?_
  refine lv_icmp_ge (tgt := 25) hx hb dX1_vicesTogether_7 (by decide) (fun c_1 => ?_) (fun c_1 => ?_)
  · have h := if_t h c_1
    refine lv_iload_n hx hb dX1_vicesTogether_25 rfl (lv_at hl 1 rfl) ?_
    obtain ⟨rfl, rfl⟩ := re_s h
    exact rti_ X I dX1_vicesTogether_26
  · have h := if_f h c_1
    refine lv_iload_n hx hb dX1_vicesTogether_10 rfl (lv_at hl 1 rfl) ?_
    refine lv_aload_n hx hb dX1_vicesTogether_11 rfl (lv_at hl 0 rfl) ?_
    refine ig_ (index := 19) X I (fun _ q => List.mem_cons_of_mem _ (List.mem_append_right _ q)) 1 (by decide) shC_1 rfl 1 (by decide) (by decide +kernel) rfl (v := .ref (a 7)) rfl dX1_vicesTogether_12 ?_
    refine lv_iload_n hx hb dX1_vicesTogether_15 rfl (lv_at hl 2 rfl) ?_
    obtain ⟨g_2, h⟩ := gd_of h
    refine ia_ X I 7 (by decide) shC_7 (in_of g_2) (v0 := (rd_ σ 7 x2.toNatClampNeg)) rfl dX1_vicesTogether_16 ?_
    refine lv_iadd hx hb dX1_vicesTogether_17 ?_
    refine lv_topi (fun y_3 e_4 => ?_)
    have h := lt_at h e_4
    refine lv_istore_n (lv' := [(1, .int y_3), (0, .ref (a 1)), (2, .int x2)]) hx hb dX1_vicesTogether_18 rfl hl (by decide) rfl (fun ls hl => ?_)
    obtain ⟨y_5, e_6⟩ : ∃ q : Int32, q = x2 + (1 : Int32) := ⟨_, rfl⟩
    have h := lt_at h e_6
    refine lv_iinc (v := y_5) (lv' := [(2, .int y_5), (1, .int y_3), (0, .ref (a 1))]) hx hb dX1_vicesTogether_19 hl (k := 2) rfl (by rw [e_6]; rfl) (by decide) rfl (fun ls hl => ?_)
    refine lv_goto (tgt := 4) hx hb dX1_vicesTogether_22 (by decide) ?_
    exact hk4 σ y_3 y_5 H locs ls h I (lv_sub hl [2, 1, 0] rfl)
set_option maxRecDepth 100000 in
theorem kC1_vicesTogether_4L {p : Program} {l : Launch} {e : Env} {s : State} {m : MethodId} {args : Array Value} {below : List Frame} {meth : Method} {c : Code} {D : va_G} {cy : Nat → ClassId} {a gs : Nat → Nat} (X : cx_ cX1_vicesTogether RX1 wsX1_vicesTogether 3 (some .int) 59 a D cy (xfC gs) p s m args meth c)  {r0 : Int32} {σ' : Sg}  : ∀ (n : Nat), ∀ (σ : Sg) (x1 : Int32) (x2 : Int32) (H : Heap) (locs : List Loc) (ls : Array Slot), lp_ (C1_vicesTogether_4) (fun _ _ _ => none) n σ x1 x2 = some (r0, σ') → iv_ 59 a D (shC cy a σ) s H locs → lv_has ls 3 [(0, .ref (a 1)), (1, .int x1), (2, .int x2)] → W p l e ({ frames := 0, cells := 0, slots := 0, locals := 0 }) s m args below meth c H locs 0 0 (MQ below (qg_ 59 a D (shC cy a σ') (some (.int r0)) s.heap.size) args s 0 0 (fr_ 59 a s.heap.size)) (F0 m 4 ls []) := by
  intro n
  induction n with
  | zero =>
    intro _ _ _ _ _ _ h
    exact absurd h (fun q => by cases (show (none : Option _) = some _ from q))
  | succ n ih => exact kC1_vicesTogether_4 X ih

def C1_vicesTogether_0  (σ : Sg)  : Option (Int32 × Sg) :=
  lp_ C1_vicesTogether_4 (fun _ _ _ => none) FU σ (0 : Int32) (0 : Int32)
set_option maxRecDepth 100000 in
theorem kC1_vicesTogether_0 {p : Program} {l : Launch} {e : Env} {s : State} {m : MethodId} {args : Array Value} {below : List Frame} {meth : Method} {c : Code} {D : va_G} {cy : Nat → ClassId} {a gs : Nat → Nat} (X : cx_ cX1_vicesTogether RX1 wsX1_vicesTogether 3 (some .int) 59 a D cy (xfC gs) p s m args meth c)  {r0 : Int32} {σ' : Sg}  : ∀ (σ : Sg)  (H : Heap) (locs : List Loc) (ls : Array Slot), C1_vicesTogether_0 σ = some (r0, σ') → iv_ 59 a D (shC cy a σ) s H locs → lv_has ls 3 [(0, .ref (a 1))] → W p l e ({ frames := 0, cells := 0, slots := 0, locals := 0 }) s m args below meth c H locs 0 0 (MQ below (qg_ 59 a D (shC cy a σ') (some (.int r0)) s.heap.size) args s 0 0 (fr_ 59 a s.heap.size)) (F0 m 0 ls []) := by
  obtain ⟨hx, hb, hr, hml, hown, hts, hlk, hK, hA, hXf⟩ := id X
  intro σ  H locs ls h I hl
  unfold C1_vicesTogether_0 at h
  refine lv_iconst (v := 0) hx hb dX1_vicesTogether_0 (by decide) ?_
  refine lv_istore_n (lv' := [(1, .int (0 : Int32)), (0, .ref (a 1))]) hx hb dX1_vicesTogether_1 rfl hl (by decide) rfl (fun ls hl => ?_)
  refine lv_iconst (v := 0) hx hb dX1_vicesTogether_2 (by decide) ?_
  refine lv_istore_n (lv' := [(2, .int (0 : Int32)), (1, .int (0 : Int32)), (0, .ref (a 1))]) hx hb dX1_vicesTogether_3 rfl hl (by decide) rfl (fun ls hl => ?_)
  exact kC1_vicesTogether_4L X  FU σ (0 : Int32) (0 : Int32) H locs ls h I (lv_sub hl [2, 1, 0] rfl)
theorem c_C1_vicesTogether {l : Launch} {D : va_G} {cy : Nat → ClassId} {a gs : Nat → Nat} {σ : Sg}  {r0 : Int32} {σ' : Sg} (h : C1_vicesTogether_0 σ  = some (r0, σ')) (sz : Nat) : Met l yX1_vicesTogether wsX1_vicesTogether ({ frames := 0, cells := 0, slots := 0, locals := 0 }) (va_Pc [.ref (a 1)] (pr_ 59 a D cy (shC cy a σ) (xfC gs) sz)) (qg_ 59 a D (shC cy a σ') (some (.int r0)) sz) 0 0 (fr_ 59 a sz) := by
  refine ent_ (by decide) rfl (Nat.le_of_ble_eq_true rfl) ?_
  intro p e s m below meth c ls hsz X I hl
  subst hsz
  exact kC1_vicesTogether_0 X σ  s.heap [] ls h I hl

def C_state_0  (σ : Sg) (x1 : Int32) : Option (Int32 × Sg) :=
  if x1 = 0 then (some ((rd_ σ 1 4), σ))
  else (if x1 = 1 then (bi_ (C1_traitsTogether_0 σ) fun r_5 σ_4 =>
  some (r_5, σ_4))
  else (if x1 = 2 then (bi_ (C1_farTogether_0 σ) fun r_9 σ_8 =>
  some (r_9, σ_8))
  else (if x1 = 3 then (bi_ (C1_ofAge_0 σ) fun r_13 σ_12 =>
  some (r_13, σ_12))
  else (if x1 = 4 then (some ((rd_ σ 1 2), σ))
  else (if x1 = 5 then (bi_ (C1_vicesTogether_0 σ) fun r_18 σ_17 =>
  some (r_18, σ_17))
  else (some ((-1 : Int32), σ)))))))
set_option maxRecDepth 100000 in
theorem kC_state_0 {p : Program} {l : Launch} {e : Env} {s : State} {m : MethodId} {args : Array Value} {below : List Frame} {meth : Method} {c : Code} {D : va_G} {cy : Nat → ClassId} {a gs : Nat → Nat} (X : cx_ cX11_state RX11 wsX11_state 2 (some .int) 59 a D cy (xfC gs) p s m args meth c)  {r0 : Int32} {σ' : Sg}  : ∀ (σ : Sg) (x1 : Int32) (H : Heap) (locs : List Loc) (ls : Array Slot), C_state_0 σ x1 = some (r0, σ') → iv_ 59 a D (shC cy a σ) s H locs → lv_has ls 2 [(0, .ref (a 0)), (1, .int x1)] → W p l e ({ frames := 6, cells := 0, slots := 0, locals := 131 }) s m args below meth c H locs 0 0 (MQ below (qg_ 59 a D (shC cy a σ') (some (.int r0)) s.heap.size) args s 0 0 (fr_ 59 a s.heap.size)) (F0 m 0 ls []) := by
  obtain ⟨hx, hb, hr, hml, hown, hts, hlk, hK, hA, hXf⟩ := id X
  intro σ x1 H locs ls h I hl
  unfold C_state_0 at h
  refine lv_iload_n hx hb dX11_state_0 rfl (lv_at hl 1 rfl) ?_
  by_cases c_1 : x1 = 0
  · have h := if_t h c_1
    refine lv_tableIn (tgt := 40) (off := 39) hx hb dX11_state_1 (by rw [c_1]; decide) (by rw [c_1]; decide) (by rw [c_1]; decide) (by decide) ?_
    refine lv_aload_n hx hb dX11_state_40 rfl (lv_at hl 0 rfl) ?_
    refine ig_ (index := 30) X I (fun _ q => List.mem_cons_of_mem _ (List.mem_append_left _ (List.mem_append_left _ (List.mem_append_right _ q)))) 0 (by decide) shC_0 rfl 0 (by decide) (by decide +kernel) rfl (v := .ref (a 1)) rfl dX11_state_41 ?_
    refine ig_ (index := 188) X I (fun _ q => List.mem_cons_of_mem _ (List.mem_append_left _ (List.mem_append_right _ q))) 1 (by decide) shC_1 rfl 4 (by decide) (by decide +kernel) rfl (v := .int (rd_ σ 1 4)) rfl dX11_state_44 ?_
    obtain ⟨rfl, rfl⟩ := re_s h
    exact rti_ X I dX11_state_47
  · have h := if_f h c_1
    by_cases c_2 : x1 = 1
    · have h := if_t h c_2
      refine lv_tableIn (tgt := 48) (off := 47) hx hb dX11_state_1 (by rw [c_2]; decide) (by rw [c_2]; decide) (by rw [c_2]; decide) (by decide) ?_
      refine lv_aload_n hx hb dX11_state_48 rfl (lv_at hl 0 rfl) ?_
      refine ig_ (index := 30) X I (fun _ q => List.mem_cons_of_mem _ (List.mem_append_left _ (List.mem_append_left _ (List.mem_append_right _ q)))) 0 (by decide) shC_0 rfl 0 (by decide) (by decide +kernel) rfl (v := .ref (a 1)) rfl dX11_state_49 ?_
      obtain ⟨r_5, σ_4, hc_3, h⟩ := bi_of h
      refine cg_ (v := .int r_5) (rV_ (nn := 0) (As := []) (rest := []) X xkC I (c_C1_traitsTogether hc_3 H.size) gX11_state_X1_traitsTogether rfl ⟨rfl, rfl⟩ (by decide +kernel) ⟨Nat.le_of_ble_eq_true rfl, Nat.le_of_ble_eq_true rfl⟩ (by decide) shC_1 rfl rfl hl.1 rfl (Nat.le_of_ble_eq_true rfl) dX11_state_52) I (fun H locs I => ?_)
      obtain ⟨rfl, rfl⟩ := re_s h
      exact rti_ X I dX11_state_55
    · have h := if_f h c_2
      by_cases c_6 : x1 = 2
      · have h := if_t h c_6
        refine lv_tableIn (tgt := 56) (off := 55) hx hb dX11_state_1 (by rw [c_6]; decide) (by rw [c_6]; decide) (by rw [c_6]; decide) (by decide) ?_
        refine lv_aload_n hx hb dX11_state_56 rfl (lv_at hl 0 rfl) ?_
        refine ig_ (index := 30) X I (fun _ q => List.mem_cons_of_mem _ (List.mem_append_left _ (List.mem_append_left _ (List.mem_append_right _ q)))) 0 (by decide) shC_0 rfl 0 (by decide) (by decide +kernel) rfl (v := .ref (a 1)) rfl dX11_state_57 ?_
        obtain ⟨r_9, σ_8, hc_7, h⟩ := bi_of h
        refine cg_ (v := .int r_9) (rV_ (nn := 0) (As := []) (rest := []) X xkC I (c_C1_farTogether hc_7 H.size) gX11_state_X1_farTogether rfl ⟨rfl, rfl⟩ (by decide +kernel) ⟨Nat.le_of_ble_eq_true rfl, Nat.le_of_ble_eq_true rfl⟩ (by decide) shC_1 rfl rfl hl.1 rfl (Nat.le_of_ble_eq_true rfl) dX11_state_60) I (fun H locs I => ?_)
        obtain ⟨rfl, rfl⟩ := re_s h
        exact rti_ X I dX11_state_63
      · have h := if_f h c_6
        by_cases c_10 : x1 = 3
        · have h := if_t h c_10
          refine lv_tableIn (tgt := 64) (off := 63) hx hb dX11_state_1 (by rw [c_10]; decide) (by rw [c_10]; decide) (by rw [c_10]; decide) (by decide) ?_
          refine lv_aload_n hx hb dX11_state_64 rfl (lv_at hl 0 rfl) ?_
          refine ig_ (index := 30) X I (fun _ q => List.mem_cons_of_mem _ (List.mem_append_left _ (List.mem_append_left _ (List.mem_append_right _ q)))) 0 (by decide) shC_0 rfl 0 (by decide) (by decide +kernel) rfl (v := .ref (a 1)) rfl dX11_state_65 ?_
          obtain ⟨r_13, σ_12, hc_11, h⟩ := bi_of h
          refine cg_ (v := .int r_13) (rV_ (nn := 0) (As := []) (rest := []) X xkC I (c_C1_ofAge hc_11 H.size) gX11_state_X1_ofAge rfl ⟨rfl, rfl⟩ (by decide +kernel) ⟨Nat.le_of_ble_eq_true rfl, Nat.le_of_ble_eq_true rfl⟩ (by decide) shC_1 rfl rfl hl.1 rfl (Nat.le_of_ble_eq_true rfl) dX11_state_68) I (fun H locs I => ?_)
          obtain ⟨rfl, rfl⟩ := re_s h
          exact rti_ X I dX11_state_71
        · have h := if_f h c_10
          by_cases c_14 : x1 = 4
          · have h := if_t h c_14
            refine lv_tableIn (tgt := 72) (off := 71) hx hb dX11_state_1 (by rw [c_14]; decide) (by rw [c_14]; decide) (by rw [c_14]; decide) (by decide) ?_
            refine lv_aload_n hx hb dX11_state_72 rfl (lv_at hl 0 rfl) ?_
            refine ig_ (index := 30) X I (fun _ q => List.mem_cons_of_mem _ (List.mem_append_left _ (List.mem_append_left _ (List.mem_append_right _ q)))) 0 (by decide) shC_0 rfl 0 (by decide) (by decide +kernel) rfl (v := .ref (a 1)) rfl dX11_state_73 ?_
            refine ig_ (index := 165) X I (fun _ q => List.mem_cons_of_mem _ (List.mem_append_left _ (List.mem_append_right _ q))) 1 (by decide) shC_1 rfl 2 (by decide) (by decide +kernel) rfl (v := .int (rd_ σ 1 2)) rfl dX11_state_76 ?_
            obtain ⟨rfl, rfl⟩ := re_s h
            exact rti_ X I dX11_state_79
          · have h := if_f h c_14
            by_cases c_15 : x1 = 5
            · have h := if_t h c_15
              refine lv_tableIn (tgt := 80) (off := 79) hx hb dX11_state_1 (by rw [c_15]; decide) (by rw [c_15]; decide) (by rw [c_15]; decide) (by decide) ?_
              refine lv_aload_n hx hb dX11_state_80 rfl (lv_at hl 0 rfl) ?_
              refine ig_ (index := 30) X I (fun _ q => List.mem_cons_of_mem _ (List.mem_append_left _ (List.mem_append_left _ (List.mem_append_right _ q)))) 0 (by decide) shC_0 rfl 0 (by decide) (by decide +kernel) rfl (v := .ref (a 1)) rfl dX11_state_81 ?_
              obtain ⟨r_18, σ_17, hc_16, h⟩ := bi_of h
              refine cg_ (v := .int r_18) (rV_ (nn := 0) (As := []) (rest := []) X xkC I (c_C1_vicesTogether hc_16 H.size) gX11_state_X1_vicesTogether rfl ⟨rfl, rfl⟩ (by decide +kernel) ⟨Nat.le_of_ble_eq_true rfl, Nat.le_of_ble_eq_true rfl⟩ (by decide) shC_1 rfl rfl hl.1 rfl (Nat.le_of_ble_eq_true rfl) dX11_state_84) I (fun H locs I => ?_)
              obtain ⟨rfl, rfl⟩ := re_s h
              exact rti_ X I dX11_state_87
            · have h := if_f h c_15
              refine lv_tableOut (tgt := 88) hx hb dX11_state_1 (by have q0 := lv_neT (a := 0) c_1 rfl; have q1 := lv_neT (a := 1) c_2 rfl; have q2 := lv_neT (a := 2) c_6 rfl; have q3 := lv_neT (a := 3) c_10 rfl; have q4 := lv_neT (a := 4) c_14 rfl; have q5 := lv_neT (a := 5) c_15 rfl; omega) (by decide) ?_
              refine lv_iconst (v := (-1)) hx hb dX11_state_88 (by decide) ?_
              obtain ⟨rfl, rfl⟩ := re_s h
              exact rti_ X I dX11_state_89
theorem c_C_state {l : Launch} {D : va_G} {cy : Nat → ClassId} {a gs : Nat → Nat} {σ : Sg} {x1 : Int32} {r0 : Int32} {σ' : Sg} (h : C_state_0 σ x1 = some (r0, σ')) (sz : Nat) : Met l yX11_state wsX11_state ({ frames := 6, cells := 0, slots := 0, locals := 131 }) (va_Pc [.ref (a 0), .int x1] (pr_ 59 a D cy (shC cy a σ) (xfC gs) sz)) (qg_ 59 a D (shC cy a σ') (some (.int r0)) sz) 0 0 (fr_ 59 a sz) := by
  refine ent_ (by decide) rfl (Nat.le_of_ble_eq_true rfl) ?_
  intro p e s m below meth c ls hsz X I hl
  subst hsz
  exact kC_state_0 X σ x1 s.heap [] ls h I hl

def C_becomes_0  (σ : Sg) (x1 : Int32) (x2 : Int32) : Option (Int32 × Sg) :=
  bi_ (C1_life_0 σ x1) fun r_3 σ_2 =>
  on_ r_3 (some ((-1 : Int32), σ_2)) fun j_4 =>
  bp_ (C_within_0 x2 (60 : Int32)) fun r_6 =>
  if r_6 = 0 then (some ((-1 : Int32), σ_2))
  else (gd_ (lf_ j_4 25) (
  bi_ (C_farSworn_0 σ_2 j_4 (rd_ σ_2 (34 + j_4) 5) x2) fun r_11 σ_10 =>
  some ((rd_ σ_10 (34 + 24) 1), σ_10)))
set_option maxRecDepth 100000 in
theorem kC_becomes_0 {p : Program} {l : Launch} {e : Env} {s : State} {m : MethodId} {args : Array Value} {below : List Frame} {meth : Method} {c : Code} {D : va_G} {cy : Nat → ClassId} {a gs : Nat → Nat} (X : cx_ cX11_becomes RX11 wsX11_becomes 4 (some .int) 59 a D cy (xfC gs) p s m args meth c)  {r0 : Int32} {σ' : Sg}  : ∀ (σ : Sg) (x1 : Int32) (x2 : Int32) (H : Heap) (locs : List Loc) (ls : Array Slot), C_becomes_0 σ x1 x2 = some (r0, σ') → iv_ 59 a D (shC cy a σ) s H locs → lv_has ls 4 [(0, .ref (a 0)), (1, .int x1), (2, .int x2)] → W p l e ({ frames := 6, cells := 0, slots := 0, locals := 140 }) s m args below meth c H locs 0 0 (MQ below (qg_ 59 a D (shC cy a σ') (some (.int r0)) s.heap.size) args s 0 0 (fr_ 59 a s.heap.size)) (F0 m 0 ls []) := by
  obtain ⟨hx, hb, hr, hml, hown, hts, hlk, hK, hA, hXf⟩ := id X
  intro σ x1 x2 H locs ls h I hl
  unfold C_becomes_0 at h
  refine lv_aload_n hx hb dX11_becomes_0 rfl (lv_at hl 0 rfl) ?_
  refine ig_ (index := 30) X I (fun _ q => List.mem_cons_of_mem _ (List.mem_append_left _ (List.mem_append_left _ (List.mem_append_right _ q)))) 0 (by decide) shC_0 rfl 0 (by decide) (by decide +kernel) rfl (v := .ref (a 1)) rfl dX11_becomes_1 ?_
  refine lv_iload_n hx hb dX11_becomes_4 rfl (lv_at hl 1 rfl) ?_
  obtain ⟨r_3, σ_2, hc_1, h⟩ := bi_of h
  refine cg_ (v := va_re (fun j => a (34 + j)) r_3) (rV_ (nn := 1) (As := [.int x1]) (rest := []) X xkC I (c_C1_life hc_1 H.size) gX11_becomes_X1_life rfl ⟨rfl, rfl⟩ (by decide +kernel) ⟨Nat.le_of_ble_eq_true rfl, Nat.le_of_ble_eq_true rfl⟩ (by decide) shC_1 rfl rfl hl.1 rfl (Nat.le_of_ble_eq_true rfl) dX11_becomes_5) I (fun H locs I => ?_)
  rcases r_3 with _ | j_4
  · have h := on_n h
    refine W.eq (g2 := F0 m 8 ls [.null]) rfl ?_
    refine lv_astore_nN (lv' := [(3, .null), (0, .ref (a 0)), (1, .int x1), (2, .int x2)]) hx hb dX11_becomes_8 rfl hl (by decide) rfl (fun ls hl => ?_)
    refine lv_aload_nN hx hb dX11_becomes_9 rfl (lv_at hl 0 rfl) ?_
    refine lv_ifnullN (tgt := 22) hx hb dX11_becomes_10 (by decide) ?_
    refine lv_iconst (v := (-1)) hx hb dX11_becomes_22 (by decide) ?_
    obtain ⟨rfl, rfl⟩ := re_s h
    exact rti_ X I dX11_becomes_23
  · have h := on_s h
    refine W.eq (g2 := F0 m 8 ls [.ref (a (34 + j_4))]) rfl ?_
    refine lv_astore_n (lv' := [(3, .ref (a (34 + j_4))), (0, .ref (a 0)), (1, .int x1), (2, .int x2)]) hx hb dX11_becomes_8 rfl hl (by decide) rfl (fun ls hl => ?_)
    refine lv_aload_n hx hb dX11_becomes_9 rfl (lv_at hl 0 rfl) ?_
    refine lv_ifnull hx hb dX11_becomes_10 ?_
    refine lv_iload_n hx hb dX11_becomes_13 rfl (lv_at hl 3 rfl) ?_
    refine lv_bipush (v := 60) hx hb dX11_becomes_14 (by decide) ?_
    obtain ⟨r_6, hc_5, h⟩ := bp_of h
    refine cp_ (rP_ (nn := 2) (As := [.int x2, .int (60 : Int32)]) (rest := []) ⟨hx, hb, hml, hown, hts⟩ (c_C_within hc_5) gX11_becomes_X11_within rfl ⟨rfl, rfl⟩ (by decide +kernel) ⟨Nat.le_of_ble_eq_true rfl, Nat.le_of_ble_eq_true rfl⟩ rfl hl.1 rfl (Nat.le_of_ble_eq_true rfl) dX11_becomes_16 ⟨Nat.zero_le _, Nat.zero_le _⟩) ?_
    refine lv_if_ne (tgt := 24) hx hb dX11_becomes_19 (by decide) (fun c_7 => ?_) (fun c_7 => ?_)
    · have h := if_f h c_7
      refine lv_aload_n hx hb dX11_becomes_24 rfl (lv_at hl 1 rfl) ?_
      refine lv_aload_n hx hb dX11_becomes_25 rfl (lv_at hl 0 rfl) ?_
      refine lv_aload_n hx hb dX11_becomes_26 rfl (lv_at hl 0 rfl) ?_
      obtain ⟨g_8, h⟩ := gd_of h
      refine ig_ (index := 156) X I (fun _ q => List.mem_cons_of_mem _ (List.mem_append_left _ (List.mem_append_right _ q))) (34 + j_4) (lf59 g_8) shC_L rfl 5 (by decide) (by decide +kernel) rfl (v := .int (rd_ σ_2 (34 + j_4) 5)) rfl dX11_becomes_27 ?_
      refine lv_iload_n hx hb dX11_becomes_30 rfl (lv_at hl 3 rfl) ?_
      obtain ⟨r_11, σ_10, hc_9, h⟩ := bi_of h
      refine cg_ (v := .int r_11) (rV_ (nn := 3) (As := [.ref (a (34 + j_4)), .int (rd_ σ_2 (34 + j_4) 5), .int x2]) (rest := []) X xkC I (c_C_farSworn hc_9 H.size) gX11_becomes_X11_farSworn rfl ⟨rfl, rfl⟩ (by decide +kernel) ⟨Nat.le_of_ble_eq_true rfl, Nat.le_of_ble_eq_true rfl⟩ (by decide) shC_0 rfl rfl hl.1 rfl (Nat.le_of_ble_eq_true rfl) dX11_becomes_31) I (fun H locs I => ?_)
      refine lv_pop hx hb dX11_becomes_34 rfl ?_
      refine lv_aload_n hx hb dX11_becomes_35 rfl (lv_at hl 1 rfl) ?_
      refine ig_ (index := 45) X I (fun _ q => List.mem_cons_of_mem _ (List.mem_append_left _ (List.mem_append_left _ (List.mem_append_right _ q)))) 0 (by decide) shC_0 rfl 3 (by decide) (by decide +kernel) rfl (v := .ref (a (34 + 24))) rfl dX11_becomes_36 ?_
      refine ig_ (index := 200) X I (fun _ q => List.mem_cons_of_mem _ (List.mem_append_left _ (List.mem_append_right _ q))) (34 + 24) (by decide) shC_L rfl 1 (by decide) (by decide +kernel) rfl (v := .int (rd_ σ_10 (34 + 24) 1)) rfl dX11_becomes_39 ?_
      obtain ⟨rfl, rfl⟩ := re_s h
      exact rti_ X I dX11_becomes_42
    · have h := if_t h c_7
      refine lv_iconst (v := (-1)) hx hb dX11_becomes_22 (by decide) ?_
      obtain ⟨rfl, rfl⟩ := re_s h
      exact rti_ X I dX11_becomes_23
theorem c_C_becomes {l : Launch} {D : va_G} {cy : Nat → ClassId} {a gs : Nat → Nat} {σ : Sg} {x1 : Int32} {x2 : Int32} {r0 : Int32} {σ' : Sg} (h : C_becomes_0 σ x1 x2 = some (r0, σ')) (sz : Nat) : Met l yX11_becomes wsX11_becomes ({ frames := 6, cells := 0, slots := 0, locals := 140 }) (va_Pc [.ref (a 0), .int x1, .int x2] (pr_ 59 a D cy (shC cy a σ) (xfC gs) sz)) (qg_ 59 a D (shC cy a σ') (some (.int r0)) sz) 0 0 (fr_ 59 a sz) := by
  refine ent_ (by decide) rfl (Nat.le_of_ble_eq_true rfl) ?_
  intro p e s m below meth c ls hsz X I hl
  subst hsz
  exact kC_becomes_0 X σ x1 x2 s.heap [] ls h I hl

def C_suited_25 (k25 : Sg → Int32 → Option (Int32 × Sg)) (σ : Sg) (x3 : Int32) : Option (Int32 × Sg) :=
  if (60 : Int32) < x3 then (some ((-3 : Int32), σ))
  else (bi_ (C6_distance_0 σ 24) fun r_4 σ_3 =>
  if (rd_ σ_3 4 2) < r_4 then (bi_ (C1_passYearOf_0 σ_3 24 ((rd_ σ_3 1 4) + x3)) fun _ σ_7 =>
  lt_ (x3 + (1 : Int32)) fun y_8 =>
  k25 σ_7 y_8)
  else (some (x3, σ_3)))
set_option maxRecDepth 100000 in
theorem kC_suited_25 {p : Program} {l : Launch} {e : Env} {s : State} {m : MethodId} {args : Array Value} {below : List Frame} {meth : Method} {c : Code} {D : va_G} {cy : Nat → ClassId} {a gs : Nat → Nat} (X : cx_ cX11_suited RX11 wsX11_suited 4 (some .int) 59 a D cy (xfC gs) p s m args meth c) {k25 : Sg → Int32 → Option (Int32 × Sg)} {r0 : Int32} {σ' : Sg} (hk25 : ∀ (σ : Sg) (x3 : Int32) (H : Heap) (locs : List Loc) (ls : Array Slot), k25 σ x3 = some (r0, σ') → iv_ 59 a D (shC cy a σ) s H locs → lv_has ls 4 [(0, .ref (a 0)), (3, .int x3)] → W p l e ({ frames := 4, cells := 0, slots := 0, locals := 92 }) s m args below meth c H locs 0 0 (MQ below (qg_ 59 a D (shC cy a σ') (some (.int r0)) s.heap.size) args s 0 0 (fr_ 59 a s.heap.size)) (F0 m 25 ls [])) : ∀ (σ : Sg) (x3 : Int32) (H : Heap) (locs : List Loc) (ls : Array Slot), C_suited_25 k25 σ x3 = some (r0, σ') → iv_ 59 a D (shC cy a σ) s H locs → lv_has ls 4 [(0, .ref (a 0)), (3, .int x3)] → W p l e ({ frames := 4, cells := 0, slots := 0, locals := 92 }) s m args below meth c H locs 0 0 (MQ below (qg_ 59 a D (shC cy a σ') (some (.int r0)) s.heap.size) args s 0 0 (fr_ 59 a s.heap.size)) (F0 m 25 ls []) := by
  obtain ⟨hx, hb, hr, hml, hown, hts, hlk, hK, hA, hXf⟩ := id X
  intro σ x3 H locs ls h I hl
  unfold C_suited_25 at h
  refine lv_iload_n hx hb dX11_suited_25 rfl (lv_at hl 1 rfl) ?_
  refine lv_bipush (v := 60) hx hb dX11_suited_26 (by decide) ?_
  refine lv_icmp_gt (tgt := 78) hx hb dX11_suited_28 (by decide) (fun c_1 => ?_) (fun c_1 => ?_)
  · have h := if_t h c_1
    refine lv_bipush (v := (-3)) hx hb dX11_suited_78 (by decide) ?_
    obtain ⟨rfl, rfl⟩ := re_s h
    exact rti_ X I dX11_suited_80
  · have h := if_f h c_1
    refine lv_aload_n hx hb dX11_suited_31 rfl (lv_at hl 0 rfl) ?_
    refine ig_ (index := 45) X I (fun _ q => List.mem_cons_of_mem _ (List.mem_append_left _ (List.mem_append_left _ (List.mem_append_right _ q)))) 0 (by decide) shC_0 rfl 3 (by decide) (by decide +kernel) rfl (v := .ref (a (34 + 24))) rfl dX11_suited_32 ?_
    obtain ⟨r_4, σ_3, hc_2, h⟩ := bi_of h
    refine cg_ (v := .int r_4) (rV_ (nn := 0) (As := []) (rest := []) X xkC I (c_C6_distance hc_2 H.size) gX11_suited_X6_distance rfl ⟨rfl, rfl⟩ (by decide +kernel) ⟨Nat.le_of_ble_eq_true rfl, Nat.le_of_ble_eq_true rfl⟩ (by decide) shC_L rfl rfl hl.1 rfl (Nat.le_of_ble_eq_true rfl) dX11_suited_35) I (fun H locs I => ?_)
    refine lv_aload_n hx hb dX11_suited_38 rfl (lv_at hl 0 rfl) ?_
    refine ig_ (index := 30) X I (fun _ q => List.mem_cons_of_mem _ (List.mem_append_left _ (List.mem_append_left _ (List.mem_append_right _ q)))) 0 (by decide) shC_0 rfl 0 (by decide) (by decide +kernel) rfl (v := .ref (a 1)) rfl dX11_suited_39 ?_
    refine ig_ (index := 113) X I (fun _ q => List.mem_cons_of_mem _ (List.mem_append_left _ (List.mem_append_right _ q))) 1 (by decide) shC_1 rfl 0 (by decide) (by decide +kernel) rfl (v := .ref (a 4)) rfl dX11_suited_42 ?_
    refine lv_iconst (v := 2) hx hb dX11_suited_45 (by decide) ?_
    refine ia_ X I 4 (by decide) shC_4 (in_of (by decide)) (v0 := (rd_ σ_3 4 2)) rfl dX11_suited_46 ?_
    refine lv_icmp_gt (tgt := 52) hx hb dX11_suited_47 (by decide) (fun c_5 => ?_) (fun c_5 => ?_)
    · have h := if_t h c_5
      refine lv_aload_n hx hb dX11_suited_52 rfl (lv_at hl 0 rfl) ?_
      refine ig_ (index := 30) X I (fun _ q => List.mem_cons_of_mem _ (List.mem_append_left _ (List.mem_append_left _ (List.mem_append_right _ q)))) 0 (by decide) shC_0 rfl 0 (by decide) (by decide +kernel) rfl (v := .ref (a 1)) rfl dX11_suited_53 ?_
      refine lv_aload_n hx hb dX11_suited_56 rfl (lv_at hl 0 rfl) ?_
      refine ig_ (index := 45) X I (fun _ q => List.mem_cons_of_mem _ (List.mem_append_left _ (List.mem_append_left _ (List.mem_append_right _ q)))) 0 (by decide) shC_0 rfl 3 (by decide) (by decide +kernel) rfl (v := .ref (a (34 + 24))) rfl dX11_suited_57 ?_
      refine lv_aload_n hx hb dX11_suited_60 rfl (lv_at hl 0 rfl) ?_
      refine ig_ (index := 30) X I (fun _ q => List.mem_cons_of_mem _ (List.mem_append_left _ (List.mem_append_left _ (List.mem_append_right _ q)))) 0 (by decide) shC_0 rfl 0 (by decide) (by decide +kernel) rfl (v := .ref (a 1)) rfl dX11_suited_61 ?_
      refine ig_ (index := 188) X I (fun _ q => List.mem_cons_of_mem _ (List.mem_append_left _ (List.mem_append_right _ q))) 1 (by decide) shC_1 rfl 4 (by decide) (by decide +kernel) rfl (v := .int (rd_ σ_3 1 4)) rfl dX11_suited_64 ?_
      refine lv_iload_n hx hb dX11_suited_67 rfl (lv_at hl 1 rfl) ?_
      refine lv_iadd hx hb dX11_suited_68 ?_
      obtain ⟨_, σ_7, hc_6, h⟩ := bi_of h
      refine cv_ (rV_ (nn := 2) (As := [.ref (a (34 + 24)), .int ((rd_ σ_3 1 4) + x3)]) (rest := []) X xkC I (c_C1_passYearOf hc_6 H.size) gX11_suited_X1_passYearOf rfl ⟨rfl, rfl⟩ (by decide +kernel) ⟨Nat.le_of_ble_eq_true rfl, Nat.le_of_ble_eq_true rfl⟩ (by decide) shC_1 rfl rfl hl.1 rfl (Nat.le_of_ble_eq_true rfl) dX11_suited_69) I (fun H locs I => ?_)
      obtain ⟨y_8, e_9⟩ : ∃ q : Int32, q = x3 + (1 : Int32) := ⟨_, rfl⟩
      have h := lt_at h e_9
      refine lv_iinc (v := y_8) (lv' := [(3, .int y_8), (0, .ref (a 0))]) hx hb dX11_suited_72 hl (k := 1) rfl (by rw [e_9]; rfl) (by decide) rfl (fun ls hl => ?_)
      refine lv_goto (tgt := 25) hx hb dX11_suited_75 (by decide) ?_
      exact hk25 σ_7 y_8 H locs ls h I (lv_sub hl [1, 0] rfl)
    · have h := if_f h c_5
      refine lv_iload_n hx hb dX11_suited_50 rfl (lv_at hl 1 rfl) ?_
      obtain ⟨rfl, rfl⟩ := re_s h
      exact rti_ X I dX11_suited_51
set_option maxRecDepth 100000 in
theorem kC_suited_25L {p : Program} {l : Launch} {e : Env} {s : State} {m : MethodId} {args : Array Value} {below : List Frame} {meth : Method} {c : Code} {D : va_G} {cy : Nat → ClassId} {a gs : Nat → Nat} (X : cx_ cX11_suited RX11 wsX11_suited 4 (some .int) 59 a D cy (xfC gs) p s m args meth c)  {r0 : Int32} {σ' : Sg}  : ∀ (n : Nat), ∀ (σ : Sg) (x3 : Int32) (H : Heap) (locs : List Loc) (ls : Array Slot), lp_ (C_suited_25) (fun _ _ => none) n σ x3 = some (r0, σ') → iv_ 59 a D (shC cy a σ) s H locs → lv_has ls 4 [(0, .ref (a 0)), (3, .int x3)] → W p l e ({ frames := 4, cells := 0, slots := 0, locals := 92 }) s m args below meth c H locs 0 0 (MQ below (qg_ 59 a D (shC cy a σ') (some (.int r0)) s.heap.size) args s 0 0 (fr_ 59 a s.heap.size)) (F0 m 25 ls []) := by
  intro n
  induction n with
  | zero =>
    intro _ _ _ _ _ h
    exact absurd h (fun q => by cases (show (none : Option _) = some _ from q))
  | succ n ih => exact kC_suited_25 X ih

def C_suited_0  (σ : Sg) (x1 : Int32) : Option (Int32 × Sg) :=
  bi_ (C1_life_0 σ x1) fun r_3 σ_2 =>
  on_ r_3 (some ((-1 : Int32), σ_2)) fun j_4 =>
  bi_ (C6_become_0 σ_2 24 j_4) fun _ σ_6 =>
  lp_ C_suited_25 (fun _ _ => none) FU σ_6 (0 : Int32)
set_option maxRecDepth 100000 in
theorem kC_suited_0 {p : Program} {l : Launch} {e : Env} {s : State} {m : MethodId} {args : Array Value} {below : List Frame} {meth : Method} {c : Code} {D : va_G} {cy : Nat → ClassId} {a gs : Nat → Nat} (X : cx_ cX11_suited RX11 wsX11_suited 4 (some .int) 59 a D cy (xfC gs) p s m args meth c)  {r0 : Int32} {σ' : Sg}  : ∀ (σ : Sg) (x1 : Int32) (H : Heap) (locs : List Loc) (ls : Array Slot), C_suited_0 σ x1 = some (r0, σ') → iv_ 59 a D (shC cy a σ) s H locs → lv_has ls 4 [(0, .ref (a 0)), (1, .int x1)] → W p l e ({ frames := 4, cells := 0, slots := 0, locals := 92 }) s m args below meth c H locs 0 0 (MQ below (qg_ 59 a D (shC cy a σ') (some (.int r0)) s.heap.size) args s 0 0 (fr_ 59 a s.heap.size)) (F0 m 0 ls []) := by
  obtain ⟨hx, hb, hr, hml, hown, hts, hlk, hK, hA, hXf⟩ := id X
  intro σ x1 H locs ls h I hl
  unfold C_suited_0 at h
  refine lv_aload_n hx hb dX11_suited_0 rfl (lv_at hl 0 rfl) ?_
  refine ig_ (index := 30) X I (fun _ q => List.mem_cons_of_mem _ (List.mem_append_left _ (List.mem_append_left _ (List.mem_append_right _ q)))) 0 (by decide) shC_0 rfl 0 (by decide) (by decide +kernel) rfl (v := .ref (a 1)) rfl dX11_suited_1 ?_
  refine lv_iload_n hx hb dX11_suited_4 rfl (lv_at hl 1 rfl) ?_
  obtain ⟨r_3, σ_2, hc_1, h⟩ := bi_of h
  refine cg_ (v := va_re (fun j => a (34 + j)) r_3) (rV_ (nn := 1) (As := [.int x1]) (rest := []) X xkC I (c_C1_life hc_1 H.size) gX11_suited_X1_life rfl ⟨rfl, rfl⟩ (by decide +kernel) ⟨Nat.le_of_ble_eq_true rfl, Nat.le_of_ble_eq_true rfl⟩ (by decide) shC_1 rfl rfl hl.1 rfl (Nat.le_of_ble_eq_true rfl) dX11_suited_5) I (fun H locs I => ?_)
  rcases r_3 with _ | j_4
  · have h := on_n h
    refine W.eq (g2 := F0 m 8 ls [.null]) rfl ?_
    refine lv_astore_nN (lv' := [(2, .null), (0, .ref (a 0)), (1, .int x1)]) hx hb dX11_suited_8 rfl hl (by decide) rfl (fun ls hl => ?_)
    refine lv_aload_nN hx hb dX11_suited_9 rfl (lv_at hl 0 rfl) ?_
    refine lv_ifnonnullN hx hb dX11_suited_10 ?_
    refine lv_iconst (v := (-1)) hx hb dX11_suited_13 (by decide) ?_
    obtain ⟨rfl, rfl⟩ := re_s h
    exact rti_ X I dX11_suited_14
  · have h := on_s h
    refine W.eq (g2 := F0 m 8 ls [.ref (a (34 + j_4))]) rfl ?_
    refine lv_astore_n (lv' := [(2, .ref (a (34 + j_4))), (0, .ref (a 0)), (1, .int x1)]) hx hb dX11_suited_8 rfl hl (by decide) rfl (fun ls hl => ?_)
    refine lv_aload_n hx hb dX11_suited_9 rfl (lv_at hl 0 rfl) ?_
    refine lv_ifnonnull (tgt := 15) hx hb dX11_suited_10 (by decide) ?_
    refine lv_aload_n hx hb dX11_suited_15 rfl (lv_at hl 1 rfl) ?_
    refine ig_ (index := 45) X I (fun _ q => List.mem_cons_of_mem _ (List.mem_append_left _ (List.mem_append_left _ (List.mem_append_right _ q)))) 0 (by decide) shC_0 rfl 3 (by decide) (by decide +kernel) rfl (v := .ref (a (34 + 24))) rfl dX11_suited_16 ?_
    refine lv_aload_n hx hb dX11_suited_19 rfl (lv_at hl 0 rfl) ?_
    obtain ⟨_, σ_6, hc_5, h⟩ := bi_of h
    refine cv_ (rV_ (nn := 1) (As := [.ref (a (34 + j_4))]) (rest := []) X xkC I (c_C6_become hc_5 H.size) gX11_suited_X6_become rfl ⟨rfl, rfl⟩ (by decide +kernel) ⟨Nat.le_of_ble_eq_true rfl, Nat.le_of_ble_eq_true rfl⟩ (by decide) shC_L rfl rfl hl.1 rfl (Nat.le_of_ble_eq_true rfl) dX11_suited_20) I (fun H locs I => ?_)
    refine lv_iconst (v := 0) hx hb dX11_suited_23 (by decide) ?_
    refine lv_istore_n (lv' := [(3, .int (0 : Int32)), (2, .ref (a (34 + j_4))), (0, .ref (a 0)), (1, .int x1)]) hx hb dX11_suited_24 rfl hl (by decide) rfl (fun ls hl => ?_)
    exact kC_suited_25L X  FU σ_6 (0 : Int32) H locs ls h I (lv_sub hl [2, 0] rfl)
theorem c_C_suited {l : Launch} {D : va_G} {cy : Nat → ClassId} {a gs : Nat → Nat} {σ : Sg} {x1 : Int32} {r0 : Int32} {σ' : Sg} (h : C_suited_0 σ x1 = some (r0, σ')) (sz : Nat) : Met l yX11_suited wsX11_suited ({ frames := 4, cells := 0, slots := 0, locals := 92 }) (va_Pc [.ref (a 0), .int x1] (pr_ 59 a D cy (shC cy a σ) (xfC gs) sz)) (qg_ 59 a D (shC cy a σ') (some (.int r0)) sz) 0 0 (fr_ 59 a sz) := by
  refine ent_ (by decide) rfl (Nat.le_of_ble_eq_true rfl) ?_
  intro p e s m below meth c ls hsz X I hl
  subst hsz
  exact kC_suited_0 X σ x1 s.heap [] ls h I hl

def C_grown_4 (k4 : Sg → Int32 → Int32 → Option (Int32 × Sg)) (σ : Sg) (x1 : Int32) (x2 : Int32) : Option (Int32 × Sg) :=
  if (rd_ σ 1 3) ≤ x2 then (if (60 : Int32) < x1 then (some ((-3 : Int32), σ))
  else (some (x1, σ)))
  else (bi_ (C1_yearsLeft_0 σ x2) fun r_5 σ_4 =>
  lt_ ((if x1 < r_5 then r_5 else x1)) fun y_6 =>
  lt_ (x2 + (1 : Int32)) fun y_8 =>
  k4 σ_4 y_6 y_8)
set_option maxRecDepth 100000 in
theorem kC_grown_4 {p : Program} {l : Launch} {e : Env} {s : State} {m : MethodId} {args : Array Value} {below : List Frame} {meth : Method} {c : Code} {D : va_G} {cy : Nat → ClassId} {a gs : Nat → Nat} (X : cx_ cX11_grown RX11 wsX11_grown 3 (some .int) 59 a D cy (xfC gs) p s m args meth c) {k4 : Sg → Int32 → Int32 → Option (Int32 × Sg)} {r0 : Int32} {σ' : Sg} (hk4 : ∀ (σ : Sg) (x1 : Int32) (x2 : Int32) (H : Heap) (locs : List Loc) (ls : Array Slot), k4 σ x1 x2 = some (r0, σ') → iv_ 59 a D (shC cy a σ) s H locs → lv_has ls 3 [(0, .ref (a 0)), (1, .int x1), (2, .int x2)] → W p l e ({ frames := 5, cells := 0, slots := 0, locals := 109 }) s m args below meth c H locs 0 0 (MQ below (qg_ 59 a D (shC cy a σ') (some (.int r0)) s.heap.size) args s 0 0 (fr_ 59 a s.heap.size)) (F0 m 4 ls [])) : ∀ (σ : Sg) (x1 : Int32) (x2 : Int32) (H : Heap) (locs : List Loc) (ls : Array Slot), C_grown_4 k4 σ x1 x2 = some (r0, σ') → iv_ 59 a D (shC cy a σ) s H locs → lv_has ls 3 [(0, .ref (a 0)), (1, .int x1), (2, .int x2)] → W p l e ({ frames := 5, cells := 0, slots := 0, locals := 109 }) s m args below meth c H locs 0 0 (MQ below (qg_ 59 a D (shC cy a σ') (some (.int r0)) s.heap.size) args s 0 0 (fr_ 59 a s.heap.size)) (F0 m 4 ls []) := by
  obtain ⟨hx, hb, hr, hml, hown, hts, hlk, hK, hA, hXf⟩ := id X
  intro σ x1 x2 H locs ls h I hl
  unfold C_grown_4 at h
  refine lv_iload_n hx hb dX11_grown_4 rfl (lv_at hl 2 rfl) ?_
  refine lv_aload_n hx hb dX11_grown_5 rfl (lv_at hl 0 rfl) ?_
  refine ig_ (index := 30) X I (fun _ q => List.mem_cons_of_mem _ (List.mem_append_left _ (List.mem_append_left _ (List.mem_append_right _ q)))) 0 (by decide) shC_0 rfl 0 (by decide) (by decide +kernel) rfl (v := .ref (a 1)) rfl dX11_grown_6 ?_
  refine ig_ (index := 105) X I (fun _ q => List.mem_cons_of_mem _ (List.mem_append_left _ (List.mem_append_right _ q))) 1 (by decide) shC_1 rfl 3 (by decide) (by decide +kernel) rfl (v := .int (rd_ σ 1 3)) rfl dX11_grown_9 ?_
  refine lv_icmp_ge (tgt := 34) hx hb dX11_grown_12 (by decide) (fun c_1 => ?_) (fun c_1 => ?_)
  · have h := if_t h c_1
    refine lv_iload_n hx hb dX11_grown_34 rfl (lv_at hl 1 rfl) ?_
    refine lv_bipush (v := 60) hx hb dX11_grown_35 (by decide) ?_
    refine lv_icmp_gt (tgt := 44) hx hb dX11_grown_37 (by decide) (fun c_2 => ?_) (fun c_2 => ?_)
    · have h := if_t h c_2
      refine lv_bipush (v := (-3)) hx hb dX11_grown_44 (by decide) ?_
      obtain ⟨rfl, rfl⟩ := re_s h
      exact rti_ X I dX11_grown_46
    · have h := if_f h c_2
      refine lv_iload_n hx hb dX11_grown_40 rfl (lv_at hl 1 rfl) ?_
      refine lv_goto (tgt := 46) hx hb dX11_grown_41 (by decide) ?_
      obtain ⟨rfl, rfl⟩ := re_s h
      exact rti_ X I dX11_grown_46
  · have h := if_f h c_1
    refine lv_iload_n hx hb dX11_grown_15 rfl (lv_at hl 1 rfl) ?_
    refine lv_aload_n hx hb dX11_grown_16 rfl (lv_at hl 0 rfl) ?_
    refine ig_ (index := 30) X I (fun _ q => List.mem_cons_of_mem _ (List.mem_append_left _ (List.mem_append_left _ (List.mem_append_right _ q)))) 0 (by decide) shC_0 rfl 0 (by decide) (by decide +kernel) rfl (v := .ref (a 1)) rfl dX11_grown_17 ?_
    refine lv_iload_n hx hb dX11_grown_20 rfl (lv_at hl 2 rfl) ?_
    obtain ⟨r_5, σ_4, hc_3, h⟩ := bi_of h
    refine cg_ (v := .int r_5) (rV_ (nn := 1) (As := [.int x2]) (rest := [.int x1]) X xkC I (c_C1_yearsLeft hc_3 H.size) gX11_grown_X1_yearsLeft rfl ⟨rfl, rfl⟩ (by decide +kernel) ⟨Nat.le_of_ble_eq_true rfl, Nat.le_of_ble_eq_true rfl⟩ (by decide) shC_1 rfl rfl hl.1 rfl (Nat.le_of_ble_eq_true rfl) dX11_grown_21) I (fun H locs I => ?_)
    refine va_mmax hx hb (by rw [hml]; exact hl.1.symm) hown (hts (.methodLink RX11 216 Lib.Math.max.name) (by decide +kernel)) (hts (.static Lib.Math.max.name) (by decide +kernel)) (hts (.initialized "java/lang/Math") (by decide +kernel)) (hts (.code Lib.Math.max.name Lib.Math.max.code 2 (some .int)) (by decide +kernel)) (Nat.le_of_ble_eq_true rfl) (Nat.le_of_ble_eq_true rfl) (Nat.zero_le _) (Nat.zero_le _) dX11_grown_24 ?_
    refine lv_topi (fun y_6 e_7 => ?_)
    have h := lt_at h e_7
    refine lv_istore_n (lv' := [(1, .int y_6), (0, .ref (a 0)), (2, .int x2)]) hx hb dX11_grown_27 rfl hl (by decide) rfl (fun ls hl => ?_)
    obtain ⟨y_8, e_9⟩ : ∃ q : Int32, q = x2 + (1 : Int32) := ⟨_, rfl⟩
    have h := lt_at h e_9
    refine lv_iinc (v := y_8) (lv' := [(2, .int y_8), (1, .int y_6), (0, .ref (a 0))]) hx hb dX11_grown_28 hl (k := 2) rfl (by rw [e_9]; rfl) (by decide) rfl (fun ls hl => ?_)
    refine lv_goto (tgt := 4) hx hb dX11_grown_31 (by decide) ?_
    exact hk4 σ_4 y_6 y_8 H locs ls h I (lv_sub hl [2, 1, 0] rfl)
set_option maxRecDepth 100000 in
theorem kC_grown_4L {p : Program} {l : Launch} {e : Env} {s : State} {m : MethodId} {args : Array Value} {below : List Frame} {meth : Method} {c : Code} {D : va_G} {cy : Nat → ClassId} {a gs : Nat → Nat} (X : cx_ cX11_grown RX11 wsX11_grown 3 (some .int) 59 a D cy (xfC gs) p s m args meth c)  {r0 : Int32} {σ' : Sg}  : ∀ (n : Nat), ∀ (σ : Sg) (x1 : Int32) (x2 : Int32) (H : Heap) (locs : List Loc) (ls : Array Slot), lp_ (C_grown_4) (fun _ _ _ => none) n σ x1 x2 = some (r0, σ') → iv_ 59 a D (shC cy a σ) s H locs → lv_has ls 3 [(0, .ref (a 0)), (1, .int x1), (2, .int x2)] → W p l e ({ frames := 5, cells := 0, slots := 0, locals := 109 }) s m args below meth c H locs 0 0 (MQ below (qg_ 59 a D (shC cy a σ') (some (.int r0)) s.heap.size) args s 0 0 (fr_ 59 a s.heap.size)) (F0 m 4 ls []) := by
  intro n
  induction n with
  | zero =>
    intro _ _ _ _ _ _ h
    exact absurd h (fun q => by cases (show (none : Option _) = some _ from q))
  | succ n ih => exact kC_grown_4 X ih

def C_grown_0  (σ : Sg)  : Option (Int32 × Sg) :=
  lp_ C_grown_4 (fun _ _ _ => none) FU σ (0 : Int32) (0 : Int32)
set_option maxRecDepth 100000 in
theorem kC_grown_0 {p : Program} {l : Launch} {e : Env} {s : State} {m : MethodId} {args : Array Value} {below : List Frame} {meth : Method} {c : Code} {D : va_G} {cy : Nat → ClassId} {a gs : Nat → Nat} (X : cx_ cX11_grown RX11 wsX11_grown 3 (some .int) 59 a D cy (xfC gs) p s m args meth c)  {r0 : Int32} {σ' : Sg}  : ∀ (σ : Sg)  (H : Heap) (locs : List Loc) (ls : Array Slot), C_grown_0 σ = some (r0, σ') → iv_ 59 a D (shC cy a σ) s H locs → lv_has ls 3 [(0, .ref (a 0))] → W p l e ({ frames := 5, cells := 0, slots := 0, locals := 109 }) s m args below meth c H locs 0 0 (MQ below (qg_ 59 a D (shC cy a σ') (some (.int r0)) s.heap.size) args s 0 0 (fr_ 59 a s.heap.size)) (F0 m 0 ls []) := by
  obtain ⟨hx, hb, hr, hml, hown, hts, hlk, hK, hA, hXf⟩ := id X
  intro σ  H locs ls h I hl
  unfold C_grown_0 at h
  refine lv_iconst (v := 0) hx hb dX11_grown_0 (by decide) ?_
  refine lv_istore_n (lv' := [(1, .int (0 : Int32)), (0, .ref (a 0))]) hx hb dX11_grown_1 rfl hl (by decide) rfl (fun ls hl => ?_)
  refine lv_iconst (v := 0) hx hb dX11_grown_2 (by decide) ?_
  refine lv_istore_n (lv' := [(2, .int (0 : Int32)), (1, .int (0 : Int32)), (0, .ref (a 0))]) hx hb dX11_grown_3 rfl hl (by decide) rfl (fun ls hl => ?_)
  exact kC_grown_4L X  FU σ (0 : Int32) (0 : Int32) H locs ls h I (lv_sub hl [2, 1, 0] rfl)
theorem c_C_grown {l : Launch} {D : va_G} {cy : Nat → ClassId} {a gs : Nat → Nat} {σ : Sg}  {r0 : Int32} {σ' : Sg} (h : C_grown_0 σ  = some (r0, σ')) (sz : Nat) : Met l yX11_grown wsX11_grown ({ frames := 5, cells := 0, slots := 0, locals := 109 }) (va_Pc [.ref (a 0)] (pr_ 59 a D cy (shC cy a σ) (xfC gs) sz)) (qg_ 59 a D (shC cy a σ') (some (.int r0)) sz) 0 0 (fr_ 59 a sz) := by
  refine ent_ (by decide) rfl (Nat.le_of_ble_eq_true rfl) ?_
  intro p e s m below meth c ls hsz X I hl
  subst hsz
  exact kC_grown_0 X σ  s.heap [] ls h I hl

def C_far_0  (σ : Sg) (x1 : Int32) (x2 : Int32) : Option (Int32 × Sg) :=
  bi_ (C1_life_0 σ x1) fun r_3 σ_2 =>
  on_ r_3 (some ((-1 : Int32), σ_2)) fun j_4 =>
  bp_ (C_within_0 x2 (60 : Int32)) fun r_6 =>
  if r_6 = 0 then (some ((-1 : Int32), σ_2))
  else (gd_ (lf_ j_4 25) (
  bi_ (C_farSworn_0 σ_2 j_4 (rd_ σ_2 (34 + j_4) 5) x2) fun r_11 σ_10 =>
  some (r_11, σ_10)))
set_option maxRecDepth 100000 in
theorem kC_far_0 {p : Program} {l : Launch} {e : Env} {s : State} {m : MethodId} {args : Array Value} {below : List Frame} {meth : Method} {c : Code} {D : va_G} {cy : Nat → ClassId} {a gs : Nat → Nat} (X : cx_ cX11_far RX11 wsX11_far 4 (some .int) 59 a D cy (xfC gs) p s m args meth c)  {r0 : Int32} {σ' : Sg}  : ∀ (σ : Sg) (x1 : Int32) (x2 : Int32) (H : Heap) (locs : List Loc) (ls : Array Slot), C_far_0 σ x1 x2 = some (r0, σ') → iv_ 59 a D (shC cy a σ) s H locs → lv_has ls 4 [(0, .ref (a 0)), (1, .int x1), (2, .int x2)] → W p l e ({ frames := 6, cells := 0, slots := 0, locals := 140 }) s m args below meth c H locs 0 0 (MQ below (qg_ 59 a D (shC cy a σ') (some (.int r0)) s.heap.size) args s 0 0 (fr_ 59 a s.heap.size)) (F0 m 0 ls []) := by
  obtain ⟨hx, hb, hr, hml, hown, hts, hlk, hK, hA, hXf⟩ := id X
  intro σ x1 x2 H locs ls h I hl
  unfold C_far_0 at h
  refine lv_aload_n hx hb dX11_far_0 rfl (lv_at hl 0 rfl) ?_
  refine ig_ (index := 30) X I (fun _ q => List.mem_cons_of_mem _ (List.mem_append_left _ (List.mem_append_left _ (List.mem_append_right _ q)))) 0 (by decide) shC_0 rfl 0 (by decide) (by decide +kernel) rfl (v := .ref (a 1)) rfl dX11_far_1 ?_
  refine lv_iload_n hx hb dX11_far_4 rfl (lv_at hl 1 rfl) ?_
  obtain ⟨r_3, σ_2, hc_1, h⟩ := bi_of h
  refine cg_ (v := va_re (fun j => a (34 + j)) r_3) (rV_ (nn := 1) (As := [.int x1]) (rest := []) X xkC I (c_C1_life hc_1 H.size) gX11_far_X1_life rfl ⟨rfl, rfl⟩ (by decide +kernel) ⟨Nat.le_of_ble_eq_true rfl, Nat.le_of_ble_eq_true rfl⟩ (by decide) shC_1 rfl rfl hl.1 rfl (Nat.le_of_ble_eq_true rfl) dX11_far_5) I (fun H locs I => ?_)
  rcases r_3 with _ | j_4
  · have h := on_n h
    refine W.eq (g2 := F0 m 8 ls [.null]) rfl ?_
    refine lv_astore_nN (lv' := [(3, .null), (0, .ref (a 0)), (1, .int x1), (2, .int x2)]) hx hb dX11_far_8 rfl hl (by decide) rfl (fun ls hl => ?_)
    refine lv_aload_nN hx hb dX11_far_9 rfl (lv_at hl 0 rfl) ?_
    refine lv_ifnullN (tgt := 22) hx hb dX11_far_10 (by decide) ?_
    refine lv_iconst (v := (-1)) hx hb dX11_far_22 (by decide) ?_
    obtain ⟨rfl, rfl⟩ := re_s h
    exact rti_ X I dX11_far_23
  · have h := on_s h
    refine W.eq (g2 := F0 m 8 ls [.ref (a (34 + j_4))]) rfl ?_
    refine lv_astore_n (lv' := [(3, .ref (a (34 + j_4))), (0, .ref (a 0)), (1, .int x1), (2, .int x2)]) hx hb dX11_far_8 rfl hl (by decide) rfl (fun ls hl => ?_)
    refine lv_aload_n hx hb dX11_far_9 rfl (lv_at hl 0 rfl) ?_
    refine lv_ifnull hx hb dX11_far_10 ?_
    refine lv_iload_n hx hb dX11_far_13 rfl (lv_at hl 3 rfl) ?_
    refine lv_bipush (v := 60) hx hb dX11_far_14 (by decide) ?_
    obtain ⟨r_6, hc_5, h⟩ := bp_of h
    refine cp_ (rP_ (nn := 2) (As := [.int x2, .int (60 : Int32)]) (rest := []) ⟨hx, hb, hml, hown, hts⟩ (c_C_within hc_5) gX11_far_X11_within rfl ⟨rfl, rfl⟩ (by decide +kernel) ⟨Nat.le_of_ble_eq_true rfl, Nat.le_of_ble_eq_true rfl⟩ rfl hl.1 rfl (Nat.le_of_ble_eq_true rfl) dX11_far_16 ⟨Nat.zero_le _, Nat.zero_le _⟩) ?_
    refine lv_if_ne (tgt := 24) hx hb dX11_far_19 (by decide) (fun c_7 => ?_) (fun c_7 => ?_)
    · have h := if_f h c_7
      refine lv_aload_n hx hb dX11_far_24 rfl (lv_at hl 1 rfl) ?_
      refine lv_aload_n hx hb dX11_far_25 rfl (lv_at hl 0 rfl) ?_
      refine lv_aload_n hx hb dX11_far_26 rfl (lv_at hl 0 rfl) ?_
      obtain ⟨g_8, h⟩ := gd_of h
      refine ig_ (index := 156) X I (fun _ q => List.mem_cons_of_mem _ (List.mem_append_left _ (List.mem_append_right _ q))) (34 + j_4) (lf59 g_8) shC_L rfl 5 (by decide) (by decide +kernel) rfl (v := .int (rd_ σ_2 (34 + j_4) 5)) rfl dX11_far_27 ?_
      refine lv_iload_n hx hb dX11_far_30 rfl (lv_at hl 3 rfl) ?_
      obtain ⟨r_11, σ_10, hc_9, h⟩ := bi_of h
      refine cg_ (v := .int r_11) (rV_ (nn := 3) (As := [.ref (a (34 + j_4)), .int (rd_ σ_2 (34 + j_4) 5), .int x2]) (rest := []) X xkC I (c_C_farSworn hc_9 H.size) gX11_far_X11_farSworn rfl ⟨rfl, rfl⟩ (by decide +kernel) ⟨Nat.le_of_ble_eq_true rfl, Nat.le_of_ble_eq_true rfl⟩ (by decide) shC_0 rfl rfl hl.1 rfl (Nat.le_of_ble_eq_true rfl) dX11_far_31) I (fun H locs I => ?_)
      obtain ⟨rfl, rfl⟩ := re_s h
      exact rti_ X I dX11_far_34
    · have h := if_t h c_7
      refine lv_iconst (v := (-1)) hx hb dX11_far_22 (by decide) ?_
      obtain ⟨rfl, rfl⟩ := re_s h
      exact rti_ X I dX11_far_23
theorem c_C_far {l : Launch} {D : va_G} {cy : Nat → ClassId} {a gs : Nat → Nat} {σ : Sg} {x1 : Int32} {x2 : Int32} {r0 : Int32} {σ' : Sg} (h : C_far_0 σ x1 x2 = some (r0, σ')) (sz : Nat) : Met l yX11_far wsX11_far ({ frames := 6, cells := 0, slots := 0, locals := 140 }) (va_Pc [.ref (a 0), .int x1, .int x2] (pr_ 59 a D cy (shC cy a σ) (xfC gs) sz)) (qg_ 59 a D (shC cy a σ') (some (.int r0)) sz) 0 0 (fr_ 59 a sz) := by
  refine ent_ (by decide) rfl (Nat.le_of_ble_eq_true rfl) ?_
  intro p e s m below meth c ls hsz X I hl
  subst hsz
  exact kC_far_0 X σ x1 x2 s.heap [] ls h I hl

def C_isPlan_0  (x0 : Int32) : Option Int32 :=
  if x0 < (1 : Int32) then (some ((0 : Int32)))
  else (if (30 : Int32) < x0 then (some ((0 : Int32)))
  else (some ((1 : Int32))))
set_option maxRecDepth 100000 in
theorem kC_isPlan_0 {p : Program} {l : Launch} {e : Env} {s : State} {m : MethodId} {args : Array Value} {below : List Frame} {meth : Method} {c : Code} (X : px_ cX11_isPlan RX11 wsX11_isPlan 1 (some .boolean) p s m args meth c)  {r0 : Int32}  : ∀ (x0 : Int32) (ls : Array Slot), C_isPlan_0 x0 = some r0 → lv_has ls 1 [(0, .int x0)] → W p l e ({ frames := 0, cells := 0, slots := 0, locals := 0 }) s m args below meth c s.heap [] 0 0 (MQ below (qp_ (some (.int r0))) args s 0 0 (fun _ => False)) (F0 m 0 ls []) := by
  obtain ⟨hx, hb, hr, hml, hown, hts, hlk⟩ := id X
  intro x0 ls h hl
  unfold C_isPlan_0 at h
  refine lv_iload_n hx hb dX11_isPlan_0 rfl (lv_at hl 0 rfl) ?_
  refine lv_iconst (v := 1) hx hb dX11_isPlan_1 (by decide) ?_
  refine lv_icmp_lt (tgt := 15) hx hb dX11_isPlan_2 (by decide) (fun c_1 => ?_) (fun c_1 => ?_)
  · have h := if_t h c_1
    refine lv_iconst (v := 0) hx hb dX11_isPlan_15 (by decide) ?_
    obtain rfl := re_p h
    exact rpz_ X (by decide) dX11_isPlan_16
  · have h := if_f h c_1
    refine lv_iload_n hx hb dX11_isPlan_5 rfl (lv_at hl 0 rfl) ?_
    refine lv_bipush (v := 30) hx hb dX11_isPlan_6 (by decide) ?_
    refine lv_icmp_gt (tgt := 15) hx hb dX11_isPlan_8 (by decide) (fun c_2 => ?_) (fun c_2 => ?_)
    · have h := if_t h c_2
      refine lv_iconst (v := 0) hx hb dX11_isPlan_15 (by decide) ?_
      obtain rfl := re_p h
      exact rpz_ X (by decide) dX11_isPlan_16
    · have h := if_f h c_2
      refine lv_iconst (v := 1) hx hb dX11_isPlan_11 (by decide) ?_
      refine lv_goto (tgt := 16) hx hb dX11_isPlan_12 (by decide) ?_
      obtain rfl := re_p h
      exact rpz_ X (by decide) dX11_isPlan_16
theorem c_C_isPlan {l : Launch} {x0 : Int32} {r0 : Int32} (h : C_isPlan_0 x0 = some r0) : Met l yX11_isPlan wsX11_isPlan ({ frames := 0, cells := 0, slots := 0, locals := 0 }) (pp_ [.int x0]) (qp_ (some (.int r0))) 0 0 (fun _ => False) := by
  refine enp_ (by decide) rfl (Nat.le_of_ble_eq_true rfl) ?_
  intro p e s m below meth c ls X hl
  exact kC_isPlan_0 X x0 ls h hl

def C_nearest_69 (k35 : Sg → Int32 → Int32 → Int32 → Nat → Int32 → Int32 → Int32 → Option (Int32 × Sg)) (σ : Sg) (x2 : Int32) (x3 : Int32) (x4 : Int32) (x5 : Nat) (x6 : Int32) (x7 : Int32) (x8 : Int32) : Option (Int32 × Sg) :=
  lt_ (x8 + (1 : Int32)) fun y_1 =>
  k35 σ x2 x3 x4 x5 x6 x7 y_1
set_option maxRecDepth 100000 in
theorem kC_nearest_69 {p : Program} {l : Launch} {e : Env} {s : State} {m : MethodId} {args : Array Value} {below : List Frame} {meth : Method} {c : Code} {D : va_G} {cy : Nat → ClassId} {a gs : Nat → Nat} (X : cx_ cX11_nearest RX11 wsX11_nearest 10 (some .int) 59 a D cy (xfC gs) p s m args meth c) {k35 : Sg → Int32 → Int32 → Int32 → Nat → Int32 → Int32 → Int32 → Option (Int32 × Sg)} {r0 : Int32} {σ' : Sg} (hk35 : ∀ (σ : Sg) (x2 : Int32) (x3 : Int32) (x4 : Int32) (x5 : Nat) (x6 : Int32) (x7 : Int32) (x8 : Int32) (H : Heap) (locs : List Loc) (ls : Array Slot), k35 σ x2 x3 x4 x5 x6 x7 x8 = some (r0, σ') → iv_ 59 a D (shC cy a σ) s H locs → lv_has ls 10 [(0, .ref (a 0)), (2, .int x2), (3, .int x3), (4, .int x4), (5, .ref (a (34 + x5))), (6, .int x6), (7, .int x7), (8, .int x8)] → W p l e ({ frames := 5, cells := 0, slots := 0, locals := 117 }) s m args below meth c H locs 0 0 (MQ below (qg_ 59 a D (shC cy a σ') (some (.int r0)) s.heap.size) args s 0 0 (fr_ 59 a s.heap.size)) (F0 m 35 ls [])) : ∀ (σ : Sg) (x2 : Int32) (x3 : Int32) (x4 : Int32) (x5 : Nat) (x6 : Int32) (x7 : Int32) (x8 : Int32) (H : Heap) (locs : List Loc) (ls : Array Slot), C_nearest_69 k35 σ x2 x3 x4 x5 x6 x7 x8 = some (r0, σ') → iv_ 59 a D (shC cy a σ) s H locs → lv_has ls 10 [(0, .ref (a 0)), (2, .int x2), (3, .int x3), (4, .int x4), (5, .ref (a (34 + x5))), (6, .int x6), (7, .int x7), (8, .int x8)] → W p l e ({ frames := 5, cells := 0, slots := 0, locals := 117 }) s m args below meth c H locs 0 0 (MQ below (qg_ 59 a D (shC cy a σ') (some (.int r0)) s.heap.size) args s 0 0 (fr_ 59 a s.heap.size)) (F0 m 69 ls []) := by
  obtain ⟨hx, hb, hr, hml, hown, hts, hlk, hK, hA, hXf⟩ := id X
  intro σ x2 x3 x4 x5 x6 x7 x8 H locs ls h I hl
  unfold C_nearest_69 at h
  obtain ⟨y_1, e_2⟩ : ∃ q : Int32, q = x8 + (1 : Int32) := ⟨_, rfl⟩
  have h := lt_at h e_2
  refine lv_iinc (v := y_1) (lv' := [(8, .int y_1), (0, .ref (a 0)), (2, .int x2), (3, .int x3), (4, .int x4), (5, .ref (a (34 + x5))), (6, .int x6), (7, .int x7)]) hx hb dX11_nearest_69 hl (k := 7) rfl (by rw [e_2]; rfl) (by decide) rfl (fun ls hl => ?_)
  refine lv_goto (tgt := 35) hx hb dX11_nearest_72 (by decide) ?_
  exact hk35 σ x2 x3 x4 x5 x6 x7 y_1 H locs ls h I (lv_sub hl [1, 2, 3, 4, 5, 6, 7, 0] rfl)
def C_nearest_35 (k35 : Sg → Int32 → Int32 → Int32 → Nat → Int32 → Int32 → Int32 → Option (Int32 × Sg)) (σ : Sg) (x2 : Int32) (x3 : Int32) (x4 : Int32) (x5 : Nat) (x6 : Int32) (x7 : Int32) (x8 : Int32) : Option (Int32 × Sg) :=
  if x4 < x8 then (some (x6, σ))
  else (bi_ (C_farWith_0 σ x5 x3 x8 x2) fun r_4 σ_3 =>
  if x7 ≤ r_4 then (C_nearest_69 k35 σ_3 x2 x3 x4 x5 x6 x7 x8)
  else (C_nearest_69 k35 σ_3 x2 x3 x4 x5 x8 r_4 x8))
set_option maxRecDepth 100000 in
theorem kC_nearest_35 {p : Program} {l : Launch} {e : Env} {s : State} {m : MethodId} {args : Array Value} {below : List Frame} {meth : Method} {c : Code} {D : va_G} {cy : Nat → ClassId} {a gs : Nat → Nat} (X : cx_ cX11_nearest RX11 wsX11_nearest 10 (some .int) 59 a D cy (xfC gs) p s m args meth c) {k35 : Sg → Int32 → Int32 → Int32 → Nat → Int32 → Int32 → Int32 → Option (Int32 × Sg)} {r0 : Int32} {σ' : Sg} (hk35 : ∀ (σ : Sg) (x2 : Int32) (x3 : Int32) (x4 : Int32) (x5 : Nat) (x6 : Int32) (x7 : Int32) (x8 : Int32) (H : Heap) (locs : List Loc) (ls : Array Slot), k35 σ x2 x3 x4 x5 x6 x7 x8 = some (r0, σ') → iv_ 59 a D (shC cy a σ) s H locs → lv_has ls 10 [(0, .ref (a 0)), (2, .int x2), (3, .int x3), (4, .int x4), (5, .ref (a (34 + x5))), (6, .int x6), (7, .int x7), (8, .int x8)] → W p l e ({ frames := 5, cells := 0, slots := 0, locals := 117 }) s m args below meth c H locs 0 0 (MQ below (qg_ 59 a D (shC cy a σ') (some (.int r0)) s.heap.size) args s 0 0 (fr_ 59 a s.heap.size)) (F0 m 35 ls [])) : ∀ (σ : Sg) (x2 : Int32) (x3 : Int32) (x4 : Int32) (x5 : Nat) (x6 : Int32) (x7 : Int32) (x8 : Int32) (H : Heap) (locs : List Loc) (ls : Array Slot), C_nearest_35 k35 σ x2 x3 x4 x5 x6 x7 x8 = some (r0, σ') → iv_ 59 a D (shC cy a σ) s H locs → lv_has ls 10 [(0, .ref (a 0)), (2, .int x2), (3, .int x3), (4, .int x4), (5, .ref (a (34 + x5))), (6, .int x6), (7, .int x7), (8, .int x8)] → W p l e ({ frames := 5, cells := 0, slots := 0, locals := 117 }) s m args below meth c H locs 0 0 (MQ below (qg_ 59 a D (shC cy a σ') (some (.int r0)) s.heap.size) args s 0 0 (fr_ 59 a s.heap.size)) (F0 m 35 ls []) := by
  obtain ⟨hx, hb, hr, hml, hown, hts, hlk, hK, hA, hXf⟩ := id X
  intro σ x2 x3 x4 x5 x6 x7 x8 H locs ls h I hl
  unfold C_nearest_35 at h
  refine lv_iload hx hb dX11_nearest_35 (lv_at hl 7 rfl) ?_
  refine lv_iload hx hb dX11_nearest_37 (lv_at hl 3 rfl) ?_
  refine lv_icmp_gt (tgt := 75) hx hb dX11_nearest_39 (by decide) (fun c_1 => ?_) (fun c_1 => ?_)
  · have h := if_t h c_1
    refine lv_iload hx hb dX11_nearest_75 (lv_at hl 5 rfl) ?_
    obtain ⟨rfl, rfl⟩ := re_s h
    exact rti_ X I dX11_nearest_77
  · have h := if_f h c_1
    refine lv_aload_n hx hb dX11_nearest_42 rfl (lv_at hl 0 rfl) ?_
    refine lv_aload hx hb dX11_nearest_43 (lv_at hl 4 rfl) ?_
    refine lv_iload_n hx hb dX11_nearest_45 rfl (lv_at hl 2 rfl) ?_
    refine lv_iload hx hb dX11_nearest_46 (lv_at hl 7 rfl) ?_
    refine lv_iload_n hx hb dX11_nearest_48 rfl (lv_at hl 1 rfl) ?_
    obtain ⟨r_4, σ_3, hc_2, h⟩ := bi_of h
    refine cg_ (v := .int r_4) (rV_ (nn := 4) (As := [.ref (a (34 + x5)), .int x3, .int x8, .int x2]) (rest := []) X xkC I (c_C_farWith hc_2 H.size) gX11_nearest_X11_farWith rfl ⟨rfl, rfl⟩ (by decide +kernel) ⟨Nat.le_of_ble_eq_true rfl, Nat.le_of_ble_eq_true rfl⟩ (by decide) shC_0 rfl rfl hl.1 rfl (Nat.le_of_ble_eq_true rfl) dX11_nearest_49) I (fun H locs I => ?_)
    refine lv_istore (lv' := [(9, .int r_4), (0, .ref (a 0)), (2, .int x2), (3, .int x3), (4, .int x4), (5, .ref (a (34 + x5))), (6, .int x6), (7, .int x7), (8, .int x8)]) hx hb dX11_nearest_52 hl (by decide) rfl (fun ls hl => ?_)
    refine lv_iload hx hb dX11_nearest_54 (lv_at hl 0 rfl) ?_
    refine lv_iload hx hb dX11_nearest_56 (lv_at hl 7 rfl) ?_
    refine lv_icmp_ge (tgt := 69) hx hb dX11_nearest_58 (by decide) (fun c_5 => ?_) (fun c_5 => ?_)
    · have h := if_t h c_5
      exact kC_nearest_69 X hk35 σ_3 x2 x3 x4 x5 x6 x7 x8 H locs ls h I (lv_sub hl [1, 2, 3, 4, 5, 6, 7, 8] rfl)
    · have h := if_f h c_5
      refine lv_iload hx hb dX11_nearest_61 (lv_at hl 8 rfl) ?_
      refine lv_istore (lv' := [(6, .int x8), (9, .int r_4), (0, .ref (a 0)), (2, .int x2), (3, .int x3), (4, .int x4), (5, .ref (a (34 + x5))), (7, .int x7), (8, .int x8)]) hx hb dX11_nearest_63 hl (by decide) rfl (fun ls hl => ?_)
      refine lv_iload hx hb dX11_nearest_65 (lv_at hl 1 rfl) ?_
      refine lv_istore (lv' := [(7, .int r_4), (6, .int x8), (9, .int r_4), (0, .ref (a 0)), (2, .int x2), (3, .int x3), (4, .int x4), (5, .ref (a (34 + x5))), (8, .int x8)]) hx hb dX11_nearest_67 hl (by decide) rfl (fun ls hl => ?_)
      exact kC_nearest_69 X hk35 σ_3 x2 x3 x4 x5 x8 r_4 x8 H locs ls h I (lv_sub hl [3, 4, 5, 6, 7, 1, 0, 8] rfl)
set_option maxRecDepth 100000 in
theorem kC_nearest_35L {p : Program} {l : Launch} {e : Env} {s : State} {m : MethodId} {args : Array Value} {below : List Frame} {meth : Method} {c : Code} {D : va_G} {cy : Nat → ClassId} {a gs : Nat → Nat} (X : cx_ cX11_nearest RX11 wsX11_nearest 10 (some .int) 59 a D cy (xfC gs) p s m args meth c)  {r0 : Int32} {σ' : Sg}  : ∀ (n : Nat), ∀ (σ : Sg) (x2 : Int32) (x3 : Int32) (x4 : Int32) (x5 : Nat) (x6 : Int32) (x7 : Int32) (x8 : Int32) (H : Heap) (locs : List Loc) (ls : Array Slot), lp_ (C_nearest_35) (fun _ _ _ _ _ _ _ _ => none) n σ x2 x3 x4 x5 x6 x7 x8 = some (r0, σ') → iv_ 59 a D (shC cy a σ) s H locs → lv_has ls 10 [(0, .ref (a 0)), (2, .int x2), (3, .int x3), (4, .int x4), (5, .ref (a (34 + x5))), (6, .int x6), (7, .int x7), (8, .int x8)] → W p l e ({ frames := 5, cells := 0, slots := 0, locals := 117 }) s m args below meth c H locs 0 0 (MQ below (qg_ 59 a D (shC cy a σ') (some (.int r0)) s.heap.size) args s 0 0 (fr_ 59 a s.heap.size)) (F0 m 35 ls []) := by
  intro n
  induction n with
  | zero =>
    intro _ _ _ _ _ _ _ _ _ _ _ h
    exact absurd h (fun q => by cases (show (none : Option _) = some _ from q))
  | succ n ih => exact kC_nearest_35 X ih

def C_nearest_0  (σ : Sg) (x1 : Int32) (x2 : Int32) (x3 : Int32) (x4 : Int32) : Option (Int32 × Sg) :=
  bi_ (C1_life_0 σ x1) fun r_3 σ_2 =>
  on_ r_3 (some ((-1 : Int32), σ_2)) fun j_4 =>
  bp_ (C_isPlan_0 x2) fun r_6 =>
  if r_6 = 0 then (some ((-1 : Int32), σ_2))
  else (lp_ C_nearest_35 (fun _ _ _ _ _ _ _ _ => none) FU σ_2 x2 x3 x4 j_4 (0 : Int32) (10000 : Int32) (0 : Int32))
set_option maxRecDepth 100000 in
theorem kC_nearest_0 {p : Program} {l : Launch} {e : Env} {s : State} {m : MethodId} {args : Array Value} {below : List Frame} {meth : Method} {c : Code} {D : va_G} {cy : Nat → ClassId} {a gs : Nat → Nat} (X : cx_ cX11_nearest RX11 wsX11_nearest 10 (some .int) 59 a D cy (xfC gs) p s m args meth c)  {r0 : Int32} {σ' : Sg}  : ∀ (σ : Sg) (x1 : Int32) (x2 : Int32) (x3 : Int32) (x4 : Int32) (H : Heap) (locs : List Loc) (ls : Array Slot), C_nearest_0 σ x1 x2 x3 x4 = some (r0, σ') → iv_ 59 a D (shC cy a σ) s H locs → lv_has ls 10 [(0, .ref (a 0)), (1, .int x1), (2, .int x2), (3, .int x3), (4, .int x4)] → W p l e ({ frames := 5, cells := 0, slots := 0, locals := 117 }) s m args below meth c H locs 0 0 (MQ below (qg_ 59 a D (shC cy a σ') (some (.int r0)) s.heap.size) args s 0 0 (fr_ 59 a s.heap.size)) (F0 m 0 ls []) := by
  obtain ⟨hx, hb, hr, hml, hown, hts, hlk, hK, hA, hXf⟩ := id X
  intro σ x1 x2 x3 x4 H locs ls h I hl
  unfold C_nearest_0 at h
  refine lv_aload_n hx hb dX11_nearest_0 rfl (lv_at hl 0 rfl) ?_
  refine ig_ (index := 30) X I (fun _ q => List.mem_cons_of_mem _ (List.mem_append_left _ (List.mem_append_left _ (List.mem_append_right _ q)))) 0 (by decide) shC_0 rfl 0 (by decide) (by decide +kernel) rfl (v := .ref (a 1)) rfl dX11_nearest_1 ?_
  refine lv_iload_n hx hb dX11_nearest_4 rfl (lv_at hl 1 rfl) ?_
  obtain ⟨r_3, σ_2, hc_1, h⟩ := bi_of h
  refine cg_ (v := va_re (fun j => a (34 + j)) r_3) (rV_ (nn := 1) (As := [.int x1]) (rest := []) X xkC I (c_C1_life hc_1 H.size) gX11_nearest_X1_life rfl ⟨rfl, rfl⟩ (by decide +kernel) ⟨Nat.le_of_ble_eq_true rfl, Nat.le_of_ble_eq_true rfl⟩ (by decide) shC_1 rfl rfl hl.1 rfl (Nat.le_of_ble_eq_true rfl) dX11_nearest_5) I (fun H locs I => ?_)
  rcases r_3 with _ | j_4
  · have h := on_n h
    refine W.eq (g2 := F0 m 8 ls [.null]) rfl ?_
    refine lv_astoreN (lv' := [(5, .null), (0, .ref (a 0)), (1, .int x1), (2, .int x2), (3, .int x3), (4, .int x4)]) hx hb dX11_nearest_8 hl (by decide) rfl (fun ls hl => ?_)
    refine lv_aloadN hx hb dX11_nearest_10 (lv_at hl 0 rfl) ?_
    refine lv_ifnullN (tgt := 22) hx hb dX11_nearest_12 (by decide) ?_
    refine lv_iconst (v := (-1)) hx hb dX11_nearest_22 (by decide) ?_
    obtain ⟨rfl, rfl⟩ := re_s h
    exact rti_ X I dX11_nearest_23
  · have h := on_s h
    refine W.eq (g2 := F0 m 8 ls [.ref (a (34 + j_4))]) rfl ?_
    refine lv_astore (lv' := [(5, .ref (a (34 + j_4))), (0, .ref (a 0)), (1, .int x1), (2, .int x2), (3, .int x3), (4, .int x4)]) hx hb dX11_nearest_8 hl (by decide) rfl (fun ls hl => ?_)
    refine lv_aload hx hb dX11_nearest_10 (lv_at hl 0 rfl) ?_
    refine lv_ifnull hx hb dX11_nearest_12 ?_
    refine lv_iload_n hx hb dX11_nearest_15 rfl (lv_at hl 3 rfl) ?_
    obtain ⟨r_6, hc_5, h⟩ := bp_of h
    refine cp_ (rP_ (nn := 1) (As := [.int x2]) (rest := []) ⟨hx, hb, hml, hown, hts⟩ (c_C_isPlan hc_5) gX11_nearest_X11_isPlan rfl ⟨rfl, rfl⟩ (by decide +kernel) ⟨Nat.le_of_ble_eq_true rfl, Nat.le_of_ble_eq_true rfl⟩ rfl hl.1 rfl (Nat.le_of_ble_eq_true rfl) dX11_nearest_16 ⟨Nat.zero_le _, Nat.zero_le _⟩) ?_
    refine lv_if_ne (tgt := 24) hx hb dX11_nearest_19 (by decide) (fun c_7 => ?_) (fun c_7 => ?_)
    · have h := if_f h c_7
      refine lv_iconst (v := 0) hx hb dX11_nearest_24 (by decide) ?_
      refine lv_istore (lv' := [(6, .int (0 : Int32)), (5, .ref (a (34 + j_4))), (0, .ref (a 0)), (1, .int x1), (2, .int x2), (3, .int x3), (4, .int x4)]) hx hb dX11_nearest_25 hl (by decide) rfl (fun ls hl => ?_)
      refine lv_sipush (v := 10000) hx hb dX11_nearest_27 (by decide) ?_
      refine lv_istore (lv' := [(7, .int (10000 : Int32)), (6, .int (0 : Int32)), (5, .ref (a (34 + j_4))), (0, .ref (a 0)), (1, .int x1), (2, .int x2), (3, .int x3), (4, .int x4)]) hx hb dX11_nearest_30 hl (by decide) rfl (fun ls hl => ?_)
      refine lv_iconst (v := 0) hx hb dX11_nearest_32 (by decide) ?_
      refine lv_istore (lv' := [(8, .int (0 : Int32)), (7, .int (10000 : Int32)), (6, .int (0 : Int32)), (5, .ref (a (34 + j_4))), (0, .ref (a 0)), (1, .int x1), (2, .int x2), (3, .int x3), (4, .int x4)]) hx hb dX11_nearest_33 hl (by decide) rfl (fun ls hl => ?_)
      exact kC_nearest_35L X  FU σ_2 x2 x3 x4 j_4 (0 : Int32) (10000 : Int32) (0 : Int32) H locs ls h I (lv_sub hl [4, 6, 7, 8, 3, 2, 1, 0] rfl)
    · have h := if_t h c_7
      refine lv_iconst (v := (-1)) hx hb dX11_nearest_22 (by decide) ?_
      obtain ⟨rfl, rfl⟩ := re_s h
      exact rti_ X I dX11_nearest_23
theorem c_C_nearest {l : Launch} {D : va_G} {cy : Nat → ClassId} {a gs : Nat → Nat} {σ : Sg} {x1 : Int32} {x2 : Int32} {x3 : Int32} {x4 : Int32} {r0 : Int32} {σ' : Sg} (h : C_nearest_0 σ x1 x2 x3 x4 = some (r0, σ')) (sz : Nat) : Met l yX11_nearest wsX11_nearest ({ frames := 5, cells := 0, slots := 0, locals := 117 }) (va_Pc [.ref (a 0), .int x1, .int x2, .int x3, .int x4] (pr_ 59 a D cy (shC cy a σ) (xfC gs) sz)) (qg_ 59 a D (shC cy a σ') (some (.int r0)) sz) 0 0 (fr_ 59 a sz) := by
  refine ent_ (by decide) rfl (Nat.le_of_ble_eq_true rfl) ?_
  intro p e s m below meth c ls hsz X I hl
  subst hsz
  exact kC_nearest_0 X σ x1 x2 x3 x4 s.heap [] ls h I hl

def C_swearFor_0  (σ : Sg) (x1 : Int32) (x2 : Int32) : Option (Int32 × Sg) :=
  bi_ (C_nearest_0 σ x1 x2 (5 : Int32) (7 : Int32)) fun r_3 σ_2 =>
  some (r_3, σ_2)
set_option maxRecDepth 100000 in
theorem kC_swearFor_0 {p : Program} {l : Launch} {e : Env} {s : State} {m : MethodId} {args : Array Value} {below : List Frame} {meth : Method} {c : Code} {D : va_G} {cy : Nat → ClassId} {a gs : Nat → Nat} (X : cx_ cX11_swearFor RX11 wsX11_swearFor 3 (some .int) 59 a D cy (xfC gs) p s m args meth c)  {r0 : Int32} {σ' : Sg}  : ∀ (σ : Sg) (x1 : Int32) (x2 : Int32) (H : Heap) (locs : List Loc) (ls : Array Slot), C_swearFor_0 σ x1 x2 = some (r0, σ') → iv_ 59 a D (shC cy a σ) s H locs → lv_has ls 3 [(0, .ref (a 0)), (1, .int x1), (2, .int x2)] → W p l e ({ frames := 6, cells := 0, slots := 0, locals := 146 }) s m args below meth c H locs 0 0 (MQ below (qg_ 59 a D (shC cy a σ') (some (.int r0)) s.heap.size) args s 0 0 (fr_ 59 a s.heap.size)) (F0 m 0 ls []) := by
  obtain ⟨hx, hb, hr, hml, hown, hts, hlk, hK, hA, hXf⟩ := id X
  intro σ x1 x2 H locs ls h I hl
  unfold C_swearFor_0 at h
  refine lv_aload_n hx hb dX11_swearFor_0 rfl (lv_at hl 0 rfl) ?_
  refine lv_iload_n hx hb dX11_swearFor_1 rfl (lv_at hl 1 rfl) ?_
  refine lv_iload_n hx hb dX11_swearFor_2 rfl (lv_at hl 2 rfl) ?_
  refine lv_iconst (v := 5) hx hb dX11_swearFor_3 (by decide) ?_
  refine lv_bipush (v := 7) hx hb dX11_swearFor_4 (by decide) ?_
  obtain ⟨r_3, σ_2, hc_1, h⟩ := bi_of h
  refine cg_ (v := .int r_3) (rV_ (nn := 4) (As := [.int x1, .int x2, .int (5 : Int32), .int (7 : Int32)]) (rest := []) X xkC I (c_C_nearest hc_1 H.size) gX11_swearFor_X11_nearest rfl ⟨rfl, rfl⟩ (by decide +kernel) ⟨Nat.le_of_ble_eq_true rfl, Nat.le_of_ble_eq_true rfl⟩ (by decide) shC_0 rfl rfl hl.1 rfl (Nat.le_of_ble_eq_true rfl) dX11_swearFor_6) I (fun H locs I => ?_)
  obtain ⟨rfl, rfl⟩ := re_s h
  exact rti_ X I dX11_swearFor_9
theorem c_C_swearFor {l : Launch} {D : va_G} {cy : Nat → ClassId} {a gs : Nat → Nat} {σ : Sg} {x1 : Int32} {x2 : Int32} {r0 : Int32} {σ' : Sg} (h : C_swearFor_0 σ x1 x2 = some (r0, σ')) (sz : Nat) : Met l yX11_swearFor wsX11_swearFor ({ frames := 6, cells := 0, slots := 0, locals := 146 }) (va_Pc [.ref (a 0), .int x1, .int x2] (pr_ 59 a D cy (shC cy a σ) (xfC gs) sz)) (qg_ 59 a D (shC cy a σ') (some (.int r0)) sz) 0 0 (fr_ 59 a sz) := by
  refine ent_ (by decide) rfl (Nat.le_of_ble_eq_true rfl) ?_
  intro p e s m below meth c ls hsz X I hl
  subst hsz
  exact kC_swearFor_0 X σ x1 x2 s.heap [] ls h I hl

def C_kindFor_0  (σ : Sg) (x1 : Int32) (x2 : Int32) : Option (Int32 × Sg) :=
  bi_ (C_nearest_0 σ x1 x2 (0 : Int32) (5 : Int32)) fun r_3 σ_2 =>
  some (r_3, σ_2)
set_option maxRecDepth 100000 in
theorem kC_kindFor_0 {p : Program} {l : Launch} {e : Env} {s : State} {m : MethodId} {args : Array Value} {below : List Frame} {meth : Method} {c : Code} {D : va_G} {cy : Nat → ClassId} {a gs : Nat → Nat} (X : cx_ cX11_kindFor RX11 wsX11_kindFor 3 (some .int) 59 a D cy (xfC gs) p s m args meth c)  {r0 : Int32} {σ' : Sg}  : ∀ (σ : Sg) (x1 : Int32) (x2 : Int32) (H : Heap) (locs : List Loc) (ls : Array Slot), C_kindFor_0 σ x1 x2 = some (r0, σ') → iv_ 59 a D (shC cy a σ) s H locs → lv_has ls 3 [(0, .ref (a 0)), (1, .int x1), (2, .int x2)] → W p l e ({ frames := 6, cells := 0, slots := 0, locals := 146 }) s m args below meth c H locs 0 0 (MQ below (qg_ 59 a D (shC cy a σ') (some (.int r0)) s.heap.size) args s 0 0 (fr_ 59 a s.heap.size)) (F0 m 0 ls []) := by
  obtain ⟨hx, hb, hr, hml, hown, hts, hlk, hK, hA, hXf⟩ := id X
  intro σ x1 x2 H locs ls h I hl
  unfold C_kindFor_0 at h
  refine lv_aload_n hx hb dX11_kindFor_0 rfl (lv_at hl 0 rfl) ?_
  refine lv_iload_n hx hb dX11_kindFor_1 rfl (lv_at hl 1 rfl) ?_
  refine lv_iload_n hx hb dX11_kindFor_2 rfl (lv_at hl 2 rfl) ?_
  refine lv_iconst (v := 0) hx hb dX11_kindFor_3 (by decide) ?_
  refine lv_iconst (v := 5) hx hb dX11_kindFor_4 (by decide) ?_
  obtain ⟨r_3, σ_2, hc_1, h⟩ := bi_of h
  refine cg_ (v := .int r_3) (rV_ (nn := 4) (As := [.int x1, .int x2, .int (0 : Int32), .int (5 : Int32)]) (rest := []) X xkC I (c_C_nearest hc_1 H.size) gX11_kindFor_X11_nearest rfl ⟨rfl, rfl⟩ (by decide +kernel) ⟨Nat.le_of_ble_eq_true rfl, Nat.le_of_ble_eq_true rfl⟩ (by decide) shC_0 rfl rfl hl.1 rfl (Nat.le_of_ble_eq_true rfl) dX11_kindFor_5) I (fun H locs I => ?_)
  obtain ⟨rfl, rfl⟩ := re_s h
  exact rti_ X I dX11_kindFor_8
theorem c_C_kindFor {l : Launch} {D : va_G} {cy : Nat → ClassId} {a gs : Nat → Nat} {σ : Sg} {x1 : Int32} {x2 : Int32} {r0 : Int32} {σ' : Sg} (h : C_kindFor_0 σ x1 x2 = some (r0, σ')) (sz : Nat) : Met l yX11_kindFor wsX11_kindFor ({ frames := 6, cells := 0, slots := 0, locals := 146 }) (va_Pc [.ref (a 0), .int x1, .int x2] (pr_ 59 a D cy (shC cy a σ) (xfC gs) sz)) (qg_ 59 a D (shC cy a σ') (some (.int r0)) sz) 0 0 (fr_ 59 a sz) := by
  refine ent_ (by decide) rfl (Nat.le_of_ble_eq_true rfl) ?_
  intro p e s m below meth c ls hsz X I hl
  subst hsz
  exact kC_kindFor_0 X σ x1 x2 s.heap [] ls h I hl

def C_fireFor_0  (σ : Sg) (x1 : Int32) (x2 : Int32) : Option (Int32 × Sg) :=
  bi_ (C_nearest_0 σ x1 x2 (2 : Int32) (9 : Int32)) fun r_3 σ_2 =>
  some (r_3, σ_2)
set_option maxRecDepth 100000 in
theorem kC_fireFor_0 {p : Program} {l : Launch} {e : Env} {s : State} {m : MethodId} {args : Array Value} {below : List Frame} {meth : Method} {c : Code} {D : va_G} {cy : Nat → ClassId} {a gs : Nat → Nat} (X : cx_ cX11_fireFor RX11 wsX11_fireFor 3 (some .int) 59 a D cy (xfC gs) p s m args meth c)  {r0 : Int32} {σ' : Sg}  : ∀ (σ : Sg) (x1 : Int32) (x2 : Int32) (H : Heap) (locs : List Loc) (ls : Array Slot), C_fireFor_0 σ x1 x2 = some (r0, σ') → iv_ 59 a D (shC cy a σ) s H locs → lv_has ls 3 [(0, .ref (a 0)), (1, .int x1), (2, .int x2)] → W p l e ({ frames := 6, cells := 0, slots := 0, locals := 146 }) s m args below meth c H locs 0 0 (MQ below (qg_ 59 a D (shC cy a σ') (some (.int r0)) s.heap.size) args s 0 0 (fr_ 59 a s.heap.size)) (F0 m 0 ls []) := by
  obtain ⟨hx, hb, hr, hml, hown, hts, hlk, hK, hA, hXf⟩ := id X
  intro σ x1 x2 H locs ls h I hl
  unfold C_fireFor_0 at h
  refine lv_aload_n hx hb dX11_fireFor_0 rfl (lv_at hl 0 rfl) ?_
  refine lv_iload_n hx hb dX11_fireFor_1 rfl (lv_at hl 1 rfl) ?_
  refine lv_iload_n hx hb dX11_fireFor_2 rfl (lv_at hl 2 rfl) ?_
  refine lv_iconst (v := 2) hx hb dX11_fireFor_3 (by decide) ?_
  refine lv_bipush (v := 9) hx hb dX11_fireFor_4 (by decide) ?_
  obtain ⟨r_3, σ_2, hc_1, h⟩ := bi_of h
  refine cg_ (v := .int r_3) (rV_ (nn := 4) (As := [.int x1, .int x2, .int (2 : Int32), .int (9 : Int32)]) (rest := []) X xkC I (c_C_nearest hc_1 H.size) gX11_fireFor_X11_nearest rfl ⟨rfl, rfl⟩ (by decide +kernel) ⟨Nat.le_of_ble_eq_true rfl, Nat.le_of_ble_eq_true rfl⟩ (by decide) shC_0 rfl rfl hl.1 rfl (Nat.le_of_ble_eq_true rfl) dX11_fireFor_6) I (fun H locs I => ?_)
  obtain ⟨rfl, rfl⟩ := re_s h
  exact rti_ X I dX11_fireFor_9
theorem c_C_fireFor {l : Launch} {D : va_G} {cy : Nat → ClassId} {a gs : Nat → Nat} {σ : Sg} {x1 : Int32} {x2 : Int32} {r0 : Int32} {σ' : Sg} (h : C_fireFor_0 σ x1 x2 = some (r0, σ')) (sz : Nat) : Met l yX11_fireFor wsX11_fireFor ({ frames := 6, cells := 0, slots := 0, locals := 146 }) (va_Pc [.ref (a 0), .int x1, .int x2] (pr_ 59 a D cy (shC cy a σ) (xfC gs) sz)) (qg_ 59 a D (shC cy a σ') (some (.int r0)) sz) 0 0 (fr_ 59 a sz) := by
  refine ent_ (by decide) rfl (Nat.le_of_ble_eq_true rfl) ?_
  intro p e s m below meth c ls hsz X I hl
  subst hsz
  exact kC_fireFor_0 X σ x1 x2 s.heap [] ls h I hl

def C_fillFars_43 (k2 : Sg → Int32 → Int32 → Option (Unit × Sg)) (σ : Sg) (x1 : Int32) (x2 : Int32) : Option (Unit × Sg) :=
  lt_ (x2 + (1 : Int32)) fun y_1 =>
  k2 σ x1 y_1
set_option maxRecDepth 100000 in
theorem kC_fillFars_43 {p : Program} {l : Launch} {e : Env} {s : State} {m : MethodId} {args : Array Value} {below : List Frame} {meth : Method} {c : Code} {D : va_G} {cy : Nat → ClassId} {a gs : Nat → Nat} (X : cx_ cX11_fillFars RX11 wsX11_fillFars 4 none 59 a D cy (xfC gs) p s m args meth c) {k2 : Sg → Int32 → Int32 → Option (Unit × Sg)}  {σ' : Sg} (hk2 : ∀ (σ : Sg) (x1 : Int32) (x2 : Int32) (H : Heap) (locs : List Loc) (ls : Array Slot), k2 σ x1 x2 = some ((), σ') → iv_ 59 a D (shC cy a σ) s H locs → lv_has ls 4 [(0, .ref (a 0)), (1, .int x1), (2, .int x2)] → W p l e ({ frames := 6, cells := 0, slots := 0, locals := 140 }) s m args below meth c H locs 0 0 (MQ below (qg_ 59 a D (shC cy a σ') none s.heap.size) args s 0 0 (fr_ 59 a s.heap.size)) (F0 m 2 ls [])) : ∀ (σ : Sg) (x1 : Int32) (x2 : Int32) (H : Heap) (locs : List Loc) (ls : Array Slot), C_fillFars_43 k2 σ x1 x2 = some ((), σ') → iv_ 59 a D (shC cy a σ) s H locs → lv_has ls 4 [(0, .ref (a 0)), (1, .int x1), (2, .int x2)] → W p l e ({ frames := 6, cells := 0, slots := 0, locals := 140 }) s m args below meth c H locs 0 0 (MQ below (qg_ 59 a D (shC cy a σ') none s.heap.size) args s 0 0 (fr_ 59 a s.heap.size)) (F0 m 43 ls []) := by
  obtain ⟨hx, hb, hr, hml, hown, hts, hlk, hK, hA, hXf⟩ := id X
  intro σ x1 x2 H locs ls h I hl
  unfold C_fillFars_43 at h
  obtain ⟨y_1, e_2⟩ : ∃ q : Int32, q = x2 + (1 : Int32) := ⟨_, rfl⟩
  have h := lt_at h e_2
  refine lv_iinc (v := y_1) (lv' := [(2, .int y_1), (0, .ref (a 0)), (1, .int x1)]) hx hb dX11_fillFars_43 hl (k := 2) rfl (by rw [e_2]; rfl) (by decide) rfl (fun ls hl => ?_)
  refine lv_goto (tgt := 2) hx hb dX11_fillFars_46 (by decide) ?_
  exact hk2 σ x1 y_1 H locs ls h I (lv_sub hl [1, 2, 0] rfl)
def C_fillFars_2 (k2 : Sg → Int32 → Int32 → Option (Unit × Sg)) (σ : Sg) (x1 : Int32) (x2 : Int32) : Option (Unit × Sg) :=
  if (64 : Int32) ≤ x2 then (some ((), σ))
  else (bi_ (C1_life_0 σ (x2 / (8 : Int32))) fun r_4 σ_3 =>
  on_ r_4 (C_fillFars_43 k2 σ_3 x1 x2) fun j_5 =>
  bi_ (C_farSworn_0 σ_3 j_5 (x2 - x2 / (8 : Int32) * (8 : Int32)) x1) fun r_8 σ_7 =>
  gd_ (in_ x2 64) (
  lt_ (wr_ σ_7 32 x2.toNatClampNeg r_8) fun σ_9 =>
  C_fillFars_43 k2 σ_9 x1 x2))
set_option maxRecDepth 100000 in
theorem kC_fillFars_2 {p : Program} {l : Launch} {e : Env} {s : State} {m : MethodId} {args : Array Value} {below : List Frame} {meth : Method} {c : Code} {D : va_G} {cy : Nat → ClassId} {a gs : Nat → Nat} (X : cx_ cX11_fillFars RX11 wsX11_fillFars 4 none 59 a D cy (xfC gs) p s m args meth c) {k2 : Sg → Int32 → Int32 → Option (Unit × Sg)}  {σ' : Sg} (hk2 : ∀ (σ : Sg) (x1 : Int32) (x2 : Int32) (H : Heap) (locs : List Loc) (ls : Array Slot), k2 σ x1 x2 = some ((), σ') → iv_ 59 a D (shC cy a σ) s H locs → lv_has ls 4 [(0, .ref (a 0)), (1, .int x1), (2, .int x2)] → W p l e ({ frames := 6, cells := 0, slots := 0, locals := 140 }) s m args below meth c H locs 0 0 (MQ below (qg_ 59 a D (shC cy a σ') none s.heap.size) args s 0 0 (fr_ 59 a s.heap.size)) (F0 m 2 ls [])) : ∀ (σ : Sg) (x1 : Int32) (x2 : Int32) (H : Heap) (locs : List Loc) (ls : Array Slot), C_fillFars_2 k2 σ x1 x2 = some ((), σ') → iv_ 59 a D (shC cy a σ) s H locs → lv_has ls 4 [(0, .ref (a 0)), (1, .int x1), (2, .int x2)] → W p l e ({ frames := 6, cells := 0, slots := 0, locals := 140 }) s m args below meth c H locs 0 0 (MQ below (qg_ 59 a D (shC cy a σ') none s.heap.size) args s 0 0 (fr_ 59 a s.heap.size)) (F0 m 2 ls []) := by
  obtain ⟨hx, hb, hr, hml, hown, hts, hlk, hK, hA, hXf⟩ := id X
  intro σ x1 x2 H locs ls h I hl
  unfold C_fillFars_2 at h
  refine lv_iload_n hx hb dX11_fillFars_2 rfl (lv_at hl 2 rfl) ?_
  refine lv_aload_n hx hb dX11_fillFars_3 rfl (lv_at hl 0 rfl) ?_
  refine ig_ (index := 74) X I (fun _ q => List.mem_cons_of_mem _ (List.mem_append_left _ (List.mem_append_left _ (List.mem_append_right _ q)))) 0 (by decide) shC_0 rfl 8 (by decide) (by decide +kernel) rfl (v := .ref (a 32)) rfl dX11_fillFars_4 ?_
  refine an_ X I 32 (by decide) shC_32 (v0 := 64) (by decide) dX11_fillFars_7 ?_
  refine lv_icmp_ge (tgt := 49) hx hb dX11_fillFars_8 (by decide) (fun c_1 => ?_) (fun c_1 => ?_)
  · have h := if_t h c_1
    obtain rfl := re_v h
    exact rtv_ X I dX11_fillFars_49
  · have h := if_f h c_1
    refine lv_aload_n hx hb dX11_fillFars_11 rfl (lv_at hl 0 rfl) ?_
    refine ig_ (index := 30) X I (fun _ q => List.mem_cons_of_mem _ (List.mem_append_left _ (List.mem_append_left _ (List.mem_append_right _ q)))) 0 (by decide) shC_0 rfl 0 (by decide) (by decide +kernel) rfl (v := .ref (a 1)) rfl dX11_fillFars_12 ?_
    refine lv_iload_n hx hb dX11_fillFars_15 rfl (lv_at hl 2 rfl) ?_
    refine lv_bipush (v := 8) hx hb dX11_fillFars_16 (by decide) ?_
    refine lv_idiv hx hb dX11_fillFars_18 (by decide) ?_
    obtain ⟨r_4, σ_3, hc_2, h⟩ := bi_of h
    refine cg_ (v := va_re (fun j => a (34 + j)) r_4) (rV_ (nn := 1) (As := [.int (x2 / (8 : Int32))]) (rest := []) X xkC I (c_C1_life hc_2 H.size) gX11_fillFars_X1_life rfl ⟨rfl, rfl⟩ (by decide +kernel) ⟨Nat.le_of_ble_eq_true rfl, Nat.le_of_ble_eq_true rfl⟩ (by decide) shC_1 rfl rfl hl.1 rfl (Nat.le_of_ble_eq_true rfl) dX11_fillFars_19) I (fun H locs I => ?_)
    rcases r_4 with _ | j_5
    · have h := on_n h
      refine W.eq (g2 := F0 m 22 ls [.null]) rfl ?_
      refine lv_astore_nN (lv' := [(3, .null), (0, .ref (a 0)), (1, .int x1), (2, .int x2)]) hx hb dX11_fillFars_22 rfl hl (by decide) rfl (fun ls hl => ?_)
      refine lv_aload_nN hx hb dX11_fillFars_23 rfl (lv_at hl 0 rfl) ?_
      refine lv_ifnullN (tgt := 43) hx hb dX11_fillFars_24 (by decide) ?_
      exact kC_fillFars_43 X hk2 σ_3 x1 x2 H locs ls h I (lv_sub hl [1, 2, 3] rfl)
    · have h := on_s h
      refine W.eq (g2 := F0 m 22 ls [.ref (a (34 + j_5))]) rfl ?_
      refine lv_astore_n (lv' := [(3, .ref (a (34 + j_5))), (0, .ref (a 0)), (1, .int x1), (2, .int x2)]) hx hb dX11_fillFars_22 rfl hl (by decide) rfl (fun ls hl => ?_)
      refine lv_aload_n hx hb dX11_fillFars_23 rfl (lv_at hl 0 rfl) ?_
      refine lv_ifnull hx hb dX11_fillFars_24 ?_
      refine lv_aload_n hx hb dX11_fillFars_27 rfl (lv_at hl 1 rfl) ?_
      refine ig_ (index := 74) X I (fun _ q => List.mem_cons_of_mem _ (List.mem_append_left _ (List.mem_append_left _ (List.mem_append_right _ q)))) 0 (by decide) shC_0 rfl 8 (by decide) (by decide +kernel) rfl (v := .ref (a 32)) rfl dX11_fillFars_28 ?_
      refine lv_iload_n hx hb dX11_fillFars_31 rfl (lv_at hl 3 rfl) ?_
      refine lv_aload_n hx hb dX11_fillFars_32 rfl (lv_at hl 1 rfl) ?_
      refine lv_aload_n hx hb dX11_fillFars_33 rfl (lv_at hl 0 rfl) ?_
      refine lv_iload_n hx hb dX11_fillFars_34 rfl (lv_at hl 3 rfl) ?_
      refine lv_bipush (v := 8) hx hb dX11_fillFars_35 (by decide) ?_
      refine lv_irem hx hb dX11_fillFars_37 (by decide) ?_
      refine lv_iload_n hx hb dX11_fillFars_38 rfl (lv_at hl 2 rfl) ?_
      obtain ⟨r_8, σ_7, hc_6, h⟩ := bi_of h
      refine cg_ (v := .int r_8) (rV_ (nn := 3) (As := [.ref (a (34 + j_5)), .int (x2 - x2 / (8 : Int32) * (8 : Int32)), .int x1]) (rest := [.int x2, .ref (a 32)]) X xkC I (c_C_farSworn hc_6 H.size) gX11_fillFars_X11_farSworn rfl ⟨rfl, rfl⟩ (by decide +kernel) ⟨Nat.le_of_ble_eq_true rfl, Nat.le_of_ble_eq_true rfl⟩ (by decide) shC_0 rfl rfl hl.1 rfl (Nat.le_of_ble_eq_true rfl) dX11_fillFars_39) I (fun H locs I => ?_)
      obtain ⟨g_11, h⟩ := gd_of h
      refine is_ (σ2 := wr_ σ_7 32 x2.toNatClampNeg r_8) X I 32 (by decide) shC_32 (in_of g_11) shC_st_32 dX11_fillFars_42 (fun σ_9 H locs e_10 I => ?_)
      have h := lt_at h e_10
      exact kC_fillFars_43 X hk2 σ_9 x1 x2 H locs ls h I (lv_sub hl [1, 2, 3] rfl)
set_option maxRecDepth 100000 in
theorem kC_fillFars_2L {p : Program} {l : Launch} {e : Env} {s : State} {m : MethodId} {args : Array Value} {below : List Frame} {meth : Method} {c : Code} {D : va_G} {cy : Nat → ClassId} {a gs : Nat → Nat} (X : cx_ cX11_fillFars RX11 wsX11_fillFars 4 none 59 a D cy (xfC gs) p s m args meth c)   {σ' : Sg}  : ∀ (n : Nat), ∀ (σ : Sg) (x1 : Int32) (x2 : Int32) (H : Heap) (locs : List Loc) (ls : Array Slot), lp_ (C_fillFars_2) (fun _ _ _ => none) n σ x1 x2 = some ((), σ') → iv_ 59 a D (shC cy a σ) s H locs → lv_has ls 4 [(0, .ref (a 0)), (1, .int x1), (2, .int x2)] → W p l e ({ frames := 6, cells := 0, slots := 0, locals := 140 }) s m args below meth c H locs 0 0 (MQ below (qg_ 59 a D (shC cy a σ') none s.heap.size) args s 0 0 (fr_ 59 a s.heap.size)) (F0 m 2 ls []) := by
  intro n
  induction n with
  | zero =>
    intro _ _ _ _ _ _ h
    exact absurd h (fun q => by cases (show (none : Option _) = some _ from q))
  | succ n ih => exact kC_fillFars_2 X ih

def C_fillFars_0  (σ : Sg) (x1 : Int32) : Option (Unit × Sg) :=
  lp_ C_fillFars_2 (fun _ _ _ => none) FU σ x1 (0 : Int32)
set_option maxRecDepth 100000 in
theorem kC_fillFars_0 {p : Program} {l : Launch} {e : Env} {s : State} {m : MethodId} {args : Array Value} {below : List Frame} {meth : Method} {c : Code} {D : va_G} {cy : Nat → ClassId} {a gs : Nat → Nat} (X : cx_ cX11_fillFars RX11 wsX11_fillFars 4 none 59 a D cy (xfC gs) p s m args meth c)   {σ' : Sg}  : ∀ (σ : Sg) (x1 : Int32) (H : Heap) (locs : List Loc) (ls : Array Slot), C_fillFars_0 σ x1 = some ((), σ') → iv_ 59 a D (shC cy a σ) s H locs → lv_has ls 4 [(0, .ref (a 0)), (1, .int x1)] → W p l e ({ frames := 6, cells := 0, slots := 0, locals := 140 }) s m args below meth c H locs 0 0 (MQ below (qg_ 59 a D (shC cy a σ') none s.heap.size) args s 0 0 (fr_ 59 a s.heap.size)) (F0 m 0 ls []) := by
  obtain ⟨hx, hb, hr, hml, hown, hts, hlk, hK, hA, hXf⟩ := id X
  intro σ x1 H locs ls h I hl
  unfold C_fillFars_0 at h
  refine lv_iconst (v := 0) hx hb dX11_fillFars_0 (by decide) ?_
  refine lv_istore_n (lv' := [(2, .int (0 : Int32)), (0, .ref (a 0)), (1, .int x1)]) hx hb dX11_fillFars_1 rfl hl (by decide) rfl (fun ls hl => ?_)
  exact kC_fillFars_2L X  FU σ x1 (0 : Int32) H locs ls h I (lv_sub hl [1, 2, 0] rfl)
theorem c_C_fillFars {l : Launch} {D : va_G} {cy : Nat → ClassId} {a gs : Nat → Nat} {σ : Sg} {x1 : Int32}  {σ' : Sg} (h : C_fillFars_0 σ x1 = some ((), σ')) (sz : Nat) : Met l yX11_fillFars wsX11_fillFars ({ frames := 6, cells := 0, slots := 0, locals := 140 }) (va_Pc [.ref (a 0), .int x1] (pr_ 59 a D cy (shC cy a σ) (xfC gs) sz)) (qg_ 59 a D (shC cy a σ') none sz) 0 0 (fr_ 59 a sz) := by
  refine ent_ (by decide) rfl (Nat.le_of_ble_eq_true rfl) ?_
  intro p e s m below meth c ls hsz X I hl
  subst hsz
  exact kC_fillFars_0 X σ x1 s.heap [] ls h I hl

def CJ6_bitCount_0  (x0 : Int32) : Option Int32 :=
  lt_ ((x0 - (((x0.toUInt32 >>> ((1 : Int32).toUInt32 &&& Int32.toUInt32 31)).toInt32) &&& (1431655765 : Int32)))) fun y_1 =>
  lt_ (((y_1 &&& (858993459 : Int32)) + (((y_1.toUInt32 >>> ((2 : Int32).toUInt32 &&& Int32.toUInt32 31)).toInt32) &&& (858993459 : Int32)))) fun y_3 =>
  lt_ (((y_3 + ((y_3.toUInt32 >>> ((4 : Int32).toUInt32 &&& Int32.toUInt32 31)).toInt32)) &&& (252645135 : Int32))) fun y_5 =>
  lt_ ((y_5 + ((y_5.toUInt32 >>> ((8 : Int32).toUInt32 &&& Int32.toUInt32 31)).toInt32))) fun y_7 =>
  lt_ ((y_7 + ((y_7.toUInt32 >>> ((16 : Int32).toUInt32 &&& Int32.toUInt32 31)).toInt32))) fun y_9 =>
  some ((y_9 &&& (63 : Int32)))
set_option maxRecDepth 100000 in
theorem kCJ6_bitCount_0 {p : Program} {l : Launch} {e : Env} {s : State} {m : MethodId} {args : Array Value} {below : List Frame} {meth : Method} {c : Code} (X : px_ cJ6_bitCount_0f7a4 RJ6 wsJ6_bitCount_0f7a4 1 (some .int) p s m args meth c)  {r0 : Int32}  : ∀ (x0 : Int32) (ls : Array Slot), CJ6_bitCount_0 x0 = some r0 → lv_has ls 1 [(0, .int x0)] → W p l e ({ frames := 0, cells := 0, slots := 0, locals := 0 }) s m args below meth c s.heap [] 0 0 (MQ below (qp_ (some (.int r0))) args s 0 0 (fun _ => False)) (F0 m 0 ls []) := by
  obtain ⟨hx, hb, hr, hml, hown, hts, hlk⟩ := id X
  intro x0 ls h hl
  unfold CJ6_bitCount_0 at h
  refine lv_iload_n hx hb dJ6_bitCount_0f7a4_0 rfl (lv_at hl 0 rfl) ?_
  refine lv_iload_n hx hb dJ6_bitCount_0f7a4_1 rfl (lv_at hl 0 rfl) ?_
  refine lv_iconst (v := 1) hx hb dJ6_bitCount_0f7a4_2 (by decide) ?_
  refine lv_iushr hx hb dJ6_bitCount_0f7a4_3 rfl ?_
  refine lv_ldcw (v := 1431655765) hx hb hown (hts (.constant RJ6 265 (1431655765)) (by decide +kernel)) dJ6_bitCount_0f7a4_4 ?_
  refine lv_iand hx hb dJ6_bitCount_0f7a4_7 ?_
  refine lv_isub hx hb dJ6_bitCount_0f7a4_8 ?_
  refine lv_topi (fun y_1 e_2 => ?_)
  have h := lt_at h e_2
  refine lv_istore_n (lv' := [(0, .int y_1)]) hx hb dJ6_bitCount_0f7a4_9 rfl hl (by decide) rfl (fun ls hl => ?_)
  refine lv_iload_n hx hb dJ6_bitCount_0f7a4_10 rfl (lv_at hl 0 rfl) ?_
  refine lv_ldcw (v := 858993459) hx hb hown (hts (.constant RJ6 266 (858993459)) (by decide +kernel)) dJ6_bitCount_0f7a4_11 ?_
  refine lv_iand hx hb dJ6_bitCount_0f7a4_14 ?_
  refine lv_iload_n hx hb dJ6_bitCount_0f7a4_15 rfl (lv_at hl 0 rfl) ?_
  refine lv_iconst (v := 2) hx hb dJ6_bitCount_0f7a4_16 (by decide) ?_
  refine lv_iushr hx hb dJ6_bitCount_0f7a4_17 rfl ?_
  refine lv_ldcw (v := 858993459) hx hb hown (hts (.constant RJ6 266 (858993459)) (by decide +kernel)) dJ6_bitCount_0f7a4_18 ?_
  refine lv_iand hx hb dJ6_bitCount_0f7a4_21 ?_
  refine lv_iadd hx hb dJ6_bitCount_0f7a4_22 ?_
  refine lv_topi (fun y_3 e_4 => ?_)
  have h := lt_at h e_4
  refine lv_istore_n (lv' := [(0, .int y_3)]) hx hb dJ6_bitCount_0f7a4_23 rfl hl (by decide) rfl (fun ls hl => ?_)
  refine lv_iload_n hx hb dJ6_bitCount_0f7a4_24 rfl (lv_at hl 0 rfl) ?_
  refine lv_iload_n hx hb dJ6_bitCount_0f7a4_25 rfl (lv_at hl 0 rfl) ?_
  refine lv_iconst (v := 4) hx hb dJ6_bitCount_0f7a4_26 (by decide) ?_
  refine lv_iushr hx hb dJ6_bitCount_0f7a4_27 rfl ?_
  refine lv_iadd hx hb dJ6_bitCount_0f7a4_28 ?_
  refine lv_ldcw (v := 252645135) hx hb hown (hts (.constant RJ6 267 (252645135)) (by decide +kernel)) dJ6_bitCount_0f7a4_29 ?_
  refine lv_iand hx hb dJ6_bitCount_0f7a4_32 ?_
  refine lv_topi (fun y_5 e_6 => ?_)
  have h := lt_at h e_6
  refine lv_istore_n (lv' := [(0, .int y_5)]) hx hb dJ6_bitCount_0f7a4_33 rfl hl (by decide) rfl (fun ls hl => ?_)
  refine lv_iload_n hx hb dJ6_bitCount_0f7a4_34 rfl (lv_at hl 0 rfl) ?_
  refine lv_iload_n hx hb dJ6_bitCount_0f7a4_35 rfl (lv_at hl 0 rfl) ?_
  refine lv_bipush (v := 8) hx hb dJ6_bitCount_0f7a4_36 (by decide) ?_
  refine lv_iushr hx hb dJ6_bitCount_0f7a4_38 rfl ?_
  refine lv_iadd hx hb dJ6_bitCount_0f7a4_39 ?_
  refine lv_topi (fun y_7 e_8 => ?_)
  have h := lt_at h e_8
  refine lv_istore_n (lv' := [(0, .int y_7)]) hx hb dJ6_bitCount_0f7a4_40 rfl hl (by decide) rfl (fun ls hl => ?_)
  refine lv_iload_n hx hb dJ6_bitCount_0f7a4_41 rfl (lv_at hl 0 rfl) ?_
  refine lv_iload_n hx hb dJ6_bitCount_0f7a4_42 rfl (lv_at hl 0 rfl) ?_
  refine lv_bipush (v := 16) hx hb dJ6_bitCount_0f7a4_43 (by decide) ?_
  refine lv_iushr hx hb dJ6_bitCount_0f7a4_45 rfl ?_
  refine lv_iadd hx hb dJ6_bitCount_0f7a4_46 ?_
  refine lv_topi (fun y_9 e_10 => ?_)
  have h := lt_at h e_10
  refine lv_istore_n (lv' := [(0, .int y_9)]) hx hb dJ6_bitCount_0f7a4_47 rfl hl (by decide) rfl (fun ls hl => ?_)
  refine lv_iload_n hx hb dJ6_bitCount_0f7a4_48 rfl (lv_at hl 0 rfl) ?_
  refine lv_bipush (v := 63) hx hb dJ6_bitCount_0f7a4_49 (by decide) ?_
  refine lv_iand hx hb dJ6_bitCount_0f7a4_51 ?_
  obtain rfl := re_p h
  exact rpi_ X dJ6_bitCount_0f7a4_52
theorem c_CJ6_bitCount {l : Launch} {x0 : Int32} {r0 : Int32} (h : CJ6_bitCount_0 x0 = some r0) : Met l yJ6_bitCount_0f7a4 wsJ6_bitCount_0f7a4 ({ frames := 0, cells := 0, slots := 0, locals := 0 }) (pp_ [.int x0]) (qp_ (some (.int r0))) 0 0 (fun _ => False) := by
  refine enp_ (by decide) rfl (Nat.le_of_ble_eq_true rfl) ?_
  intro p e s m below meth c ls X hl
  exact kCJ6_bitCount_0 X x0 ls h hl

def C_farAt_0  (σ : Sg) (x1 : Int32) (x2 : Int32) : Option (Int32 × Sg) :=
  lt_ (((x1 * (8 : Int32)) + x2)) fun y_1 =>
  bp_ (C_within_0 y_1 ((64 : Int32) - (1 : Int32))) fun r_4 =>
  if r_4 = 0 then (some ((0 : Int32), σ))
  else (gd_ (in_ y_1 64) (
  some ((rd_ σ 32 y_1.toNatClampNeg), σ)))
set_option maxRecDepth 100000 in
theorem kC_farAt_0 {p : Program} {l : Launch} {e : Env} {s : State} {m : MethodId} {args : Array Value} {below : List Frame} {meth : Method} {c : Code} {D : va_G} {cy : Nat → ClassId} {a gs : Nat → Nat} (X : cx_ cX11_farAt RX11 wsX11_farAt 4 (some .int) 59 a D cy (xfC gs) p s m args meth c)  {r0 : Int32} {σ' : Sg}  : ∀ (σ : Sg) (x1 : Int32) (x2 : Int32) (H : Heap) (locs : List Loc) (ls : Array Slot), C_farAt_0 σ x1 x2 = some (r0, σ') → iv_ 59 a D (shC cy a σ) s H locs → lv_has ls 4 [(0, .ref (a 0)), (1, .int x1), (2, .int x2)] → W p l e ({ frames := 1, cells := 0, slots := 0, locals := 21 }) s m args below meth c H locs 0 0 (MQ below (qg_ 59 a D (shC cy a σ') (some (.int r0)) s.heap.size) args s 0 0 (fr_ 59 a s.heap.size)) (F0 m 0 ls []) := by
  obtain ⟨hx, hb, hr, hml, hown, hts, hlk, hK, hA, hXf⟩ := id X
  intro σ x1 x2 H locs ls h I hl
  unfold C_farAt_0 at h
  refine lv_iload_n hx hb dX11_farAt_0 rfl (lv_at hl 1 rfl) ?_
  refine lv_bipush (v := 8) hx hb dX11_farAt_1 (by decide) ?_
  refine lv_imul hx hb dX11_farAt_3 ?_
  refine lv_iload_n hx hb dX11_farAt_4 rfl (lv_at hl 2 rfl) ?_
  refine lv_iadd hx hb dX11_farAt_5 ?_
  refine lv_topi (fun y_1 e_2 => ?_)
  have h := lt_at h e_2
  refine lv_istore_n (lv' := [(3, .int y_1), (0, .ref (a 0)), (1, .int x1), (2, .int x2)]) hx hb dX11_farAt_6 rfl hl (by decide) rfl (fun ls hl => ?_)
  refine lv_iload_n hx hb dX11_farAt_7 rfl (lv_at hl 0 rfl) ?_
  refine lv_aload_n hx hb dX11_farAt_8 rfl (lv_at hl 1 rfl) ?_
  refine ig_ (index := 74) X I (fun _ q => List.mem_cons_of_mem _ (List.mem_append_right _ q)) 0 (by decide) shC_0 rfl 8 (by decide) (by decide +kernel) rfl (v := .ref (a 32)) rfl dX11_farAt_9 ?_
  refine an_ X I 32 (by decide) shC_32 (v0 := 64) (by decide) dX11_farAt_12 ?_
  refine lv_iconst (v := 1) hx hb dX11_farAt_13 (by decide) ?_
  refine lv_isub hx hb dX11_farAt_14 ?_
  obtain ⟨r_4, hc_3, h⟩ := bp_of h
  refine cp_ (rP_ (nn := 2) (As := [.int y_1, .int ((64 : Int32) - (1 : Int32))]) (rest := []) ⟨hx, hb, hml, hown, hts⟩ (c_C_within hc_3) gX11_farAt_X11_within rfl ⟨rfl, rfl⟩ (by decide +kernel) ⟨Nat.le_of_ble_eq_true rfl, Nat.le_of_ble_eq_true rfl⟩ rfl hl.1 rfl (Nat.le_of_ble_eq_true rfl) dX11_farAt_15 ⟨Nat.zero_le _, Nat.zero_le _⟩) ?_
  refine lv_if_eq (tgt := 30) hx hb dX11_farAt_18 (by decide) (fun c_5 => ?_) (fun c_5 => ?_)
  · have h := if_t h c_5
    refine lv_iconst (v := 0) hx hb dX11_farAt_30 (by decide) ?_
    obtain ⟨rfl, rfl⟩ := re_s h
    exact rti_ X I dX11_farAt_31
  · have h := if_f h c_5
    refine lv_aload_n hx hb dX11_farAt_21 rfl (lv_at hl 1 rfl) ?_
    refine ig_ (index := 74) X I (fun _ q => List.mem_cons_of_mem _ (List.mem_append_right _ q)) 0 (by decide) shC_0 rfl 8 (by decide) (by decide +kernel) rfl (v := .ref (a 32)) rfl dX11_farAt_22 ?_
    refine lv_iload_n hx hb dX11_farAt_25 rfl (lv_at hl 0 rfl) ?_
    obtain ⟨g_6, h⟩ := gd_of h
    refine ia_ X I 32 (by decide) shC_32 (in_of g_6) (v0 := (rd_ σ 32 y_1.toNatClampNeg)) rfl dX11_farAt_26 ?_
    refine lv_goto (tgt := 31) hx hb dX11_farAt_27 (by decide) ?_
    obtain ⟨rfl, rfl⟩ := re_s h
    exact rti_ X I dX11_farAt_31
theorem c_C_farAt {l : Launch} {D : va_G} {cy : Nat → ClassId} {a gs : Nat → Nat} {σ : Sg} {x1 : Int32} {x2 : Int32} {r0 : Int32} {σ' : Sg} (h : C_farAt_0 σ x1 x2 = some (r0, σ')) (sz : Nat) : Met l yX11_farAt wsX11_farAt ({ frames := 1, cells := 0, slots := 0, locals := 21 }) (va_Pc [.ref (a 0), .int x1, .int x2] (pr_ 59 a D cy (shC cy a σ) (xfC gs) sz)) (qg_ 59 a D (shC cy a σ') (some (.int r0)) sz) 0 0 (fr_ 59 a sz) := by
  refine ent_ (by decide) rfl (Nat.le_of_ble_eq_true rfl) ?_
  intro p e s m below meth c ls hsz X I hl
  subst hsz
  exact kC_farAt_0 X σ x1 x2 s.heap [] ls h I hl

def C_swearNext_80 (k2 : Sg → Int32 → Int32 → Int32 → Option (Unit × Sg)) (σ : Sg) (x1 : Int32) (x2 : Int32) (x3 : Int32) : Option (Unit × Sg) :=
  lt_ (x3 + (1 : Int32)) fun y_1 =>
  k2 σ x1 x2 y_1
set_option maxRecDepth 100000 in
theorem kC_swearNext_80 {p : Program} {l : Launch} {e : Env} {s : State} {m : MethodId} {args : Array Value} {below : List Frame} {meth : Method} {c : Code} {D : va_G} {cy : Nat → ClassId} {a gs : Nat → Nat} (X : cx_ cX11_swearNext RX11 wsX11_swearNext 5 none 59 a D cy (xfC gs) p s m args meth c) {k2 : Sg → Int32 → Int32 → Int32 → Option (Unit × Sg)}  {σ' : Sg} (hk2 : ∀ (σ : Sg) (x1 : Int32) (x2 : Int32) (x3 : Int32) (H : Heap) (locs : List Loc) (ls : Array Slot), k2 σ x1 x2 x3 = some ((), σ') → iv_ 59 a D (shC cy a σ) s H locs → lv_has ls 5 [(0, .ref (a 0)), (1, .int x1), (2, .int x2), (3, .int x3)] → W p l e ({ frames := 2, cells := 0, slots := 0, locals := 44 }) s m args below meth c H locs 0 0 (MQ below (qg_ 59 a D (shC cy a σ') none s.heap.size) args s 0 0 (fr_ 59 a s.heap.size)) (F0 m 2 ls [])) : ∀ (σ : Sg) (x1 : Int32) (x2 : Int32) (x3 : Int32) (H : Heap) (locs : List Loc) (ls : Array Slot), C_swearNext_80 k2 σ x1 x2 x3 = some ((), σ') → iv_ 59 a D (shC cy a σ) s H locs → lv_has ls 5 [(0, .ref (a 0)), (1, .int x1), (2, .int x2), (3, .int x3)] → W p l e ({ frames := 2, cells := 0, slots := 0, locals := 44 }) s m args below meth c H locs 0 0 (MQ below (qg_ 59 a D (shC cy a σ') none s.heap.size) args s 0 0 (fr_ 59 a s.heap.size)) (F0 m 80 ls []) := by
  obtain ⟨hx, hb, hr, hml, hown, hts, hlk, hK, hA, hXf⟩ := id X
  intro σ x1 x2 x3 H locs ls h I hl
  unfold C_swearNext_80 at h
  obtain ⟨y_1, e_2⟩ : ∃ q : Int32, q = x3 + (1 : Int32) := ⟨_, rfl⟩
  have h := lt_at h e_2
  refine lv_iinc (v := y_1) (lv' := [(3, .int y_1), (0, .ref (a 0)), (1, .int x1), (2, .int x2)]) hx hb dX11_swearNext_80 hl (k := 3) rfl (by rw [e_2]; rfl) (by decide) rfl (fun ls hl => ?_)
  refine lv_goto (tgt := 2) hx hb dX11_swearNext_83 (by decide) ?_
  exact hk2 σ x1 x2 y_1 H locs ls h I (lv_sub hl [1, 2, 3, 0] rfl)
def C_swearNext_2 (k2 : Sg → Int32 → Int32 → Int32 → Option (Unit × Sg)) (σ : Sg) (x1 : Int32) (x2 : Int32) (x3 : Int32) : Option (Unit × Sg) :=
  if (8 : Int32) ≤ x3 then (some ((), σ))
  else (lt_ ((x1 ||| ((1 : Int32) <<< (x3 &&& 31)))) fun y_2 =>
  if y_2 = x1 then (C_swearNext_80 k2 σ x1 x2 x3)
  else (bp_ (C_within_0 x1 ((256 : Int32) - (1 : Int32))) fun r_6 =>
  if r_6 = 0 then (C_swearNext_80 k2 σ x1 x2 x3)
  else (bp_ (C_within_0 y_2 ((256 : Int32) - (1 : Int32))) fun r_9 =>
  if r_9 = 0 then (C_swearNext_80 k2 σ x1 x2 x3)
  else (gd_ (in_ y_2 256) (
  gd_ (in_ x1 256) (
  bi_ (C_farAt_0 σ x2 x3) fun r_15 σ_14 =>
  gd_ (in_ y_2 256) (
  lt_ (wr_ σ_14 33 y_2.toNatClampNeg (if ((rd_ σ 33 x1.toNatClampNeg) + r_15) < (rd_ σ 33 y_2.toNatClampNeg) then ((rd_ σ 33 x1.toNatClampNeg) + r_15) else (rd_ σ 33 y_2.toNatClampNeg))) fun σ_16 =>
  C_swearNext_80 k2 σ_16 x1 x2 x3)))))))
set_option maxRecDepth 100000 in
theorem kC_swearNext_2 {p : Program} {l : Launch} {e : Env} {s : State} {m : MethodId} {args : Array Value} {below : List Frame} {meth : Method} {c : Code} {D : va_G} {cy : Nat → ClassId} {a gs : Nat → Nat} (X : cx_ cX11_swearNext RX11 wsX11_swearNext 5 none 59 a D cy (xfC gs) p s m args meth c) {k2 : Sg → Int32 → Int32 → Int32 → Option (Unit × Sg)}  {σ' : Sg} (hk2 : ∀ (σ : Sg) (x1 : Int32) (x2 : Int32) (x3 : Int32) (H : Heap) (locs : List Loc) (ls : Array Slot), k2 σ x1 x2 x3 = some ((), σ') → iv_ 59 a D (shC cy a σ) s H locs → lv_has ls 5 [(0, .ref (a 0)), (1, .int x1), (2, .int x2), (3, .int x3)] → W p l e ({ frames := 2, cells := 0, slots := 0, locals := 44 }) s m args below meth c H locs 0 0 (MQ below (qg_ 59 a D (shC cy a σ') none s.heap.size) args s 0 0 (fr_ 59 a s.heap.size)) (F0 m 2 ls [])) : ∀ (σ : Sg) (x1 : Int32) (x2 : Int32) (x3 : Int32) (H : Heap) (locs : List Loc) (ls : Array Slot), C_swearNext_2 k2 σ x1 x2 x3 = some ((), σ') → iv_ 59 a D (shC cy a σ) s H locs → lv_has ls 5 [(0, .ref (a 0)), (1, .int x1), (2, .int x2), (3, .int x3)] → W p l e ({ frames := 2, cells := 0, slots := 0, locals := 44 }) s m args below meth c H locs 0 0 (MQ below (qg_ 59 a D (shC cy a σ') none s.heap.size) args s 0 0 (fr_ 59 a s.heap.size)) (F0 m 2 ls []) := by
  obtain ⟨hx, hb, hr, hml, hown, hts, hlk, hK, hA, hXf⟩ := id X
  intro σ x1 x2 x3 H locs ls h I hl
  unfold C_swearNext_2 at h
  refine lv_iload_n hx hb dX11_swearNext_2 rfl (lv_at hl 3 rfl) ?_
  refine lv_bipush (v := 8) hx hb dX11_swearNext_3 (by decide) ?_
  refine lv_icmp_ge (tgt := 86) hx hb dX11_swearNext_5 (by decide) (fun c_1 => ?_) (fun c_1 => ?_)
  · have h := if_t h c_1
    obtain rfl := re_v h
    exact rtv_ X I dX11_swearNext_86
  · have h := if_f h c_1
    refine lv_iload_n hx hb dX11_swearNext_8 rfl (lv_at hl 1 rfl) ?_
    refine lv_iconst (v := 1) hx hb dX11_swearNext_9 (by decide) ?_
    refine lv_iload_n hx hb dX11_swearNext_10 rfl (lv_at hl 3 rfl) ?_
    refine lv_ishl hx hb dX11_swearNext_11 ?_
    refine lv_ior hx hb dX11_swearNext_12 ?_
    refine lv_topi (fun y_2 e_3 => ?_)
    have h := lt_at h e_3
    refine lv_istore (lv' := [(4, .int y_2), (0, .ref (a 0)), (1, .int x1), (2, .int x2), (3, .int x3)]) hx hb dX11_swearNext_13 hl (by decide) rfl (fun ls hl => ?_)
    refine lv_iload hx hb dX11_swearNext_15 (lv_at hl 0 rfl) ?_
    refine lv_iload_n hx hb dX11_swearNext_17 rfl (lv_at hl 2 rfl) ?_
    refine lv_icmp_eq (tgt := 80) hx hb dX11_swearNext_18 (by decide) (fun c_4 => ?_) (fun c_4 => ?_)
    · have h := if_t h c_4
      exact kC_swearNext_80 X hk2 σ x1 x2 x3 H locs ls h I (lv_sub hl [1, 2, 3, 4] rfl)
    · have h := if_f h c_4
      refine lv_iload_n hx hb dX11_swearNext_21 rfl (lv_at hl 2 rfl) ?_
      refine lv_aload_n hx hb dX11_swearNext_22 rfl (lv_at hl 1 rfl) ?_
      refine ig_ (index := 77) X I (fun _ q => List.mem_cons_of_mem _ (List.mem_append_right _ q)) 0 (by decide) shC_0 rfl 9 (by decide) (by decide +kernel) rfl (v := .ref (a 33)) rfl dX11_swearNext_23 ?_
      refine an_ X I 33 (by decide) shC_33 (v0 := 256) (by decide) dX11_swearNext_26 ?_
      refine lv_iconst (v := 1) hx hb dX11_swearNext_27 (by decide) ?_
      refine lv_isub hx hb dX11_swearNext_28 ?_
      obtain ⟨r_6, hc_5, h⟩ := bp_of h
      refine cp_ (rP_ (nn := 2) (As := [.int x1, .int ((256 : Int32) - (1 : Int32))]) (rest := []) ⟨hx, hb, hml, hown, hts⟩ (c_C_within hc_5) gX11_swearNext_X11_within rfl ⟨rfl, rfl⟩ (by decide +kernel) ⟨Nat.le_of_ble_eq_true rfl, Nat.le_of_ble_eq_true rfl⟩ rfl hl.1 rfl (Nat.le_of_ble_eq_true rfl) dX11_swearNext_29 ⟨Nat.zero_le _, Nat.zero_le _⟩) ?_
      refine lv_if_eq (tgt := 80) hx hb dX11_swearNext_32 (by decide) (fun c_7 => ?_) (fun c_7 => ?_)
      · have h := if_t h c_7
        exact kC_swearNext_80 X hk2 σ x1 x2 x3 H locs ls h I (lv_sub hl [1, 2, 3, 4] rfl)
      · have h := if_f h c_7
        refine lv_iload hx hb dX11_swearNext_35 (lv_at hl 0 rfl) ?_
        refine lv_aload_n hx hb dX11_swearNext_37 rfl (lv_at hl 1 rfl) ?_
        refine ig_ (index := 77) X I (fun _ q => List.mem_cons_of_mem _ (List.mem_append_right _ q)) 0 (by decide) shC_0 rfl 9 (by decide) (by decide +kernel) rfl (v := .ref (a 33)) rfl dX11_swearNext_38 ?_
        refine an_ X I 33 (by decide) shC_33 (v0 := 256) (by decide) dX11_swearNext_41 ?_
        refine lv_iconst (v := 1) hx hb dX11_swearNext_42 (by decide) ?_
        refine lv_isub hx hb dX11_swearNext_43 ?_
        obtain ⟨r_9, hc_8, h⟩ := bp_of h
        refine cp_ (rP_ (nn := 2) (As := [.int y_2, .int ((256 : Int32) - (1 : Int32))]) (rest := []) ⟨hx, hb, hml, hown, hts⟩ (c_C_within hc_8) gX11_swearNext_X11_within rfl ⟨rfl, rfl⟩ (by decide +kernel) ⟨Nat.le_of_ble_eq_true rfl, Nat.le_of_ble_eq_true rfl⟩ rfl hl.1 rfl (Nat.le_of_ble_eq_true rfl) dX11_swearNext_44 ⟨Nat.zero_le _, Nat.zero_le _⟩) ?_
        refine lv_if_eq (tgt := 80) hx hb dX11_swearNext_47 (by decide) (fun c_10 => ?_) (fun c_10 => ?_)
        · have h := if_t h c_10
          exact kC_swearNext_80 X hk2 σ x1 x2 x3 H locs ls h I (lv_sub hl [1, 2, 3, 4] rfl)
        · have h := if_f h c_10
          refine lv_aload_n hx hb dX11_swearNext_50 rfl (lv_at hl 1 rfl) ?_
          refine ig_ (index := 77) X I (fun _ q => List.mem_cons_of_mem _ (List.mem_append_right _ q)) 0 (by decide) shC_0 rfl 9 (by decide) (by decide +kernel) rfl (v := .ref (a 33)) rfl dX11_swearNext_51 ?_
          refine lv_iload hx hb dX11_swearNext_54 (lv_at hl 0 rfl) ?_
          refine lv_aload_n hx hb dX11_swearNext_56 rfl (lv_at hl 1 rfl) ?_
          refine ig_ (index := 77) X I (fun _ q => List.mem_cons_of_mem _ (List.mem_append_right _ q)) 0 (by decide) shC_0 rfl 9 (by decide) (by decide +kernel) rfl (v := .ref (a 33)) rfl dX11_swearNext_57 ?_
          refine lv_iload hx hb dX11_swearNext_60 (lv_at hl 0 rfl) ?_
          obtain ⟨g_11, h⟩ := gd_of h
          refine ia_ X I 33 (by decide) shC_33 (in_of g_11) (v0 := (rd_ σ 33 y_2.toNatClampNeg)) rfl dX11_swearNext_62 ?_
          refine lv_aload_n hx hb dX11_swearNext_63 rfl (lv_at hl 1 rfl) ?_
          refine ig_ (index := 77) X I (fun _ q => List.mem_cons_of_mem _ (List.mem_append_right _ q)) 0 (by decide) shC_0 rfl 9 (by decide) (by decide +kernel) rfl (v := .ref (a 33)) rfl dX11_swearNext_64 ?_
          refine lv_iload_n hx hb dX11_swearNext_67 rfl (lv_at hl 2 rfl) ?_
          obtain ⟨g_12, h⟩ := gd_of h
          refine ia_ X I 33 (by decide) shC_33 (in_of g_12) (v0 := (rd_ σ 33 x1.toNatClampNeg)) rfl dX11_swearNext_68 ?_
          refine lv_aload_n hx hb dX11_swearNext_69 rfl (lv_at hl 1 rfl) ?_
          refine lv_iload_n hx hb dX11_swearNext_70 rfl (lv_at hl 3 rfl) ?_
          refine lv_iload_n hx hb dX11_swearNext_71 rfl (lv_at hl 4 rfl) ?_
          obtain ⟨r_15, σ_14, hc_13, h⟩ := bi_of h
          refine cg_ (v := .int r_15) (rV_ (nn := 2) (As := [.int x2, .int x3]) (rest := [.int (rd_ σ 33 x1.toNatClampNeg), .int (rd_ σ 33 y_2.toNatClampNeg), .int y_2, .ref (a 33)]) X xkC I (c_C_farAt hc_13 H.size) gX11_swearNext_X11_farAt rfl ⟨rfl, rfl⟩ (by decide +kernel) ⟨Nat.le_of_ble_eq_true rfl, Nat.le_of_ble_eq_true rfl⟩ (by decide) shC_0 rfl rfl hl.1 rfl (Nat.le_of_ble_eq_true rfl) dX11_swearNext_72) I (fun H locs I => ?_)
          refine lv_iadd hx hb dX11_swearNext_75 ?_
          refine va_mmin hx hb (by rw [hml]; exact hl.1.symm) hown (hts (.methodLink RX11 242 Lib.Math.min.name) (by decide +kernel)) (hts (.static Lib.Math.min.name) (by decide +kernel)) (hts (.initialized "java/lang/Math") (by decide +kernel)) (hts (.code Lib.Math.min.name Lib.Math.min.code 2 (some .int)) (by decide +kernel)) (Nat.le_of_ble_eq_true rfl) (Nat.le_of_ble_eq_true rfl) (Nat.zero_le _) (Nat.zero_le _) dX11_swearNext_76 ?_
          obtain ⟨g_18, h⟩ := gd_of h
          refine is_ (σ2 := wr_ σ_14 33 y_2.toNatClampNeg (if ((rd_ σ 33 x1.toNatClampNeg) + r_15) < (rd_ σ 33 y_2.toNatClampNeg) then ((rd_ σ 33 x1.toNatClampNeg) + r_15) else (rd_ σ 33 y_2.toNatClampNeg))) X I 33 (by decide) shC_33 (in_of g_18) shC_st_33 dX11_swearNext_79 (fun σ_16 H locs e_17 I => ?_)
          have h := lt_at h e_17
          exact kC_swearNext_80 X hk2 σ_16 x1 x2 x3 H locs ls h I (lv_sub hl [1, 2, 3, 4] rfl)
set_option maxRecDepth 100000 in
theorem kC_swearNext_2L {p : Program} {l : Launch} {e : Env} {s : State} {m : MethodId} {args : Array Value} {below : List Frame} {meth : Method} {c : Code} {D : va_G} {cy : Nat → ClassId} {a gs : Nat → Nat} (X : cx_ cX11_swearNext RX11 wsX11_swearNext 5 none 59 a D cy (xfC gs) p s m args meth c)   {σ' : Sg}  : ∀ (n : Nat), ∀ (σ : Sg) (x1 : Int32) (x2 : Int32) (x3 : Int32) (H : Heap) (locs : List Loc) (ls : Array Slot), lp_ (C_swearNext_2) (fun _ _ _ _ => none) n σ x1 x2 x3 = some ((), σ') → iv_ 59 a D (shC cy a σ) s H locs → lv_has ls 5 [(0, .ref (a 0)), (1, .int x1), (2, .int x2), (3, .int x3)] → W p l e ({ frames := 2, cells := 0, slots := 0, locals := 44 }) s m args below meth c H locs 0 0 (MQ below (qg_ 59 a D (shC cy a σ') none s.heap.size) args s 0 0 (fr_ 59 a s.heap.size)) (F0 m 2 ls []) := by
  intro n
  induction n with
  | zero =>
    intro _ _ _ _ _ _ _ h
    exact absurd h (fun q => by cases (show (none : Option _) = some _ from q))
  | succ n ih => exact kC_swearNext_2 X ih

def C_swearNext_0  (σ : Sg) (x1 : Int32) (x2 : Int32) : Option (Unit × Sg) :=
  lp_ C_swearNext_2 (fun _ _ _ _ => none) FU σ x1 x2 (0 : Int32)
set_option maxRecDepth 100000 in
theorem kC_swearNext_0 {p : Program} {l : Launch} {e : Env} {s : State} {m : MethodId} {args : Array Value} {below : List Frame} {meth : Method} {c : Code} {D : va_G} {cy : Nat → ClassId} {a gs : Nat → Nat} (X : cx_ cX11_swearNext RX11 wsX11_swearNext 5 none 59 a D cy (xfC gs) p s m args meth c)   {σ' : Sg}  : ∀ (σ : Sg) (x1 : Int32) (x2 : Int32) (H : Heap) (locs : List Loc) (ls : Array Slot), C_swearNext_0 σ x1 x2 = some ((), σ') → iv_ 59 a D (shC cy a σ) s H locs → lv_has ls 5 [(0, .ref (a 0)), (1, .int x1), (2, .int x2)] → W p l e ({ frames := 2, cells := 0, slots := 0, locals := 44 }) s m args below meth c H locs 0 0 (MQ below (qg_ 59 a D (shC cy a σ') none s.heap.size) args s 0 0 (fr_ 59 a s.heap.size)) (F0 m 0 ls []) := by
  obtain ⟨hx, hb, hr, hml, hown, hts, hlk, hK, hA, hXf⟩ := id X
  intro σ x1 x2 H locs ls h I hl
  unfold C_swearNext_0 at h
  refine lv_iconst (v := 0) hx hb dX11_swearNext_0 (by decide) ?_
  refine lv_istore_n (lv' := [(3, .int (0 : Int32)), (0, .ref (a 0)), (1, .int x1), (2, .int x2)]) hx hb dX11_swearNext_1 rfl hl (by decide) rfl (fun ls hl => ?_)
  exact kC_swearNext_2L X  FU σ x1 x2 (0 : Int32) H locs ls h I (lv_sub hl [1, 2, 3, 0] rfl)
theorem c_C_swearNext {l : Launch} {D : va_G} {cy : Nat → ClassId} {a gs : Nat → Nat} {σ : Sg} {x1 : Int32} {x2 : Int32}  {σ' : Sg} (h : C_swearNext_0 σ x1 x2 = some ((), σ')) (sz : Nat) : Met l yX11_swearNext wsX11_swearNext ({ frames := 2, cells := 0, slots := 0, locals := 44 }) (va_Pc [.ref (a 0), .int x1, .int x2] (pr_ 59 a D cy (shC cy a σ) (xfC gs) sz)) (qg_ 59 a D (shC cy a σ') none sz) 0 0 (fr_ 59 a sz) := by
  refine ent_ (by decide) rfl (Nat.le_of_ble_eq_true rfl) ?_
  intro p e s m below meth c ls hsz X I hl
  subst hsz
  exact kC_swearNext_0 X σ x1 x2 s.heap [] ls h I hl

def C_best_113 (k53 : Sg → Int32 → Int32 → Option (Int32 × Sg)) (σ : Sg) (x2 : Int32) (x3 : Int32) : Option (Int32 × Sg) :=
  lt_ (x3 + (1 : Int32)) fun y_1 =>
  k53 σ x2 y_1
set_option maxRecDepth 100000 in
theorem kC_best_113 {p : Program} {l : Launch} {e : Env} {s : State} {m : MethodId} {args : Array Value} {below : List Frame} {meth : Method} {c : Code} {D : va_G} {cy : Nat → ClassId} {a gs : Nat → Nat} (X : cx_ cX11_best RX11 wsX11_best 5 (some .int) 59 a D cy (xfC gs) p s m args meth c) {k53 : Sg → Int32 → Int32 → Option (Int32 × Sg)} {r0 : Int32} {σ' : Sg} (hk53 : ∀ (σ : Sg) (x2 : Int32) (x3 : Int32) (H : Heap) (locs : List Loc) (ls : Array Slot), k53 σ x2 x3 = some (r0, σ') → iv_ 59 a D (shC cy a σ) s H locs → lv_has ls 5 [(0, .ref (a 0)), (2, .int x2), (3, .int x3)] → W p l e ({ frames := 7, cells := 0, slots := 0, locals := 163 }) s m args below meth c H locs 0 0 (MQ below (qg_ 59 a D (shC cy a σ') (some (.int r0)) s.heap.size) args s 0 0 (fr_ 59 a s.heap.size)) (F0 m 53 ls [])) : ∀ (σ : Sg) (x2 : Int32) (x3 : Int32) (H : Heap) (locs : List Loc) (ls : Array Slot), C_best_113 k53 σ x2 x3 = some (r0, σ') → iv_ 59 a D (shC cy a σ) s H locs → lv_has ls 5 [(0, .ref (a 0)), (2, .int x2), (3, .int x3)] → W p l e ({ frames := 7, cells := 0, slots := 0, locals := 163 }) s m args below meth c H locs 0 0 (MQ below (qg_ 59 a D (shC cy a σ') (some (.int r0)) s.heap.size) args s 0 0 (fr_ 59 a s.heap.size)) (F0 m 113 ls []) := by
  obtain ⟨hx, hb, hr, hml, hown, hts, hlk, hK, hA, hXf⟩ := id X
  intro σ x2 x3 H locs ls h I hl
  unfold C_best_113 at h
  obtain ⟨y_1, e_2⟩ : ∃ q : Int32, q = x3 + (1 : Int32) := ⟨_, rfl⟩
  have h := lt_at h e_2
  refine lv_iinc (v := y_1) (lv' := [(3, .int y_1), (0, .ref (a 0)), (2, .int x2)]) hx hb dX11_best_113 hl (k := 2) rfl (by rw [e_2]; rfl) (by decide) rfl (fun ls hl => ?_)
  refine lv_goto (tgt := 53) hx hb dX11_best_116 (by decide) ?_
  exact hk53 σ x2 y_1 H locs ls h I (lv_sub hl [1, 2, 0] rfl)
def C_best_53 (k53 : Sg → Int32 → Int32 → Option (Int32 × Sg)) (σ : Sg) (x2 : Int32) (x3 : Int32) : Option (Int32 × Sg) :=
  if (256 : Int32) ≤ x3 then (some (x2, σ))
  else (bp_ (CJ6_bitCount_0 x3) fun r_3 =>
  if r_3 = (rd_ σ 1 3) then (gd_ (in_ x3 256) (
  lt_ ((if (rd_ σ 33 x3.toNatClampNeg) < x2 then (rd_ σ 33 x3.toNatClampNeg) else x2)) fun y_9 =>
  C_best_113 k53 σ y_9 x3))
  else (if (rd_ σ 1 3) ≤ r_3 then (C_best_113 k53 σ x2 x3)
  else (bi_ (C_swearNext_0 σ x3 r_3) fun _ σ_7 =>
  C_best_113 k53 σ_7 x2 x3)))
set_option maxRecDepth 100000 in
theorem kC_best_53 {p : Program} {l : Launch} {e : Env} {s : State} {m : MethodId} {args : Array Value} {below : List Frame} {meth : Method} {c : Code} {D : va_G} {cy : Nat → ClassId} {a gs : Nat → Nat} (X : cx_ cX11_best RX11 wsX11_best 5 (some .int) 59 a D cy (xfC gs) p s m args meth c) {k53 : Sg → Int32 → Int32 → Option (Int32 × Sg)} {r0 : Int32} {σ' : Sg} (hk53 : ∀ (σ : Sg) (x2 : Int32) (x3 : Int32) (H : Heap) (locs : List Loc) (ls : Array Slot), k53 σ x2 x3 = some (r0, σ') → iv_ 59 a D (shC cy a σ) s H locs → lv_has ls 5 [(0, .ref (a 0)), (2, .int x2), (3, .int x3)] → W p l e ({ frames := 7, cells := 0, slots := 0, locals := 163 }) s m args below meth c H locs 0 0 (MQ below (qg_ 59 a D (shC cy a σ') (some (.int r0)) s.heap.size) args s 0 0 (fr_ 59 a s.heap.size)) (F0 m 53 ls [])) : ∀ (σ : Sg) (x2 : Int32) (x3 : Int32) (H : Heap) (locs : List Loc) (ls : Array Slot), C_best_53 k53 σ x2 x3 = some (r0, σ') → iv_ 59 a D (shC cy a σ) s H locs → lv_has ls 5 [(0, .ref (a 0)), (2, .int x2), (3, .int x3)] → W p l e ({ frames := 7, cells := 0, slots := 0, locals := 163 }) s m args below meth c H locs 0 0 (MQ below (qg_ 59 a D (shC cy a σ') (some (.int r0)) s.heap.size) args s 0 0 (fr_ 59 a s.heap.size)) (F0 m 53 ls []) := by
  obtain ⟨hx, hb, hr, hml, hown, hts, hlk, hK, hA, hXf⟩ := id X
  intro σ x2 x3 H locs ls h I hl
  unfold C_best_53 at h
  refine lv_iload_n hx hb dX11_best_53 rfl (lv_at hl 2 rfl) ?_
  refine lv_aload_n hx hb dX11_best_54 rfl (lv_at hl 0 rfl) ?_
  refine ig_ (index := 77) X I (fun _ q => List.mem_cons_of_mem _ (List.mem_append_left _ (List.mem_append_left _ (List.mem_append_right _ q)))) 0 (by decide) shC_0 rfl 9 (by decide) (by decide +kernel) rfl (v := .ref (a 33)) rfl dX11_best_55 ?_
  refine an_ X I 33 (by decide) shC_33 (v0 := 256) (by decide) dX11_best_58 ?_
  refine lv_icmp_ge (tgt := 119) hx hb dX11_best_59 (by decide) (fun c_1 => ?_) (fun c_1 => ?_)
  · have h := if_t h c_1
    refine lv_iload_n hx hb dX11_best_119 rfl (lv_at hl 1 rfl) ?_
    obtain ⟨rfl, rfl⟩ := re_s h
    exact rti_ X I dX11_best_120
  · have h := if_f h c_1
    refine lv_iload_n hx hb dX11_best_62 rfl (lv_at hl 2 rfl) ?_
    obtain ⟨r_3, hc_2, h⟩ := bp_of h
    refine cp_ (rP_ (nn := 1) (As := [.int x3]) (rest := []) ⟨hx, hb, hml, hown, hts⟩ (c_CJ6_bitCount hc_2) gX11_best_J6_bitCount_0f7a4 rfl ⟨rfl, rfl⟩ (by decide +kernel) ⟨Nat.le_of_ble_eq_true rfl, Nat.le_of_ble_eq_true rfl⟩ rfl hl.1 rfl (Nat.le_of_ble_eq_true rfl) dX11_best_63 ⟨Nat.zero_le _, Nat.zero_le _⟩) ?_
    refine lv_istore (lv' := [(4, .int r_3), (0, .ref (a 0)), (2, .int x2), (3, .int x3)]) hx hb dX11_best_66 hl (by decide) rfl (fun ls hl => ?_)
    refine lv_iload hx hb dX11_best_68 (lv_at hl 0 rfl) ?_
    refine lv_aload_n hx hb dX11_best_70 rfl (lv_at hl 1 rfl) ?_
    refine ig_ (index := 30) X I (fun _ q => List.mem_cons_of_mem _ (List.mem_append_left _ (List.mem_append_left _ (List.mem_append_right _ q)))) 0 (by decide) shC_0 rfl 0 (by decide) (by decide +kernel) rfl (v := .ref (a 1)) rfl dX11_best_71 ?_
    refine ig_ (index := 105) X I (fun _ q => List.mem_cons_of_mem _ (List.mem_append_left _ (List.mem_append_right _ q))) 1 (by decide) shC_1 rfl 3 (by decide) (by decide +kernel) rfl (v := .int (rd_ σ 1 3)) rfl dX11_best_74 ?_
    refine lv_icmp_ne (tgt := 94) hx hb dX11_best_77 (by decide) (fun c_4 => ?_) (fun c_4 => ?_)
    · have h := if_f h c_4
      refine lv_iload hx hb dX11_best_94 (lv_at hl 0 rfl) ?_
      refine lv_aload_n hx hb dX11_best_96 rfl (lv_at hl 1 rfl) ?_
      refine ig_ (index := 30) X I (fun _ q => List.mem_cons_of_mem _ (List.mem_append_left _ (List.mem_append_left _ (List.mem_append_right _ q)))) 0 (by decide) shC_0 rfl 0 (by decide) (by decide +kernel) rfl (v := .ref (a 1)) rfl dX11_best_97 ?_
      refine ig_ (index := 105) X I (fun _ q => List.mem_cons_of_mem _ (List.mem_append_left _ (List.mem_append_right _ q))) 1 (by decide) shC_1 rfl 3 (by decide) (by decide +kernel) rfl (v := .int (rd_ σ 1 3)) rfl dX11_best_100 ?_
      refine lv_icmp_ge (tgt := 113) hx hb dX11_best_103 (by decide) (fun c_5 => ?_) (fun c_5 => ?_)
      · have h := if_t h c_5
        exact kC_best_113 X hk53 σ x2 x3 H locs ls h I (lv_sub hl [1, 2, 3] rfl)
      · have h := if_f h c_5
        refine lv_aload_n hx hb dX11_best_106 rfl (lv_at hl 1 rfl) ?_
        refine lv_iload_n hx hb dX11_best_107 rfl (lv_at hl 3 rfl) ?_
        refine lv_iload hx hb dX11_best_108 (lv_at hl 0 rfl) ?_
        obtain ⟨_, σ_7, hc_6, h⟩ := bi_of h
        refine cv_ (rV_ (nn := 2) (As := [.int x3, .int r_3]) (rest := []) X xkC I (c_C_swearNext hc_6 H.size) gX11_best_X11_swearNext rfl ⟨rfl, rfl⟩ (by decide +kernel) ⟨Nat.le_of_ble_eq_true rfl, Nat.le_of_ble_eq_true rfl⟩ (by decide) shC_0 rfl rfl hl.1 rfl (Nat.le_of_ble_eq_true rfl) dX11_best_110) I (fun H locs I => ?_)
        exact kC_best_113 X hk53 σ_7 x2 x3 H locs ls h I (lv_sub hl [1, 2, 3] rfl)
    · have h := if_t h c_4
      refine lv_iload_n hx hb dX11_best_80 rfl (lv_at hl 2 rfl) ?_
      refine lv_aload_n hx hb dX11_best_81 rfl (lv_at hl 1 rfl) ?_
      refine ig_ (index := 77) X I (fun _ q => List.mem_cons_of_mem _ (List.mem_append_left _ (List.mem_append_left _ (List.mem_append_right _ q)))) 0 (by decide) shC_0 rfl 9 (by decide) (by decide +kernel) rfl (v := .ref (a 33)) rfl dX11_best_82 ?_
      refine lv_iload_n hx hb dX11_best_85 rfl (lv_at hl 3 rfl) ?_
      obtain ⟨g_8, h⟩ := gd_of h
      refine ia_ X I 33 (by decide) shC_33 (in_of g_8) (v0 := (rd_ σ 33 x3.toNatClampNeg)) rfl dX11_best_86 ?_
      refine va_mmin hx hb (by rw [hml]; exact hl.1.symm) hown (hts (.methodLink RX11 242 Lib.Math.min.name) (by decide +kernel)) (hts (.static Lib.Math.min.name) (by decide +kernel)) (hts (.initialized "java/lang/Math") (by decide +kernel)) (hts (.code Lib.Math.min.name Lib.Math.min.code 2 (some .int)) (by decide +kernel)) (Nat.le_of_ble_eq_true rfl) (Nat.le_of_ble_eq_true rfl) (Nat.zero_le _) (Nat.zero_le _) dX11_best_87 ?_
      refine lv_topi (fun y_9 e_10 => ?_)
      have h := lt_at h e_10
      refine lv_istore_n (lv' := [(2, .int y_9), (4, .int r_3), (0, .ref (a 0)), (3, .int x3)]) hx hb dX11_best_90 rfl hl (by decide) rfl (fun ls hl => ?_)
      refine lv_goto (tgt := 113) hx hb dX11_best_91 (by decide) ?_
      exact kC_best_113 X hk53 σ y_9 x3 H locs ls h I (lv_sub hl [2, 0, 3] rfl)
set_option maxRecDepth 100000 in
theorem kC_best_53L {p : Program} {l : Launch} {e : Env} {s : State} {m : MethodId} {args : Array Value} {below : List Frame} {meth : Method} {c : Code} {D : va_G} {cy : Nat → ClassId} {a gs : Nat → Nat} (X : cx_ cX11_best RX11 wsX11_best 5 (some .int) 59 a D cy (xfC gs) p s m args meth c)  {r0 : Int32} {σ' : Sg}  : ∀ (n : Nat), ∀ (σ : Sg) (x2 : Int32) (x3 : Int32) (H : Heap) (locs : List Loc) (ls : Array Slot), lp_ (C_best_53) (fun _ _ _ => none) n σ x2 x3 = some (r0, σ') → iv_ 59 a D (shC cy a σ) s H locs → lv_has ls 5 [(0, .ref (a 0)), (2, .int x2), (3, .int x3)] → W p l e ({ frames := 7, cells := 0, slots := 0, locals := 163 }) s m args below meth c H locs 0 0 (MQ below (qg_ 59 a D (shC cy a σ') (some (.int r0)) s.heap.size) args s 0 0 (fr_ 59 a s.heap.size)) (F0 m 53 ls []) := by
  intro n
  induction n with
  | zero =>
    intro _ _ _ _ _ _ h
    exact absurd h (fun q => by cases (show (none : Option _) = some _ from q))
  | succ n ih => exact kC_best_53 X ih

def C_best_16 (k16 : Sg → Int32 → Option (Int32 × Sg)) (σ : Sg) (x2 : Int32) : Option (Int32 × Sg) :=
  if (256 : Int32) ≤ x2 then (lt_ (wr_ σ 33 0 (0 : Int32)) fun σ_2 =>
  lp_ C_best_53 (fun _ _ _ => none) FU σ_2 (10000 : Int32) (0 : Int32))
  else (gd_ (in_ x2 256) (
  lt_ (wr_ σ 33 x2.toNatClampNeg (10000 : Int32)) fun σ_4 =>
  lt_ (x2 + (1 : Int32)) fun y_7 =>
  k16 σ_4 y_7))
set_option maxRecDepth 100000 in
theorem kC_best_16 {p : Program} {l : Launch} {e : Env} {s : State} {m : MethodId} {args : Array Value} {below : List Frame} {meth : Method} {c : Code} {D : va_G} {cy : Nat → ClassId} {a gs : Nat → Nat} (X : cx_ cX11_best RX11 wsX11_best 5 (some .int) 59 a D cy (xfC gs) p s m args meth c) {k16 : Sg → Int32 → Option (Int32 × Sg)} {r0 : Int32} {σ' : Sg} (hk16 : ∀ (σ : Sg) (x2 : Int32) (H : Heap) (locs : List Loc) (ls : Array Slot), k16 σ x2 = some (r0, σ') → iv_ 59 a D (shC cy a σ) s H locs → lv_has ls 5 [(0, .ref (a 0)), (2, .int x2)] → W p l e ({ frames := 7, cells := 0, slots := 0, locals := 163 }) s m args below meth c H locs 0 0 (MQ below (qg_ 59 a D (shC cy a σ') (some (.int r0)) s.heap.size) args s 0 0 (fr_ 59 a s.heap.size)) (F0 m 16 ls [])) : ∀ (σ : Sg) (x2 : Int32) (H : Heap) (locs : List Loc) (ls : Array Slot), C_best_16 k16 σ x2 = some (r0, σ') → iv_ 59 a D (shC cy a σ) s H locs → lv_has ls 5 [(0, .ref (a 0)), (2, .int x2)] → W p l e ({ frames := 7, cells := 0, slots := 0, locals := 163 }) s m args below meth c H locs 0 0 (MQ below (qg_ 59 a D (shC cy a σ') (some (.int r0)) s.heap.size) args s 0 0 (fr_ 59 a s.heap.size)) (F0 m 16 ls []) := by
  obtain ⟨hx, hb, hr, hml, hown, hts, hlk, hK, hA, hXf⟩ := id X
  intro σ x2 H locs ls h I hl
  unfold C_best_16 at h
  refine lv_iload_n hx hb dX11_best_16 rfl (lv_at hl 1 rfl) ?_
  refine lv_aload_n hx hb dX11_best_17 rfl (lv_at hl 0 rfl) ?_
  refine ig_ (index := 77) X I (fun _ q => List.mem_cons_of_mem _ (List.mem_append_left _ (List.mem_append_left _ (List.mem_append_right _ q)))) 0 (by decide) shC_0 rfl 9 (by decide) (by decide +kernel) rfl (v := .ref (a 33)) rfl dX11_best_18 ?_
  refine an_ X I 33 (by decide) shC_33 (v0 := 256) (by decide) dX11_best_21 ?_
  refine lv_icmp_ge (tgt := 40) hx hb dX11_best_22 (by decide) (fun c_1 => ?_) (fun c_1 => ?_)
  · have h := if_t h c_1
    refine lv_aload_n hx hb dX11_best_40 rfl (lv_at hl 0 rfl) ?_
    refine ig_ (index := 77) X I (fun _ q => List.mem_cons_of_mem _ (List.mem_append_left _ (List.mem_append_left _ (List.mem_append_right _ q)))) 0 (by decide) shC_0 rfl 9 (by decide) (by decide +kernel) rfl (v := .ref (a 33)) rfl dX11_best_41 ?_
    refine lv_iconst (v := 0) hx hb dX11_best_44 (by decide) ?_
    refine lv_iconst (v := 0) hx hb dX11_best_45 (by decide) ?_
    refine is_ (σ2 := wr_ σ 33 0 (0 : Int32)) X I 33 (by decide) shC_33 (in_of (by decide)) shC_st_33 dX11_best_46 (fun σ_2 H locs e_3 I => ?_)
    have h := lt_at h e_3
    refine lv_sipush (v := 10000) hx hb dX11_best_47 (by decide) ?_
    refine lv_istore_n (lv' := [(2, .int (10000 : Int32)), (0, .ref (a 0))]) hx hb dX11_best_50 rfl hl (by decide) rfl (fun ls hl => ?_)
    refine lv_iconst (v := 0) hx hb dX11_best_51 (by decide) ?_
    refine lv_istore_n (lv' := [(3, .int (0 : Int32)), (2, .int (10000 : Int32)), (0, .ref (a 0))]) hx hb dX11_best_52 rfl hl (by decide) rfl (fun ls hl => ?_)
    exact kC_best_53L X  FU σ_2 (10000 : Int32) (0 : Int32) H locs ls h I (lv_sub hl [2, 1, 0] rfl)
  · have h := if_f h c_1
    refine lv_aload_n hx hb dX11_best_25 rfl (lv_at hl 0 rfl) ?_
    refine ig_ (index := 77) X I (fun _ q => List.mem_cons_of_mem _ (List.mem_append_left _ (List.mem_append_left _ (List.mem_append_right _ q)))) 0 (by decide) shC_0 rfl 9 (by decide) (by decide +kernel) rfl (v := .ref (a 33)) rfl dX11_best_26 ?_
    refine lv_iload_n hx hb dX11_best_29 rfl (lv_at hl 1 rfl) ?_
    refine lv_sipush (v := 10000) hx hb dX11_best_30 (by decide) ?_
    obtain ⟨g_6, h⟩ := gd_of h
    refine is_ (σ2 := wr_ σ 33 x2.toNatClampNeg (10000 : Int32)) X I 33 (by decide) shC_33 (in_of g_6) shC_st_33 dX11_best_33 (fun σ_4 H locs e_5 I => ?_)
    have h := lt_at h e_5
    obtain ⟨y_7, e_8⟩ : ∃ q : Int32, q = x2 + (1 : Int32) := ⟨_, rfl⟩
    have h := lt_at h e_8
    refine lv_iinc (v := y_7) (lv' := [(2, .int y_7), (0, .ref (a 0))]) hx hb dX11_best_34 hl (k := 1) rfl (by rw [e_8]; rfl) (by decide) rfl (fun ls hl => ?_)
    refine lv_goto (tgt := 16) hx hb dX11_best_37 (by decide) ?_
    exact hk16 σ_4 y_7 H locs ls h I (lv_sub hl [1, 0] rfl)
set_option maxRecDepth 100000 in
theorem kC_best_16L {p : Program} {l : Launch} {e : Env} {s : State} {m : MethodId} {args : Array Value} {below : List Frame} {meth : Method} {c : Code} {D : va_G} {cy : Nat → ClassId} {a gs : Nat → Nat} (X : cx_ cX11_best RX11 wsX11_best 5 (some .int) 59 a D cy (xfC gs) p s m args meth c)  {r0 : Int32} {σ' : Sg}  : ∀ (n : Nat), ∀ (σ : Sg) (x2 : Int32) (H : Heap) (locs : List Loc) (ls : Array Slot), lp_ (C_best_16) (fun _ _ => none) n σ x2 = some (r0, σ') → iv_ 59 a D (shC cy a σ) s H locs → lv_has ls 5 [(0, .ref (a 0)), (2, .int x2)] → W p l e ({ frames := 7, cells := 0, slots := 0, locals := 163 }) s m args below meth c H locs 0 0 (MQ below (qg_ 59 a D (shC cy a σ') (some (.int r0)) s.heap.size) args s 0 0 (fr_ 59 a s.heap.size)) (F0 m 16 ls []) := by
  intro n
  induction n with
  | zero =>
    intro _ _ _ _ _ h
    exact absurd h (fun q => by cases (show (none : Option _) = some _ from q))
  | succ n ih => exact kC_best_16 X ih

def C_best_0  (σ : Sg) (x1 : Int32) : Option (Int32 × Sg) :=
  bp_ (C_isPlan_0 x1) fun r_2 =>
  if r_2 = 0 then (some ((-1 : Int32), σ))
  else (bi_ (C_fillFars_0 σ x1) fun _ σ_5 =>
  lp_ C_best_16 (fun _ _ => none) FU σ_5 (0 : Int32))
set_option maxRecDepth 100000 in
theorem kC_best_0 {p : Program} {l : Launch} {e : Env} {s : State} {m : MethodId} {args : Array Value} {below : List Frame} {meth : Method} {c : Code} {D : va_G} {cy : Nat → ClassId} {a gs : Nat → Nat} (X : cx_ cX11_best RX11 wsX11_best 5 (some .int) 59 a D cy (xfC gs) p s m args meth c)  {r0 : Int32} {σ' : Sg}  : ∀ (σ : Sg) (x1 : Int32) (H : Heap) (locs : List Loc) (ls : Array Slot), C_best_0 σ x1 = some (r0, σ') → iv_ 59 a D (shC cy a σ) s H locs → lv_has ls 5 [(0, .ref (a 0)), (1, .int x1)] → W p l e ({ frames := 7, cells := 0, slots := 0, locals := 163 }) s m args below meth c H locs 0 0 (MQ below (qg_ 59 a D (shC cy a σ') (some (.int r0)) s.heap.size) args s 0 0 (fr_ 59 a s.heap.size)) (F0 m 0 ls []) := by
  obtain ⟨hx, hb, hr, hml, hown, hts, hlk, hK, hA, hXf⟩ := id X
  intro σ x1 H locs ls h I hl
  unfold C_best_0 at h
  refine lv_iload_n hx hb dX11_best_0 rfl (lv_at hl 1 rfl) ?_
  obtain ⟨r_2, hc_1, h⟩ := bp_of h
  refine cp_ (rP_ (nn := 1) (As := [.int x1]) (rest := []) ⟨hx, hb, hml, hown, hts⟩ (c_C_isPlan hc_1) gX11_best_X11_isPlan rfl ⟨rfl, rfl⟩ (by decide +kernel) ⟨Nat.le_of_ble_eq_true rfl, Nat.le_of_ble_eq_true rfl⟩ rfl hl.1 rfl (Nat.le_of_ble_eq_true rfl) dX11_best_1 ⟨Nat.zero_le _, Nat.zero_le _⟩) ?_
  refine lv_if_ne (tgt := 9) hx hb dX11_best_4 (by decide) (fun c_3 => ?_) (fun c_3 => ?_)
  · have h := if_f h c_3
    refine lv_aload_n hx hb dX11_best_9 rfl (lv_at hl 0 rfl) ?_
    refine lv_iload_n hx hb dX11_best_10 rfl (lv_at hl 1 rfl) ?_
    obtain ⟨_, σ_5, hc_4, h⟩ := bi_of h
    refine cv_ (rV_ (nn := 1) (As := [.int x1]) (rest := []) X xkC I (c_C_fillFars hc_4 H.size) gX11_best_X11_fillFars rfl ⟨rfl, rfl⟩ (by decide +kernel) ⟨Nat.le_of_ble_eq_true rfl, Nat.le_of_ble_eq_true rfl⟩ (by decide) shC_0 rfl rfl hl.1 rfl (Nat.le_of_ble_eq_true rfl) dX11_best_11) I (fun H locs I => ?_)
    refine lv_iconst (v := 0) hx hb dX11_best_14 (by decide) ?_
    refine lv_istore_n (lv' := [(2, .int (0 : Int32)), (0, .ref (a 0)), (1, .int x1)]) hx hb dX11_best_15 rfl hl (by decide) rfl (fun ls hl => ?_)
    exact kC_best_16L X  FU σ_5 (0 : Int32) H locs ls h I (lv_sub hl [1, 0] rfl)
  · have h := if_t h c_3
    refine lv_iconst (v := (-1)) hx hb dX11_best_7 (by decide) ?_
    obtain ⟨rfl, rfl⟩ := re_s h
    exact rti_ X I dX11_best_8
theorem c_C_best {l : Launch} {D : va_G} {cy : Nat → ClassId} {a gs : Nat → Nat} {σ : Sg} {x1 : Int32} {r0 : Int32} {σ' : Sg} (h : C_best_0 σ x1 = some (r0, σ')) (sz : Nat) : Met l yX11_best wsX11_best ({ frames := 7, cells := 0, slots := 0, locals := 163 }) (va_Pc [.ref (a 0), .int x1] (pr_ 59 a D cy (shC cy a σ) (xfC gs) sz)) (qg_ 59 a D (shC cy a σ') (some (.int r0)) sz) 0 0 (fr_ 59 a sz) := by
  refine ent_ (by decide) rfl (Nat.le_of_ble_eq_true rfl) ?_
  intro p e s m below meth c ls hsz X I hl
  subst hsz
  exact kC_best_0 X σ x1 s.heap [] ls h I hl
