def C6_mark_0  (σ : Sg) (x0 : Nat) (x1 : Int32) : Option (Int32 × Sg) :=
  if x1 = 0 then (gd_ (lf_ x0 25) (
  some ((rd_ σ (34 + x0) 0), σ)))
  else (if x1 = 1 then (gd_ (lf_ x0 25) (
  some ((rd_ σ (34 + x0) 1), σ)))
  else (if x1 = 2 then (gd_ (lf_ x0 25) (
  some ((rd_ σ (34 + x0) 2), σ)))
  else (if x1 = 3 then (gd_ (lf_ x0 25) (
  some ((rd_ σ (34 + x0) 3), σ)))
  else (if x1 = 4 then (gd_ (lf_ x0 25) (
  some ((rd_ σ (34 + x0) 4), σ)))
  else (gd_ (lf_ x0 25) (
  some ((rd_ σ (34 + x0) 5), σ)))))))
set_option maxRecDepth 100000 in
theorem kC6_mark_0 {p : Program} {l : Launch} {e : Env} {s : State} {m : MethodId} {args : Array Value} {below : List Frame} {meth : Method} {c : Code} {D : va_G} {cy : Nat → ClassId} {a gs : Nat → Nat} (X : cx_ cX6_mark RX6 wsX6_mark 2 (some .int) 59 a D cy (xfC gs) p s m args meth c)  {r0 : Int32} {σ' : Sg}  : ∀ (σ : Sg) (x0 : Nat) (x1 : Int32) (H : Heap) (locs : List Loc) (ls : Array Slot), C6_mark_0 σ x0 x1 = some (r0, σ') → iv_ 59 a D (shC cy a σ) s H locs → lv_has ls 2 [(0, .ref (a (34 + x0))), (1, .int x1)] → W p l e ({ frames := 0, cells := 0, slots := 0, locals := 0 }) s m args below meth c H locs 0 0 (MQ below (qg_ 59 a D (shC cy a σ') (some (.int r0)) s.heap.size) args s 0 0 (fr_ 59 a s.heap.size)) (F0 m 0 ls []) := by
  obtain ⟨hx, hb, hr, hml, hown, hts, hlk, hK, hA, hXf⟩ := id X
  intro σ x0 x1 H locs ls h I hl
  unfold C6_mark_0 at h
  refine lv_iload_n hx hb dX6_mark_0 rfl (lv_at hl 1 rfl) ?_
  by_cases c_1 : x1 = 0
  · have h := if_t h c_1
    refine lv_tableIn (tgt := 36) (off := 35) hx hb dX6_mark_1 (by rw [c_1]; decide) (by rw [c_1]; decide) (by rw [c_1]; decide) (by decide) ?_
    refine lv_aload_n hx hb dX6_mark_36 rfl (lv_at hl 0 rfl) ?_
    obtain ⟨g_2, h⟩ := gd_of h
    refine ig_ (index := 9) X I (fun _ q => List.mem_cons_of_mem _ (List.mem_append_right _ q)) (34 + x0) (lf59 g_2) shC_L rfl 0 (by decide) (by decide +kernel) rfl (v := .int (rd_ σ (34 + x0) 0)) rfl dX6_mark_37 ?_
    obtain ⟨rfl, rfl⟩ := re_s h
    exact rti_ X I dX6_mark_40
  · have h := if_f h c_1
    by_cases c_3 : x1 = 1
    · have h := if_t h c_3
      refine lv_tableIn (tgt := 41) (off := 40) hx hb dX6_mark_1 (by rw [c_3]; decide) (by rw [c_3]; decide) (by rw [c_3]; decide) (by decide) ?_
      refine lv_aload_n hx hb dX6_mark_41 rfl (lv_at hl 0 rfl) ?_
      obtain ⟨g_4, h⟩ := gd_of h
      refine ig_ (index := 15) X I (fun _ q => List.mem_cons_of_mem _ (List.mem_append_right _ q)) (34 + x0) (lf59 g_4) shC_L rfl 1 (by decide) (by decide +kernel) rfl (v := .int (rd_ σ (34 + x0) 1)) rfl dX6_mark_42 ?_
      obtain ⟨rfl, rfl⟩ := re_s h
      exact rti_ X I dX6_mark_45
    · have h := if_f h c_3
      by_cases c_5 : x1 = 2
      · have h := if_t h c_5
        refine lv_tableIn (tgt := 46) (off := 45) hx hb dX6_mark_1 (by rw [c_5]; decide) (by rw [c_5]; decide) (by rw [c_5]; decide) (by decide) ?_
        refine lv_aload_n hx hb dX6_mark_46 rfl (lv_at hl 0 rfl) ?_
        obtain ⟨g_6, h⟩ := gd_of h
        refine ig_ (index := 18) X I (fun _ q => List.mem_cons_of_mem _ (List.mem_append_right _ q)) (34 + x0) (lf59 g_6) shC_L rfl 2 (by decide) (by decide +kernel) rfl (v := .int (rd_ σ (34 + x0) 2)) rfl dX6_mark_47 ?_
        obtain ⟨rfl, rfl⟩ := re_s h
        exact rti_ X I dX6_mark_50
      · have h := if_f h c_5
        by_cases c_7 : x1 = 3
        · have h := if_t h c_7
          refine lv_tableIn (tgt := 51) (off := 50) hx hb dX6_mark_1 (by rw [c_7]; decide) (by rw [c_7]; decide) (by rw [c_7]; decide) (by decide) ?_
          refine lv_aload_n hx hb dX6_mark_51 rfl (lv_at hl 0 rfl) ?_
          obtain ⟨g_8, h⟩ := gd_of h
          refine ig_ (index := 21) X I (fun _ q => List.mem_cons_of_mem _ (List.mem_append_right _ q)) (34 + x0) (lf59 g_8) shC_L rfl 3 (by decide) (by decide +kernel) rfl (v := .int (rd_ σ (34 + x0) 3)) rfl dX6_mark_52 ?_
          obtain ⟨rfl, rfl⟩ := re_s h
          exact rti_ X I dX6_mark_55
        · have h := if_f h c_7
          by_cases c_9 : x1 = 4
          · have h := if_t h c_9
            refine lv_tableIn (tgt := 56) (off := 55) hx hb dX6_mark_1 (by rw [c_9]; decide) (by rw [c_9]; decide) (by rw [c_9]; decide) (by decide) ?_
            refine lv_aload_n hx hb dX6_mark_56 rfl (lv_at hl 0 rfl) ?_
            obtain ⟨g_10, h⟩ := gd_of h
            refine ig_ (index := 24) X I (fun _ q => List.mem_cons_of_mem _ (List.mem_append_right _ q)) (34 + x0) (lf59 g_10) shC_L rfl 4 (by decide) (by decide +kernel) rfl (v := .int (rd_ σ (34 + x0) 4)) rfl dX6_mark_57 ?_
            obtain ⟨rfl, rfl⟩ := re_s h
            exact rti_ X I dX6_mark_60
          · have h := if_f h c_9
            refine lv_tableOut (tgt := 61) hx hb dX6_mark_1 (by have q0 := lv_neT (a := 0) c_1 rfl; have q1 := lv_neT (a := 1) c_3 rfl; have q2 := lv_neT (a := 2) c_5 rfl; have q3 := lv_neT (a := 3) c_7 rfl; have q4 := lv_neT (a := 4) c_9 rfl; omega) (by decide) ?_
            refine lv_aload_n hx hb dX6_mark_61 rfl (lv_at hl 0 rfl) ?_
            obtain ⟨g_11, h⟩ := gd_of h
            refine ig_ (index := 27) X I (fun _ q => List.mem_cons_of_mem _ (List.mem_append_right _ q)) (34 + x0) (lf59 g_11) shC_L rfl 5 (by decide) (by decide +kernel) rfl (v := .int (rd_ σ (34 + x0) 5)) rfl dX6_mark_62 ?_
            obtain ⟨rfl, rfl⟩ := re_s h
            exact rti_ X I dX6_mark_65
theorem c_C6_mark {l : Launch} {D : va_G} {cy : Nat → ClassId} {a gs : Nat → Nat} {σ : Sg} {x0 : Nat} {x1 : Int32} {r0 : Int32} {σ' : Sg} (h : C6_mark_0 σ x0 x1 = some (r0, σ')) (sz : Nat) : Met l yX6_mark wsX6_mark ({ frames := 0, cells := 0, slots := 0, locals := 0 }) (va_Pc [.ref (a (34 + x0)), .int x1] (pr_ 59 a D cy (shC cy a σ) (xfC gs) sz)) (qg_ 59 a D (shC cy a σ') (some (.int r0)) sz) 0 0 (fr_ 59 a sz) := by
  refine ent_ (by decide) rfl (Nat.le_of_ble_eq_true rfl) ?_
  intro p e s m below meth c ls hsz X I hl
  subst hsz
  exact kC6_mark_0 X σ x0 x1 s.heap [] ls h I hl

def C_of_0  (σ : Sg) (x1 : Int32) (x2 : Int32) : Option (Int32 × Sg) :=
  bi_ (C1_life_0 σ x1) fun r_3 σ_2 =>
  on_ r_3 (some ((-1 : Int32), σ_2)) fun j_4 =>
  bp_ (C_within_0 x2 (5 : Int32)) fun r_6 =>
  if r_6 = 0 then (some ((-1 : Int32), σ_2))
  else (gd_ (lf_ j_4 25) (
  bi_ (C6_mark_0 σ_2 j_4 x2) fun r_11 σ_9 =>
  some (r_11, σ_9)))
set_option maxRecDepth 100000 in
theorem kC_of_0 {p : Program} {l : Launch} {e : Env} {s : State} {m : MethodId} {args : Array Value} {below : List Frame} {meth : Method} {c : Code} {D : va_G} {cy : Nat → ClassId} {a gs : Nat → Nat} (X : cx_ cX11_of RX11 wsX11_of 4 (some .int) 59 a D cy (xfC gs) p s m args meth c)  {r0 : Int32} {σ' : Sg}  : ∀ (σ : Sg) (x1 : Int32) (x2 : Int32) (H : Heap) (locs : List Loc) (ls : Array Slot), C_of_0 σ x1 x2 = some (r0, σ') → iv_ 59 a D (shC cy a σ) s H locs → lv_has ls 4 [(0, .ref (a 0)), (1, .int x1), (2, .int x2)] → W p l e ({ frames := 2, cells := 0, slots := 0, locals := 42 }) s m args below meth c H locs 0 0 (MQ below (qg_ 59 a D (shC cy a σ') (some (.int r0)) s.heap.size) args s 0 0 (fr_ 59 a s.heap.size)) (F0 m 0 ls []) := by
  obtain ⟨hx, hb, hr, hml, hown, hts, hlk, hK, hA, hXf⟩ := id X
  intro σ x1 x2 H locs ls h I hl
  unfold C_of_0 at h
  refine lv_aload_n hx hb dX11_of_0 rfl (lv_at hl 0 rfl) ?_
  refine ig_ (index := 30) X I (fun _ q => List.mem_cons_of_mem _ (List.mem_append_left _ (List.mem_append_left _ (List.mem_append_right _ q)))) 0 (by decide) shC_0 rfl 0 (by decide) (by decide +kernel) rfl (v := .ref (a 1)) rfl dX11_of_1 ?_
  refine lv_iload_n hx hb dX11_of_4 rfl (lv_at hl 1 rfl) ?_
  obtain ⟨r_3, σ_2, hc_1, h⟩ := bi_of h
  refine cg_ (v := va_re (fun j => a (34 + j)) r_3) (rV_ (nn := 1) (As := [.int x1]) (rest := []) X xkC I (c_C1_life hc_1 H.size) gX11_of_X1_life rfl ⟨rfl, rfl⟩ (by decide +kernel) ⟨Nat.le_of_ble_eq_true rfl, Nat.le_of_ble_eq_true rfl⟩ (by decide) shC_1 rfl rfl hl.1 rfl (Nat.le_of_ble_eq_true rfl) dX11_of_5) I (fun H locs I => ?_)
  rcases r_3 with _ | j_4
  · have h := on_n h
    refine W.eq (g2 := F0 m 8 ls [.null]) rfl ?_
    refine lv_astore_nN (lv' := [(3, .null), (0, .ref (a 0)), (1, .int x1), (2, .int x2)]) hx hb dX11_of_8 rfl hl (by decide) rfl (fun ls hl => ?_)
    refine lv_aload_nN hx hb dX11_of_9 rfl (lv_at hl 0 rfl) ?_
    refine lv_ifnullN (tgt := 29) hx hb dX11_of_10 (by decide) ?_
    refine lv_iconst (v := (-1)) hx hb dX11_of_29 (by decide) ?_
    obtain ⟨rfl, rfl⟩ := re_s h
    exact rti_ X I dX11_of_30
  · have h := on_s h
    refine W.eq (g2 := F0 m 8 ls [.ref (a (34 + j_4))]) rfl ?_
    refine lv_astore_n (lv' := [(3, .ref (a (34 + j_4))), (0, .ref (a 0)), (1, .int x1), (2, .int x2)]) hx hb dX11_of_8 rfl hl (by decide) rfl (fun ls hl => ?_)
    refine lv_aload_n hx hb dX11_of_9 rfl (lv_at hl 0 rfl) ?_
    refine lv_ifnull hx hb dX11_of_10 ?_
    refine lv_iload_n hx hb dX11_of_13 rfl (lv_at hl 3 rfl) ?_
    refine lv_iconst (v := 5) hx hb dX11_of_14 (by decide) ?_
    obtain ⟨r_6, hc_5, h⟩ := bp_of h
    refine cp_ (rP_ (nn := 2) (As := [.int x2, .int (5 : Int32)]) (rest := []) ⟨hx, hb, hml, hown, hts⟩ (c_C_within hc_5) gX11_of_X11_within rfl ⟨rfl, rfl⟩ (by decide +kernel) ⟨Nat.le_of_ble_eq_true rfl, Nat.le_of_ble_eq_true rfl⟩ rfl hl.1 rfl (Nat.le_of_ble_eq_true rfl) dX11_of_15 ⟨Nat.zero_le _, Nat.zero_le _⟩) ?_
    refine lv_if_eq (tgt := 29) hx hb dX11_of_18 (by decide) (fun c_7 => ?_) (fun c_7 => ?_)
    · have h := if_t h c_7
      refine lv_iconst (v := (-1)) hx hb dX11_of_29 (by decide) ?_
      obtain ⟨rfl, rfl⟩ := re_s h
      exact rti_ X I dX11_of_30
    · have h := if_f h c_7
      refine lv_aload_n hx hb dX11_of_21 rfl (lv_at hl 0 rfl) ?_
      refine lv_iload_n hx hb dX11_of_22 rfl (lv_at hl 3 rfl) ?_
      obtain ⟨g_10, h⟩ := gd_of h
      obtain ⟨r_11, σ_9, hc_8, h⟩ := bi_of h
      refine cg_ (v := .int r_11) (rV_ (nn := 1) (As := [.int x2]) (rest := []) X xkC I (c_C6_mark hc_8 H.size) gX11_of_X6_mark rfl ⟨rfl, rfl⟩ (by decide +kernel) ⟨Nat.le_of_ble_eq_true rfl, Nat.le_of_ble_eq_true rfl⟩ (lf59 g_10) shC_L rfl rfl hl.1 rfl (Nat.le_of_ble_eq_true rfl) dX11_of_23) I (fun H locs I => ?_)
      refine lv_goto (tgt := 30) hx hb dX11_of_26 (by decide) ?_
      obtain ⟨rfl, rfl⟩ := re_s h
      exact rti_ X I dX11_of_30
theorem c_C_of {l : Launch} {D : va_G} {cy : Nat → ClassId} {a gs : Nat → Nat} {σ : Sg} {x1 : Int32} {x2 : Int32} {r0 : Int32} {σ' : Sg} (h : C_of_0 σ x1 x2 = some (r0, σ')) (sz : Nat) : Met l yX11_of wsX11_of ({ frames := 2, cells := 0, slots := 0, locals := 42 }) (va_Pc [.ref (a 0), .int x1, .int x2] (pr_ 59 a D cy (shC cy a σ) (xfC gs) sz)) (qg_ 59 a D (shC cy a σ') (some (.int r0)) sz) 0 0 (fr_ 59 a sz) := by
  refine ent_ (by decide) rfl (Nat.le_of_ble_eq_true rfl) ?_
  intro p e s m below meth c ls hsz X I hl
  subst hsz
  exact kC_of_0 X σ x1 x2 s.heap [] ls h I hl

def C1_kindOf_0  (σ : Sg) (x1 : Nat) : Option (Nat × Sg) :=
  gd_ (lf_ x1 25) (
  bp_ (C_within_0 (rd_ σ (34 + x1) 0) (5 : Int32)) fun r_3 =>
  if r_3 = 0 then (some (0, σ))
  else (lt_ ((rd_ σ (34 + x1) 0)) fun y_5 =>
  gd_ (in_ y_5 6) (
  some (y_5.toNatClampNeg, σ))))
set_option maxRecDepth 100000 in
theorem kC1_kindOf_0 {p : Program} {l : Launch} {e : Env} {s : State} {m : MethodId} {args : Array Value} {below : List Frame} {meth : Method} {c : Code} {D : va_G} {cy : Nat → ClassId} {a gs : Nat → Nat} (X : cx_ cX1_kindOf RX1 wsX1_kindOf 2 (some (.object "BoundGodmothers$Child")) 59 a D cy (xfC gs) p s m args meth c)  {r0 : Nat} {σ' : Sg}  : ∀ (σ : Sg) (x1 : Nat) (H : Heap) (locs : List Loc) (ls : Array Slot), C1_kindOf_0 σ x1 = some (r0, σ') → iv_ 59 a D (shC cy a σ) s H locs → lv_has ls 2 [(0, .ref (a 1)), (1, .ref (a (34 + x1)))] → W p l e ({ frames := 1, cells := 0, slots := 0, locals := 21 }) s m args below meth c H locs 0 0 (MQ below (qg_ 59 a D (shC cy a σ') (some (.ref (a (14 + r0)))) s.heap.size) args s 0 0 (fr_ 59 a s.heap.size)) (F0 m 0 ls []) := by
  obtain ⟨hx, hb, hr, hml, hown, hts, hlk, hK, hA, hXf⟩ := id X
  intro σ x1 H locs ls h I hl
  unfold C1_kindOf_0 at h
  refine lv_aload_n hx hb dX1_kindOf_0 rfl (lv_at hl 0 rfl) ?_
  refine ig_ (index := 9) X I (fun _ q => List.mem_cons_of_mem _ (List.mem_append_left _ (List.mem_append_right _ q))) 1 (by decide) shC_1 rfl 7 (by decide) (by decide +kernel) rfl (v := .ref (a 13)) rfl dX1_kindOf_1 ?_
  refine lv_aload_n hx hb dX1_kindOf_4 rfl (lv_at hl 1 rfl) ?_
  obtain ⟨g_1, h⟩ := gd_of h
  refine ig_ (index := 66) X I (fun _ q => List.mem_cons_of_mem _ (List.mem_append_right _ q)) (34 + x1) (lf59 g_1) shC_L rfl 0 (by decide) (by decide +kernel) rfl (v := .int (rd_ σ (34 + x1) 0)) rfl dX1_kindOf_5 ?_
  refine lv_iconst (v := 5) hx hb dX1_kindOf_8 (by decide) ?_
  obtain ⟨r_3, hc_2, h⟩ := bp_of h
  refine cp_ (rN_ (host := "BoundGodmothers") (nn := 2) (As := [.int (rd_ σ (34 + x1) 0), .int (5 : Int32)]) (rest := [.ref (a 13)]) ⟨hx, hb, hml, hown, hts⟩ (c_C_within hc_2) gX1_kindOf_X11_within_n58 (xC_nw1 hXf) (by decide +kernel) (by decide +kernel) rfl ⟨rfl, rfl⟩ (by decide +kernel) ⟨Nat.le_of_ble_eq_true rfl, Nat.le_of_ble_eq_true rfl⟩ rfl hl.1 rfl (Nat.le_of_ble_eq_true rfl) dX1_kindOf_9 ⟨Nat.zero_le _, Nat.zero_le _⟩) ?_
  refine lv_if_eq (tgt := 22) hx hb dX1_kindOf_12 (by decide) (fun c_4 => ?_) (fun c_4 => ?_)
  · have h := if_t h c_4
    refine lv_iconst (v := 0) hx hb dX1_kindOf_22 (by decide) ?_
    refine aq_ (t := 3) (b := (a (14 + 0))) X I 13 (by decide) shC_13 rfl (in_of (by decide)) rfl dX1_kindOf_23 ?_
    obtain ⟨rfl, rfl⟩ := re_s h
    exact rta_ X I (Or.inr ⟨_, rfl⟩) dX1_kindOf_24
  · have h := if_f h c_4
    refine lv_aload_n hx hb dX1_kindOf_15 rfl (lv_at hl 1 rfl) ?_
    refine ig_ (index := 66) X I (fun _ q => List.mem_cons_of_mem _ (List.mem_append_right _ q)) (34 + x1) (lf59 g_1) shC_L rfl 0 (by decide) (by decide +kernel) rfl (v := .int (rd_ σ (34 + x1) 0)) rfl dX1_kindOf_16 ?_
    refine lv_goto (tgt := 23) hx hb dX1_kindOf_19 (by decide) ?_
    refine lv_topi (fun y_5 e_6 => ?_)
    have h := lt_at h e_6
    obtain ⟨g_7, h⟩ := gd_of h
    refine aq_ (t := 3) (b := (a (14 + y_5.toNatClampNeg))) X I 13 (by decide) shC_13 rfl (in_of g_7) rfl dX1_kindOf_23 ?_
    obtain ⟨rfl, rfl⟩ := re_s h
    exact rta_ X I (Or.inr ⟨_, rfl⟩) dX1_kindOf_24
theorem c_C1_kindOf {l : Launch} {D : va_G} {cy : Nat → ClassId} {a gs : Nat → Nat} {σ : Sg} {x1 : Nat} {r0 : Nat} {σ' : Sg} (h : C1_kindOf_0 σ x1 = some (r0, σ')) (sz : Nat) : Met l yX1_kindOf wsX1_kindOf ({ frames := 1, cells := 0, slots := 0, locals := 21 }) (va_Pc [.ref (a 1), .ref (a (34 + x1))] (pr_ 59 a D cy (shC cy a σ) (xfC gs) sz)) (qg_ 59 a D (shC cy a σ') (some (.ref (a (14 + r0)))) sz) 0 0 (fr_ 59 a sz) := by
  refine ent_ (by decide) rfl (Nat.le_of_ble_eq_true rfl) ?_
  intro p e s m below meth c ls hsz X I hl
  subst hsz
  exact kC1_kindOf_0 X σ x1 s.heap [] ls h I hl

def C0_moves_k0_0  (σ : Sg) (x1 : Int32) (x3 : Int32) : Option (Int32 × Sg) :=
  some (x1, σ)
set_option maxRecDepth 100000 in
theorem kC0_moves_k0_0 {p : Program} {l : Launch} {e : Env} {s : State} {m : MethodId} {args : Array Value} {below : List Frame} {meth : Method} {c : Code} {D : va_G} {cy : Nat → ClassId} {a gs : Nat → Nat} (X : cx_ cX0_moves RX0 wsX0_moves 4 (some .int) 59 a D cy (xfC gs) p s m args meth c)  {r0 : Int32} {σ' : Sg}  : ∀ (σ : Sg) (x1 : Int32) (x3 : Int32) (H : Heap) (locs : List Loc) (ls : Array Slot), C0_moves_k0_0 σ x1 x3 = some (r0, σ') → iv_ 59 a D (shC cy a σ) s H locs → lv_has ls 4 [(0, .ref (a 14)), (1, .int x1), (2, .ref (a 1)), (3, .int x3)] → W p l e ({ frames := 0, cells := 0, slots := 0, locals := 0 }) s m args below meth c H locs 0 0 (MQ below (qg_ 59 a D (shC cy a σ') (some (.int r0)) s.heap.size) args s 0 0 (fr_ 59 a s.heap.size)) (F0 m 0 ls []) := by
  obtain ⟨hx, hb, hr, hml, hown, hts, hlk, hK, hA, hXf⟩ := id X
  intro σ x1 x3 H locs ls h I hl
  unfold C0_moves_k0_0 at h
  refine lv_iload_n hx hb dX0_moves_0 rfl (lv_at hl 1 rfl) ?_
  obtain ⟨rfl, rfl⟩ := re_s h
  exact rti_ X I dX0_moves_1
theorem c_C0_moves_k0 {l : Launch} {D : va_G} {cy : Nat → ClassId} {a gs : Nat → Nat} {σ : Sg} {x1 : Int32} {x3 : Int32} {r0 : Int32} {σ' : Sg} (h : C0_moves_k0_0 σ x1 x3 = some (r0, σ')) (sz : Nat) : Met l yX0_moves wsX0_moves ({ frames := 0, cells := 0, slots := 0, locals := 0 }) (va_Pc [.ref (a 14), .int x1, .ref (a 1), .int x3] (pr_ 59 a D cy (shC cy a σ) (xfC gs) sz)) (qg_ 59 a D (shC cy a σ') (some (.int r0)) sz) 0 0 (fr_ 59 a sz) := by
  refine ent_ (by decide) rfl (Nat.le_of_ble_eq_true rfl) ?_
  intro p e s m below meth c ls hsz X I hl
  subst hsz
  exact kC0_moves_k0_0 X σ x1 x3 s.heap [] ls h I hl

def C0_moves_k1_0  (σ : Sg) (x1 : Int32) (x3 : Int32) : Option (Int32 × Sg) :=
  some (x1, σ)
set_option maxRecDepth 100000 in
theorem kC0_moves_k1_0 {p : Program} {l : Launch} {e : Env} {s : State} {m : MethodId} {args : Array Value} {below : List Frame} {meth : Method} {c : Code} {D : va_G} {cy : Nat → ClassId} {a gs : Nat → Nat} (X : cx_ cX0_moves RX0 wsX0_moves 4 (some .int) 59 a D cy (xfC gs) p s m args meth c)  {r0 : Int32} {σ' : Sg}  : ∀ (σ : Sg) (x1 : Int32) (x3 : Int32) (H : Heap) (locs : List Loc) (ls : Array Slot), C0_moves_k1_0 σ x1 x3 = some (r0, σ') → iv_ 59 a D (shC cy a σ) s H locs → lv_has ls 4 [(0, .ref (a 15)), (1, .int x1), (2, .ref (a 1)), (3, .int x3)] → W p l e ({ frames := 0, cells := 0, slots := 0, locals := 0 }) s m args below meth c H locs 0 0 (MQ below (qg_ 59 a D (shC cy a σ') (some (.int r0)) s.heap.size) args s 0 0 (fr_ 59 a s.heap.size)) (F0 m 0 ls []) := by
  obtain ⟨hx, hb, hr, hml, hown, hts, hlk, hK, hA, hXf⟩ := id X
  intro σ x1 x3 H locs ls h I hl
  unfold C0_moves_k1_0 at h
  refine lv_iload_n hx hb dX0_moves_0 rfl (lv_at hl 1 rfl) ?_
  obtain ⟨rfl, rfl⟩ := re_s h
  exact rti_ X I dX0_moves_1
theorem c_C0_moves_k1 {l : Launch} {D : va_G} {cy : Nat → ClassId} {a gs : Nat → Nat} {σ : Sg} {x1 : Int32} {x3 : Int32} {r0 : Int32} {σ' : Sg} (h : C0_moves_k1_0 σ x1 x3 = some (r0, σ')) (sz : Nat) : Met l yX0_moves wsX0_moves ({ frames := 0, cells := 0, slots := 0, locals := 0 }) (va_Pc [.ref (a 15), .int x1, .ref (a 1), .int x3] (pr_ 59 a D cy (shC cy a σ) (xfC gs) sz)) (qg_ 59 a D (shC cy a σ') (some (.int r0)) sz) 0 0 (fr_ 59 a sz) := by
  refine ent_ (by decide) rfl (Nat.le_of_ble_eq_true rfl) ?_
  intro p e s m below meth c ls hsz X I hl
  subst hsz
  exact kC0_moves_k1_0 X σ x1 x3 s.heap [] ls h I hl

def C5_moves_k1_0  (σ : Sg) (x1 : Int32) (x3 : Int32) : Option (Int32 × Sg) :=
  bi_ (C0_moves_k1_0 σ x1 x3) fun r_3 σ_2 =>
  some ((r_3 / (2 : Int32)), σ_2)
set_option maxRecDepth 100000 in
theorem kC5_moves_k1_0 {p : Program} {l : Launch} {e : Env} {s : State} {m : MethodId} {args : Array Value} {below : List Frame} {meth : Method} {c : Code} {D : va_G} {cy : Nat → ClassId} {a gs : Nat → Nat} (X : cx_ cX5_moves RX5 wsX5_moves 4 (some .int) 59 a D cy (xfC gs) p s m args meth c)  {r0 : Int32} {σ' : Sg}  : ∀ (σ : Sg) (x1 : Int32) (x3 : Int32) (H : Heap) (locs : List Loc) (ls : Array Slot), C5_moves_k1_0 σ x1 x3 = some (r0, σ') → iv_ 59 a D (shC cy a σ) s H locs → lv_has ls 4 [(0, .ref (a 15)), (1, .int x1), (2, .ref (a 1)), (3, .int x3)] → W p l e ({ frames := 1, cells := 0, slots := 0, locals := 23 }) s m args below meth c H locs 0 0 (MQ below (qg_ 59 a D (shC cy a σ') (some (.int r0)) s.heap.size) args s 0 0 (fr_ 59 a s.heap.size)) (F0 m 0 ls []) := by
  obtain ⟨hx, hb, hr, hml, hown, hts, hlk, hK, hA, hXf⟩ := id X
  intro σ x1 x3 H locs ls h I hl
  unfold C5_moves_k1_0 at h
  refine lv_aload_n hx hb dX5_moves_0 rfl (lv_at hl 0 rfl) ?_
  refine lv_iload_n hx hb dX5_moves_1 rfl (lv_at hl 1 rfl) ?_
  refine lv_aload_n hx hb dX5_moves_2 rfl (lv_at hl 2 rfl) ?_
  refine lv_iload_n hx hb dX5_moves_3 rfl (lv_at hl 3 rfl) ?_
  obtain ⟨r_3, σ_2, hc_1, h⟩ := bi_of h
  refine cg_ (v := .int r_3) (rSU_ (nn := 3) (As := [.int x1, .ref (a 1), .int x3]) (rest := []) X xkC I (c_C0_moves_k1 hc_1 H.size) gX5_moves_X0_moves_s7 rfl ⟨rfl, rfl⟩ (by decide +kernel) ⟨Nat.le_of_ble_eq_true rfl, Nat.le_of_ble_eq_true rfl⟩ (by decide) shC_15 rfl rfl hl.1 rfl (Nat.le_of_ble_eq_true rfl) dX5_moves_4) I (fun H locs I => ?_)
  refine lv_iconst (v := 2) hx hb dX5_moves_7 (by decide) ?_
  refine lv_idiv hx hb dX5_moves_8 (by decide) ?_
  obtain ⟨rfl, rfl⟩ := re_s h
  exact rti_ X I dX5_moves_9
theorem c_C5_moves_k1 {l : Launch} {D : va_G} {cy : Nat → ClassId} {a gs : Nat → Nat} {σ : Sg} {x1 : Int32} {x3 : Int32} {r0 : Int32} {σ' : Sg} (h : C5_moves_k1_0 σ x1 x3 = some (r0, σ')) (sz : Nat) : Met l yX5_moves wsX5_moves ({ frames := 1, cells := 0, slots := 0, locals := 23 }) (va_Pc [.ref (a 15), .int x1, .ref (a 1), .int x3] (pr_ 59 a D cy (shC cy a σ) (xfC gs) sz)) (qg_ 59 a D (shC cy a σ') (some (.int r0)) sz) 0 0 (fr_ 59 a sz) := by
  refine ent_ (by decide) rfl (Nat.le_of_ble_eq_true rfl) ?_
  intro p e s m below meth c ls hsz X I hl
  subst hsz
  exact kC5_moves_k1_0 X σ x1 x3 s.heap [] ls h I hl

def C0_moves_k2_0  (σ : Sg) (x1 : Int32) (x3 : Int32) : Option (Int32 × Sg) :=
  some (x1, σ)
set_option maxRecDepth 100000 in
theorem kC0_moves_k2_0 {p : Program} {l : Launch} {e : Env} {s : State} {m : MethodId} {args : Array Value} {below : List Frame} {meth : Method} {c : Code} {D : va_G} {cy : Nat → ClassId} {a gs : Nat → Nat} (X : cx_ cX0_moves RX0 wsX0_moves 4 (some .int) 59 a D cy (xfC gs) p s m args meth c)  {r0 : Int32} {σ' : Sg}  : ∀ (σ : Sg) (x1 : Int32) (x3 : Int32) (H : Heap) (locs : List Loc) (ls : Array Slot), C0_moves_k2_0 σ x1 x3 = some (r0, σ') → iv_ 59 a D (shC cy a σ) s H locs → lv_has ls 4 [(0, .ref (a 16)), (1, .int x1), (2, .ref (a 1)), (3, .int x3)] → W p l e ({ frames := 0, cells := 0, slots := 0, locals := 0 }) s m args below meth c H locs 0 0 (MQ below (qg_ 59 a D (shC cy a σ') (some (.int r0)) s.heap.size) args s 0 0 (fr_ 59 a s.heap.size)) (F0 m 0 ls []) := by
  obtain ⟨hx, hb, hr, hml, hown, hts, hlk, hK, hA, hXf⟩ := id X
  intro σ x1 x3 H locs ls h I hl
  unfold C0_moves_k2_0 at h
  refine lv_iload_n hx hb dX0_moves_0 rfl (lv_at hl 1 rfl) ?_
  obtain ⟨rfl, rfl⟩ := re_s h
  exact rti_ X I dX0_moves_1
theorem c_C0_moves_k2 {l : Launch} {D : va_G} {cy : Nat → ClassId} {a gs : Nat → Nat} {σ : Sg} {x1 : Int32} {x3 : Int32} {r0 : Int32} {σ' : Sg} (h : C0_moves_k2_0 σ x1 x3 = some (r0, σ')) (sz : Nat) : Met l yX0_moves wsX0_moves ({ frames := 0, cells := 0, slots := 0, locals := 0 }) (va_Pc [.ref (a 16), .int x1, .ref (a 1), .int x3] (pr_ 59 a D cy (shC cy a σ) (xfC gs) sz)) (qg_ 59 a D (shC cy a σ') (some (.int r0)) sz) 0 0 (fr_ 59 a sz) := by
  refine ent_ (by decide) rfl (Nat.le_of_ble_eq_true rfl) ?_
  intro p e s m below meth c ls hsz X I hl
  subst hsz
  exact kC0_moves_k2_0 X σ x1 x3 s.heap [] ls h I hl

def C10_moves_k2_0  (σ : Sg) (x1 : Int32) (x3 : Int32) : Option (Int32 × Sg) :=
  bi_ (C0_moves_k2_0 σ x1 x3) fun r_3 σ_2 =>
  some ((r_3 + (rd_ σ_2 4 1)), σ_2)
set_option maxRecDepth 100000 in
theorem kC10_moves_k2_0 {p : Program} {l : Launch} {e : Env} {s : State} {m : MethodId} {args : Array Value} {below : List Frame} {meth : Method} {c : Code} {D : va_G} {cy : Nat → ClassId} {a gs : Nat → Nat} (X : cx_ cX10_moves RX10 wsX10_moves 4 (some .int) 59 a D cy (xfC gs) p s m args meth c)  {r0 : Int32} {σ' : Sg}  : ∀ (σ : Sg) (x1 : Int32) (x3 : Int32) (H : Heap) (locs : List Loc) (ls : Array Slot), C10_moves_k2_0 σ x1 x3 = some (r0, σ') → iv_ 59 a D (shC cy a σ) s H locs → lv_has ls 4 [(0, .ref (a 16)), (1, .int x1), (2, .ref (a 1)), (3, .int x3)] → W p l e ({ frames := 1, cells := 0, slots := 0, locals := 23 }) s m args below meth c H locs 0 0 (MQ below (qg_ 59 a D (shC cy a σ') (some (.int r0)) s.heap.size) args s 0 0 (fr_ 59 a s.heap.size)) (F0 m 0 ls []) := by
  obtain ⟨hx, hb, hr, hml, hown, hts, hlk, hK, hA, hXf⟩ := id X
  intro σ x1 x3 H locs ls h I hl
  unfold C10_moves_k2_0 at h
  refine lv_aload_n hx hb dX10_moves_0 rfl (lv_at hl 0 rfl) ?_
  refine lv_iload_n hx hb dX10_moves_1 rfl (lv_at hl 1 rfl) ?_
  refine lv_aload_n hx hb dX10_moves_2 rfl (lv_at hl 2 rfl) ?_
  refine lv_iload_n hx hb dX10_moves_3 rfl (lv_at hl 3 rfl) ?_
  obtain ⟨r_3, σ_2, hc_1, h⟩ := bi_of h
  refine cg_ (v := .int r_3) (rSU_ (nn := 3) (As := [.int x1, .ref (a 1), .int x3]) (rest := []) X xkC I (c_C0_moves_k2 hc_1 H.size) gX10_moves_X0_moves_s9 rfl ⟨rfl, rfl⟩ (by decide +kernel) ⟨Nat.le_of_ble_eq_true rfl, Nat.le_of_ble_eq_true rfl⟩ (by decide) shC_16 rfl rfl hl.1 rfl (Nat.le_of_ble_eq_true rfl) dX10_moves_4) I (fun H locs I => ?_)
  refine lv_aload_n hx hb dX10_moves_7 rfl (lv_at hl 2 rfl) ?_
  refine ig_ (index := 13) X I (fun _ q => List.mem_cons_of_mem _ (List.mem_append_right _ q)) 1 (by decide) shC_1 rfl 0 (by decide) (by decide +kernel) rfl (v := .ref (a 4)) rfl dX10_moves_8 ?_
  refine lv_iconst (v := 1) hx hb dX10_moves_11 (by decide) ?_
  refine ia_ X I 4 (by decide) shC_4 (in_of (by decide)) (v0 := (rd_ σ_2 4 1)) rfl dX10_moves_12 ?_
  refine lv_iadd hx hb dX10_moves_13 ?_
  obtain ⟨rfl, rfl⟩ := re_s h
  exact rti_ X I dX10_moves_14
theorem c_C10_moves_k2 {l : Launch} {D : va_G} {cy : Nat → ClassId} {a gs : Nat → Nat} {σ : Sg} {x1 : Int32} {x3 : Int32} {r0 : Int32} {σ' : Sg} (h : C10_moves_k2_0 σ x1 x3 = some (r0, σ')) (sz : Nat) : Met l yX10_moves wsX10_moves ({ frames := 1, cells := 0, slots := 0, locals := 23 }) (va_Pc [.ref (a 16), .int x1, .ref (a 1), .int x3] (pr_ 59 a D cy (shC cy a σ) (xfC gs) sz)) (qg_ 59 a D (shC cy a σ') (some (.int r0)) sz) 0 0 (fr_ 59 a sz) := by
  refine ent_ (by decide) rfl (Nat.le_of_ble_eq_true rfl) ?_
  intro p e s m below meth c ls hsz X I hl
  subst hsz
  exact kC10_moves_k2_0 X σ x1 x3 s.heap [] ls h I hl

def C0_moves_k3_0  (σ : Sg) (x1 : Int32) (x3 : Int32) : Option (Int32 × Sg) :=
  some (x1, σ)
set_option maxRecDepth 100000 in
theorem kC0_moves_k3_0 {p : Program} {l : Launch} {e : Env} {s : State} {m : MethodId} {args : Array Value} {below : List Frame} {meth : Method} {c : Code} {D : va_G} {cy : Nat → ClassId} {a gs : Nat → Nat} (X : cx_ cX0_moves RX0 wsX0_moves 4 (some .int) 59 a D cy (xfC gs) p s m args meth c)  {r0 : Int32} {σ' : Sg}  : ∀ (σ : Sg) (x1 : Int32) (x3 : Int32) (H : Heap) (locs : List Loc) (ls : Array Slot), C0_moves_k3_0 σ x1 x3 = some (r0, σ') → iv_ 59 a D (shC cy a σ) s H locs → lv_has ls 4 [(0, .ref (a 17)), (1, .int x1), (2, .ref (a 1)), (3, .int x3)] → W p l e ({ frames := 0, cells := 0, slots := 0, locals := 0 }) s m args below meth c H locs 0 0 (MQ below (qg_ 59 a D (shC cy a σ') (some (.int r0)) s.heap.size) args s 0 0 (fr_ 59 a s.heap.size)) (F0 m 0 ls []) := by
  obtain ⟨hx, hb, hr, hml, hown, hts, hlk, hK, hA, hXf⟩ := id X
  intro σ x1 x3 H locs ls h I hl
  unfold C0_moves_k3_0 at h
  refine lv_iload_n hx hb dX0_moves_0 rfl (lv_at hl 1 rfl) ?_
  obtain ⟨rfl, rfl⟩ := re_s h
  exact rti_ X I dX0_moves_1
theorem c_C0_moves_k3 {l : Launch} {D : va_G} {cy : Nat → ClassId} {a gs : Nat → Nat} {σ : Sg} {x1 : Int32} {x3 : Int32} {r0 : Int32} {σ' : Sg} (h : C0_moves_k3_0 σ x1 x3 = some (r0, σ')) (sz : Nat) : Met l yX0_moves wsX0_moves ({ frames := 0, cells := 0, slots := 0, locals := 0 }) (va_Pc [.ref (a 17), .int x1, .ref (a 1), .int x3] (pr_ 59 a D cy (shC cy a σ) (xfC gs) sz)) (qg_ 59 a D (shC cy a σ') (some (.int r0)) sz) 0 0 (fr_ 59 a sz) := by
  refine ent_ (by decide) rfl (Nat.le_of_ble_eq_true rfl) ?_
  intro p e s m below meth c ls hsz X I hl
  subst hsz
  exact kC0_moves_k3_0 X σ x1 x3 s.heap [] ls h I hl

def C5_moves_k3_0  (σ : Sg) (x1 : Int32) (x3 : Int32) : Option (Int32 × Sg) :=
  bi_ (C0_moves_k3_0 σ x1 x3) fun r_3 σ_2 =>
  some ((r_3 / (2 : Int32)), σ_2)
set_option maxRecDepth 100000 in
theorem kC5_moves_k3_0 {p : Program} {l : Launch} {e : Env} {s : State} {m : MethodId} {args : Array Value} {below : List Frame} {meth : Method} {c : Code} {D : va_G} {cy : Nat → ClassId} {a gs : Nat → Nat} (X : cx_ cX5_moves RX5 wsX5_moves 4 (some .int) 59 a D cy (xfC gs) p s m args meth c)  {r0 : Int32} {σ' : Sg}  : ∀ (σ : Sg) (x1 : Int32) (x3 : Int32) (H : Heap) (locs : List Loc) (ls : Array Slot), C5_moves_k3_0 σ x1 x3 = some (r0, σ') → iv_ 59 a D (shC cy a σ) s H locs → lv_has ls 4 [(0, .ref (a 17)), (1, .int x1), (2, .ref (a 1)), (3, .int x3)] → W p l e ({ frames := 1, cells := 0, slots := 0, locals := 23 }) s m args below meth c H locs 0 0 (MQ below (qg_ 59 a D (shC cy a σ') (some (.int r0)) s.heap.size) args s 0 0 (fr_ 59 a s.heap.size)) (F0 m 0 ls []) := by
  obtain ⟨hx, hb, hr, hml, hown, hts, hlk, hK, hA, hXf⟩ := id X
  intro σ x1 x3 H locs ls h I hl
  unfold C5_moves_k3_0 at h
  refine lv_aload_n hx hb dX5_moves_0 rfl (lv_at hl 0 rfl) ?_
  refine lv_iload_n hx hb dX5_moves_1 rfl (lv_at hl 1 rfl) ?_
  refine lv_aload_n hx hb dX5_moves_2 rfl (lv_at hl 2 rfl) ?_
  refine lv_iload_n hx hb dX5_moves_3 rfl (lv_at hl 3 rfl) ?_
  obtain ⟨r_3, σ_2, hc_1, h⟩ := bi_of h
  refine cg_ (v := .int r_3) (rSU_ (nn := 3) (As := [.int x1, .ref (a 1), .int x3]) (rest := []) X xkC I (c_C0_moves_k3 hc_1 H.size) gX5_moves_X0_moves_s7 rfl ⟨rfl, rfl⟩ (by decide +kernel) ⟨Nat.le_of_ble_eq_true rfl, Nat.le_of_ble_eq_true rfl⟩ (by decide) shC_17 rfl rfl hl.1 rfl (Nat.le_of_ble_eq_true rfl) dX5_moves_4) I (fun H locs I => ?_)
  refine lv_iconst (v := 2) hx hb dX5_moves_7 (by decide) ?_
  refine lv_idiv hx hb dX5_moves_8 (by decide) ?_
  obtain ⟨rfl, rfl⟩ := re_s h
  exact rti_ X I dX5_moves_9
theorem c_C5_moves_k3 {l : Launch} {D : va_G} {cy : Nat → ClassId} {a gs : Nat → Nat} {σ : Sg} {x1 : Int32} {x3 : Int32} {r0 : Int32} {σ' : Sg} (h : C5_moves_k3_0 σ x1 x3 = some (r0, σ')) (sz : Nat) : Met l yX5_moves wsX5_moves ({ frames := 1, cells := 0, slots := 0, locals := 23 }) (va_Pc [.ref (a 17), .int x1, .ref (a 1), .int x3] (pr_ 59 a D cy (shC cy a σ) (xfC gs) sz)) (qg_ 59 a D (shC cy a σ') (some (.int r0)) sz) 0 0 (fr_ 59 a sz) := by
  refine ent_ (by decide) rfl (Nat.le_of_ble_eq_true rfl) ?_
  intro p e s m below meth c ls hsz X I hl
  subst hsz
  exact kC5_moves_k3_0 X σ x1 x3 s.heap [] ls h I hl

def C3_moves_k3_0  (σ : Sg) (x1 : Int32) (x3 : Int32) : Option (Int32 × Sg) :=
  bi_ (C5_moves_k3_0 σ x1 x3) fun r_3 σ_2 =>
  some ((r_3 + (rd_ σ_2 4 0)), σ_2)
set_option maxRecDepth 100000 in
theorem kC3_moves_k3_0 {p : Program} {l : Launch} {e : Env} {s : State} {m : MethodId} {args : Array Value} {below : List Frame} {meth : Method} {c : Code} {D : va_G} {cy : Nat → ClassId} {a gs : Nat → Nat} (X : cx_ cX3_moves RX3 wsX3_moves 4 (some .int) 59 a D cy (xfC gs) p s m args meth c)  {r0 : Int32} {σ' : Sg}  : ∀ (σ : Sg) (x1 : Int32) (x3 : Int32) (H : Heap) (locs : List Loc) (ls : Array Slot), C3_moves_k3_0 σ x1 x3 = some (r0, σ') → iv_ 59 a D (shC cy a σ) s H locs → lv_has ls 4 [(0, .ref (a 17)), (1, .int x1), (2, .ref (a 1)), (3, .int x3)] → W p l e ({ frames := 2, cells := 0, slots := 0, locals := 46 }) s m args below meth c H locs 0 0 (MQ below (qg_ 59 a D (shC cy a σ') (some (.int r0)) s.heap.size) args s 0 0 (fr_ 59 a s.heap.size)) (F0 m 0 ls []) := by
  obtain ⟨hx, hb, hr, hml, hown, hts, hlk, hK, hA, hXf⟩ := id X
  intro σ x1 x3 H locs ls h I hl
  unfold C3_moves_k3_0 at h
  refine lv_aload_n hx hb dX3_moves_0 rfl (lv_at hl 0 rfl) ?_
  refine lv_iload_n hx hb dX3_moves_1 rfl (lv_at hl 1 rfl) ?_
  refine lv_aload_n hx hb dX3_moves_2 rfl (lv_at hl 2 rfl) ?_
  refine lv_iload_n hx hb dX3_moves_3 rfl (lv_at hl 3 rfl) ?_
  obtain ⟨r_3, σ_2, hc_1, h⟩ := bi_of h
  refine cg_ (v := .int r_3) (rSU_ (nn := 3) (As := [.int x1, .ref (a 1), .int x3]) (rest := []) X xkC I (c_C5_moves_k3 hc_1 H.size) gX3_moves_X5_moves_s9 rfl ⟨rfl, rfl⟩ (by decide +kernel) ⟨Nat.le_of_ble_eq_true rfl, Nat.le_of_ble_eq_true rfl⟩ (by decide) shC_17 rfl rfl hl.1 rfl (Nat.le_of_ble_eq_true rfl) dX3_moves_4) I (fun H locs I => ?_)
  refine lv_aload_n hx hb dX3_moves_7 rfl (lv_at hl 2 rfl) ?_
  refine ig_ (index := 13) X I (fun _ q => List.mem_cons_of_mem _ (List.mem_append_right _ q)) 1 (by decide) shC_1 rfl 0 (by decide) (by decide +kernel) rfl (v := .ref (a 4)) rfl dX3_moves_8 ?_
  refine lv_iconst (v := 0) hx hb dX3_moves_11 (by decide) ?_
  refine ia_ X I 4 (by decide) shC_4 (in_of (by decide)) (v0 := (rd_ σ_2 4 0)) rfl dX3_moves_12 ?_
  refine lv_iadd hx hb dX3_moves_13 ?_
  obtain ⟨rfl, rfl⟩ := re_s h
  exact rti_ X I dX3_moves_14
theorem c_C3_moves_k3 {l : Launch} {D : va_G} {cy : Nat → ClassId} {a gs : Nat → Nat} {σ : Sg} {x1 : Int32} {x3 : Int32} {r0 : Int32} {σ' : Sg} (h : C3_moves_k3_0 σ x1 x3 = some (r0, σ')) (sz : Nat) : Met l yX3_moves wsX3_moves ({ frames := 2, cells := 0, slots := 0, locals := 46 }) (va_Pc [.ref (a 17), .int x1, .ref (a 1), .int x3] (pr_ 59 a D cy (shC cy a σ) (xfC gs) sz)) (qg_ 59 a D (shC cy a σ') (some (.int r0)) sz) 0 0 (fr_ 59 a sz) := by
  refine ent_ (by decide) rfl (Nat.le_of_ble_eq_true rfl) ?_
  intro p e s m below meth c ls hsz X I hl
  subst hsz
  exact kC3_moves_k3_0 X σ x1 x3 s.heap [] ls h I hl

def C0_moves_k4_0  (σ : Sg) (x1 : Int32) (x3 : Int32) : Option (Int32 × Sg) :=
  some (x1, σ)
set_option maxRecDepth 100000 in
theorem kC0_moves_k4_0 {p : Program} {l : Launch} {e : Env} {s : State} {m : MethodId} {args : Array Value} {below : List Frame} {meth : Method} {c : Code} {D : va_G} {cy : Nat → ClassId} {a gs : Nat → Nat} (X : cx_ cX0_moves RX0 wsX0_moves 4 (some .int) 59 a D cy (xfC gs) p s m args meth c)  {r0 : Int32} {σ' : Sg}  : ∀ (σ : Sg) (x1 : Int32) (x3 : Int32) (H : Heap) (locs : List Loc) (ls : Array Slot), C0_moves_k4_0 σ x1 x3 = some (r0, σ') → iv_ 59 a D (shC cy a σ) s H locs → lv_has ls 4 [(0, .ref (a 18)), (1, .int x1), (2, .ref (a 1)), (3, .int x3)] → W p l e ({ frames := 0, cells := 0, slots := 0, locals := 0 }) s m args below meth c H locs 0 0 (MQ below (qg_ 59 a D (shC cy a σ') (some (.int r0)) s.heap.size) args s 0 0 (fr_ 59 a s.heap.size)) (F0 m 0 ls []) := by
  obtain ⟨hx, hb, hr, hml, hown, hts, hlk, hK, hA, hXf⟩ := id X
  intro σ x1 x3 H locs ls h I hl
  unfold C0_moves_k4_0 at h
  refine lv_iload_n hx hb dX0_moves_0 rfl (lv_at hl 1 rfl) ?_
  obtain ⟨rfl, rfl⟩ := re_s h
  exact rti_ X I dX0_moves_1
theorem c_C0_moves_k4 {l : Launch} {D : va_G} {cy : Nat → ClassId} {a gs : Nat → Nat} {σ : Sg} {x1 : Int32} {x3 : Int32} {r0 : Int32} {σ' : Sg} (h : C0_moves_k4_0 σ x1 x3 = some (r0, σ')) (sz : Nat) : Met l yX0_moves wsX0_moves ({ frames := 0, cells := 0, slots := 0, locals := 0 }) (va_Pc [.ref (a 18), .int x1, .ref (a 1), .int x3] (pr_ 59 a D cy (shC cy a σ) (xfC gs) sz)) (qg_ 59 a D (shC cy a σ') (some (.int r0)) sz) 0 0 (fr_ 59 a sz) := by
  refine ent_ (by decide) rfl (Nat.le_of_ble_eq_true rfl) ?_
  intro p e s m below meth c ls hsz X I hl
  subst hsz
  exact kC0_moves_k4_0 X σ x1 x3 s.heap [] ls h I hl

def C10_moves_k4_0  (σ : Sg) (x1 : Int32) (x3 : Int32) : Option (Int32 × Sg) :=
  bi_ (C0_moves_k4_0 σ x1 x3) fun r_3 σ_2 =>
  some ((r_3 + (rd_ σ_2 4 1)), σ_2)
set_option maxRecDepth 100000 in
theorem kC10_moves_k4_0 {p : Program} {l : Launch} {e : Env} {s : State} {m : MethodId} {args : Array Value} {below : List Frame} {meth : Method} {c : Code} {D : va_G} {cy : Nat → ClassId} {a gs : Nat → Nat} (X : cx_ cX10_moves RX10 wsX10_moves 4 (some .int) 59 a D cy (xfC gs) p s m args meth c)  {r0 : Int32} {σ' : Sg}  : ∀ (σ : Sg) (x1 : Int32) (x3 : Int32) (H : Heap) (locs : List Loc) (ls : Array Slot), C10_moves_k4_0 σ x1 x3 = some (r0, σ') → iv_ 59 a D (shC cy a σ) s H locs → lv_has ls 4 [(0, .ref (a 18)), (1, .int x1), (2, .ref (a 1)), (3, .int x3)] → W p l e ({ frames := 1, cells := 0, slots := 0, locals := 23 }) s m args below meth c H locs 0 0 (MQ below (qg_ 59 a D (shC cy a σ') (some (.int r0)) s.heap.size) args s 0 0 (fr_ 59 a s.heap.size)) (F0 m 0 ls []) := by
  obtain ⟨hx, hb, hr, hml, hown, hts, hlk, hK, hA, hXf⟩ := id X
  intro σ x1 x3 H locs ls h I hl
  unfold C10_moves_k4_0 at h
  refine lv_aload_n hx hb dX10_moves_0 rfl (lv_at hl 0 rfl) ?_
  refine lv_iload_n hx hb dX10_moves_1 rfl (lv_at hl 1 rfl) ?_
  refine lv_aload_n hx hb dX10_moves_2 rfl (lv_at hl 2 rfl) ?_
  refine lv_iload_n hx hb dX10_moves_3 rfl (lv_at hl 3 rfl) ?_
  obtain ⟨r_3, σ_2, hc_1, h⟩ := bi_of h
  refine cg_ (v := .int r_3) (rSU_ (nn := 3) (As := [.int x1, .ref (a 1), .int x3]) (rest := []) X xkC I (c_C0_moves_k4 hc_1 H.size) gX10_moves_X0_moves_s9 rfl ⟨rfl, rfl⟩ (by decide +kernel) ⟨Nat.le_of_ble_eq_true rfl, Nat.le_of_ble_eq_true rfl⟩ (by decide) shC_18 rfl rfl hl.1 rfl (Nat.le_of_ble_eq_true rfl) dX10_moves_4) I (fun H locs I => ?_)
  refine lv_aload_n hx hb dX10_moves_7 rfl (lv_at hl 2 rfl) ?_
  refine ig_ (index := 13) X I (fun _ q => List.mem_cons_of_mem _ (List.mem_append_right _ q)) 1 (by decide) shC_1 rfl 0 (by decide) (by decide +kernel) rfl (v := .ref (a 4)) rfl dX10_moves_8 ?_
  refine lv_iconst (v := 1) hx hb dX10_moves_11 (by decide) ?_
  refine ia_ X I 4 (by decide) shC_4 (in_of (by decide)) (v0 := (rd_ σ_2 4 1)) rfl dX10_moves_12 ?_
  refine lv_iadd hx hb dX10_moves_13 ?_
  obtain ⟨rfl, rfl⟩ := re_s h
  exact rti_ X I dX10_moves_14
theorem c_C10_moves_k4 {l : Launch} {D : va_G} {cy : Nat → ClassId} {a gs : Nat → Nat} {σ : Sg} {x1 : Int32} {x3 : Int32} {r0 : Int32} {σ' : Sg} (h : C10_moves_k4_0 σ x1 x3 = some (r0, σ')) (sz : Nat) : Met l yX10_moves wsX10_moves ({ frames := 1, cells := 0, slots := 0, locals := 23 }) (va_Pc [.ref (a 18), .int x1, .ref (a 1), .int x3] (pr_ 59 a D cy (shC cy a σ) (xfC gs) sz)) (qg_ 59 a D (shC cy a σ') (some (.int r0)) sz) 0 0 (fr_ 59 a sz) := by
  refine ent_ (by decide) rfl (Nat.le_of_ble_eq_true rfl) ?_
  intro p e s m below meth c ls hsz X I hl
  subst hsz
  exact kC10_moves_k4_0 X σ x1 x3 s.heap [] ls h I hl

def C7_moves_k4_0  (σ : Sg) (x1 : Int32) (x3 : Int32) : Option (Int32 × Sg) :=
  bi_ (C10_moves_k4_0 σ x1 x3) fun r_3 σ_2 =>
  some ((r_3 * (2 : Int32)), σ_2)
set_option maxRecDepth 100000 in
theorem kC7_moves_k4_0 {p : Program} {l : Launch} {e : Env} {s : State} {m : MethodId} {args : Array Value} {below : List Frame} {meth : Method} {c : Code} {D : va_G} {cy : Nat → ClassId} {a gs : Nat → Nat} (X : cx_ cX7_moves RX7 wsX7_moves 4 (some .int) 59 a D cy (xfC gs) p s m args meth c)  {r0 : Int32} {σ' : Sg}  : ∀ (σ : Sg) (x1 : Int32) (x3 : Int32) (H : Heap) (locs : List Loc) (ls : Array Slot), C7_moves_k4_0 σ x1 x3 = some (r0, σ') → iv_ 59 a D (shC cy a σ) s H locs → lv_has ls 4 [(0, .ref (a 18)), (1, .int x1), (2, .ref (a 1)), (3, .int x3)] → W p l e ({ frames := 2, cells := 0, slots := 0, locals := 46 }) s m args below meth c H locs 0 0 (MQ below (qg_ 59 a D (shC cy a σ') (some (.int r0)) s.heap.size) args s 0 0 (fr_ 59 a s.heap.size)) (F0 m 0 ls []) := by
  obtain ⟨hx, hb, hr, hml, hown, hts, hlk, hK, hA, hXf⟩ := id X
  intro σ x1 x3 H locs ls h I hl
  unfold C7_moves_k4_0 at h
  refine lv_aload_n hx hb dX7_moves_0 rfl (lv_at hl 0 rfl) ?_
  refine lv_iload_n hx hb dX7_moves_1 rfl (lv_at hl 1 rfl) ?_
  refine lv_aload_n hx hb dX7_moves_2 rfl (lv_at hl 2 rfl) ?_
  refine lv_iload_n hx hb dX7_moves_3 rfl (lv_at hl 3 rfl) ?_
  obtain ⟨r_3, σ_2, hc_1, h⟩ := bi_of h
  refine cg_ (v := .int r_3) (rSU_ (nn := 3) (As := [.int x1, .ref (a 1), .int x3]) (rest := []) X xkC I (c_C10_moves_k4 hc_1 H.size) gX7_moves_X10_moves_s7 rfl ⟨rfl, rfl⟩ (by decide +kernel) ⟨Nat.le_of_ble_eq_true rfl, Nat.le_of_ble_eq_true rfl⟩ (by decide) shC_18 rfl rfl hl.1 rfl (Nat.le_of_ble_eq_true rfl) dX7_moves_4) I (fun H locs I => ?_)
  refine lv_iconst (v := 2) hx hb dX7_moves_7 (by decide) ?_
  refine lv_imul hx hb dX7_moves_8 ?_
  obtain ⟨rfl, rfl⟩ := re_s h
  exact rti_ X I dX7_moves_9
theorem c_C7_moves_k4 {l : Launch} {D : va_G} {cy : Nat → ClassId} {a gs : Nat → Nat} {σ : Sg} {x1 : Int32} {x3 : Int32} {r0 : Int32} {σ' : Sg} (h : C7_moves_k4_0 σ x1 x3 = some (r0, σ')) (sz : Nat) : Met l yX7_moves wsX7_moves ({ frames := 2, cells := 0, slots := 0, locals := 46 }) (va_Pc [.ref (a 18), .int x1, .ref (a 1), .int x3] (pr_ 59 a D cy (shC cy a σ) (xfC gs) sz)) (qg_ 59 a D (shC cy a σ') (some (.int r0)) sz) 0 0 (fr_ 59 a sz) := by
  refine ent_ (by decide) rfl (Nat.le_of_ble_eq_true rfl) ?_
  intro p e s m below meth c ls hsz X I hl
  subst hsz
  exact kC7_moves_k4_0 X σ x1 x3 s.heap [] ls h I hl

def C0_moves_k5_0  (σ : Sg) (x1 : Int32) (x3 : Int32) : Option (Int32 × Sg) :=
  some (x1, σ)
set_option maxRecDepth 100000 in
theorem kC0_moves_k5_0 {p : Program} {l : Launch} {e : Env} {s : State} {m : MethodId} {args : Array Value} {below : List Frame} {meth : Method} {c : Code} {D : va_G} {cy : Nat → ClassId} {a gs : Nat → Nat} (X : cx_ cX0_moves RX0 wsX0_moves 4 (some .int) 59 a D cy (xfC gs) p s m args meth c)  {r0 : Int32} {σ' : Sg}  : ∀ (σ : Sg) (x1 : Int32) (x3 : Int32) (H : Heap) (locs : List Loc) (ls : Array Slot), C0_moves_k5_0 σ x1 x3 = some (r0, σ') → iv_ 59 a D (shC cy a σ) s H locs → lv_has ls 4 [(0, .ref (a 19)), (1, .int x1), (2, .ref (a 1)), (3, .int x3)] → W p l e ({ frames := 0, cells := 0, slots := 0, locals := 0 }) s m args below meth c H locs 0 0 (MQ below (qg_ 59 a D (shC cy a σ') (some (.int r0)) s.heap.size) args s 0 0 (fr_ 59 a s.heap.size)) (F0 m 0 ls []) := by
  obtain ⟨hx, hb, hr, hml, hown, hts, hlk, hK, hA, hXf⟩ := id X
  intro σ x1 x3 H locs ls h I hl
  unfold C0_moves_k5_0 at h
  refine lv_iload_n hx hb dX0_moves_0 rfl (lv_at hl 1 rfl) ?_
  obtain ⟨rfl, rfl⟩ := re_s h
  exact rti_ X I dX0_moves_1
theorem c_C0_moves_k5 {l : Launch} {D : va_G} {cy : Nat → ClassId} {a gs : Nat → Nat} {σ : Sg} {x1 : Int32} {x3 : Int32} {r0 : Int32} {σ' : Sg} (h : C0_moves_k5_0 σ x1 x3 = some (r0, σ')) (sz : Nat) : Met l yX0_moves wsX0_moves ({ frames := 0, cells := 0, slots := 0, locals := 0 }) (va_Pc [.ref (a 19), .int x1, .ref (a 1), .int x3] (pr_ 59 a D cy (shC cy a σ) (xfC gs) sz)) (qg_ 59 a D (shC cy a σ') (some (.int r0)) sz) 0 0 (fr_ 59 a sz) := by
  refine ent_ (by decide) rfl (Nat.le_of_ble_eq_true rfl) ?_
  intro p e s m below meth c ls hsz X I hl
  subst hsz
  exact kC0_moves_k5_0 X σ x1 x3 s.heap [] ls h I hl

def C9_moves_k5_0  (σ : Sg) (x1 : Int32) (x3 : Int32) : Option (Int32 × Sg) :=
  if (x3 - x3 / (2 : Int32) * (2 : Int32)) = 0 then (bi_ (C0_moves_k5_0 σ x1 x3) fun r_4 σ_3 =>
  some (r_4, σ_3))
  else (some ((0 : Int32), σ))
set_option maxRecDepth 100000 in
theorem kC9_moves_k5_0 {p : Program} {l : Launch} {e : Env} {s : State} {m : MethodId} {args : Array Value} {below : List Frame} {meth : Method} {c : Code} {D : va_G} {cy : Nat → ClassId} {a gs : Nat → Nat} (X : cx_ cX9_moves RX9 wsX9_moves 4 (some .int) 59 a D cy (xfC gs) p s m args meth c)  {r0 : Int32} {σ' : Sg}  : ∀ (σ : Sg) (x1 : Int32) (x3 : Int32) (H : Heap) (locs : List Loc) (ls : Array Slot), C9_moves_k5_0 σ x1 x3 = some (r0, σ') → iv_ 59 a D (shC cy a σ) s H locs → lv_has ls 4 [(0, .ref (a 19)), (1, .int x1), (2, .ref (a 1)), (3, .int x3)] → W p l e ({ frames := 1, cells := 0, slots := 0, locals := 23 }) s m args below meth c H locs 0 0 (MQ below (qg_ 59 a D (shC cy a σ') (some (.int r0)) s.heap.size) args s 0 0 (fr_ 59 a s.heap.size)) (F0 m 0 ls []) := by
  obtain ⟨hx, hb, hr, hml, hown, hts, hlk, hK, hA, hXf⟩ := id X
  intro σ x1 x3 H locs ls h I hl
  unfold C9_moves_k5_0 at h
  refine lv_iload_n hx hb dX9_moves_0 rfl (lv_at hl 3 rfl) ?_
  refine lv_iconst (v := 2) hx hb dX9_moves_1 (by decide) ?_
  refine lv_irem hx hb dX9_moves_2 (by decide) ?_
  refine lv_if_ne (tgt := 16) hx hb dX9_moves_3 (by decide) (fun c_1 => ?_) (fun c_1 => ?_)
  · have h := if_f h c_1
    refine lv_iconst (v := 0) hx hb dX9_moves_16 (by decide) ?_
    obtain ⟨rfl, rfl⟩ := re_s h
    exact rti_ X I dX9_moves_17
  · have h := if_t h c_1
    refine lv_aload_n hx hb dX9_moves_6 rfl (lv_at hl 0 rfl) ?_
    refine lv_iload_n hx hb dX9_moves_7 rfl (lv_at hl 1 rfl) ?_
    refine lv_aload_n hx hb dX9_moves_8 rfl (lv_at hl 2 rfl) ?_
    refine lv_iload_n hx hb dX9_moves_9 rfl (lv_at hl 3 rfl) ?_
    obtain ⟨r_4, σ_3, hc_2, h⟩ := bi_of h
    refine cg_ (v := .int r_4) (rSU_ (nn := 3) (As := [.int x1, .ref (a 1), .int x3]) (rest := []) X xkC I (c_C0_moves_k5 hc_2 H.size) gX9_moves_X0_moves_s7 rfl ⟨rfl, rfl⟩ (by decide +kernel) ⟨Nat.le_of_ble_eq_true rfl, Nat.le_of_ble_eq_true rfl⟩ (by decide) shC_19 rfl rfl hl.1 rfl (Nat.le_of_ble_eq_true rfl) dX9_moves_10) I (fun H locs I => ?_)
    refine lv_goto (tgt := 17) hx hb dX9_moves_13 (by decide) ?_
    obtain ⟨rfl, rfl⟩ := re_s h
    exact rti_ X I dX9_moves_17
theorem c_C9_moves_k5 {l : Launch} {D : va_G} {cy : Nat → ClassId} {a gs : Nat → Nat} {σ : Sg} {x1 : Int32} {x3 : Int32} {r0 : Int32} {σ' : Sg} (h : C9_moves_k5_0 σ x1 x3 = some (r0, σ')) (sz : Nat) : Met l yX9_moves wsX9_moves ({ frames := 1, cells := 0, slots := 0, locals := 23 }) (va_Pc [.ref (a 19), .int x1, .ref (a 1), .int x3] (pr_ 59 a D cy (shC cy a σ) (xfC gs) sz)) (qg_ 59 a D (shC cy a σ') (some (.int r0)) sz) 0 0 (fr_ 59 a sz) := by
  refine ent_ (by decide) rfl (Nat.le_of_ble_eq_true rfl) ?_
  intro p e s m below meth c ls hsz X I hl
  subst hsz
  exact kC9_moves_k5_0 X σ x1 x3 s.heap [] ls h I hl

def C1_movesOf_0  (σ : Sg) (x1 : Nat) : Option (Int32 × Sg) :=
  bi_ (C1_kindOf_0 σ x1) fun r_3 σ_2 =>
  gd_ (lf_ x1 25) (
  bi_ (if r_3 = 0 then C0_moves_k0_0 σ_2 (rd_ σ_2 (34 + x1) 2) (rd_ σ_2 1 4) else if r_3 = 1 then C5_moves_k1_0 σ_2 (rd_ σ_2 (34 + x1) 2) (rd_ σ_2 1 4) else if r_3 = 2 then C10_moves_k2_0 σ_2 (rd_ σ_2 (34 + x1) 2) (rd_ σ_2 1 4) else if r_3 = 3 then C3_moves_k3_0 σ_2 (rd_ σ_2 (34 + x1) 2) (rd_ σ_2 1 4) else if r_3 = 4 then C7_moves_k4_0 σ_2 (rd_ σ_2 (34 + x1) 2) (rd_ σ_2 1 4) else if r_3 = 5 then C9_moves_k5_0 σ_2 (rd_ σ_2 (34 + x1) 2) (rd_ σ_2 1 4) else none) fun r_7 σ_6 =>
  some (r_7, σ_6))
set_option maxRecDepth 100000 in
theorem kC1_movesOf_0 {p : Program} {l : Launch} {e : Env} {s : State} {m : MethodId} {args : Array Value} {below : List Frame} {meth : Method} {c : Code} {D : va_G} {cy : Nat → ClassId} {a gs : Nat → Nat} (X : cx_ cX1_movesOf RX1 wsX1_movesOf 2 (some .int) 59 a D cy (xfC gs) p s m args meth c)  {r0 : Int32} {σ' : Sg}  : ∀ (σ : Sg) (x1 : Nat) (H : Heap) (locs : List Loc) (ls : Array Slot), C1_movesOf_0 σ x1 = some (r0, σ') → iv_ 59 a D (shC cy a σ) s H locs → lv_has ls 2 [(0, .ref (a 1)), (1, .ref (a (34 + x1)))] → W p l e ({ frames := 3, cells := 0, slots := 0, locals := 69 }) s m args below meth c H locs 0 0 (MQ below (qg_ 59 a D (shC cy a σ') (some (.int r0)) s.heap.size) args s 0 0 (fr_ 59 a s.heap.size)) (F0 m 0 ls []) := by
  obtain ⟨hx, hb, hr, hml, hown, hts, hlk, hK, hA, hXf⟩ := id X
  intro σ x1 H locs ls h I hl
  unfold C1_movesOf_0 at h
  refine lv_aload_n hx hb dX1_movesOf_0 rfl (lv_at hl 0 rfl) ?_
  refine lv_aload_n hx hb dX1_movesOf_1 rfl (lv_at hl 1 rfl) ?_
  obtain ⟨r_3, σ_2, hc_1, h⟩ := bi_of h
  refine cg_ (v := .ref (a (14 + r_3))) (rV_ (nn := 1) (As := [.ref (a (34 + x1))]) (rest := []) X xkC I (c_C1_kindOf hc_1 H.size) gX1_movesOf_X1_kindOf rfl ⟨rfl, rfl⟩ (by decide +kernel) ⟨Nat.le_of_ble_eq_true rfl, Nat.le_of_ble_eq_true rfl⟩ (by decide) shC_1 rfl rfl hl.1 rfl (Nat.le_of_ble_eq_true rfl) dX1_movesOf_2) I (fun H locs I => ?_)
  refine lv_aload_n hx hb dX1_movesOf_5 rfl (lv_at hl 1 rfl) ?_
  obtain ⟨g_4, h⟩ := gd_of h
  refine ig_ (index := 73) X I (fun _ q => List.mem_cons_of_mem _ (List.mem_append_left _ (List.mem_append_right _ q))) (34 + x1) (lf59 g_4) shC_L rfl 2 (by decide) (by decide +kernel) rfl (v := .int (rd_ σ_2 (34 + x1) 2)) rfl dX1_movesOf_6 ?_
  refine lv_aload_n hx hb dX1_movesOf_9 rfl (lv_at hl 0 rfl) ?_
  refine lv_aload_n hx hb dX1_movesOf_10 rfl (lv_at hl 0 rfl) ?_
  refine ig_ (index := 45) X I (fun _ q => List.mem_cons_of_mem _ (List.mem_append_right _ q)) 1 (by decide) shC_1 rfl 4 (by decide) (by decide +kernel) rfl (v := .int (rd_ σ_2 1 4)) rfl dX1_movesOf_11 ?_
  obtain ⟨r_7, σ_6, hc_5, h⟩ := bi_of h
  refine cg_ (v := .int r_7) (w1 := shC cy a σ_6) (rest := []) (av := #[]) ?_ I (fun H locs I => ?_)
  · by_cases q_8 : r_3 = 0
    · subst q_8
      have hc_5 := if_t hc_5 rfl
      exact rV_ (nn := 3) (As := [.int (rd_ σ_2 (34 + x1) 2), .ref (a 1), .int (rd_ σ_2 1 4)]) (rest := []) X xkC I (c_C0_moves_k0 hc_5 H.size) gX1_movesOf_X0_moves rfl ⟨rfl, rfl⟩ (by decide +kernel) ⟨Nat.le_of_ble_eq_true rfl, Nat.le_of_ble_eq_true rfl⟩ (by decide) shC_14 rfl rfl hl.1 rfl (Nat.le_of_ble_eq_true rfl) dX1_movesOf_14
    · have hc_5 := if_f hc_5 q_8
      by_cases q_9 : r_3 = 1
      · subst q_9
        have hc_5 := if_t hc_5 rfl
        exact rO_ (nn := 3) (As := [.int (rd_ σ_2 (34 + x1) 2), .ref (a 1), .int (rd_ σ_2 1 4)]) (rest := []) (b0 := cX0_moves) (m0 := 4) (r0 := (some .int)) X xkC I (c_C5_moves_k1 hc_5 H.size) gX1_movesOf_X5_moves_u76X5 rfl ⟨rfl, rfl⟩ (by decide +kernel) (by decide +kernel) ⟨Nat.le_of_ble_eq_true rfl, Nat.le_of_ble_eq_true rfl⟩ (by decide) shC_15 rfl rfl hl.1 rfl (Nat.le_of_ble_eq_true rfl) dX1_movesOf_14
      · have hc_5 := if_f hc_5 q_9
        by_cases q_10 : r_3 = 2
        · subst q_10
          have hc_5 := if_t hc_5 rfl
          exact rO_ (nn := 3) (As := [.int (rd_ σ_2 (34 + x1) 2), .ref (a 1), .int (rd_ σ_2 1 4)]) (rest := []) (b0 := cX0_moves) (m0 := 4) (r0 := (some .int)) X xkC I (c_C10_moves_k2 hc_5 H.size) gX1_movesOf_X10_moves_u76X10 rfl ⟨rfl, rfl⟩ (by decide +kernel) (by decide +kernel) ⟨Nat.le_of_ble_eq_true rfl, Nat.le_of_ble_eq_true rfl⟩ (by decide) shC_16 rfl rfl hl.1 rfl (Nat.le_of_ble_eq_true rfl) dX1_movesOf_14
        · have hc_5 := if_f hc_5 q_10
          by_cases q_11 : r_3 = 3
          · subst q_11
            have hc_5 := if_t hc_5 rfl
            exact rO_ (nn := 3) (As := [.int (rd_ σ_2 (34 + x1) 2), .ref (a 1), .int (rd_ σ_2 1 4)]) (rest := []) (b0 := cX0_moves) (m0 := 4) (r0 := (some .int)) X xkC I (c_C3_moves_k3 hc_5 H.size) gX1_movesOf_X3_moves_u76X3 rfl ⟨rfl, rfl⟩ (by decide +kernel) (by decide +kernel) ⟨Nat.le_of_ble_eq_true rfl, Nat.le_of_ble_eq_true rfl⟩ (by decide) shC_17 rfl rfl hl.1 rfl (Nat.le_of_ble_eq_true rfl) dX1_movesOf_14
          · have hc_5 := if_f hc_5 q_11
            by_cases q_12 : r_3 = 4
            · subst q_12
              have hc_5 := if_t hc_5 rfl
              exact rO_ (nn := 3) (As := [.int (rd_ σ_2 (34 + x1) 2), .ref (a 1), .int (rd_ σ_2 1 4)]) (rest := []) (b0 := cX0_moves) (m0 := 4) (r0 := (some .int)) X xkC I (c_C7_moves_k4 hc_5 H.size) gX1_movesOf_X7_moves_u76X7 rfl ⟨rfl, rfl⟩ (by decide +kernel) (by decide +kernel) ⟨Nat.le_of_ble_eq_true rfl, Nat.le_of_ble_eq_true rfl⟩ (by decide) shC_18 rfl rfl hl.1 rfl (Nat.le_of_ble_eq_true rfl) dX1_movesOf_14
            · have hc_5 := if_f hc_5 q_12
              by_cases q_13 : r_3 = 5
              · subst q_13
                have hc_5 := if_t hc_5 rfl
                exact rO_ (nn := 3) (As := [.int (rd_ σ_2 (34 + x1) 2), .ref (a 1), .int (rd_ σ_2 1 4)]) (rest := []) (b0 := cX0_moves) (m0 := 4) (r0 := (some .int)) X xkC I (c_C9_moves_k5 hc_5 H.size) gX1_movesOf_X9_moves_u76X9 rfl ⟨rfl, rfl⟩ (by decide +kernel) (by decide +kernel) ⟨Nat.le_of_ble_eq_true rfl, Nat.le_of_ble_eq_true rfl⟩ (by decide) shC_19 rfl rfl hl.1 rfl (Nat.le_of_ble_eq_true rfl) dX1_movesOf_14
              · have hc_5 := if_f hc_5 q_13
                exact absurd hc_5 (fun q => by cases (show (none : Option _) = some _ from q))
  obtain ⟨rfl, rfl⟩ := re_s h
  exact rti_ X I dX1_movesOf_17
theorem c_C1_movesOf {l : Launch} {D : va_G} {cy : Nat → ClassId} {a gs : Nat → Nat} {σ : Sg} {x1 : Nat} {r0 : Int32} {σ' : Sg} (h : C1_movesOf_0 σ x1 = some (r0, σ')) (sz : Nat) : Met l yX1_movesOf wsX1_movesOf ({ frames := 3, cells := 0, slots := 0, locals := 69 }) (va_Pc [.ref (a 1), .ref (a (34 + x1))] (pr_ 59 a D cy (shC cy a σ) (xfC gs) sz)) (qg_ 59 a D (shC cy a σ') (some (.int r0)) sz) 0 0 (fr_ 59 a sz) := by
  refine ent_ (by decide) rfl (Nat.le_of_ble_eq_true rfl) ?_
  intro p e s m below meth c ls hsz X I hl
  subst hsz
  exact kC1_movesOf_0 X σ x1 s.heap [] ls h I hl

def C0_ends_k0_0  (σ : Sg) (x1 : Int32) : Option (Int32 × Sg) :=
  some ((21 : Int32), σ)
set_option maxRecDepth 100000 in
theorem kC0_ends_k0_0 {p : Program} {l : Launch} {e : Env} {s : State} {m : MethodId} {args : Array Value} {below : List Frame} {meth : Method} {c : Code} {D : va_G} {cy : Nat → ClassId} {a gs : Nat → Nat} (X : cx_ cX0_ends RX0 wsX0_ends 3 (some .int) 59 a D cy (xfC gs) p s m args meth c)  {r0 : Int32} {σ' : Sg}  : ∀ (σ : Sg) (x1 : Int32) (H : Heap) (locs : List Loc) (ls : Array Slot), C0_ends_k0_0 σ x1 = some (r0, σ') → iv_ 59 a D (shC cy a σ) s H locs → lv_has ls 3 [(0, .ref (a 14)), (1, .int x1), (2, .ref (a 1))] → W p l e ({ frames := 0, cells := 0, slots := 0, locals := 0 }) s m args below meth c H locs 0 0 (MQ below (qg_ 59 a D (shC cy a σ') (some (.int r0)) s.heap.size) args s 0 0 (fr_ 59 a s.heap.size)) (F0 m 0 ls []) := by
  obtain ⟨hx, hb, hr, hml, hown, hts, hlk, hK, hA, hXf⟩ := id X
  intro σ x1 H locs ls h I hl
  unfold C0_ends_k0_0 at h
  refine lv_bipush (v := 21) hx hb dX0_ends_0 (by decide) ?_
  obtain ⟨rfl, rfl⟩ := re_s h
  exact rti_ X I dX0_ends_2
theorem c_C0_ends_k0 {l : Launch} {D : va_G} {cy : Nat → ClassId} {a gs : Nat → Nat} {σ : Sg} {x1 : Int32} {r0 : Int32} {σ' : Sg} (h : C0_ends_k0_0 σ x1 = some (r0, σ')) (sz : Nat) : Met l yX0_ends wsX0_ends ({ frames := 0, cells := 0, slots := 0, locals := 0 }) (va_Pc [.ref (a 14), .int x1, .ref (a 1)] (pr_ 59 a D cy (shC cy a σ) (xfC gs) sz)) (qg_ 59 a D (shC cy a σ') (some (.int r0)) sz) 0 0 (fr_ 59 a sz) := by
  refine ent_ (by decide) rfl (Nat.le_of_ble_eq_true rfl) ?_
  intro p e s m below meth c ls hsz X I hl
  subst hsz
  exact kC0_ends_k0_0 X σ x1 s.heap [] ls h I hl

def C0_ends_k1_0  (σ : Sg) (x1 : Int32) : Option (Int32 × Sg) :=
  some ((21 : Int32), σ)
set_option maxRecDepth 100000 in
theorem kC0_ends_k1_0 {p : Program} {l : Launch} {e : Env} {s : State} {m : MethodId} {args : Array Value} {below : List Frame} {meth : Method} {c : Code} {D : va_G} {cy : Nat → ClassId} {a gs : Nat → Nat} (X : cx_ cX0_ends RX0 wsX0_ends 3 (some .int) 59 a D cy (xfC gs) p s m args meth c)  {r0 : Int32} {σ' : Sg}  : ∀ (σ : Sg) (x1 : Int32) (H : Heap) (locs : List Loc) (ls : Array Slot), C0_ends_k1_0 σ x1 = some (r0, σ') → iv_ 59 a D (shC cy a σ) s H locs → lv_has ls 3 [(0, .ref (a 15)), (1, .int x1), (2, .ref (a 1))] → W p l e ({ frames := 0, cells := 0, slots := 0, locals := 0 }) s m args below meth c H locs 0 0 (MQ below (qg_ 59 a D (shC cy a σ') (some (.int r0)) s.heap.size) args s 0 0 (fr_ 59 a s.heap.size)) (F0 m 0 ls []) := by
  obtain ⟨hx, hb, hr, hml, hown, hts, hlk, hK, hA, hXf⟩ := id X
  intro σ x1 H locs ls h I hl
  unfold C0_ends_k1_0 at h
  refine lv_bipush (v := 21) hx hb dX0_ends_0 (by decide) ?_
  obtain ⟨rfl, rfl⟩ := re_s h
  exact rti_ X I dX0_ends_2
theorem c_C0_ends_k1 {l : Launch} {D : va_G} {cy : Nat → ClassId} {a gs : Nat → Nat} {σ : Sg} {x1 : Int32} {r0 : Int32} {σ' : Sg} (h : C0_ends_k1_0 σ x1 = some (r0, σ')) (sz : Nat) : Met l yX0_ends wsX0_ends ({ frames := 0, cells := 0, slots := 0, locals := 0 }) (va_Pc [.ref (a 15), .int x1, .ref (a 1)] (pr_ 59 a D cy (shC cy a σ) (xfC gs) sz)) (qg_ 59 a D (shC cy a σ') (some (.int r0)) sz) 0 0 (fr_ 59 a sz) := by
  refine ent_ (by decide) rfl (Nat.le_of_ble_eq_true rfl) ?_
  intro p e s m below meth c ls hsz X I hl
  subst hsz
  exact kC0_ends_k1_0 X σ x1 s.heap [] ls h I hl

def C5_ends_k1_0  (σ : Sg) (x1 : Int32) : Option (Int32 × Sg) :=
  bi_ (C0_ends_k1_0 σ x1) fun r_3 σ_2 =>
  some ((r_3 + (4 : Int32)), σ_2)
set_option maxRecDepth 100000 in
theorem kC5_ends_k1_0 {p : Program} {l : Launch} {e : Env} {s : State} {m : MethodId} {args : Array Value} {below : List Frame} {meth : Method} {c : Code} {D : va_G} {cy : Nat → ClassId} {a gs : Nat → Nat} (X : cx_ cX5_ends RX5 wsX5_ends 3 (some .int) 59 a D cy (xfC gs) p s m args meth c)  {r0 : Int32} {σ' : Sg}  : ∀ (σ : Sg) (x1 : Int32) (H : Heap) (locs : List Loc) (ls : Array Slot), C5_ends_k1_0 σ x1 = some (r0, σ') → iv_ 59 a D (shC cy a σ) s H locs → lv_has ls 3 [(0, .ref (a 15)), (1, .int x1), (2, .ref (a 1))] → W p l e ({ frames := 1, cells := 0, slots := 0, locals := 22 }) s m args below meth c H locs 0 0 (MQ below (qg_ 59 a D (shC cy a σ') (some (.int r0)) s.heap.size) args s 0 0 (fr_ 59 a s.heap.size)) (F0 m 0 ls []) := by
  obtain ⟨hx, hb, hr, hml, hown, hts, hlk, hK, hA, hXf⟩ := id X
  intro σ x1 H locs ls h I hl
  unfold C5_ends_k1_0 at h
  refine lv_aload_n hx hb dX5_ends_0 rfl (lv_at hl 0 rfl) ?_
  refine lv_iload_n hx hb dX5_ends_1 rfl (lv_at hl 1 rfl) ?_
  refine lv_aload_n hx hb dX5_ends_2 rfl (lv_at hl 2 rfl) ?_
  obtain ⟨r_3, σ_2, hc_1, h⟩ := bi_of h
  refine cg_ (v := .int r_3) (rSU_ (nn := 2) (As := [.int x1, .ref (a 1)]) (rest := []) X xkC I (c_C0_ends_k1 hc_1 H.size) gX5_ends_X0_ends_s11 rfl ⟨rfl, rfl⟩ (by decide +kernel) ⟨Nat.le_of_ble_eq_true rfl, Nat.le_of_ble_eq_true rfl⟩ (by decide) shC_15 rfl rfl hl.1 rfl (Nat.le_of_ble_eq_true rfl) dX5_ends_3) I (fun H locs I => ?_)
  refine lv_iconst (v := 4) hx hb dX5_ends_6 (by decide) ?_
  refine lv_iadd hx hb dX5_ends_7 ?_
  obtain ⟨rfl, rfl⟩ := re_s h
  exact rti_ X I dX5_ends_8
theorem c_C5_ends_k1 {l : Launch} {D : va_G} {cy : Nat → ClassId} {a gs : Nat → Nat} {σ : Sg} {x1 : Int32} {r0 : Int32} {σ' : Sg} (h : C5_ends_k1_0 σ x1 = some (r0, σ')) (sz : Nat) : Met l yX5_ends wsX5_ends ({ frames := 1, cells := 0, slots := 0, locals := 22 }) (va_Pc [.ref (a 15), .int x1, .ref (a 1)] (pr_ 59 a D cy (shC cy a σ) (xfC gs) sz)) (qg_ 59 a D (shC cy a σ') (some (.int r0)) sz) 0 0 (fr_ 59 a sz) := by
  refine ent_ (by decide) rfl (Nat.le_of_ble_eq_true rfl) ?_
  intro p e s m below meth c ls hsz X I hl
  subst hsz
  exact kC5_ends_k1_0 X σ x1 s.heap [] ls h I hl

def C0_ends_k2_0  (σ : Sg) (x1 : Int32) : Option (Int32 × Sg) :=
  some ((21 : Int32), σ)
set_option maxRecDepth 100000 in
theorem kC0_ends_k2_0 {p : Program} {l : Launch} {e : Env} {s : State} {m : MethodId} {args : Array Value} {below : List Frame} {meth : Method} {c : Code} {D : va_G} {cy : Nat → ClassId} {a gs : Nat → Nat} (X : cx_ cX0_ends RX0 wsX0_ends 3 (some .int) 59 a D cy (xfC gs) p s m args meth c)  {r0 : Int32} {σ' : Sg}  : ∀ (σ : Sg) (x1 : Int32) (H : Heap) (locs : List Loc) (ls : Array Slot), C0_ends_k2_0 σ x1 = some (r0, σ') → iv_ 59 a D (shC cy a σ) s H locs → lv_has ls 3 [(0, .ref (a 16)), (1, .int x1), (2, .ref (a 1))] → W p l e ({ frames := 0, cells := 0, slots := 0, locals := 0 }) s m args below meth c H locs 0 0 (MQ below (qg_ 59 a D (shC cy a σ') (some (.int r0)) s.heap.size) args s 0 0 (fr_ 59 a s.heap.size)) (F0 m 0 ls []) := by
  obtain ⟨hx, hb, hr, hml, hown, hts, hlk, hK, hA, hXf⟩ := id X
  intro σ x1 H locs ls h I hl
  unfold C0_ends_k2_0 at h
  refine lv_bipush (v := 21) hx hb dX0_ends_0 (by decide) ?_
  obtain ⟨rfl, rfl⟩ := re_s h
  exact rti_ X I dX0_ends_2
theorem c_C0_ends_k2 {l : Launch} {D : va_G} {cy : Nat → ClassId} {a gs : Nat → Nat} {σ : Sg} {x1 : Int32} {r0 : Int32} {σ' : Sg} (h : C0_ends_k2_0 σ x1 = some (r0, σ')) (sz : Nat) : Met l yX0_ends wsX0_ends ({ frames := 0, cells := 0, slots := 0, locals := 0 }) (va_Pc [.ref (a 16), .int x1, .ref (a 1)] (pr_ 59 a D cy (shC cy a σ) (xfC gs) sz)) (qg_ 59 a D (shC cy a σ') (some (.int r0)) sz) 0 0 (fr_ 59 a sz) := by
  refine ent_ (by decide) rfl (Nat.le_of_ble_eq_true rfl) ?_
  intro p e s m below meth c ls hsz X I hl
  subst hsz
  exact kC0_ends_k2_0 X σ x1 s.heap [] ls h I hl

def C10_ends_k2_0  (σ : Sg) (x1 : Int32) : Option (Int32 × Sg) :=
  bi_ (C0_ends_k2_0 σ x1) fun r_3 σ_2 =>
  some ((r_3 - (7 : Int32)), σ_2)
set_option maxRecDepth 100000 in
theorem kC10_ends_k2_0 {p : Program} {l : Launch} {e : Env} {s : State} {m : MethodId} {args : Array Value} {below : List Frame} {meth : Method} {c : Code} {D : va_G} {cy : Nat → ClassId} {a gs : Nat → Nat} (X : cx_ cX10_ends RX10 wsX10_ends 3 (some .int) 59 a D cy (xfC gs) p s m args meth c)  {r0 : Int32} {σ' : Sg}  : ∀ (σ : Sg) (x1 : Int32) (H : Heap) (locs : List Loc) (ls : Array Slot), C10_ends_k2_0 σ x1 = some (r0, σ') → iv_ 59 a D (shC cy a σ) s H locs → lv_has ls 3 [(0, .ref (a 16)), (1, .int x1), (2, .ref (a 1))] → W p l e ({ frames := 1, cells := 0, slots := 0, locals := 22 }) s m args below meth c H locs 0 0 (MQ below (qg_ 59 a D (shC cy a σ') (some (.int r0)) s.heap.size) args s 0 0 (fr_ 59 a s.heap.size)) (F0 m 0 ls []) := by
  obtain ⟨hx, hb, hr, hml, hown, hts, hlk, hK, hA, hXf⟩ := id X
  intro σ x1 H locs ls h I hl
  unfold C10_ends_k2_0 at h
  refine lv_aload_n hx hb dX10_ends_0 rfl (lv_at hl 0 rfl) ?_
  refine lv_iload_n hx hb dX10_ends_1 rfl (lv_at hl 1 rfl) ?_
  refine lv_aload_n hx hb dX10_ends_2 rfl (lv_at hl 2 rfl) ?_
  obtain ⟨r_3, σ_2, hc_1, h⟩ := bi_of h
  refine cg_ (v := .int r_3) (rSU_ (nn := 2) (As := [.int x1, .ref (a 1)]) (rest := []) X xkC I (c_C0_ends_k2 hc_1 H.size) gX10_ends_X0_ends_s19 rfl ⟨rfl, rfl⟩ (by decide +kernel) ⟨Nat.le_of_ble_eq_true rfl, Nat.le_of_ble_eq_true rfl⟩ (by decide) shC_16 rfl rfl hl.1 rfl (Nat.le_of_ble_eq_true rfl) dX10_ends_3) I (fun H locs I => ?_)
  refine lv_bipush (v := 7) hx hb dX10_ends_6 (by decide) ?_
  refine lv_isub hx hb dX10_ends_8 ?_
  obtain ⟨rfl, rfl⟩ := re_s h
  exact rti_ X I dX10_ends_9
theorem c_C10_ends_k2 {l : Launch} {D : va_G} {cy : Nat → ClassId} {a gs : Nat → Nat} {σ : Sg} {x1 : Int32} {r0 : Int32} {σ' : Sg} (h : C10_ends_k2_0 σ x1 = some (r0, σ')) (sz : Nat) : Met l yX10_ends wsX10_ends ({ frames := 1, cells := 0, slots := 0, locals := 22 }) (va_Pc [.ref (a 16), .int x1, .ref (a 1)] (pr_ 59 a D cy (shC cy a σ) (xfC gs) sz)) (qg_ 59 a D (shC cy a σ') (some (.int r0)) sz) 0 0 (fr_ 59 a sz) := by
  refine ent_ (by decide) rfl (Nat.le_of_ble_eq_true rfl) ?_
  intro p e s m below meth c ls hsz X I hl
  subst hsz
  exact kC10_ends_k2_0 X σ x1 s.heap [] ls h I hl

def C0_ends_k3_0  (σ : Sg) (x1 : Int32) : Option (Int32 × Sg) :=
  some ((21 : Int32), σ)
set_option maxRecDepth 100000 in
theorem kC0_ends_k3_0 {p : Program} {l : Launch} {e : Env} {s : State} {m : MethodId} {args : Array Value} {below : List Frame} {meth : Method} {c : Code} {D : va_G} {cy : Nat → ClassId} {a gs : Nat → Nat} (X : cx_ cX0_ends RX0 wsX0_ends 3 (some .int) 59 a D cy (xfC gs) p s m args meth c)  {r0 : Int32} {σ' : Sg}  : ∀ (σ : Sg) (x1 : Int32) (H : Heap) (locs : List Loc) (ls : Array Slot), C0_ends_k3_0 σ x1 = some (r0, σ') → iv_ 59 a D (shC cy a σ) s H locs → lv_has ls 3 [(0, .ref (a 17)), (1, .int x1), (2, .ref (a 1))] → W p l e ({ frames := 0, cells := 0, slots := 0, locals := 0 }) s m args below meth c H locs 0 0 (MQ below (qg_ 59 a D (shC cy a σ') (some (.int r0)) s.heap.size) args s 0 0 (fr_ 59 a s.heap.size)) (F0 m 0 ls []) := by
  obtain ⟨hx, hb, hr, hml, hown, hts, hlk, hK, hA, hXf⟩ := id X
  intro σ x1 H locs ls h I hl
  unfold C0_ends_k3_0 at h
  refine lv_bipush (v := 21) hx hb dX0_ends_0 (by decide) ?_
  obtain ⟨rfl, rfl⟩ := re_s h
  exact rti_ X I dX0_ends_2
theorem c_C0_ends_k3 {l : Launch} {D : va_G} {cy : Nat → ClassId} {a gs : Nat → Nat} {σ : Sg} {x1 : Int32} {r0 : Int32} {σ' : Sg} (h : C0_ends_k3_0 σ x1 = some (r0, σ')) (sz : Nat) : Met l yX0_ends wsX0_ends ({ frames := 0, cells := 0, slots := 0, locals := 0 }) (va_Pc [.ref (a 17), .int x1, .ref (a 1)] (pr_ 59 a D cy (shC cy a σ) (xfC gs) sz)) (qg_ 59 a D (shC cy a σ') (some (.int r0)) sz) 0 0 (fr_ 59 a sz) := by
  refine ent_ (by decide) rfl (Nat.le_of_ble_eq_true rfl) ?_
  intro p e s m below meth c ls hsz X I hl
  subst hsz
  exact kC0_ends_k3_0 X σ x1 s.heap [] ls h I hl

def C5_ends_k3_0  (σ : Sg) (x1 : Int32) : Option (Int32 × Sg) :=
  bi_ (C0_ends_k3_0 σ x1) fun r_3 σ_2 =>
  some ((r_3 + (4 : Int32)), σ_2)
set_option maxRecDepth 100000 in
theorem kC5_ends_k3_0 {p : Program} {l : Launch} {e : Env} {s : State} {m : MethodId} {args : Array Value} {below : List Frame} {meth : Method} {c : Code} {D : va_G} {cy : Nat → ClassId} {a gs : Nat → Nat} (X : cx_ cX5_ends RX5 wsX5_ends 3 (some .int) 59 a D cy (xfC gs) p s m args meth c)  {r0 : Int32} {σ' : Sg}  : ∀ (σ : Sg) (x1 : Int32) (H : Heap) (locs : List Loc) (ls : Array Slot), C5_ends_k3_0 σ x1 = some (r0, σ') → iv_ 59 a D (shC cy a σ) s H locs → lv_has ls 3 [(0, .ref (a 17)), (1, .int x1), (2, .ref (a 1))] → W p l e ({ frames := 1, cells := 0, slots := 0, locals := 22 }) s m args below meth c H locs 0 0 (MQ below (qg_ 59 a D (shC cy a σ') (some (.int r0)) s.heap.size) args s 0 0 (fr_ 59 a s.heap.size)) (F0 m 0 ls []) := by
  obtain ⟨hx, hb, hr, hml, hown, hts, hlk, hK, hA, hXf⟩ := id X
  intro σ x1 H locs ls h I hl
  unfold C5_ends_k3_0 at h
  refine lv_aload_n hx hb dX5_ends_0 rfl (lv_at hl 0 rfl) ?_
  refine lv_iload_n hx hb dX5_ends_1 rfl (lv_at hl 1 rfl) ?_
  refine lv_aload_n hx hb dX5_ends_2 rfl (lv_at hl 2 rfl) ?_
  obtain ⟨r_3, σ_2, hc_1, h⟩ := bi_of h
  refine cg_ (v := .int r_3) (rSU_ (nn := 2) (As := [.int x1, .ref (a 1)]) (rest := []) X xkC I (c_C0_ends_k3 hc_1 H.size) gX5_ends_X0_ends_s11 rfl ⟨rfl, rfl⟩ (by decide +kernel) ⟨Nat.le_of_ble_eq_true rfl, Nat.le_of_ble_eq_true rfl⟩ (by decide) shC_17 rfl rfl hl.1 rfl (Nat.le_of_ble_eq_true rfl) dX5_ends_3) I (fun H locs I => ?_)
  refine lv_iconst (v := 4) hx hb dX5_ends_6 (by decide) ?_
  refine lv_iadd hx hb dX5_ends_7 ?_
  obtain ⟨rfl, rfl⟩ := re_s h
  exact rti_ X I dX5_ends_8
theorem c_C5_ends_k3 {l : Launch} {D : va_G} {cy : Nat → ClassId} {a gs : Nat → Nat} {σ : Sg} {x1 : Int32} {r0 : Int32} {σ' : Sg} (h : C5_ends_k3_0 σ x1 = some (r0, σ')) (sz : Nat) : Met l yX5_ends wsX5_ends ({ frames := 1, cells := 0, slots := 0, locals := 22 }) (va_Pc [.ref (a 17), .int x1, .ref (a 1)] (pr_ 59 a D cy (shC cy a σ) (xfC gs) sz)) (qg_ 59 a D (shC cy a σ') (some (.int r0)) sz) 0 0 (fr_ 59 a sz) := by
  refine ent_ (by decide) rfl (Nat.le_of_ble_eq_true rfl) ?_
  intro p e s m below meth c ls hsz X I hl
  subst hsz
  exact kC5_ends_k3_0 X σ x1 s.heap [] ls h I hl

def C3_ends_k3_0  (σ : Sg) (x1 : Int32) : Option (Int32 × Sg) :=
  bi_ (C5_ends_k3_0 σ x1) fun r_3 σ_2 =>
  some ((r_3 - (rd_ σ_2 4 0)), σ_2)
set_option maxRecDepth 100000 in
theorem kC3_ends_k3_0 {p : Program} {l : Launch} {e : Env} {s : State} {m : MethodId} {args : Array Value} {below : List Frame} {meth : Method} {c : Code} {D : va_G} {cy : Nat → ClassId} {a gs : Nat → Nat} (X : cx_ cX3_ends RX3 wsX3_ends 3 (some .int) 59 a D cy (xfC gs) p s m args meth c)  {r0 : Int32} {σ' : Sg}  : ∀ (σ : Sg) (x1 : Int32) (H : Heap) (locs : List Loc) (ls : Array Slot), C3_ends_k3_0 σ x1 = some (r0, σ') → iv_ 59 a D (shC cy a σ) s H locs → lv_has ls 3 [(0, .ref (a 17)), (1, .int x1), (2, .ref (a 1))] → W p l e ({ frames := 2, cells := 0, slots := 0, locals := 44 }) s m args below meth c H locs 0 0 (MQ below (qg_ 59 a D (shC cy a σ') (some (.int r0)) s.heap.size) args s 0 0 (fr_ 59 a s.heap.size)) (F0 m 0 ls []) := by
  obtain ⟨hx, hb, hr, hml, hown, hts, hlk, hK, hA, hXf⟩ := id X
  intro σ x1 H locs ls h I hl
  unfold C3_ends_k3_0 at h
  refine lv_aload_n hx hb dX3_ends_0 rfl (lv_at hl 0 rfl) ?_
  refine lv_iload_n hx hb dX3_ends_1 rfl (lv_at hl 1 rfl) ?_
  refine lv_aload_n hx hb dX3_ends_2 rfl (lv_at hl 2 rfl) ?_
  obtain ⟨r_3, σ_2, hc_1, h⟩ := bi_of h
  refine cg_ (v := .int r_3) (rSU_ (nn := 2) (As := [.int x1, .ref (a 1)]) (rest := []) X xkC I (c_C5_ends_k3 hc_1 H.size) gX3_ends_X5_ends_s19 rfl ⟨rfl, rfl⟩ (by decide +kernel) ⟨Nat.le_of_ble_eq_true rfl, Nat.le_of_ble_eq_true rfl⟩ (by decide) shC_17 rfl rfl hl.1 rfl (Nat.le_of_ble_eq_true rfl) dX3_ends_3) I (fun H locs I => ?_)
  refine lv_aload_n hx hb dX3_ends_6 rfl (lv_at hl 2 rfl) ?_
  refine ig_ (index := 13) X I (fun _ q => List.mem_cons_of_mem _ (List.mem_append_right _ q)) 1 (by decide) shC_1 rfl 0 (by decide) (by decide +kernel) rfl (v := .ref (a 4)) rfl dX3_ends_7 ?_
  refine lv_iconst (v := 0) hx hb dX3_ends_10 (by decide) ?_
  refine ia_ X I 4 (by decide) shC_4 (in_of (by decide)) (v0 := (rd_ σ_2 4 0)) rfl dX3_ends_11 ?_
  refine lv_isub hx hb dX3_ends_12 ?_
  obtain ⟨rfl, rfl⟩ := re_s h
  exact rti_ X I dX3_ends_13
theorem c_C3_ends_k3 {l : Launch} {D : va_G} {cy : Nat → ClassId} {a gs : Nat → Nat} {σ : Sg} {x1 : Int32} {r0 : Int32} {σ' : Sg} (h : C3_ends_k3_0 σ x1 = some (r0, σ')) (sz : Nat) : Met l yX3_ends wsX3_ends ({ frames := 2, cells := 0, slots := 0, locals := 44 }) (va_Pc [.ref (a 17), .int x1, .ref (a 1)] (pr_ 59 a D cy (shC cy a σ) (xfC gs) sz)) (qg_ 59 a D (shC cy a σ') (some (.int r0)) sz) 0 0 (fr_ 59 a sz) := by
  refine ent_ (by decide) rfl (Nat.le_of_ble_eq_true rfl) ?_
  intro p e s m below meth c ls hsz X I hl
  subst hsz
  exact kC3_ends_k3_0 X σ x1 s.heap [] ls h I hl

def C0_ends_k4_0  (σ : Sg) (x1 : Int32) : Option (Int32 × Sg) :=
  some ((21 : Int32), σ)
set_option maxRecDepth 100000 in
theorem kC0_ends_k4_0 {p : Program} {l : Launch} {e : Env} {s : State} {m : MethodId} {args : Array Value} {below : List Frame} {meth : Method} {c : Code} {D : va_G} {cy : Nat → ClassId} {a gs : Nat → Nat} (X : cx_ cX0_ends RX0 wsX0_ends 3 (some .int) 59 a D cy (xfC gs) p s m args meth c)  {r0 : Int32} {σ' : Sg}  : ∀ (σ : Sg) (x1 : Int32) (H : Heap) (locs : List Loc) (ls : Array Slot), C0_ends_k4_0 σ x1 = some (r0, σ') → iv_ 59 a D (shC cy a σ) s H locs → lv_has ls 3 [(0, .ref (a 18)), (1, .int x1), (2, .ref (a 1))] → W p l e ({ frames := 0, cells := 0, slots := 0, locals := 0 }) s m args below meth c H locs 0 0 (MQ below (qg_ 59 a D (shC cy a σ') (some (.int r0)) s.heap.size) args s 0 0 (fr_ 59 a s.heap.size)) (F0 m 0 ls []) := by
  obtain ⟨hx, hb, hr, hml, hown, hts, hlk, hK, hA, hXf⟩ := id X
  intro σ x1 H locs ls h I hl
  unfold C0_ends_k4_0 at h
  refine lv_bipush (v := 21) hx hb dX0_ends_0 (by decide) ?_
  obtain ⟨rfl, rfl⟩ := re_s h
  exact rti_ X I dX0_ends_2
theorem c_C0_ends_k4 {l : Launch} {D : va_G} {cy : Nat → ClassId} {a gs : Nat → Nat} {σ : Sg} {x1 : Int32} {r0 : Int32} {σ' : Sg} (h : C0_ends_k4_0 σ x1 = some (r0, σ')) (sz : Nat) : Met l yX0_ends wsX0_ends ({ frames := 0, cells := 0, slots := 0, locals := 0 }) (va_Pc [.ref (a 18), .int x1, .ref (a 1)] (pr_ 59 a D cy (shC cy a σ) (xfC gs) sz)) (qg_ 59 a D (shC cy a σ') (some (.int r0)) sz) 0 0 (fr_ 59 a sz) := by
  refine ent_ (by decide) rfl (Nat.le_of_ble_eq_true rfl) ?_
  intro p e s m below meth c ls hsz X I hl
  subst hsz
  exact kC0_ends_k4_0 X σ x1 s.heap [] ls h I hl

def C10_ends_k4_0  (σ : Sg) (x1 : Int32) : Option (Int32 × Sg) :=
  bi_ (C0_ends_k4_0 σ x1) fun r_3 σ_2 =>
  some ((r_3 - (7 : Int32)), σ_2)
set_option maxRecDepth 100000 in
theorem kC10_ends_k4_0 {p : Program} {l : Launch} {e : Env} {s : State} {m : MethodId} {args : Array Value} {below : List Frame} {meth : Method} {c : Code} {D : va_G} {cy : Nat → ClassId} {a gs : Nat → Nat} (X : cx_ cX10_ends RX10 wsX10_ends 3 (some .int) 59 a D cy (xfC gs) p s m args meth c)  {r0 : Int32} {σ' : Sg}  : ∀ (σ : Sg) (x1 : Int32) (H : Heap) (locs : List Loc) (ls : Array Slot), C10_ends_k4_0 σ x1 = some (r0, σ') → iv_ 59 a D (shC cy a σ) s H locs → lv_has ls 3 [(0, .ref (a 18)), (1, .int x1), (2, .ref (a 1))] → W p l e ({ frames := 1, cells := 0, slots := 0, locals := 22 }) s m args below meth c H locs 0 0 (MQ below (qg_ 59 a D (shC cy a σ') (some (.int r0)) s.heap.size) args s 0 0 (fr_ 59 a s.heap.size)) (F0 m 0 ls []) := by
  obtain ⟨hx, hb, hr, hml, hown, hts, hlk, hK, hA, hXf⟩ := id X
  intro σ x1 H locs ls h I hl
  unfold C10_ends_k4_0 at h
  refine lv_aload_n hx hb dX10_ends_0 rfl (lv_at hl 0 rfl) ?_
  refine lv_iload_n hx hb dX10_ends_1 rfl (lv_at hl 1 rfl) ?_
  refine lv_aload_n hx hb dX10_ends_2 rfl (lv_at hl 2 rfl) ?_
  obtain ⟨r_3, σ_2, hc_1, h⟩ := bi_of h
  refine cg_ (v := .int r_3) (rSU_ (nn := 2) (As := [.int x1, .ref (a 1)]) (rest := []) X xkC I (c_C0_ends_k4 hc_1 H.size) gX10_ends_X0_ends_s19 rfl ⟨rfl, rfl⟩ (by decide +kernel) ⟨Nat.le_of_ble_eq_true rfl, Nat.le_of_ble_eq_true rfl⟩ (by decide) shC_18 rfl rfl hl.1 rfl (Nat.le_of_ble_eq_true rfl) dX10_ends_3) I (fun H locs I => ?_)
  refine lv_bipush (v := 7) hx hb dX10_ends_6 (by decide) ?_
  refine lv_isub hx hb dX10_ends_8 ?_
  obtain ⟨rfl, rfl⟩ := re_s h
  exact rti_ X I dX10_ends_9
theorem c_C10_ends_k4 {l : Launch} {D : va_G} {cy : Nat → ClassId} {a gs : Nat → Nat} {σ : Sg} {x1 : Int32} {r0 : Int32} {σ' : Sg} (h : C10_ends_k4_0 σ x1 = some (r0, σ')) (sz : Nat) : Met l yX10_ends wsX10_ends ({ frames := 1, cells := 0, slots := 0, locals := 22 }) (va_Pc [.ref (a 18), .int x1, .ref (a 1)] (pr_ 59 a D cy (shC cy a σ) (xfC gs) sz)) (qg_ 59 a D (shC cy a σ') (some (.int r0)) sz) 0 0 (fr_ 59 a sz) := by
  refine ent_ (by decide) rfl (Nat.le_of_ble_eq_true rfl) ?_
  intro p e s m below meth c ls hsz X I hl
  subst hsz
  exact kC10_ends_k4_0 X σ x1 s.heap [] ls h I hl

def C7_ends_k4_0  (σ : Sg) (x1 : Int32) : Option (Int32 × Sg) :=
  bi_ (C10_ends_k4_0 σ x1) fun r_3 σ_2 =>
  some ((r_3 + x1), σ_2)
set_option maxRecDepth 100000 in
theorem kC7_ends_k4_0 {p : Program} {l : Launch} {e : Env} {s : State} {m : MethodId} {args : Array Value} {below : List Frame} {meth : Method} {c : Code} {D : va_G} {cy : Nat → ClassId} {a gs : Nat → Nat} (X : cx_ cX7_ends RX7 wsX7_ends 3 (some .int) 59 a D cy (xfC gs) p s m args meth c)  {r0 : Int32} {σ' : Sg}  : ∀ (σ : Sg) (x1 : Int32) (H : Heap) (locs : List Loc) (ls : Array Slot), C7_ends_k4_0 σ x1 = some (r0, σ') → iv_ 59 a D (shC cy a σ) s H locs → lv_has ls 3 [(0, .ref (a 18)), (1, .int x1), (2, .ref (a 1))] → W p l e ({ frames := 2, cells := 0, slots := 0, locals := 44 }) s m args below meth c H locs 0 0 (MQ below (qg_ 59 a D (shC cy a σ') (some (.int r0)) s.heap.size) args s 0 0 (fr_ 59 a s.heap.size)) (F0 m 0 ls []) := by
  obtain ⟨hx, hb, hr, hml, hown, hts, hlk, hK, hA, hXf⟩ := id X
  intro σ x1 H locs ls h I hl
  unfold C7_ends_k4_0 at h
  refine lv_aload_n hx hb dX7_ends_0 rfl (lv_at hl 0 rfl) ?_
  refine lv_iload_n hx hb dX7_ends_1 rfl (lv_at hl 1 rfl) ?_
  refine lv_aload_n hx hb dX7_ends_2 rfl (lv_at hl 2 rfl) ?_
  obtain ⟨r_3, σ_2, hc_1, h⟩ := bi_of h
  refine cg_ (v := .int r_3) (rSU_ (nn := 2) (As := [.int x1, .ref (a 1)]) (rest := []) X xkC I (c_C10_ends_k4 hc_1 H.size) gX7_ends_X10_ends_s11 rfl ⟨rfl, rfl⟩ (by decide +kernel) ⟨Nat.le_of_ble_eq_true rfl, Nat.le_of_ble_eq_true rfl⟩ (by decide) shC_18 rfl rfl hl.1 rfl (Nat.le_of_ble_eq_true rfl) dX7_ends_3) I (fun H locs I => ?_)
  refine lv_iload_n hx hb dX7_ends_6 rfl (lv_at hl 1 rfl) ?_
  refine lv_iadd hx hb dX7_ends_7 ?_
  obtain ⟨rfl, rfl⟩ := re_s h
  exact rti_ X I dX7_ends_8
theorem c_C7_ends_k4 {l : Launch} {D : va_G} {cy : Nat → ClassId} {a gs : Nat → Nat} {σ : Sg} {x1 : Int32} {r0 : Int32} {σ' : Sg} (h : C7_ends_k4_0 σ x1 = some (r0, σ')) (sz : Nat) : Met l yX7_ends wsX7_ends ({ frames := 2, cells := 0, slots := 0, locals := 44 }) (va_Pc [.ref (a 18), .int x1, .ref (a 1)] (pr_ 59 a D cy (shC cy a σ) (xfC gs) sz)) (qg_ 59 a D (shC cy a σ') (some (.int r0)) sz) 0 0 (fr_ 59 a sz) := by
  refine ent_ (by decide) rfl (Nat.le_of_ble_eq_true rfl) ?_
  intro p e s m below meth c ls hsz X I hl
  subst hsz
  exact kC7_ends_k4_0 X σ x1 s.heap [] ls h I hl

def C0_ends_k5_0  (σ : Sg) (x1 : Int32) : Option (Int32 × Sg) :=
  some ((21 : Int32), σ)
set_option maxRecDepth 100000 in
theorem kC0_ends_k5_0 {p : Program} {l : Launch} {e : Env} {s : State} {m : MethodId} {args : Array Value} {below : List Frame} {meth : Method} {c : Code} {D : va_G} {cy : Nat → ClassId} {a gs : Nat → Nat} (X : cx_ cX0_ends RX0 wsX0_ends 3 (some .int) 59 a D cy (xfC gs) p s m args meth c)  {r0 : Int32} {σ' : Sg}  : ∀ (σ : Sg) (x1 : Int32) (H : Heap) (locs : List Loc) (ls : Array Slot), C0_ends_k5_0 σ x1 = some (r0, σ') → iv_ 59 a D (shC cy a σ) s H locs → lv_has ls 3 [(0, .ref (a 19)), (1, .int x1), (2, .ref (a 1))] → W p l e ({ frames := 0, cells := 0, slots := 0, locals := 0 }) s m args below meth c H locs 0 0 (MQ below (qg_ 59 a D (shC cy a σ') (some (.int r0)) s.heap.size) args s 0 0 (fr_ 59 a s.heap.size)) (F0 m 0 ls []) := by
  obtain ⟨hx, hb, hr, hml, hown, hts, hlk, hK, hA, hXf⟩ := id X
  intro σ x1 H locs ls h I hl
  unfold C0_ends_k5_0 at h
  refine lv_bipush (v := 21) hx hb dX0_ends_0 (by decide) ?_
  obtain ⟨rfl, rfl⟩ := re_s h
  exact rti_ X I dX0_ends_2
theorem c_C0_ends_k5 {l : Launch} {D : va_G} {cy : Nat → ClassId} {a gs : Nat → Nat} {σ : Sg} {x1 : Int32} {r0 : Int32} {σ' : Sg} (h : C0_ends_k5_0 σ x1 = some (r0, σ')) (sz : Nat) : Met l yX0_ends wsX0_ends ({ frames := 0, cells := 0, slots := 0, locals := 0 }) (va_Pc [.ref (a 19), .int x1, .ref (a 1)] (pr_ 59 a D cy (shC cy a σ) (xfC gs) sz)) (qg_ 59 a D (shC cy a σ') (some (.int r0)) sz) 0 0 (fr_ 59 a sz) := by
  refine ent_ (by decide) rfl (Nat.le_of_ble_eq_true rfl) ?_
  intro p e s m below meth c ls hsz X I hl
  subst hsz
  exact kC0_ends_k5_0 X σ x1 s.heap [] ls h I hl

def C1_endsOf_0  (σ : Sg) (x1 : Nat) : Option (Int32 × Sg) :=
  bi_ (C1_kindOf_0 σ x1) fun r_3 σ_2 =>
  gd_ (lf_ x1 25) (
  bi_ (if r_3 = 0 then C0_ends_k0_0 σ_2 (rd_ σ_2 (34 + x1) 2) else if r_3 = 1 then C5_ends_k1_0 σ_2 (rd_ σ_2 (34 + x1) 2) else if r_3 = 2 then C10_ends_k2_0 σ_2 (rd_ σ_2 (34 + x1) 2) else if r_3 = 3 then C3_ends_k3_0 σ_2 (rd_ σ_2 (34 + x1) 2) else if r_3 = 4 then C7_ends_k4_0 σ_2 (rd_ σ_2 (34 + x1) 2) else if r_3 = 5 then C0_ends_k5_0 σ_2 (rd_ σ_2 (34 + x1) 2) else none) fun r_7 σ_6 =>
  some (r_7, σ_6))
set_option maxRecDepth 100000 in
theorem kC1_endsOf_0 {p : Program} {l : Launch} {e : Env} {s : State} {m : MethodId} {args : Array Value} {below : List Frame} {meth : Method} {c : Code} {D : va_G} {cy : Nat → ClassId} {a gs : Nat → Nat} (X : cx_ cX1_endsOf RX1 wsX1_endsOf 2 (some .int) 59 a D cy (xfC gs) p s m args meth c)  {r0 : Int32} {σ' : Sg}  : ∀ (σ : Sg) (x1 : Nat) (H : Heap) (locs : List Loc) (ls : Array Slot), C1_endsOf_0 σ x1 = some (r0, σ') → iv_ 59 a D (shC cy a σ) s H locs → lv_has ls 2 [(0, .ref (a 1)), (1, .ref (a (34 + x1)))] → W p l e ({ frames := 3, cells := 0, slots := 0, locals := 66 }) s m args below meth c H locs 0 0 (MQ below (qg_ 59 a D (shC cy a σ') (some (.int r0)) s.heap.size) args s 0 0 (fr_ 59 a s.heap.size)) (F0 m 0 ls []) := by
  obtain ⟨hx, hb, hr, hml, hown, hts, hlk, hK, hA, hXf⟩ := id X
  intro σ x1 H locs ls h I hl
  unfold C1_endsOf_0 at h
  refine lv_aload_n hx hb dX1_endsOf_0 rfl (lv_at hl 0 rfl) ?_
  refine lv_aload_n hx hb dX1_endsOf_1 rfl (lv_at hl 1 rfl) ?_
  obtain ⟨r_3, σ_2, hc_1, h⟩ := bi_of h
  refine cg_ (v := .ref (a (14 + r_3))) (rV_ (nn := 1) (As := [.ref (a (34 + x1))]) (rest := []) X xkC I (c_C1_kindOf hc_1 H.size) gX1_endsOf_X1_kindOf rfl ⟨rfl, rfl⟩ (by decide +kernel) ⟨Nat.le_of_ble_eq_true rfl, Nat.le_of_ble_eq_true rfl⟩ (by decide) shC_1 rfl rfl hl.1 rfl (Nat.le_of_ble_eq_true rfl) dX1_endsOf_2) I (fun H locs I => ?_)
  refine lv_aload_n hx hb dX1_endsOf_5 rfl (lv_at hl 1 rfl) ?_
  obtain ⟨g_4, h⟩ := gd_of h
  refine ig_ (index := 73) X I (fun _ q => List.mem_cons_of_mem _ (List.mem_append_left _ (List.mem_append_right _ q))) (34 + x1) (lf59 g_4) shC_L rfl 2 (by decide) (by decide +kernel) rfl (v := .int (rd_ σ_2 (34 + x1) 2)) rfl dX1_endsOf_6 ?_
  refine lv_aload_n hx hb dX1_endsOf_9 rfl (lv_at hl 0 rfl) ?_
  obtain ⟨r_7, σ_6, hc_5, h⟩ := bi_of h
  refine cg_ (v := .int r_7) (w1 := shC cy a σ_6) (rest := []) (av := #[]) ?_ I (fun H locs I => ?_)
  · by_cases q_8 : r_3 = 0
    · subst q_8
      have hc_5 := if_t hc_5 rfl
      exact rV_ (nn := 2) (As := [.int (rd_ σ_2 (34 + x1) 2), .ref (a 1)]) (rest := []) X xkC I (c_C0_ends_k0 hc_5 H.size) gX1_endsOf_X0_ends rfl ⟨rfl, rfl⟩ (by decide +kernel) ⟨Nat.le_of_ble_eq_true rfl, Nat.le_of_ble_eq_true rfl⟩ (by decide) shC_14 rfl rfl hl.1 rfl (Nat.le_of_ble_eq_true rfl) dX1_endsOf_10
    · have hc_5 := if_f hc_5 q_8
      by_cases q_9 : r_3 = 1
      · subst q_9
        have hc_5 := if_t hc_5 rfl
        exact rO_ (nn := 2) (As := [.int (rd_ σ_2 (34 + x1) 2), .ref (a 1)]) (rest := []) (b0 := cX0_ends) (m0 := 3) (r0 := (some .int)) X xkC I (c_C5_ends_k1 hc_5 H.size) gX1_endsOf_X5_ends_u82X5 rfl ⟨rfl, rfl⟩ (by decide +kernel) (by decide +kernel) ⟨Nat.le_of_ble_eq_true rfl, Nat.le_of_ble_eq_true rfl⟩ (by decide) shC_15 rfl rfl hl.1 rfl (Nat.le_of_ble_eq_true rfl) dX1_endsOf_10
      · have hc_5 := if_f hc_5 q_9
        by_cases q_10 : r_3 = 2
        · subst q_10
          have hc_5 := if_t hc_5 rfl
          exact rO_ (nn := 2) (As := [.int (rd_ σ_2 (34 + x1) 2), .ref (a 1)]) (rest := []) (b0 := cX0_ends) (m0 := 3) (r0 := (some .int)) X xkC I (c_C10_ends_k2 hc_5 H.size) gX1_endsOf_X10_ends_u82X10 rfl ⟨rfl, rfl⟩ (by decide +kernel) (by decide +kernel) ⟨Nat.le_of_ble_eq_true rfl, Nat.le_of_ble_eq_true rfl⟩ (by decide) shC_16 rfl rfl hl.1 rfl (Nat.le_of_ble_eq_true rfl) dX1_endsOf_10
        · have hc_5 := if_f hc_5 q_10
          by_cases q_11 : r_3 = 3
          · subst q_11
            have hc_5 := if_t hc_5 rfl
            exact rO_ (nn := 2) (As := [.int (rd_ σ_2 (34 + x1) 2), .ref (a 1)]) (rest := []) (b0 := cX0_ends) (m0 := 3) (r0 := (some .int)) X xkC I (c_C3_ends_k3 hc_5 H.size) gX1_endsOf_X3_ends_u82X3 rfl ⟨rfl, rfl⟩ (by decide +kernel) (by decide +kernel) ⟨Nat.le_of_ble_eq_true rfl, Nat.le_of_ble_eq_true rfl⟩ (by decide) shC_17 rfl rfl hl.1 rfl (Nat.le_of_ble_eq_true rfl) dX1_endsOf_10
          · have hc_5 := if_f hc_5 q_11
            by_cases q_12 : r_3 = 4
            · subst q_12
              have hc_5 := if_t hc_5 rfl
              exact rO_ (nn := 2) (As := [.int (rd_ σ_2 (34 + x1) 2), .ref (a 1)]) (rest := []) (b0 := cX0_ends) (m0 := 3) (r0 := (some .int)) X xkC I (c_C7_ends_k4 hc_5 H.size) gX1_endsOf_X7_ends_u82X7 rfl ⟨rfl, rfl⟩ (by decide +kernel) (by decide +kernel) ⟨Nat.le_of_ble_eq_true rfl, Nat.le_of_ble_eq_true rfl⟩ (by decide) shC_18 rfl rfl hl.1 rfl (Nat.le_of_ble_eq_true rfl) dX1_endsOf_10
            · have hc_5 := if_f hc_5 q_12
              by_cases q_13 : r_3 = 5
              · subst q_13
                have hc_5 := if_t hc_5 rfl
                exact rU_ (nn := 2) (As := [.int (rd_ σ_2 (34 + x1) 2), .ref (a 1)]) (rest := []) X xkC I (c_C0_ends_k5 hc_5 H.size) gX1_endsOf_X0_ends_u82X9 rfl ⟨rfl, rfl⟩ rfl (by decide +kernel) ⟨Nat.le_of_ble_eq_true rfl, Nat.le_of_ble_eq_true rfl⟩ (by decide) shC_19 rfl rfl hl.1 rfl (Nat.le_of_ble_eq_true rfl) dX1_endsOf_10
              · have hc_5 := if_f hc_5 q_13
                exact absurd hc_5 (fun q => by cases (show (none : Option _) = some _ from q))
  obtain ⟨rfl, rfl⟩ := re_s h
  exact rti_ X I dX1_endsOf_13
theorem c_C1_endsOf {l : Launch} {D : va_G} {cy : Nat → ClassId} {a gs : Nat → Nat} {σ : Sg} {x1 : Nat} {r0 : Int32} {σ' : Sg} (h : C1_endsOf_0 σ x1 = some (r0, σ')) (sz : Nat) : Met l yX1_endsOf wsX1_endsOf ({ frames := 3, cells := 0, slots := 0, locals := 66 }) (va_Pc [.ref (a 1), .ref (a (34 + x1))] (pr_ 59 a D cy (shC cy a σ) (xfC gs) sz)) (qg_ 59 a D (shC cy a σ') (some (.int r0)) sz) 0 0 (fr_ 59 a sz) := by
  refine ent_ (by decide) rfl (Nat.le_of_ble_eq_true rfl) ?_
  intro p e s m below meth c ls hsz X I hl
  subst hsz
  exact kC1_endsOf_0 X σ x1 s.heap [] ls h I hl

def C_does_0  (σ : Sg) (x1 : Int32) (x2 : Int32) : Option (Int32 × Sg) :=
  bi_ (C1_life_0 σ x1) fun r_3 σ_2 =>
  on_ r_3 (some ((-1 : Int32), σ_2)) fun j_4 =>
  if x2 = 0 then (bi_ (C1_movesOf_0 σ_2 j_4) fun r_8 σ_7 =>
  some (r_8, σ_7))
  else (if x2 = 1 then (bi_ (C1_endsOf_0 σ_2 j_4) fun r_12 σ_11 =>
  some (r_12, σ_11))
  else (some ((-1 : Int32), σ_2)))
set_option maxRecDepth 100000 in
theorem kC_does_0 {p : Program} {l : Launch} {e : Env} {s : State} {m : MethodId} {args : Array Value} {below : List Frame} {meth : Method} {c : Code} {D : va_G} {cy : Nat → ClassId} {a gs : Nat → Nat} (X : cx_ cX11_does RX11 wsX11_does 4 (some .int) 59 a D cy (xfC gs) p s m args meth c)  {r0 : Int32} {σ' : Sg}  : ∀ (σ : Sg) (x1 : Int32) (x2 : Int32) (H : Heap) (locs : List Loc) (ls : Array Slot), C_does_0 σ x1 x2 = some (r0, σ') → iv_ 59 a D (shC cy a σ) s H locs → lv_has ls 4 [(0, .ref (a 0)), (1, .int x1), (2, .int x2)] → W p l e ({ frames := 4, cells := 0, slots := 0, locals := 90 }) s m args below meth c H locs 0 0 (MQ below (qg_ 59 a D (shC cy a σ') (some (.int r0)) s.heap.size) args s 0 0 (fr_ 59 a s.heap.size)) (F0 m 0 ls []) := by
  obtain ⟨hx, hb, hr, hml, hown, hts, hlk, hK, hA, hXf⟩ := id X
  intro σ x1 x2 H locs ls h I hl
  unfold C_does_0 at h
  refine lv_aload_n hx hb dX11_does_0 rfl (lv_at hl 0 rfl) ?_
  refine ig_ (index := 30) X I (fun _ q => List.mem_cons_of_mem _ (List.mem_append_left _ (List.mem_append_left _ (List.mem_append_right _ q)))) 0 (by decide) shC_0 rfl 0 (by decide) (by decide +kernel) rfl (v := .ref (a 1)) rfl dX11_does_1 ?_
  refine lv_iload_n hx hb dX11_does_4 rfl (lv_at hl 1 rfl) ?_
  obtain ⟨r_3, σ_2, hc_1, h⟩ := bi_of h
  refine cg_ (v := va_re (fun j => a (34 + j)) r_3) (rV_ (nn := 1) (As := [.int x1]) (rest := []) X xkC I (c_C1_life hc_1 H.size) gX11_does_X1_life rfl ⟨rfl, rfl⟩ (by decide +kernel) ⟨Nat.le_of_ble_eq_true rfl, Nat.le_of_ble_eq_true rfl⟩ (by decide) shC_1 rfl rfl hl.1 rfl (Nat.le_of_ble_eq_true rfl) dX11_does_5) I (fun H locs I => ?_)
  rcases r_3 with _ | j_4
  · have h := on_n h
    refine W.eq (g2 := F0 m 8 ls [.null]) rfl ?_
    refine lv_astore_nN (lv' := [(3, .null), (0, .ref (a 0)), (1, .int x1), (2, .int x2)]) hx hb dX11_does_8 rfl hl (by decide) rfl (fun ls hl => ?_)
    refine lv_aload_nN hx hb dX11_does_9 rfl (lv_at hl 0 rfl) ?_
    refine lv_ifnonnullN hx hb dX11_does_10 ?_
    refine lv_iconst (v := (-1)) hx hb dX11_does_13 (by decide) ?_
    obtain ⟨rfl, rfl⟩ := re_s h
    exact rti_ X I dX11_does_14
  · have h := on_s h
    refine W.eq (g2 := F0 m 8 ls [.ref (a (34 + j_4))]) rfl ?_
    refine lv_astore_n (lv' := [(3, .ref (a (34 + j_4))), (0, .ref (a 0)), (1, .int x1), (2, .int x2)]) hx hb dX11_does_8 rfl hl (by decide) rfl (fun ls hl => ?_)
    refine lv_aload_n hx hb dX11_does_9 rfl (lv_at hl 0 rfl) ?_
    refine lv_ifnonnull (tgt := 15) hx hb dX11_does_10 (by decide) ?_
    refine lv_iload_n hx hb dX11_does_15 rfl (lv_at hl 3 rfl) ?_
    by_cases c_5 : x2 = 0
    · have h := if_t h c_5
      refine lv_lookup (tgt := 44) (off := 28) hx hb dX11_does_16 (by decide) (by rw [c_5]; decide) (by decide) ?_
      refine lv_aload_n hx hb dX11_does_44 rfl (lv_at hl 1 rfl) ?_
      refine ig_ (index := 30) X I (fun _ q => List.mem_cons_of_mem _ (List.mem_append_left _ (List.mem_append_left _ (List.mem_append_right _ q)))) 0 (by decide) shC_0 rfl 0 (by decide) (by decide +kernel) rfl (v := .ref (a 1)) rfl dX11_does_45 ?_
      refine lv_aload_n hx hb dX11_does_48 rfl (lv_at hl 0 rfl) ?_
      obtain ⟨r_8, σ_7, hc_6, h⟩ := bi_of h
      refine cg_ (v := .int r_8) (rV_ (nn := 1) (As := [.ref (a (34 + j_4))]) (rest := []) X xkC I (c_C1_movesOf hc_6 H.size) gX11_does_X1_movesOf rfl ⟨rfl, rfl⟩ (by decide +kernel) ⟨Nat.le_of_ble_eq_true rfl, Nat.le_of_ble_eq_true rfl⟩ (by decide) shC_1 rfl rfl hl.1 rfl (Nat.le_of_ble_eq_true rfl) dX11_does_49) I (fun H locs I => ?_)
      obtain ⟨rfl, rfl⟩ := re_s h
      exact rti_ X I dX11_does_52
    · have h := if_f h c_5
      by_cases c_9 : x2 = 1
      · have h := if_t h c_9
        refine lv_lookup (tgt := 53) (off := 37) hx hb dX11_does_16 (by decide) (by rw [c_9]; decide) (by decide) ?_
        refine lv_aload_n hx hb dX11_does_53 rfl (lv_at hl 1 rfl) ?_
        refine ig_ (index := 30) X I (fun _ q => List.mem_cons_of_mem _ (List.mem_append_left _ (List.mem_append_left _ (List.mem_append_right _ q)))) 0 (by decide) shC_0 rfl 0 (by decide) (by decide +kernel) rfl (v := .ref (a 1)) rfl dX11_does_54 ?_
        refine lv_aload_n hx hb dX11_does_57 rfl (lv_at hl 0 rfl) ?_
        obtain ⟨r_12, σ_11, hc_10, h⟩ := bi_of h
        refine cg_ (v := .int r_12) (rV_ (nn := 1) (As := [.ref (a (34 + j_4))]) (rest := []) X xkC I (c_C1_endsOf hc_10 H.size) gX11_does_X1_endsOf rfl ⟨rfl, rfl⟩ (by decide +kernel) ⟨Nat.le_of_ble_eq_true rfl, Nat.le_of_ble_eq_true rfl⟩ (by decide) shC_1 rfl rfl hl.1 rfl (Nat.le_of_ble_eq_true rfl) dX11_does_58) I (fun H locs I => ?_)
        obtain ⟨rfl, rfl⟩ := re_s h
        exact rti_ X I dX11_does_61
      · have h := if_f h c_9
        refine lv_lookup (tgt := 62) (off := 46) hx hb dX11_does_16 (by decide) (by rw [lv_osw (a := 0) c_5 rfl, lv_osw (a := 1) c_9 rfl]; rfl) (by decide) ?_
        refine lv_iconst (v := (-1)) hx hb dX11_does_62 (by decide) ?_
        obtain ⟨rfl, rfl⟩ := re_s h
        exact rti_ X I dX11_does_63
theorem c_C_does {l : Launch} {D : va_G} {cy : Nat → ClassId} {a gs : Nat → Nat} {σ : Sg} {x1 : Int32} {x2 : Int32} {r0 : Int32} {σ' : Sg} (h : C_does_0 σ x1 x2 = some (r0, σ')) (sz : Nat) : Met l yX11_does wsX11_does ({ frames := 4, cells := 0, slots := 0, locals := 90 }) (va_Pc [.ref (a 0), .int x1, .int x2] (pr_ 59 a D cy (shC cy a σ) (xfC gs) sz)) (qg_ 59 a D (shC cy a σ') (some (.int r0)) sz) 0 0 (fr_ 59 a sz) := by
  refine ent_ (by decide) rfl (Nat.le_of_ble_eq_true rfl) ?_
  intro p e s m below meth c ls hsz X I hl
  subst hsz
  exact kC_does_0 X σ x1 x2 s.heap [] ls h I hl

def C_mind_0  (σ : Sg) (x1 : Int32) (x2 : Int32) (x3 : Int32) : Option (Int32 × Sg) :=
  bi_ (C1_life_0 σ x1) fun r_3 σ_2 =>
  on_ r_3 (some ((-1 : Int32), σ_2)) fun j_4 =>
  bp_ (C_isKindWithFire_0 x2 x3) fun r_6 =>
  if r_6 = 0 then (some ((-1 : Int32), σ_2))
  else (gd_ (lf_ j_4 25) (
  lt_ ((rd_ σ_2 (34 + j_4) 0)) fun y_9 =>
  lt_ (wr_ σ_2 (34 + j_4) 0 x2) fun σ_11 =>
  lt_ (wr_ σ_11 (34 + j_4) 2 x3) fun σ_13 =>
  some (y_9, σ_13)))
set_option maxRecDepth 100000 in
theorem kC_mind_0 {p : Program} {l : Launch} {e : Env} {s : State} {m : MethodId} {args : Array Value} {below : List Frame} {meth : Method} {c : Code} {D : va_G} {cy : Nat → ClassId} {a gs : Nat → Nat} (X : cx_ cX11_mind RX11 wsX11_mind 6 (some .int) 59 a D cy (xfC gs) p s m args meth c)  {r0 : Int32} {σ' : Sg}  : ∀ (σ : Sg) (x1 : Int32) (x2 : Int32) (x3 : Int32) (H : Heap) (locs : List Loc) (ls : Array Slot), C_mind_0 σ x1 x2 x3 = some (r0, σ') → iv_ 59 a D (shC cy a σ) s H locs → lv_has ls 6 [(0, .ref (a 0)), (1, .int x1), (2, .int x2), (3, .int x3)] → W p l e ({ frames := 2, cells := 0, slots := 0, locals := 42 }) s m args below meth c H locs 0 0 (MQ below (qg_ 59 a D (shC cy a σ') (some (.int r0)) s.heap.size) args s 0 0 (fr_ 59 a s.heap.size)) (F0 m 0 ls []) := by
  obtain ⟨hx, hb, hr, hml, hown, hts, hlk, hK, hA, hXf⟩ := id X
  intro σ x1 x2 x3 H locs ls h I hl
  unfold C_mind_0 at h
  refine lv_aload_n hx hb dX11_mind_0 rfl (lv_at hl 0 rfl) ?_
  refine ig_ (index := 30) X I (fun _ q => List.mem_cons_of_mem _ (List.mem_append_left _ (List.mem_append_left _ (List.mem_append_right _ q)))) 0 (by decide) shC_0 rfl 0 (by decide) (by decide +kernel) rfl (v := .ref (a 1)) rfl dX11_mind_1 ?_
  refine lv_iload_n hx hb dX11_mind_4 rfl (lv_at hl 1 rfl) ?_
  obtain ⟨r_3, σ_2, hc_1, h⟩ := bi_of h
  refine cg_ (v := va_re (fun j => a (34 + j)) r_3) (rV_ (nn := 1) (As := [.int x1]) (rest := []) X xkC I (c_C1_life hc_1 H.size) gX11_mind_X1_life rfl ⟨rfl, rfl⟩ (by decide +kernel) ⟨Nat.le_of_ble_eq_true rfl, Nat.le_of_ble_eq_true rfl⟩ (by decide) shC_1 rfl rfl hl.1 rfl (Nat.le_of_ble_eq_true rfl) dX11_mind_5) I (fun H locs I => ?_)
  rcases r_3 with _ | j_4
  · have h := on_n h
    refine W.eq (g2 := F0 m 8 ls [.null]) rfl ?_
    refine lv_astoreN (lv' := [(4, .null), (0, .ref (a 0)), (1, .int x1), (2, .int x2), (3, .int x3)]) hx hb dX11_mind_8 hl (by decide) rfl (fun ls hl => ?_)
    refine lv_aloadN hx hb dX11_mind_10 (lv_at hl 0 rfl) ?_
    refine lv_ifnullN (tgt := 23) hx hb dX11_mind_12 (by decide) ?_
    refine lv_iconst (v := (-1)) hx hb dX11_mind_23 (by decide) ?_
    obtain ⟨rfl, rfl⟩ := re_s h
    exact rti_ X I dX11_mind_24
  · have h := on_s h
    refine W.eq (g2 := F0 m 8 ls [.ref (a (34 + j_4))]) rfl ?_
    refine lv_astore (lv' := [(4, .ref (a (34 + j_4))), (0, .ref (a 0)), (1, .int x1), (2, .int x2), (3, .int x3)]) hx hb dX11_mind_8 hl (by decide) rfl (fun ls hl => ?_)
    refine lv_aload hx hb dX11_mind_10 (lv_at hl 0 rfl) ?_
    refine lv_ifnull hx hb dX11_mind_12 ?_
    refine lv_iload_n hx hb dX11_mind_15 rfl (lv_at hl 3 rfl) ?_
    refine lv_iload_n hx hb dX11_mind_16 rfl (lv_at hl 4 rfl) ?_
    obtain ⟨r_6, hc_5, h⟩ := bp_of h
    refine cp_ (rP_ (nn := 2) (As := [.int x2, .int x3]) (rest := []) ⟨hx, hb, hml, hown, hts⟩ (c_C_isKindWithFire hc_5) gX11_mind_X11_isKindWithFire rfl ⟨rfl, rfl⟩ (by decide +kernel) ⟨Nat.le_of_ble_eq_true rfl, Nat.le_of_ble_eq_true rfl⟩ rfl hl.1 rfl (Nat.le_of_ble_eq_true rfl) dX11_mind_17 ⟨Nat.zero_le _, Nat.zero_le _⟩) ?_
    refine lv_if_ne (tgt := 25) hx hb dX11_mind_20 (by decide) (fun c_7 => ?_) (fun c_7 => ?_)
    · have h := if_f h c_7
      refine lv_aload hx hb dX11_mind_25 (lv_at hl 0 rfl) ?_
      obtain ⟨g_8, h⟩ := gd_of h
      refine ig_ (index := 146) X I (fun _ q => List.mem_cons_of_mem _ (List.mem_append_left _ (List.mem_append_right _ q))) (34 + j_4) (lf59 g_8) shC_L rfl 0 (by decide) (by decide +kernel) rfl (v := .int (rd_ σ_2 (34 + j_4) 0)) rfl dX11_mind_27 ?_
      refine lv_topi (fun y_9 e_10 => ?_)
      have h := lt_at h e_10
      refine lv_istore (lv' := [(5, .int y_9), (4, .ref (a (34 + j_4))), (0, .ref (a 0)), (1, .int x1), (2, .int x2), (3, .int x3)]) hx hb dX11_mind_30 hl (by decide) rfl (fun ls hl => ?_)
      refine lv_aload hx hb dX11_mind_32 (lv_at hl 1 rfl) ?_
      refine lv_iload_n hx hb dX11_mind_34 rfl (lv_at hl 4 rfl) ?_
      refine ip_ (index := 146) (ty := .int) X I (fun _ q => List.mem_cons_of_mem _ (List.mem_append_left _ (List.mem_append_right _ q))) tyX6 tyX6_ok nmX6 (34 + j_4) (lf59 g_8) shC_L rfl 0 (by decide) (by decide +kernel) rfl rfl (by decide +kernel) rfl rfl (Nat.le_of_ble_eq_true rfl) shC_pl_0 dX11_mind_35 (fun σ_11 H locs e_12 I => ?_)
      have h := lt_at h e_12
      refine lv_aload hx hb dX11_mind_38 (lv_at hl 1 rfl) ?_
      refine lv_iload_n hx hb dX11_mind_40 rfl (lv_at hl 5 rfl) ?_
      refine ip_ (index := 149) (ty := .int) X I (fun _ q => List.mem_cons_of_mem _ (List.mem_append_left _ (List.mem_append_right _ q))) tyX6 tyX6_ok nmX6 (34 + j_4) (lf59 g_8) shC_L rfl 2 (by decide) (by decide +kernel) rfl rfl (by decide +kernel) rfl rfl (Nat.le_of_ble_eq_true rfl) shC_pl_2 dX11_mind_41 (fun σ_13 H locs e_14 I => ?_)
      have h := lt_at h e_14
      refine lv_iload hx hb dX11_mind_44 (lv_at hl 0 rfl) ?_
      obtain ⟨rfl, rfl⟩ := re_s h
      exact rti_ X I dX11_mind_46
    · have h := if_t h c_7
      refine lv_iconst (v := (-1)) hx hb dX11_mind_23 (by decide) ?_
      obtain ⟨rfl, rfl⟩ := re_s h
      exact rti_ X I dX11_mind_24
theorem c_C_mind {l : Launch} {D : va_G} {cy : Nat → ClassId} {a gs : Nat → Nat} {σ : Sg} {x1 : Int32} {x2 : Int32} {x3 : Int32} {r0 : Int32} {σ' : Sg} (h : C_mind_0 σ x1 x2 x3 = some (r0, σ')) (sz : Nat) : Met l yX11_mind wsX11_mind ({ frames := 2, cells := 0, slots := 0, locals := 42 }) (va_Pc [.ref (a 0), .int x1, .int x2, .int x3] (pr_ 59 a D cy (shC cy a σ) (xfC gs) sz)) (qg_ 59 a D (shC cy a σ') (some (.int r0)) sz) 0 0 (fr_ 59 a sz) := by
  refine ent_ (by decide) rfl (Nat.le_of_ble_eq_true rfl) ?_
  intro p e s m below meth c ls hsz X I hl
  subst hsz
  exact kC_mind_0 X σ x1 x2 x3 s.heap [] ls h I hl

def C6_remark_0  (σ : Sg) (x0 : Nat) (x1 : Int32) (x2 : Int32) : Option (Unit × Sg) :=
  if x1 = 0 then (gd_ (lf_ x0 25) (
  lt_ (wr_ σ (34 + x0) 0 x2) fun σ_3 =>
  some ((), σ_3)))
  else (if x1 = 1 then (gd_ (lf_ x0 25) (
  lt_ (wr_ σ (34 + x0) 1 x2) fun σ_7 =>
  some ((), σ_7)))
  else (if x1 = 2 then (gd_ (lf_ x0 25) (
  lt_ (wr_ σ (34 + x0) 2 x2) fun σ_11 =>
  some ((), σ_11)))
  else (if x1 = 3 then (gd_ (lf_ x0 25) (
  lt_ (wr_ σ (34 + x0) 3 x2) fun σ_15 =>
  some ((), σ_15)))
  else (if x1 = 4 then (gd_ (lf_ x0 25) (
  lt_ (wr_ σ (34 + x0) 4 x2) fun σ_19 =>
  some ((), σ_19)))
  else (gd_ (lf_ x0 25) (
  lt_ (wr_ σ (34 + x0) 5 x2) fun σ_22 =>
  some ((), σ_22)))))))
set_option maxRecDepth 100000 in
theorem kC6_remark_0 {p : Program} {l : Launch} {e : Env} {s : State} {m : MethodId} {args : Array Value} {below : List Frame} {meth : Method} {c : Code} {D : va_G} {cy : Nat → ClassId} {a gs : Nat → Nat} (X : cx_ cX6_remark RX6 wsX6_remark 3 none 59 a D cy (xfC gs) p s m args meth c)   {σ' : Sg}  : ∀ (σ : Sg) (x0 : Nat) (x1 : Int32) (x2 : Int32) (H : Heap) (locs : List Loc) (ls : Array Slot), C6_remark_0 σ x0 x1 x2 = some ((), σ') → iv_ 59 a D (shC cy a σ) s H locs → lv_has ls 3 [(0, .ref (a (34 + x0))), (1, .int x1), (2, .int x2)] → W p l e ({ frames := 0, cells := 0, slots := 0, locals := 0 }) s m args below meth c H locs 0 0 (MQ below (qg_ 59 a D (shC cy a σ') none s.heap.size) args s 0 0 (fr_ 59 a s.heap.size)) (F0 m 0 ls []) := by
  obtain ⟨hx, hb, hr, hml, hown, hts, hlk, hK, hA, hXf⟩ := id X
  intro σ x0 x1 x2 H locs ls h I hl
  unfold C6_remark_0 at h
  refine lv_iload_n hx hb dX6_remark_0 rfl (lv_at hl 1 rfl) ?_
  by_cases c_1 : x1 = 0
  · have h := if_t h c_1
    refine lv_tableIn (tgt := 36) (off := 35) hx hb dX6_remark_1 (by rw [c_1]; decide) (by rw [c_1]; decide) (by rw [c_1]; decide) (by decide) ?_
    refine lv_aload_n hx hb dX6_remark_36 rfl (lv_at hl 0 rfl) ?_
    refine lv_iload_n hx hb dX6_remark_37 rfl (lv_at hl 2 rfl) ?_
    obtain ⟨g_2, h⟩ := gd_of h
    refine ip_ (index := 9) (ty := .int) X I (fun _ q => List.mem_cons_of_mem _ (List.mem_append_right _ q)) tyX6 tyX6_ok nmX6 (34 + x0) (lf59 g_2) shC_L rfl 0 (by decide) (by decide +kernel) rfl rfl (by decide +kernel) rfl rfl (Nat.le_of_ble_eq_true rfl) shC_pl_0 dX6_remark_38 (fun σ_3 H locs e_4 I => ?_)
    have h := lt_at h e_4
    refine lv_goto (tgt := 81) hx hb dX6_remark_41 (by decide) ?_
    obtain rfl := re_v h
    exact rtv_ X I dX6_remark_81
  · have h := if_f h c_1
    by_cases c_5 : x1 = 1
    · have h := if_t h c_5
      refine lv_tableIn (tgt := 44) (off := 43) hx hb dX6_remark_1 (by rw [c_5]; decide) (by rw [c_5]; decide) (by rw [c_5]; decide) (by decide) ?_
      refine lv_aload_n hx hb dX6_remark_44 rfl (lv_at hl 0 rfl) ?_
      refine lv_iload_n hx hb dX6_remark_45 rfl (lv_at hl 2 rfl) ?_
      obtain ⟨g_6, h⟩ := gd_of h
      refine ip_ (index := 15) (ty := .int) X I (fun _ q => List.mem_cons_of_mem _ (List.mem_append_right _ q)) tyX6 tyX6_ok nmX6 (34 + x0) (lf59 g_6) shC_L rfl 1 (by decide) (by decide +kernel) rfl rfl (by decide +kernel) rfl rfl (Nat.le_of_ble_eq_true rfl) shC_pl_1 dX6_remark_46 (fun σ_7 H locs e_8 I => ?_)
      have h := lt_at h e_8
      refine lv_goto (tgt := 81) hx hb dX6_remark_49 (by decide) ?_
      obtain rfl := re_v h
      exact rtv_ X I dX6_remark_81
    · have h := if_f h c_5
      by_cases c_9 : x1 = 2
      · have h := if_t h c_9
        refine lv_tableIn (tgt := 52) (off := 51) hx hb dX6_remark_1 (by rw [c_9]; decide) (by rw [c_9]; decide) (by rw [c_9]; decide) (by decide) ?_
        refine lv_aload_n hx hb dX6_remark_52 rfl (lv_at hl 0 rfl) ?_
        refine lv_iload_n hx hb dX6_remark_53 rfl (lv_at hl 2 rfl) ?_
        obtain ⟨g_10, h⟩ := gd_of h
        refine ip_ (index := 18) (ty := .int) X I (fun _ q => List.mem_cons_of_mem _ (List.mem_append_right _ q)) tyX6 tyX6_ok nmX6 (34 + x0) (lf59 g_10) shC_L rfl 2 (by decide) (by decide +kernel) rfl rfl (by decide +kernel) rfl rfl (Nat.le_of_ble_eq_true rfl) shC_pl_2 dX6_remark_54 (fun σ_11 H locs e_12 I => ?_)
        have h := lt_at h e_12
        refine lv_goto (tgt := 81) hx hb dX6_remark_57 (by decide) ?_
        obtain rfl := re_v h
        exact rtv_ X I dX6_remark_81
      · have h := if_f h c_9
        by_cases c_13 : x1 = 3
        · have h := if_t h c_13
          refine lv_tableIn (tgt := 60) (off := 59) hx hb dX6_remark_1 (by rw [c_13]; decide) (by rw [c_13]; decide) (by rw [c_13]; decide) (by decide) ?_
          refine lv_aload_n hx hb dX6_remark_60 rfl (lv_at hl 0 rfl) ?_
          refine lv_iload_n hx hb dX6_remark_61 rfl (lv_at hl 2 rfl) ?_
          obtain ⟨g_14, h⟩ := gd_of h
          refine ip_ (index := 21) (ty := .int) X I (fun _ q => List.mem_cons_of_mem _ (List.mem_append_right _ q)) tyX6 tyX6_ok nmX6 (34 + x0) (lf59 g_14) shC_L rfl 3 (by decide) (by decide +kernel) rfl rfl (by decide +kernel) rfl rfl (Nat.le_of_ble_eq_true rfl) shC_pl_3 dX6_remark_62 (fun σ_15 H locs e_16 I => ?_)
          have h := lt_at h e_16
          refine lv_goto (tgt := 81) hx hb dX6_remark_65 (by decide) ?_
          obtain rfl := re_v h
          exact rtv_ X I dX6_remark_81
        · have h := if_f h c_13
          by_cases c_17 : x1 = 4
          · have h := if_t h c_17
            refine lv_tableIn (tgt := 68) (off := 67) hx hb dX6_remark_1 (by rw [c_17]; decide) (by rw [c_17]; decide) (by rw [c_17]; decide) (by decide) ?_
            refine lv_aload_n hx hb dX6_remark_68 rfl (lv_at hl 0 rfl) ?_
            refine lv_iload_n hx hb dX6_remark_69 rfl (lv_at hl 2 rfl) ?_
            obtain ⟨g_18, h⟩ := gd_of h
            refine ip_ (index := 24) (ty := .int) X I (fun _ q => List.mem_cons_of_mem _ (List.mem_append_right _ q)) tyX6 tyX6_ok nmX6 (34 + x0) (lf59 g_18) shC_L rfl 4 (by decide) (by decide +kernel) rfl rfl (by decide +kernel) rfl rfl (Nat.le_of_ble_eq_true rfl) shC_pl_4 dX6_remark_70 (fun σ_19 H locs e_20 I => ?_)
            have h := lt_at h e_20
            refine lv_goto (tgt := 81) hx hb dX6_remark_73 (by decide) ?_
            obtain rfl := re_v h
            exact rtv_ X I dX6_remark_81
          · have h := if_f h c_17
            refine lv_tableOut (tgt := 76) hx hb dX6_remark_1 (by have q0 := lv_neT (a := 0) c_1 rfl; have q1 := lv_neT (a := 1) c_5 rfl; have q2 := lv_neT (a := 2) c_9 rfl; have q3 := lv_neT (a := 3) c_13 rfl; have q4 := lv_neT (a := 4) c_17 rfl; omega) (by decide) ?_
            refine lv_aload_n hx hb dX6_remark_76 rfl (lv_at hl 0 rfl) ?_
            refine lv_iload_n hx hb dX6_remark_77 rfl (lv_at hl 2 rfl) ?_
            obtain ⟨g_21, h⟩ := gd_of h
            refine ip_ (index := 27) (ty := .int) X I (fun _ q => List.mem_cons_of_mem _ (List.mem_append_right _ q)) tyX6 tyX6_ok nmX6 (34 + x0) (lf59 g_21) shC_L rfl 5 (by decide) (by decide +kernel) rfl rfl (by decide +kernel) rfl rfl (Nat.le_of_ble_eq_true rfl) shC_pl_5 dX6_remark_78 (fun σ_22 H locs e_23 I => ?_)
            have h := lt_at h e_23
            obtain rfl := re_v h
            exact rtv_ X I dX6_remark_81
theorem c_C6_remark {l : Launch} {D : va_G} {cy : Nat → ClassId} {a gs : Nat → Nat} {σ : Sg} {x0 : Nat} {x1 : Int32} {x2 : Int32}  {σ' : Sg} (h : C6_remark_0 σ x0 x1 x2 = some ((), σ')) (sz : Nat) : Met l yX6_remark wsX6_remark ({ frames := 0, cells := 0, slots := 0, locals := 0 }) (va_Pc [.ref (a (34 + x0)), .int x1, .int x2] (pr_ 59 a D cy (shC cy a σ) (xfC gs) sz)) (qg_ 59 a D (shC cy a σ') none sz) 0 0 (fr_ 59 a sz) := by
  refine ent_ (by decide) rfl (Nat.le_of_ble_eq_true rfl) ?_
  intro p e s m below meth c ls hsz X I hl
  subst hsz
  exact kC6_remark_0 X σ x0 x1 x2 s.heap [] ls h I hl

def C_change_30  (σ : Sg) (x2 : Int32) (x3 : Int32) (x4 : Option Nat) (t0 : Int32) : Option (Int32 × Sg) :=
  on_ x4 (some ((-1 : Int32), σ)) fun j_1 =>
  if t0 = 0 then (some ((-1 : Int32), σ))
  else (bp_ (C_within_0 x3 (99 : Int32)) fun r_4 =>
  if r_4 = 0 then (some ((-1 : Int32), σ))
  else (gd_ (lf_ j_1 25) (
  bi_ (C6_mark_0 σ j_1 x2) fun r_9 σ_7 =>
  bi_ (C6_remark_0 σ_7 j_1 x2 x3) fun _ σ_11 =>
  some (r_9, σ_11))))
set_option maxRecDepth 100000 in
theorem kC_change_30 {p : Program} {l : Launch} {e : Env} {s : State} {m : MethodId} {args : Array Value} {below : List Frame} {meth : Method} {c : Code} {D : va_G} {cy : Nat → ClassId} {a gs : Nat → Nat} (X : cx_ cX11_change RX11 wsX11_change 7 (some .int) 59 a D cy (xfC gs) p s m args meth c)  {r0 : Int32} {σ' : Sg}  : ∀ (σ : Sg) (x2 : Int32) (x3 : Int32) (x4 : Option Nat) (t0 : Int32) (H : Heap) (locs : List Loc) (ls : Array Slot), C_change_30 σ x2 x3 x4 t0 = some (r0, σ') → iv_ 59 a D (shC cy a σ) s H locs → lv_has ls 7 [(2, .int x2), (3, .int x3), (4, va_re (fun j => a (34 + j)) x4)] → W p l e ({ frames := 2, cells := 0, slots := 0, locals := 42 }) s m args below meth c H locs 0 0 (MQ below (qg_ 59 a D (shC cy a σ') (some (.int r0)) s.heap.size) args s 0 0 (fr_ 59 a s.heap.size)) (F0 m 30 ls [.int t0]) := by
  obtain ⟨hx, hb, hr, hml, hown, hts, hlk, hK, hA, hXf⟩ := id X
  intro σ x2 x3 x4 t0 H locs ls h I hl
  unfold C_change_30 at h
  rcases x4 with _ | j_1
  · have h := on_n h
    have hl : lv_has ls 7 [(2, .int x2), (3, .int x3), (4, .null)] := hl
    refine lv_istore (lv' := [(5, .int t0), (2, .int x2), (3, .int x3), (4, .null)]) hx hb dX11_change_30 hl (by decide) rfl (fun ls hl => ?_)
    refine lv_aloadN hx hb dX11_change_32 (lv_at hl 3 rfl) ?_
    refine lv_ifnullN (tgt := 51) hx hb dX11_change_34 (by decide) ?_
    refine lv_iconst (v := (-1)) hx hb dX11_change_51 (by decide) ?_
    obtain ⟨rfl, rfl⟩ := re_s h
    exact rti_ X I dX11_change_52
  · have h := on_s h
    have hl : lv_has ls 7 [(2, .int x2), (3, .int x3), (4, .ref (a (34 + j_1)))] := hl
    refine lv_istore (lv' := [(5, .int t0), (2, .int x2), (3, .int x3), (4, .ref (a (34 + j_1)))]) hx hb dX11_change_30 hl (by decide) rfl (fun ls hl => ?_)
    refine lv_aload hx hb dX11_change_32 (lv_at hl 3 rfl) ?_
    refine lv_ifnull hx hb dX11_change_34 ?_
    refine lv_iload hx hb dX11_change_37 (lv_at hl 0 rfl) ?_
    refine lv_if_eq (tgt := 51) hx hb dX11_change_39 (by decide) (fun c_2 => ?_) (fun c_2 => ?_)
    · have h := if_t h c_2
      refine lv_iconst (v := (-1)) hx hb dX11_change_51 (by decide) ?_
      obtain ⟨rfl, rfl⟩ := re_s h
      exact rti_ X I dX11_change_52
    · have h := if_f h c_2
      refine lv_iload_n hx hb dX11_change_42 rfl (lv_at hl 2 rfl) ?_
      refine lv_bipush (v := 99) hx hb dX11_change_43 (by decide) ?_
      obtain ⟨r_4, hc_3, h⟩ := bp_of h
      refine cp_ (rP_ (nn := 2) (As := [.int x3, .int (99 : Int32)]) (rest := []) ⟨hx, hb, hml, hown, hts⟩ (c_C_within hc_3) gX11_change_X11_within rfl ⟨rfl, rfl⟩ (by decide +kernel) ⟨Nat.le_of_ble_eq_true rfl, Nat.le_of_ble_eq_true rfl⟩ rfl hl.1 rfl (Nat.le_of_ble_eq_true rfl) dX11_change_45 ⟨Nat.zero_le _, Nat.zero_le _⟩) ?_
      refine lv_if_ne (tgt := 53) hx hb dX11_change_48 (by decide) (fun c_5 => ?_) (fun c_5 => ?_)
      · have h := if_f h c_5
        refine lv_aload hx hb dX11_change_53 (lv_at hl 3 rfl) ?_
        refine lv_iload_n hx hb dX11_change_55 rfl (lv_at hl 1 rfl) ?_
        obtain ⟨g_8, h⟩ := gd_of h
        obtain ⟨r_9, σ_7, hc_6, h⟩ := bi_of h
        refine cg_ (v := .int r_9) (rV_ (nn := 1) (As := [.int x2]) (rest := []) X xkC I (c_C6_mark hc_6 H.size) gX11_change_X6_mark rfl ⟨rfl, rfl⟩ (by decide +kernel) ⟨Nat.le_of_ble_eq_true rfl, Nat.le_of_ble_eq_true rfl⟩ (lf59 g_8) shC_L rfl rfl hl.1 rfl (Nat.le_of_ble_eq_true rfl) dX11_change_56) I (fun H locs I => ?_)
        refine lv_istore (lv' := [(6, .int r_9), (5, .int t0), (2, .int x2), (3, .int x3), (4, .ref (a (34 + j_1)))]) hx hb dX11_change_59 hl (by decide) rfl (fun ls hl => ?_)
        refine lv_aload hx hb dX11_change_61 (lv_at hl 4 rfl) ?_
        refine lv_iload_n hx hb dX11_change_63 rfl (lv_at hl 2 rfl) ?_
        refine lv_iload_n hx hb dX11_change_64 rfl (lv_at hl 3 rfl) ?_
        obtain ⟨_, σ_11, hc_10, h⟩ := bi_of h
        refine cv_ (rV_ (nn := 2) (As := [.int x2, .int x3]) (rest := []) X xkC I (c_C6_remark hc_10 H.size) gX11_change_X6_remark rfl ⟨rfl, rfl⟩ (by decide +kernel) ⟨Nat.le_of_ble_eq_true rfl, Nat.le_of_ble_eq_true rfl⟩ (lf59 g_8) shC_L rfl rfl hl.1 rfl (Nat.le_of_ble_eq_true rfl) dX11_change_65) I (fun H locs I => ?_)
        refine lv_iload hx hb dX11_change_68 (lv_at hl 0 rfl) ?_
        obtain ⟨rfl, rfl⟩ := re_s h
        exact rti_ X I dX11_change_70
      · have h := if_t h c_5
        refine lv_iconst (v := (-1)) hx hb dX11_change_51 (by decide) ?_
        obtain ⟨rfl, rfl⟩ := re_s h
        exact rti_ X I dX11_change_52
def C_change_25  (σ : Sg) (x2 : Int32) (x3 : Int32) (x4 : Option Nat) : Option (Int32 × Sg) :=
  on_ x4 (C_change_30 σ x2 x3 none (1 : Int32)) fun j_1 =>
  C_change_30 σ x2 x3 (some j_1) (1 : Int32)
set_option maxRecDepth 100000 in
theorem kC_change_25 {p : Program} {l : Launch} {e : Env} {s : State} {m : MethodId} {args : Array Value} {below : List Frame} {meth : Method} {c : Code} {D : va_G} {cy : Nat → ClassId} {a gs : Nat → Nat} (X : cx_ cX11_change RX11 wsX11_change 7 (some .int) 59 a D cy (xfC gs) p s m args meth c)  {r0 : Int32} {σ' : Sg}  : ∀ (σ : Sg) (x2 : Int32) (x3 : Int32) (x4 : Option Nat) (H : Heap) (locs : List Loc) (ls : Array Slot), C_change_25 σ x2 x3 x4 = some (r0, σ') → iv_ 59 a D (shC cy a σ) s H locs → lv_has ls 7 [(2, .int x2), (3, .int x3), (4, va_re (fun j => a (34 + j)) x4)] → W p l e ({ frames := 2, cells := 0, slots := 0, locals := 42 }) s m args below meth c H locs 0 0 (MQ below (qg_ 59 a D (shC cy a σ') (some (.int r0)) s.heap.size) args s 0 0 (fr_ 59 a s.heap.size)) (F0 m 25 ls []) := by
  obtain ⟨hx, hb, hr, hml, hown, hts, hlk, hK, hA, hXf⟩ := id X
  intro σ x2 x3 x4 H locs ls h I hl
  unfold C_change_25 at h
  rcases x4 with _ | j_1
  · have h := on_n h
    have hl : lv_has ls 7 [(2, .int x2), (3, .int x3), (4, .null)] := hl
    refine lv_iconst (v := 1) hx hb dX11_change_25 (by decide) ?_
    refine lv_goto (tgt := 30) hx hb dX11_change_26 (by decide) ?_
    exact kC_change_30 X  σ x2 x3 none (1 : Int32) H locs ls h I (lv_sub hl [0, 1, 2] rfl)
  · have h := on_s h
    have hl : lv_has ls 7 [(2, .int x2), (3, .int x3), (4, .ref (a (34 + j_1)))] := hl
    refine lv_iconst (v := 1) hx hb dX11_change_25 (by decide) ?_
    refine lv_goto (tgt := 30) hx hb dX11_change_26 (by decide) ?_
    exact kC_change_30 X  σ x2 x3 (some j_1) (1 : Int32) H locs ls h I (lv_sub hl [0, 1, 2] rfl)
def C_change_0  (σ : Sg) (x1 : Int32) (x2 : Int32) (x3 : Int32) : Option (Int32 × Sg) :=
  bi_ (C1_life_0 σ x1) fun r_3 σ_2 =>
  on_ r_3 (if x2 = (1 : Int32) then (C_change_25 σ_2 x2 x3 none)
  else (if x2 = (3 : Int32) then (C_change_25 σ_2 x2 x3 none)
  else (if x2 = (4 : Int32) then (C_change_25 σ_2 x2 x3 none)
  else (C_change_30 σ_2 x2 x3 none (0 : Int32))))) fun j_4 =>
  if x2 = (1 : Int32) then (C_change_25 σ_2 x2 x3 (some j_4))
  else (if x2 = (3 : Int32) then (C_change_25 σ_2 x2 x3 (some j_4))
  else (if x2 = (4 : Int32) then (C_change_25 σ_2 x2 x3 (some j_4))
  else (C_change_30 σ_2 x2 x3 (some j_4) (0 : Int32))))
set_option maxRecDepth 100000 in
theorem kC_change_0 {p : Program} {l : Launch} {e : Env} {s : State} {m : MethodId} {args : Array Value} {below : List Frame} {meth : Method} {c : Code} {D : va_G} {cy : Nat → ClassId} {a gs : Nat → Nat} (X : cx_ cX11_change RX11 wsX11_change 7 (some .int) 59 a D cy (xfC gs) p s m args meth c)  {r0 : Int32} {σ' : Sg}  : ∀ (σ : Sg) (x1 : Int32) (x2 : Int32) (x3 : Int32) (H : Heap) (locs : List Loc) (ls : Array Slot), C_change_0 σ x1 x2 x3 = some (r0, σ') → iv_ 59 a D (shC cy a σ) s H locs → lv_has ls 7 [(0, .ref (a 0)), (1, .int x1), (2, .int x2), (3, .int x3)] → W p l e ({ frames := 2, cells := 0, slots := 0, locals := 42 }) s m args below meth c H locs 0 0 (MQ below (qg_ 59 a D (shC cy a σ') (some (.int r0)) s.heap.size) args s 0 0 (fr_ 59 a s.heap.size)) (F0 m 0 ls []) := by
  obtain ⟨hx, hb, hr, hml, hown, hts, hlk, hK, hA, hXf⟩ := id X
  intro σ x1 x2 x3 H locs ls h I hl
  unfold C_change_0 at h
  refine lv_aload_n hx hb dX11_change_0 rfl (lv_at hl 0 rfl) ?_
  refine ig_ (index := 30) X I (fun _ q => List.mem_cons_of_mem _ (List.mem_append_left _ (List.mem_append_left _ (List.mem_append_right _ q)))) 0 (by decide) shC_0 rfl 0 (by decide) (by decide +kernel) rfl (v := .ref (a 1)) rfl dX11_change_1 ?_
  refine lv_iload_n hx hb dX11_change_4 rfl (lv_at hl 1 rfl) ?_
  obtain ⟨r_3, σ_2, hc_1, h⟩ := bi_of h
  refine cg_ (v := va_re (fun j => a (34 + j)) r_3) (rV_ (nn := 1) (As := [.int x1]) (rest := []) X xkC I (c_C1_life hc_1 H.size) gX11_change_X1_life rfl ⟨rfl, rfl⟩ (by decide +kernel) ⟨Nat.le_of_ble_eq_true rfl, Nat.le_of_ble_eq_true rfl⟩ (by decide) shC_1 rfl rfl hl.1 rfl (Nat.le_of_ble_eq_true rfl) dX11_change_5) I (fun H locs I => ?_)
  rcases r_3 with _ | j_4
  · have h := on_n h
    refine W.eq (g2 := F0 m 8 ls [.null]) rfl ?_
    refine lv_astoreN (lv' := [(4, .null), (0, .ref (a 0)), (1, .int x1), (2, .int x2), (3, .int x3)]) hx hb dX11_change_8 hl (by decide) rfl (fun ls hl => ?_)
    refine lv_iload_n hx hb dX11_change_10 rfl (lv_at hl 3 rfl) ?_
    refine lv_iconst (v := 1) hx hb dX11_change_11 (by decide) ?_
    refine lv_icmp_eq (tgt := 25) hx hb dX11_change_12 (by decide) (fun c_5 => ?_) (fun c_5 => ?_)
    · have h := if_t h c_5
      exact kC_change_25 X  σ_2 x2 x3 none H locs ls h I (lv_sub hl [3, 4, 0] rfl)
    · have h := if_f h c_5
      refine lv_iload_n hx hb dX11_change_15 rfl (lv_at hl 3 rfl) ?_
      refine lv_iconst (v := 3) hx hb dX11_change_16 (by decide) ?_
      refine lv_icmp_eq (tgt := 25) hx hb dX11_change_17 (by decide) (fun c_6 => ?_) (fun c_6 => ?_)
      · have h := if_t h c_6
        exact kC_change_25 X  σ_2 x2 x3 none H locs ls h I (lv_sub hl [3, 4, 0] rfl)
      · have h := if_f h c_6
        refine lv_iload_n hx hb dX11_change_20 rfl (lv_at hl 3 rfl) ?_
        refine lv_iconst (v := 4) hx hb dX11_change_21 (by decide) ?_
        refine lv_icmp_ne (tgt := 29) hx hb dX11_change_22 (by decide) (fun c_7 => ?_) (fun c_7 => ?_)
        · have h := if_f h c_7
          refine lv_iconst (v := 0) hx hb dX11_change_29 (by decide) ?_
          exact kC_change_30 X  σ_2 x2 x3 none (0 : Int32) H locs ls h I (lv_sub hl [3, 4, 0] rfl)
        · have h := if_t h c_7
          exact kC_change_25 X  σ_2 x2 x3 none H locs ls h I (lv_sub hl [3, 4, 0] rfl)
  · have h := on_s h
    refine W.eq (g2 := F0 m 8 ls [.ref (a (34 + j_4))]) rfl ?_
    refine lv_astore (lv' := [(4, .ref (a (34 + j_4))), (0, .ref (a 0)), (1, .int x1), (2, .int x2), (3, .int x3)]) hx hb dX11_change_8 hl (by decide) rfl (fun ls hl => ?_)
    refine lv_iload_n hx hb dX11_change_10 rfl (lv_at hl 3 rfl) ?_
    refine lv_iconst (v := 1) hx hb dX11_change_11 (by decide) ?_
    refine lv_icmp_eq (tgt := 25) hx hb dX11_change_12 (by decide) (fun c_8 => ?_) (fun c_8 => ?_)
    · have h := if_t h c_8
      exact kC_change_25 X  σ_2 x2 x3 (some j_4) H locs ls h I (lv_sub hl [3, 4, 0] rfl)
    · have h := if_f h c_8
      refine lv_iload_n hx hb dX11_change_15 rfl (lv_at hl 3 rfl) ?_
      refine lv_iconst (v := 3) hx hb dX11_change_16 (by decide) ?_
      refine lv_icmp_eq (tgt := 25) hx hb dX11_change_17 (by decide) (fun c_9 => ?_) (fun c_9 => ?_)
      · have h := if_t h c_9
        exact kC_change_25 X  σ_2 x2 x3 (some j_4) H locs ls h I (lv_sub hl [3, 4, 0] rfl)
      · have h := if_f h c_9
        refine lv_iload_n hx hb dX11_change_20 rfl (lv_at hl 3 rfl) ?_
        refine lv_iconst (v := 4) hx hb dX11_change_21 (by decide) ?_
        refine lv_icmp_ne (tgt := 29) hx hb dX11_change_22 (by decide) (fun c_10 => ?_) (fun c_10 => ?_)
        · have h := if_f h c_10
          refine lv_iconst (v := 0) hx hb dX11_change_29 (by decide) ?_
          exact kC_change_30 X  σ_2 x2 x3 (some j_4) (0 : Int32) H locs ls h I (lv_sub hl [3, 4, 0] rfl)
        · have h := if_t h c_10
          exact kC_change_25 X  σ_2 x2 x3 (some j_4) H locs ls h I (lv_sub hl [3, 4, 0] rfl)
theorem c_C_change {l : Launch} {D : va_G} {cy : Nat → ClassId} {a gs : Nat → Nat} {σ : Sg} {x1 : Int32} {x2 : Int32} {x3 : Int32} {r0 : Int32} {σ' : Sg} (h : C_change_0 σ x1 x2 x3 = some (r0, σ')) (sz : Nat) : Met l yX11_change wsX11_change ({ frames := 2, cells := 0, slots := 0, locals := 42 }) (va_Pc [.ref (a 0), .int x1, .int x2, .int x3] (pr_ 59 a D cy (shC cy a σ) (xfC gs) sz)) (qg_ 59 a D (shC cy a σ') (some (.int r0)) sz) 0 0 (fr_ 59 a sz) := by
  refine ent_ (by decide) rfl (Nat.le_of_ble_eq_true rfl) ?_
  intro p e s m below meth c ls hsz X I hl
  subst hsz
  exact kC_change_0 X σ x1 x2 x3 s.heap [] ls h I hl

def C_swear_0  (σ : Sg) (x1 : Int32) (x2 : Int32) : Option (Int32 × Sg) :=
  bi_ (C1_life_0 σ x1) fun r_3 σ_2 =>
  on_ r_3 (some ((-1 : Int32), σ_2)) fun j_4 =>
  bp_ (C_isGodmother_0 x2) fun r_6 =>
  if r_6 = 0 then (some ((-1 : Int32), σ_2))
  else (gd_ (lf_ j_4 25) (
  lt_ ((rd_ σ_2 (34 + j_4) 5)) fun y_9 =>
  lt_ (wr_ σ_2 (34 + j_4) 5 x2) fun σ_11 =>
  some (y_9, σ_11)))
set_option maxRecDepth 100000 in
theorem kC_swear_0 {p : Program} {l : Launch} {e : Env} {s : State} {m : MethodId} {args : Array Value} {below : List Frame} {meth : Method} {c : Code} {D : va_G} {cy : Nat → ClassId} {a gs : Nat → Nat} (X : cx_ cX11_swear RX11 wsX11_swear 5 (some .int) 59 a D cy (xfC gs) p s m args meth c)  {r0 : Int32} {σ' : Sg}  : ∀ (σ : Sg) (x1 : Int32) (x2 : Int32) (H : Heap) (locs : List Loc) (ls : Array Slot), C_swear_0 σ x1 x2 = some (r0, σ') → iv_ 59 a D (shC cy a σ) s H locs → lv_has ls 5 [(0, .ref (a 0)), (1, .int x1), (2, .int x2)] → W p l e ({ frames := 2, cells := 0, slots := 0, locals := 42 }) s m args below meth c H locs 0 0 (MQ below (qg_ 59 a D (shC cy a σ') (some (.int r0)) s.heap.size) args s 0 0 (fr_ 59 a s.heap.size)) (F0 m 0 ls []) := by
  obtain ⟨hx, hb, hr, hml, hown, hts, hlk, hK, hA, hXf⟩ := id X
  intro σ x1 x2 H locs ls h I hl
  unfold C_swear_0 at h
  refine lv_aload_n hx hb dX11_swear_0 rfl (lv_at hl 0 rfl) ?_
  refine ig_ (index := 30) X I (fun _ q => List.mem_cons_of_mem _ (List.mem_append_left _ (List.mem_append_left _ (List.mem_append_right _ q)))) 0 (by decide) shC_0 rfl 0 (by decide) (by decide +kernel) rfl (v := .ref (a 1)) rfl dX11_swear_1 ?_
  refine lv_iload_n hx hb dX11_swear_4 rfl (lv_at hl 1 rfl) ?_
  obtain ⟨r_3, σ_2, hc_1, h⟩ := bi_of h
  refine cg_ (v := va_re (fun j => a (34 + j)) r_3) (rV_ (nn := 1) (As := [.int x1]) (rest := []) X xkC I (c_C1_life hc_1 H.size) gX11_swear_X1_life rfl ⟨rfl, rfl⟩ (by decide +kernel) ⟨Nat.le_of_ble_eq_true rfl, Nat.le_of_ble_eq_true rfl⟩ (by decide) shC_1 rfl rfl hl.1 rfl (Nat.le_of_ble_eq_true rfl) dX11_swear_5) I (fun H locs I => ?_)
  rcases r_3 with _ | j_4
  · have h := on_n h
    refine W.eq (g2 := F0 m 8 ls [.null]) rfl ?_
    refine lv_astore_nN (lv' := [(3, .null), (0, .ref (a 0)), (1, .int x1), (2, .int x2)]) hx hb dX11_swear_8 rfl hl (by decide) rfl (fun ls hl => ?_)
    refine lv_aload_nN hx hb dX11_swear_9 rfl (lv_at hl 0 rfl) ?_
    refine lv_ifnullN (tgt := 20) hx hb dX11_swear_10 (by decide) ?_
    refine lv_iconst (v := (-1)) hx hb dX11_swear_20 (by decide) ?_
    obtain ⟨rfl, rfl⟩ := re_s h
    exact rti_ X I dX11_swear_21
  · have h := on_s h
    refine W.eq (g2 := F0 m 8 ls [.ref (a (34 + j_4))]) rfl ?_
    refine lv_astore_n (lv' := [(3, .ref (a (34 + j_4))), (0, .ref (a 0)), (1, .int x1), (2, .int x2)]) hx hb dX11_swear_8 rfl hl (by decide) rfl (fun ls hl => ?_)
    refine lv_aload_n hx hb dX11_swear_9 rfl (lv_at hl 0 rfl) ?_
    refine lv_ifnull hx hb dX11_swear_10 ?_
    refine lv_iload_n hx hb dX11_swear_13 rfl (lv_at hl 3 rfl) ?_
    obtain ⟨r_6, hc_5, h⟩ := bp_of h
    refine cp_ (rP_ (nn := 1) (As := [.int x2]) (rest := []) ⟨hx, hb, hml, hown, hts⟩ (c_C_isGodmother hc_5) gX11_swear_X11_isGodmother rfl ⟨rfl, rfl⟩ (by decide +kernel) ⟨Nat.le_of_ble_eq_true rfl, Nat.le_of_ble_eq_true rfl⟩ rfl hl.1 rfl (Nat.le_of_ble_eq_true rfl) dX11_swear_14 ⟨Nat.zero_le _, Nat.zero_le _⟩) ?_
    refine lv_if_ne (tgt := 22) hx hb dX11_swear_17 (by decide) (fun c_7 => ?_) (fun c_7 => ?_)
    · have h := if_f h c_7
      refine lv_aload_n hx hb dX11_swear_22 rfl (lv_at hl 0 rfl) ?_
      obtain ⟨g_8, h⟩ := gd_of h
      refine ig_ (index := 156) X I (fun _ q => List.mem_cons_of_mem _ (List.mem_append_left _ (List.mem_append_right _ q))) (34 + j_4) (lf59 g_8) shC_L rfl 5 (by decide) (by decide +kernel) rfl (v := .int (rd_ σ_2 (34 + j_4) 5)) rfl dX11_swear_23 ?_
      refine lv_topi (fun y_9 e_10 => ?_)
      have h := lt_at h e_10
      refine lv_istore (lv' := [(4, .int y_9), (3, .ref (a (34 + j_4))), (0, .ref (a 0)), (1, .int x1), (2, .int x2)]) hx hb dX11_swear_26 hl (by decide) rfl (fun ls hl => ?_)
      refine lv_aload_n hx hb dX11_swear_28 rfl (lv_at hl 1 rfl) ?_
      refine lv_iload_n hx hb dX11_swear_29 rfl (lv_at hl 4 rfl) ?_
      refine ip_ (index := 156) (ty := .int) X I (fun _ q => List.mem_cons_of_mem _ (List.mem_append_left _ (List.mem_append_right _ q))) tyX6 tyX6_ok nmX6 (34 + j_4) (lf59 g_8) shC_L rfl 5 (by decide) (by decide +kernel) rfl rfl (by decide +kernel) rfl rfl (Nat.le_of_ble_eq_true rfl) shC_pl_5 dX11_swear_30 (fun σ_11 H locs e_12 I => ?_)
      have h := lt_at h e_12
      refine lv_iload hx hb dX11_swear_33 (lv_at hl 0 rfl) ?_
      obtain ⟨rfl, rfl⟩ := re_s h
      exact rti_ X I dX11_swear_35
    · have h := if_t h c_7
      refine lv_iconst (v := (-1)) hx hb dX11_swear_20 (by decide) ?_
      obtain ⟨rfl, rfl⟩ := re_s h
      exact rti_ X I dX11_swear_21
theorem c_C_swear {l : Launch} {D : va_G} {cy : Nat → ClassId} {a gs : Nat → Nat} {σ : Sg} {x1 : Int32} {x2 : Int32} {r0 : Int32} {σ' : Sg} (h : C_swear_0 σ x1 x2 = some (r0, σ')) (sz : Nat) : Met l yX11_swear wsX11_swear ({ frames := 2, cells := 0, slots := 0, locals := 42 }) (va_Pc [.ref (a 0), .int x1, .int x2] (pr_ 59 a D cy (shC cy a σ) (xfC gs) sz)) (qg_ 59 a D (shC cy a σ') (some (.int r0)) sz) 0 0 (fr_ 59 a sz) := by
  refine ent_ (by decide) rfl (Nat.le_of_ble_eq_true rfl) ?_
  intro p e s m below meth c ls hsz X I hl
  subst hsz
  exact kC_swear_0 X σ x1 x2 s.heap [] ls h I hl

def C_vice_0  (σ : Sg) (x1 : Int32) (x2 : Int32) : Option (Int32 × Sg) :=
  bp_ (C_isGodmother_0 x1) fun r_2 =>
  if r_2 = 0 then (some ((-1 : Int32), σ))
  else (bp_ (C_within_0 x2 (99 : Int32)) fun r_5 =>
  if r_5 = 0 then (some ((-1 : Int32), σ))
  else (gd_ (in_ x1 8) (
  lt_ ((rd_ σ 7 x1.toNatClampNeg)) fun y_8 =>
  gd_ (in_ x1 8) (
  lt_ (wr_ σ 7 x1.toNatClampNeg x2) fun σ_10 =>
  some (y_8, σ_10)))))
set_option maxRecDepth 100000 in
theorem kC_vice_0 {p : Program} {l : Launch} {e : Env} {s : State} {m : MethodId} {args : Array Value} {below : List Frame} {meth : Method} {c : Code} {D : va_G} {cy : Nat → ClassId} {a gs : Nat → Nat} (X : cx_ cX11_vice RX11 wsX11_vice 4 (some .int) 59 a D cy (xfC gs) p s m args meth c)  {r0 : Int32} {σ' : Sg}  : ∀ (σ : Sg) (x1 : Int32) (x2 : Int32) (H : Heap) (locs : List Loc) (ls : Array Slot), C_vice_0 σ x1 x2 = some (r0, σ') → iv_ 59 a D (shC cy a σ) s H locs → lv_has ls 4 [(0, .ref (a 0)), (1, .int x1), (2, .int x2)] → W p l e ({ frames := 2, cells := 0, slots := 0, locals := 41 }) s m args below meth c H locs 0 0 (MQ below (qg_ 59 a D (shC cy a σ') (some (.int r0)) s.heap.size) args s 0 0 (fr_ 59 a s.heap.size)) (F0 m 0 ls []) := by
  obtain ⟨hx, hb, hr, hml, hown, hts, hlk, hK, hA, hXf⟩ := id X
  intro σ x1 x2 H locs ls h I hl
  unfold C_vice_0 at h
  refine lv_iload_n hx hb dX11_vice_0 rfl (lv_at hl 1 rfl) ?_
  obtain ⟨r_2, hc_1, h⟩ := bp_of h
  refine cp_ (rP_ (nn := 1) (As := [.int x1]) (rest := []) ⟨hx, hb, hml, hown, hts⟩ (c_C_isGodmother hc_1) gX11_vice_X11_isGodmother rfl ⟨rfl, rfl⟩ (by decide +kernel) ⟨Nat.le_of_ble_eq_true rfl, Nat.le_of_ble_eq_true rfl⟩ rfl hl.1 rfl (Nat.le_of_ble_eq_true rfl) dX11_vice_1 ⟨Nat.zero_le _, Nat.zero_le _⟩) ?_
  refine lv_if_eq (tgt := 16) hx hb dX11_vice_4 (by decide) (fun c_3 => ?_) (fun c_3 => ?_)
  · have h := if_t h c_3
    refine lv_iconst (v := (-1)) hx hb dX11_vice_16 (by decide) ?_
    obtain ⟨rfl, rfl⟩ := re_s h
    exact rti_ X I dX11_vice_17
  · have h := if_f h c_3
    refine lv_iload_n hx hb dX11_vice_7 rfl (lv_at hl 2 rfl) ?_
    refine lv_bipush (v := 99) hx hb dX11_vice_8 (by decide) ?_
    obtain ⟨r_5, hc_4, h⟩ := bp_of h
    refine cp_ (rP_ (nn := 2) (As := [.int x2, .int (99 : Int32)]) (rest := []) ⟨hx, hb, hml, hown, hts⟩ (c_C_within hc_4) gX11_vice_X11_within rfl ⟨rfl, rfl⟩ (by decide +kernel) ⟨Nat.le_of_ble_eq_true rfl, Nat.le_of_ble_eq_true rfl⟩ rfl hl.1 rfl (Nat.le_of_ble_eq_true rfl) dX11_vice_10 ⟨Nat.zero_le _, Nat.zero_le _⟩) ?_
    refine lv_if_ne (tgt := 18) hx hb dX11_vice_13 (by decide) (fun c_6 => ?_) (fun c_6 => ?_)
    · have h := if_f h c_6
      refine lv_aload_n hx hb dX11_vice_18 rfl (lv_at hl 0 rfl) ?_
      refine ig_ (index := 30) X I (fun _ q => List.mem_cons_of_mem _ (List.mem_append_left _ (List.mem_append_right _ q))) 0 (by decide) shC_0 rfl 0 (by decide) (by decide +kernel) rfl (v := .ref (a 1)) rfl dX11_vice_19 ?_
      refine ig_ (index := 159) X I (fun _ q => List.mem_cons_of_mem _ (List.mem_append_right _ q)) 1 (by decide) shC_1 rfl 1 (by decide) (by decide +kernel) rfl (v := .ref (a 7)) rfl dX11_vice_22 ?_
      refine lv_iload_n hx hb dX11_vice_25 rfl (lv_at hl 1 rfl) ?_
      obtain ⟨g_7, h⟩ := gd_of h
      refine ia_ X I 7 (by decide) shC_7 (in_of g_7) (v0 := (rd_ σ 7 x1.toNatClampNeg)) rfl dX11_vice_26 ?_
      refine lv_topi (fun y_8 e_9 => ?_)
      have h := lt_at h e_9
      refine lv_istore_n (lv' := [(3, .int y_8), (0, .ref (a 0)), (1, .int x1), (2, .int x2)]) hx hb dX11_vice_27 rfl hl (by decide) rfl (fun ls hl => ?_)
      refine lv_aload_n hx hb dX11_vice_28 rfl (lv_at hl 1 rfl) ?_
      refine ig_ (index := 30) X I (fun _ q => List.mem_cons_of_mem _ (List.mem_append_left _ (List.mem_append_right _ q))) 0 (by decide) shC_0 rfl 0 (by decide) (by decide +kernel) rfl (v := .ref (a 1)) rfl dX11_vice_29 ?_
      refine ig_ (index := 159) X I (fun _ q => List.mem_cons_of_mem _ (List.mem_append_right _ q)) 1 (by decide) shC_1 rfl 1 (by decide) (by decide +kernel) rfl (v := .ref (a 7)) rfl dX11_vice_32 ?_
      refine lv_iload_n hx hb dX11_vice_35 rfl (lv_at hl 2 rfl) ?_
      refine lv_iload_n hx hb dX11_vice_36 rfl (lv_at hl 3 rfl) ?_
      obtain ⟨g_12, h⟩ := gd_of h
      refine is_ (σ2 := wr_ σ 7 x1.toNatClampNeg x2) X I 7 (by decide) shC_7 (in_of g_12) shC_st_7 dX11_vice_37 (fun σ_10 H locs e_11 I => ?_)
      have h := lt_at h e_11
      refine lv_iload_n hx hb dX11_vice_38 rfl (lv_at hl 0 rfl) ?_
      obtain ⟨rfl, rfl⟩ := re_s h
      exact rti_ X I dX11_vice_39
    · have h := if_t h c_6
      refine lv_iconst (v := (-1)) hx hb dX11_vice_16 (by decide) ?_
      obtain ⟨rfl, rfl⟩ := re_s h
      exact rti_ X I dX11_vice_17
theorem c_C_vice {l : Launch} {D : va_G} {cy : Nat → ClassId} {a gs : Nat → Nat} {σ : Sg} {x1 : Int32} {x2 : Int32} {r0 : Int32} {σ' : Sg} (h : C_vice_0 σ x1 x2 = some (r0, σ')) (sz : Nat) : Met l yX11_vice wsX11_vice ({ frames := 2, cells := 0, slots := 0, locals := 41 }) (va_Pc [.ref (a 0), .int x1, .int x2] (pr_ 59 a D cy (shC cy a σ) (xfC gs) sz)) (qg_ 59 a D (shC cy a σ') (some (.int r0)) sz) 0 0 (fr_ 59 a sz) := by
  refine ent_ (by decide) rfl (Nat.le_of_ble_eq_true rfl) ?_
  intro p e s m below meth c ls hsz X I hl
  subst hsz
  exact kC_vice_0 X σ x1 x2 s.heap [] ls h I hl

def C1_isEasy_0  (σ : Sg) (x1 : Int32) : Option (Int32 × Sg) :=
  if (((rd_ σ 1 2) >>> (x1 &&& 31)) &&& (1 : Int32)) = (1 : Int32) then (some ((1 : Int32), σ))
  else (some ((0 : Int32), σ))
set_option maxRecDepth 100000 in
theorem kC1_isEasy_0 {p : Program} {l : Launch} {e : Env} {s : State} {m : MethodId} {args : Array Value} {below : List Frame} {meth : Method} {c : Code} {D : va_G} {cy : Nat → ClassId} {a gs : Nat → Nat} (X : cx_ cX1_isEasy RX1 wsX1_isEasy 2 (some .boolean) 59 a D cy (xfC gs) p s m args meth c)  {r0 : Int32} {σ' : Sg}  : ∀ (σ : Sg) (x1 : Int32) (H : Heap) (locs : List Loc) (ls : Array Slot), C1_isEasy_0 σ x1 = some (r0, σ') → iv_ 59 a D (shC cy a σ) s H locs → lv_has ls 2 [(0, .ref (a 1)), (1, .int x1)] → W p l e ({ frames := 0, cells := 0, slots := 0, locals := 0 }) s m args below meth c H locs 0 0 (MQ below (qg_ 59 a D (shC cy a σ') (some (.int r0)) s.heap.size) args s 0 0 (fr_ 59 a s.heap.size)) (F0 m 0 ls []) := by
  obtain ⟨hx, hb, hr, hml, hown, hts, hlk, hK, hA, hXf⟩ := id X
  intro σ x1 H locs ls h I hl
  unfold C1_isEasy_0 at h
  refine lv_aload_n hx hb dX1_isEasy_0 rfl (lv_at hl 0 rfl) ?_
  refine ig_ (index := 39) X I (fun _ q => List.mem_cons_of_mem _ (List.mem_append_right _ q)) 1 (by decide) shC_1 rfl 2 (by decide) (by decide +kernel) rfl (v := .int (rd_ σ 1 2)) rfl dX1_isEasy_1 ?_
  refine lv_iload_n hx hb dX1_isEasy_4 rfl (lv_at hl 1 rfl) ?_
  refine lv_ishr hx hb dX1_isEasy_5 ?_
  refine lv_iconst (v := 1) hx hb dX1_isEasy_6 (by decide) ?_
  refine lv_iand hx hb dX1_isEasy_7 ?_
  refine lv_iconst (v := 1) hx hb dX1_isEasy_8 (by decide) ?_
  refine lv_icmp_ne (tgt := 16) hx hb dX1_isEasy_9 (by decide) (fun c_1 => ?_) (fun c_1 => ?_)
  · have h := if_f h c_1
    refine lv_iconst (v := 0) hx hb dX1_isEasy_16 (by decide) ?_
    obtain ⟨rfl, rfl⟩ := re_s h
    exact rtz_ X I (by decide) dX1_isEasy_17
  · have h := if_t h c_1
    refine lv_iconst (v := 1) hx hb dX1_isEasy_12 (by decide) ?_
    refine lv_goto (tgt := 17) hx hb dX1_isEasy_13 (by decide) ?_
    obtain ⟨rfl, rfl⟩ := re_s h
    exact rtz_ X I (by decide) dX1_isEasy_17
theorem c_C1_isEasy {l : Launch} {D : va_G} {cy : Nat → ClassId} {a gs : Nat → Nat} {σ : Sg} {x1 : Int32} {r0 : Int32} {σ' : Sg} (h : C1_isEasy_0 σ x1 = some (r0, σ')) (sz : Nat) : Met l yX1_isEasy wsX1_isEasy ({ frames := 0, cells := 0, slots := 0, locals := 0 }) (va_Pc [.ref (a 1), .int x1] (pr_ 59 a D cy (shC cy a σ) (xfC gs) sz)) (qg_ 59 a D (shC cy a σ') (some (.int r0)) sz) 0 0 (fr_ 59 a sz) := by
  refine ent_ (by decide) rfl (Nat.le_of_ble_eq_true rfl) ?_
  intro p e s m below meth c ls hsz X I hl
  subst hsz
  exact kC1_isEasy_0 X σ x1 s.heap [] ls h I hl

def C_easy_33  (σ : Sg) (x1 : Int32) (x2 : Int32) (t0 : Int32) : Option (Int32 × Sg) :=
  lt_ (wr_ σ 1 2 (((rd_ σ 1 2) &&& (((1 : Int32) <<< (x1 &&& 31)) ^^^ (-1 : Int32))) ||| (x2 <<< (x1 &&& 31)))) fun σ_1 =>
  some (t0, σ_1)
set_option maxRecDepth 100000 in
theorem kC_easy_33 {p : Program} {l : Launch} {e : Env} {s : State} {m : MethodId} {args : Array Value} {below : List Frame} {meth : Method} {c : Code} {D : va_G} {cy : Nat → ClassId} {a gs : Nat → Nat} (X : cx_ cX11_easy RX11 wsX11_easy 4 (some .int) 59 a D cy (xfC gs) p s m args meth c)  {r0 : Int32} {σ' : Sg}  : ∀ (σ : Sg) (x1 : Int32) (x2 : Int32) (t0 : Int32) (H : Heap) (locs : List Loc) (ls : Array Slot), C_easy_33 σ x1 x2 t0 = some (r0, σ') → iv_ 59 a D (shC cy a σ) s H locs → lv_has ls 4 [(0, .ref (a 0)), (1, .int x1), (2, .int x2)] → W p l e ({ frames := 2, cells := 0, slots := 0, locals := 41 }) s m args below meth c H locs 0 0 (MQ below (qg_ 59 a D (shC cy a σ') (some (.int r0)) s.heap.size) args s 0 0 (fr_ 59 a s.heap.size)) (F0 m 33 ls [.int t0]) := by
  obtain ⟨hx, hb, hr, hml, hown, hts, hlk, hK, hA, hXf⟩ := id X
  intro σ x1 x2 t0 H locs ls h I hl
  unfold C_easy_33 at h
  refine lv_istore_n (lv' := [(3, .int t0), (0, .ref (a 0)), (1, .int x1), (2, .int x2)]) hx hb dX11_easy_33 rfl hl (by decide) rfl (fun ls hl => ?_)
  refine lv_aload_n hx hb dX11_easy_34 rfl (lv_at hl 1 rfl) ?_
  refine ig_ (index := 30) X I (fun _ q => List.mem_cons_of_mem _ (List.mem_append_left _ (List.mem_append_right _ q))) 0 (by decide) shC_0 rfl 0 (by decide) (by decide +kernel) rfl (v := .ref (a 1)) rfl dX11_easy_35 ?_
  refine lv_aload_n hx hb dX11_easy_38 rfl (lv_at hl 1 rfl) ?_
  refine ig_ (index := 30) X I (fun _ q => List.mem_cons_of_mem _ (List.mem_append_left _ (List.mem_append_right _ q))) 0 (by decide) shC_0 rfl 0 (by decide) (by decide +kernel) rfl (v := .ref (a 1)) rfl dX11_easy_39 ?_
  refine ig_ (index := 165) X I (fun _ q => List.mem_cons_of_mem _ (List.mem_append_right _ q)) 1 (by decide) shC_1 rfl 2 (by decide) (by decide +kernel) rfl (v := .int (rd_ σ 1 2)) rfl dX11_easy_42 ?_
  refine lv_iconst (v := 1) hx hb dX11_easy_45 (by decide) ?_
  refine lv_iload_n hx hb dX11_easy_46 rfl (lv_at hl 2 rfl) ?_
  refine lv_ishl hx hb dX11_easy_47 ?_
  refine lv_iconst (v := (-1)) hx hb dX11_easy_48 (by decide) ?_
  refine lv_ixor hx hb dX11_easy_49 ?_
  refine lv_iand hx hb dX11_easy_50 ?_
  refine lv_iload_n hx hb dX11_easy_51 rfl (lv_at hl 3 rfl) ?_
  refine lv_iload_n hx hb dX11_easy_52 rfl (lv_at hl 2 rfl) ?_
  refine lv_ishl hx hb dX11_easy_53 ?_
  refine lv_ior hx hb dX11_easy_54 ?_
  refine ip_ (index := 165) (ty := .int) X I (fun _ q => List.mem_cons_of_mem _ (List.mem_append_right _ q)) tyX1 tyX1_ok nmX1 1 (by decide) shC_1 rfl 2 (by decide) (by decide +kernel) rfl rfl (by decide +kernel) rfl rfl (Nat.le_of_ble_eq_true rfl) shC_pt_1_2 dX11_easy_55 (fun σ_1 H locs e_2 I => ?_)
  have h := lt_at h e_2
  refine lv_iload_n hx hb dX11_easy_58 rfl (lv_at hl 0 rfl) ?_
  obtain ⟨rfl, rfl⟩ := re_s h
  exact rti_ X I dX11_easy_59
def C_easy_0  (σ : Sg) (x1 : Int32) (x2 : Int32) : Option (Int32 × Sg) :=
  bp_ (C_isGodmother_0 x1) fun r_2 =>
  if r_2 = 0 then (some ((-1 : Int32), σ))
  else (bp_ (C_within_0 x2 (1 : Int32)) fun r_5 =>
  if r_5 = 0 then (some ((-1 : Int32), σ))
  else (bi_ (C1_isEasy_0 σ x1) fun r_9 σ_8 =>
  if r_9 = 0 then (C_easy_33 σ_8 x1 x2 (0 : Int32))
  else (C_easy_33 σ_8 x1 x2 (1 : Int32))))
set_option maxRecDepth 100000 in
theorem kC_easy_0 {p : Program} {l : Launch} {e : Env} {s : State} {m : MethodId} {args : Array Value} {below : List Frame} {meth : Method} {c : Code} {D : va_G} {cy : Nat → ClassId} {a gs : Nat → Nat} (X : cx_ cX11_easy RX11 wsX11_easy 4 (some .int) 59 a D cy (xfC gs) p s m args meth c)  {r0 : Int32} {σ' : Sg}  : ∀ (σ : Sg) (x1 : Int32) (x2 : Int32) (H : Heap) (locs : List Loc) (ls : Array Slot), C_easy_0 σ x1 x2 = some (r0, σ') → iv_ 59 a D (shC cy a σ) s H locs → lv_has ls 4 [(0, .ref (a 0)), (1, .int x1), (2, .int x2)] → W p l e ({ frames := 2, cells := 0, slots := 0, locals := 41 }) s m args below meth c H locs 0 0 (MQ below (qg_ 59 a D (shC cy a σ') (some (.int r0)) s.heap.size) args s 0 0 (fr_ 59 a s.heap.size)) (F0 m 0 ls []) := by
  obtain ⟨hx, hb, hr, hml, hown, hts, hlk, hK, hA, hXf⟩ := id X
  intro σ x1 x2 H locs ls h I hl
  unfold C_easy_0 at h
  refine lv_iload_n hx hb dX11_easy_0 rfl (lv_at hl 1 rfl) ?_
  obtain ⟨r_2, hc_1, h⟩ := bp_of h
  refine cp_ (rP_ (nn := 1) (As := [.int x1]) (rest := []) ⟨hx, hb, hml, hown, hts⟩ (c_C_isGodmother hc_1) gX11_easy_X11_isGodmother rfl ⟨rfl, rfl⟩ (by decide +kernel) ⟨Nat.le_of_ble_eq_true rfl, Nat.le_of_ble_eq_true rfl⟩ rfl hl.1 rfl (Nat.le_of_ble_eq_true rfl) dX11_easy_1 ⟨Nat.zero_le _, Nat.zero_le _⟩) ?_
  refine lv_if_eq (tgt := 15) hx hb dX11_easy_4 (by decide) (fun c_3 => ?_) (fun c_3 => ?_)
  · have h := if_t h c_3
    refine lv_iconst (v := (-1)) hx hb dX11_easy_15 (by decide) ?_
    obtain ⟨rfl, rfl⟩ := re_s h
    exact rti_ X I dX11_easy_16
  · have h := if_f h c_3
    refine lv_iload_n hx hb dX11_easy_7 rfl (lv_at hl 2 rfl) ?_
    refine lv_iconst (v := 1) hx hb dX11_easy_8 (by decide) ?_
    obtain ⟨r_5, hc_4, h⟩ := bp_of h
    refine cp_ (rP_ (nn := 2) (As := [.int x2, .int (1 : Int32)]) (rest := []) ⟨hx, hb, hml, hown, hts⟩ (c_C_within hc_4) gX11_easy_X11_within rfl ⟨rfl, rfl⟩ (by decide +kernel) ⟨Nat.le_of_ble_eq_true rfl, Nat.le_of_ble_eq_true rfl⟩ rfl hl.1 rfl (Nat.le_of_ble_eq_true rfl) dX11_easy_9 ⟨Nat.zero_le _, Nat.zero_le _⟩) ?_
    refine lv_if_ne (tgt := 17) hx hb dX11_easy_12 (by decide) (fun c_6 => ?_) (fun c_6 => ?_)
    · have h := if_f h c_6
      refine lv_aload_n hx hb dX11_easy_17 rfl (lv_at hl 0 rfl) ?_
      refine ig_ (index := 30) X I (fun _ q => List.mem_cons_of_mem _ (List.mem_append_left _ (List.mem_append_right _ q))) 0 (by decide) shC_0 rfl 0 (by decide) (by decide +kernel) rfl (v := .ref (a 1)) rfl dX11_easy_18 ?_
      refine lv_iload_n hx hb dX11_easy_21 rfl (lv_at hl 1 rfl) ?_
      obtain ⟨r_9, σ_8, hc_7, h⟩ := bi_of h
      refine cg_ (v := .int r_9) (rV_ (nn := 1) (As := [.int x1]) (rest := []) X xkC I (c_C1_isEasy hc_7 H.size) gX11_easy_X1_isEasy rfl ⟨rfl, rfl⟩ (by decide +kernel) ⟨Nat.le_of_ble_eq_true rfl, Nat.le_of_ble_eq_true rfl⟩ (by decide) shC_1 rfl rfl hl.1 rfl (Nat.le_of_ble_eq_true rfl) dX11_easy_22) I (fun H locs I => ?_)
      refine lv_if_eq (tgt := 32) hx hb dX11_easy_25 (by decide) (fun c_10 => ?_) (fun c_10 => ?_)
      · have h := if_t h c_10
        refine lv_iconst (v := 0) hx hb dX11_easy_32 (by decide) ?_
        exact kC_easy_33 X  σ_8 x1 x2 (0 : Int32) H locs ls h I (lv_sub hl [0, 1, 2] rfl)
      · have h := if_f h c_10
        refine lv_iconst (v := 1) hx hb dX11_easy_28 (by decide) ?_
        refine lv_goto (tgt := 33) hx hb dX11_easy_29 (by decide) ?_
        exact kC_easy_33 X  σ_8 x1 x2 (1 : Int32) H locs ls h I (lv_sub hl [0, 1, 2] rfl)
    · have h := if_t h c_6
      refine lv_iconst (v := (-1)) hx hb dX11_easy_15 (by decide) ?_
      obtain ⟨rfl, rfl⟩ := re_s h
      exact rti_ X I dX11_easy_16
theorem c_C_easy {l : Launch} {D : va_G} {cy : Nat → ClassId} {a gs : Nat → Nat} {σ : Sg} {x1 : Int32} {x2 : Int32} {r0 : Int32} {σ' : Sg} (h : C_easy_0 σ x1 x2 = some (r0, σ')) (sz : Nat) : Met l yX11_easy wsX11_easy ({ frames := 2, cells := 0, slots := 0, locals := 41 }) (va_Pc [.ref (a 0), .int x1, .int x2] (pr_ 59 a D cy (shC cy a σ) (xfC gs) sz)) (qg_ 59 a D (shC cy a σ') (some (.int r0)) sz) 0 0 (fr_ 59 a sz) := by
  refine ent_ (by decide) rfl (Nat.le_of_ble_eq_true rfl) ?_
  intro p e s m below meth c ls hsz X I hl
  subst hsz
  exact kC_easy_0 X σ x1 x2 s.heap [] ls h I hl

def C1_swornTo_39 (k4 : Sg → Int32 → Int32 → Int32 → Option (Int32 × Sg)) (σ : Sg) (x1 : Int32) (x2 : Int32) (x3 : Int32) : Option (Int32 × Sg) :=
  lt_ (x3 + (1 : Int32)) fun y_1 =>
  k4 σ x1 x2 y_1
set_option maxRecDepth 100000 in
theorem kC1_swornTo_39 {p : Program} {l : Launch} {e : Env} {s : State} {m : MethodId} {args : Array Value} {below : List Frame} {meth : Method} {c : Code} {D : va_G} {cy : Nat → ClassId} {a gs : Nat → Nat} (X : cx_ cX1_swornTo RX1 wsX1_swornTo 5 (some .int) 59 a D cy (xfC gs) p s m args meth c) {k4 : Sg → Int32 → Int32 → Int32 → Option (Int32 × Sg)} {r0 : Int32} {σ' : Sg} (hk4 : ∀ (σ : Sg) (x1 : Int32) (x2 : Int32) (x3 : Int32) (H : Heap) (locs : List Loc) (ls : Array Slot), k4 σ x1 x2 x3 = some (r0, σ') → iv_ 59 a D (shC cy a σ) s H locs → lv_has ls 5 [(0, .ref (a 1)), (1, .int x1), (2, .int x2), (3, .int x3)] → W p l e ({ frames := 2, cells := 0, slots := 0, locals := 42 }) s m args below meth c H locs 0 0 (MQ below (qg_ 59 a D (shC cy a σ') (some (.int r0)) s.heap.size) args s 0 0 (fr_ 59 a s.heap.size)) (F0 m 4 ls [])) : ∀ (σ : Sg) (x1 : Int32) (x2 : Int32) (x3 : Int32) (H : Heap) (locs : List Loc) (ls : Array Slot), C1_swornTo_39 k4 σ x1 x2 x3 = some (r0, σ') → iv_ 59 a D (shC cy a σ) s H locs → lv_has ls 5 [(0, .ref (a 1)), (1, .int x1), (2, .int x2), (3, .int x3)] → W p l e ({ frames := 2, cells := 0, slots := 0, locals := 42 }) s m args below meth c H locs 0 0 (MQ below (qg_ 59 a D (shC cy a σ') (some (.int r0)) s.heap.size) args s 0 0 (fr_ 59 a s.heap.size)) (F0 m 39 ls []) := by
  obtain ⟨hx, hb, hr, hml, hown, hts, hlk, hK, hA, hXf⟩ := id X
  intro σ x1 x2 x3 H locs ls h I hl
  unfold C1_swornTo_39 at h
  obtain ⟨y_1, e_2⟩ : ∃ q : Int32, q = x3 + (1 : Int32) := ⟨_, rfl⟩
  have h := lt_at h e_2
  refine lv_iinc (v := y_1) (lv' := [(3, .int y_1), (0, .ref (a 1)), (1, .int x1), (2, .int x2)]) hx hb dX1_swornTo_39 hl (k := 3) rfl (by rw [e_2]; rfl) (by decide) rfl (fun ls hl => ?_)
  refine lv_goto (tgt := 4) hx hb dX1_swornTo_42 (by decide) ?_
  exact hk4 σ x1 x2 y_1 H locs ls h I (lv_sub hl [1, 2, 3, 0] rfl)
def C1_swornTo_4 (k4 : Sg → Int32 → Int32 → Int32 → Option (Int32 × Sg)) (σ : Sg) (x1 : Int32) (x2 : Int32) (x3 : Int32) : Option (Int32 × Sg) :=
  if (rd_ σ 1 3) ≤ x3 then (some (x2, σ))
  else (bi_ (C1_life_0 σ x3) fun r_4 σ_3 =>
  on_ r_4 (C1_swornTo_39 k4 σ_3 x1 x2 x3) fun j_5 =>
  gd_ (lf_ j_5 25) (
  if (rd_ σ_3 (34 + j_5) 5) = x1 then (lt_ ((x2 ||| ((1 : Int32) <<< (x3 &&& 31)))) fun y_8 =>
  C1_swornTo_39 k4 σ_3 x1 y_8 x3)
  else (C1_swornTo_39 k4 σ_3 x1 x2 x3)))
set_option maxRecDepth 100000 in
theorem kC1_swornTo_4 {p : Program} {l : Launch} {e : Env} {s : State} {m : MethodId} {args : Array Value} {below : List Frame} {meth : Method} {c : Code} {D : va_G} {cy : Nat → ClassId} {a gs : Nat → Nat} (X : cx_ cX1_swornTo RX1 wsX1_swornTo 5 (some .int) 59 a D cy (xfC gs) p s m args meth c) {k4 : Sg → Int32 → Int32 → Int32 → Option (Int32 × Sg)} {r0 : Int32} {σ' : Sg} (hk4 : ∀ (σ : Sg) (x1 : Int32) (x2 : Int32) (x3 : Int32) (H : Heap) (locs : List Loc) (ls : Array Slot), k4 σ x1 x2 x3 = some (r0, σ') → iv_ 59 a D (shC cy a σ) s H locs → lv_has ls 5 [(0, .ref (a 1)), (1, .int x1), (2, .int x2), (3, .int x3)] → W p l e ({ frames := 2, cells := 0, slots := 0, locals := 42 }) s m args below meth c H locs 0 0 (MQ below (qg_ 59 a D (shC cy a σ') (some (.int r0)) s.heap.size) args s 0 0 (fr_ 59 a s.heap.size)) (F0 m 4 ls [])) : ∀ (σ : Sg) (x1 : Int32) (x2 : Int32) (x3 : Int32) (H : Heap) (locs : List Loc) (ls : Array Slot), C1_swornTo_4 k4 σ x1 x2 x3 = some (r0, σ') → iv_ 59 a D (shC cy a σ) s H locs → lv_has ls 5 [(0, .ref (a 1)), (1, .int x1), (2, .int x2), (3, .int x3)] → W p l e ({ frames := 2, cells := 0, slots := 0, locals := 42 }) s m args below meth c H locs 0 0 (MQ below (qg_ 59 a D (shC cy a σ') (some (.int r0)) s.heap.size) args s 0 0 (fr_ 59 a s.heap.size)) (F0 m 4 ls []) := by
  obtain ⟨hx, hb, hr, hml, hown, hts, hlk, hK, hA, hXf⟩ := id X
  intro σ x1 x2 x3 H locs ls h I hl
  unfold C1_swornTo_4 at h
  refine lv_iload_n hx hb dX1_swornTo_4 rfl (lv_at hl 3 rfl) ?_
  refine lv_aload_n hx hb dX1_swornTo_5 rfl (lv_at hl 0 rfl) ?_
  refine ig_ (index := 42) X I (fun _ q => List.mem_cons_of_mem _ (List.mem_append_left _ (List.mem_append_right _ q))) 1 (by decide) shC_1 rfl 3 (by decide) (by decide +kernel) rfl (v := .int (rd_ σ 1 3)) rfl dX1_swornTo_6 ?_
  refine lv_icmp_ge (tgt := 45) hx hb dX1_swornTo_9 (by decide) (fun c_1 => ?_) (fun c_1 => ?_)
  · have h := if_t h c_1
    refine lv_iload_n hx hb dX1_swornTo_45 rfl (lv_at hl 2 rfl) ?_
    obtain ⟨rfl, rfl⟩ := re_s h
    exact rti_ X I dX1_swornTo_46
  · have h := if_f h c_1
    refine lv_aload_n hx hb dX1_swornTo_12 rfl (lv_at hl 0 rfl) ?_
    refine lv_iload_n hx hb dX1_swornTo_13 rfl (lv_at hl 3 rfl) ?_
    obtain ⟨r_4, σ_3, hc_2, h⟩ := bi_of h
    refine cg_ (v := va_re (fun j => a (34 + j)) r_4) (rV_ (nn := 1) (As := [.int x3]) (rest := []) X xkC I (c_C1_life hc_2 H.size) gX1_swornTo_X1_life rfl ⟨rfl, rfl⟩ (by decide +kernel) ⟨Nat.le_of_ble_eq_true rfl, Nat.le_of_ble_eq_true rfl⟩ (by decide) shC_1 rfl rfl hl.1 rfl (Nat.le_of_ble_eq_true rfl) dX1_swornTo_14) I (fun H locs I => ?_)
    rcases r_4 with _ | j_5
    · have h := on_n h
      refine W.eq (g2 := F0 m 17 ls [.null]) rfl ?_
      refine lv_astoreN (lv' := [(4, .null), (0, .ref (a 1)), (1, .int x1), (2, .int x2), (3, .int x3)]) hx hb dX1_swornTo_17 hl (by decide) rfl (fun ls hl => ?_)
      refine lv_aloadN hx hb dX1_swornTo_19 (lv_at hl 0 rfl) ?_
      refine lv_ifnullN (tgt := 39) hx hb dX1_swornTo_21 (by decide) ?_
      exact kC1_swornTo_39 X hk4 σ_3 x1 x2 x3 H locs ls h I (lv_sub hl [1, 2, 3, 4] rfl)
    · have h := on_s h
      refine W.eq (g2 := F0 m 17 ls [.ref (a (34 + j_5))]) rfl ?_
      refine lv_astore (lv' := [(4, .ref (a (34 + j_5))), (0, .ref (a 1)), (1, .int x1), (2, .int x2), (3, .int x3)]) hx hb dX1_swornTo_17 hl (by decide) rfl (fun ls hl => ?_)
      refine lv_aload hx hb dX1_swornTo_19 (lv_at hl 0 rfl) ?_
      refine lv_ifnull hx hb dX1_swornTo_21 ?_
      refine lv_aload hx hb dX1_swornTo_24 (lv_at hl 0 rfl) ?_
      obtain ⟨g_6, h⟩ := gd_of h
      refine ig_ (index := 96) X I (fun _ q => List.mem_cons_of_mem _ (List.mem_append_right _ q)) (34 + j_5) (lf59 g_6) shC_L rfl 5 (by decide) (by decide +kernel) rfl (v := .int (rd_ σ_3 (34 + j_5) 5)) rfl dX1_swornTo_26 ?_
      refine lv_iload_n hx hb dX1_swornTo_29 rfl (lv_at hl 2 rfl) ?_
      refine lv_icmp_ne (tgt := 39) hx hb dX1_swornTo_30 (by decide) (fun c_7 => ?_) (fun c_7 => ?_)
      · have h := if_f h c_7
        exact kC1_swornTo_39 X hk4 σ_3 x1 x2 x3 H locs ls h I (lv_sub hl [1, 2, 3, 4] rfl)
      · have h := if_t h c_7
        refine lv_iload_n hx hb dX1_swornTo_33 rfl (lv_at hl 3 rfl) ?_
        refine lv_iconst (v := 1) hx hb dX1_swornTo_34 (by decide) ?_
        refine lv_iload_n hx hb dX1_swornTo_35 rfl (lv_at hl 4 rfl) ?_
        refine lv_ishl hx hb dX1_swornTo_36 ?_
        refine lv_ior hx hb dX1_swornTo_37 ?_
        refine lv_topi (fun y_8 e_9 => ?_)
        have h := lt_at h e_9
        refine lv_istore_n (lv' := [(2, .int y_8), (4, .ref (a (34 + j_5))), (0, .ref (a 1)), (1, .int x1), (3, .int x3)]) hx hb dX1_swornTo_38 rfl hl (by decide) rfl (fun ls hl => ?_)
        exact kC1_swornTo_39 X hk4 σ_3 x1 y_8 x3 H locs ls h I (lv_sub hl [2, 3, 0, 4] rfl)
set_option maxRecDepth 100000 in
theorem kC1_swornTo_4L {p : Program} {l : Launch} {e : Env} {s : State} {m : MethodId} {args : Array Value} {below : List Frame} {meth : Method} {c : Code} {D : va_G} {cy : Nat → ClassId} {a gs : Nat → Nat} (X : cx_ cX1_swornTo RX1 wsX1_swornTo 5 (some .int) 59 a D cy (xfC gs) p s m args meth c)  {r0 : Int32} {σ' : Sg}  : ∀ (n : Nat), ∀ (σ : Sg) (x1 : Int32) (x2 : Int32) (x3 : Int32) (H : Heap) (locs : List Loc) (ls : Array Slot), lp_ (C1_swornTo_4) (fun _ _ _ _ => none) n σ x1 x2 x3 = some (r0, σ') → iv_ 59 a D (shC cy a σ) s H locs → lv_has ls 5 [(0, .ref (a 1)), (1, .int x1), (2, .int x2), (3, .int x3)] → W p l e ({ frames := 2, cells := 0, slots := 0, locals := 42 }) s m args below meth c H locs 0 0 (MQ below (qg_ 59 a D (shC cy a σ') (some (.int r0)) s.heap.size) args s 0 0 (fr_ 59 a s.heap.size)) (F0 m 4 ls []) := by
  intro n
  induction n with
  | zero =>
    intro _ _ _ _ _ _ _ h
    exact absurd h (fun q => by cases (show (none : Option _) = some _ from q))
  | succ n ih => exact kC1_swornTo_4 X ih

def C1_swornTo_0  (σ : Sg) (x1 : Int32) : Option (Int32 × Sg) :=
  lp_ C1_swornTo_4 (fun _ _ _ _ => none) FU σ x1 (0 : Int32) (0 : Int32)
set_option maxRecDepth 100000 in
theorem kC1_swornTo_0 {p : Program} {l : Launch} {e : Env} {s : State} {m : MethodId} {args : Array Value} {below : List Frame} {meth : Method} {c : Code} {D : va_G} {cy : Nat → ClassId} {a gs : Nat → Nat} (X : cx_ cX1_swornTo RX1 wsX1_swornTo 5 (some .int) 59 a D cy (xfC gs) p s m args meth c)  {r0 : Int32} {σ' : Sg}  : ∀ (σ : Sg) (x1 : Int32) (H : Heap) (locs : List Loc) (ls : Array Slot), C1_swornTo_0 σ x1 = some (r0, σ') → iv_ 59 a D (shC cy a σ) s H locs → lv_has ls 5 [(0, .ref (a 1)), (1, .int x1)] → W p l e ({ frames := 2, cells := 0, slots := 0, locals := 42 }) s m args below meth c H locs 0 0 (MQ below (qg_ 59 a D (shC cy a σ') (some (.int r0)) s.heap.size) args s 0 0 (fr_ 59 a s.heap.size)) (F0 m 0 ls []) := by
  obtain ⟨hx, hb, hr, hml, hown, hts, hlk, hK, hA, hXf⟩ := id X
  intro σ x1 H locs ls h I hl
  unfold C1_swornTo_0 at h
  refine lv_iconst (v := 0) hx hb dX1_swornTo_0 (by decide) ?_
  refine lv_istore_n (lv' := [(2, .int (0 : Int32)), (0, .ref (a 1)), (1, .int x1)]) hx hb dX1_swornTo_1 rfl hl (by decide) rfl (fun ls hl => ?_)
  refine lv_iconst (v := 0) hx hb dX1_swornTo_2 (by decide) ?_
  refine lv_istore_n (lv' := [(3, .int (0 : Int32)), (2, .int (0 : Int32)), (0, .ref (a 1)), (1, .int x1)]) hx hb dX1_swornTo_3 rfl hl (by decide) rfl (fun ls hl => ?_)
  exact kC1_swornTo_4L X  FU σ x1 (0 : Int32) (0 : Int32) H locs ls h I (lv_sub hl [2, 3, 1, 0] rfl)
theorem c_C1_swornTo {l : Launch} {D : va_G} {cy : Nat → ClassId} {a gs : Nat → Nat} {σ : Sg} {x1 : Int32} {r0 : Int32} {σ' : Sg} (h : C1_swornTo_0 σ x1 = some (r0, σ')) (sz : Nat) : Met l yX1_swornTo wsX1_swornTo ({ frames := 2, cells := 0, slots := 0, locals := 42 }) (va_Pc [.ref (a 1), .int x1] (pr_ 59 a D cy (shC cy a σ) (xfC gs) sz)) (qg_ 59 a D (shC cy a σ') (some (.int r0)) sz) 0 0 (fr_ 59 a sz) := by
  refine ent_ (by decide) rfl (Nat.le_of_ble_eq_true rfl) ?_
  intro p e s m below meth c ls hsz X I hl
  subst hsz
  exact kC1_swornTo_0 X σ x1 s.heap [] ls h I hl
