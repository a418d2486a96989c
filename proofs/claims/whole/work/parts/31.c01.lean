def C8_option_0  (σ : Sg) (x1 : Nat) (x2 : Int32) (x3 : Int32) : Option (Int32 × Sg) :=
  if 0 ≤ (rd_ σ 20 5) then (some (x3, σ))
  else (bi_ (C8_isName_0 σ x1) fun r_4 σ_3 =>
  if r_4 = 0 then (some (x3, σ_3))
  else (bi_ (C8_step_0 σ_3) fun _ σ_7 =>
  bi_ (C8_number_0 σ_7 x2) fun r_10 σ_9 =>
  some (r_10, σ_9)))
set_option maxRecDepth 100000 in
theorem kC8_option_0 {p : Program} {l : Launch} {e : Env} {s : State} {m : MethodId} {args : Array Value} {below : List Frame} {meth : Method} {c : Code} {D : va_G} {cy : Nat → ClassId} {a gs : Nat → Nat} (X : cx_ cX8_option RX8 wsX8_option 4 (some .int) 59 a D cy (xfC gs) p s m args meth c)  {r0 : Int32} {σ' : Sg}  : ∀ (σ : Sg) (x1 : Nat) (x2 : Int32) (x3 : Int32) (H : Heap) (locs : List Loc) (ls : Array Slot), C8_option_0 σ x1 x2 x3 = some (r0, σ') → iv_ 59 a D (shC cy a σ) s H locs → lv_has ls 4 [(0, .ref (a 20)), (1, .ref (gs (2 + x1))), (2, .int x2), (3, .int x3)] → W p l e ({ frames := 5, cells := 0, slots := 0, locals := 107 }) s m args below meth c H locs 0 0 (MQ below (qg_ 59 a D (shC cy a σ') (some (.int r0)) s.heap.size) args s 0 0 (fr_ 59 a s.heap.size)) (F0 m 0 ls []) := by
  obtain ⟨hx, hb, hr, hml, hown, hts, hlk, hK, hA, hXf⟩ := id X
  intro σ x1 x2 x3 H locs ls h I hl
  unfold C8_option_0 at h
  refine lv_aload_n hx hb dX8_option_0 rfl (lv_at hl 0 rfl) ?_
  refine ig_ (index := 26) X I (fun _ q => List.mem_cons_of_mem _ (List.mem_append_right _ q)) 20 (by decide) shC_20 rfl 5 (by decide) (by decide +kernel) rfl (v := .int (rd_ σ 20 5)) rfl dX8_option_1 ?_
  refine lv_if_ge (tgt := 15) hx hb dX8_option_4 (by decide) (fun c_1 => ?_) (fun c_1 => ?_)
  · have h := if_t h c_1
    refine lv_iload_n hx hb dX8_option_15 rfl (lv_at hl 3 rfl) ?_
    obtain ⟨rfl, rfl⟩ := re_s h
    exact rti_ X I dX8_option_16
  · have h := if_f h c_1
    refine lv_aload_n hx hb dX8_option_7 rfl (lv_at hl 0 rfl) ?_
    refine lv_aload_n hx hb dX8_option_8 rfl (lv_at hl 1 rfl) ?_
    obtain ⟨r_4, σ_3, hc_2, h⟩ := bi_of h
    refine cg_ (v := .int r_4) (rV_ (nn := 1) (As := [.ref (gs (2 + x1))]) (rest := []) X xkC I (c_C8_isName hc_2 H.size) gX8_option_X8_isName rfl ⟨rfl, rfl⟩ (by decide +kernel) ⟨Nat.le_of_ble_eq_true rfl, Nat.le_of_ble_eq_true rfl⟩ (by decide) shC_20 rfl rfl hl.1 rfl (Nat.le_of_ble_eq_true rfl) dX8_option_9) I (fun H locs I => ?_)
    refine lv_if_ne (tgt := 17) hx hb dX8_option_12 (by decide) (fun c_5 => ?_) (fun c_5 => ?_)
    · have h := if_f h c_5
      refine lv_aload_n hx hb dX8_option_17 rfl (lv_at hl 0 rfl) ?_
      obtain ⟨_, σ_7, hc_6, h⟩ := bi_of h
      refine cv_ (rV_ (nn := 0) (As := []) (rest := []) X xkC I (c_C8_step hc_6 H.size) gX8_option_X8_step rfl ⟨rfl, rfl⟩ (by decide +kernel) ⟨Nat.le_of_ble_eq_true rfl, Nat.le_of_ble_eq_true rfl⟩ (by decide) shC_20 rfl rfl hl.1 rfl (Nat.le_of_ble_eq_true rfl) dX8_option_18) I (fun H locs I => ?_)
      refine lv_aload_n hx hb dX8_option_21 rfl (lv_at hl 0 rfl) ?_
      refine lv_iload_n hx hb dX8_option_22 rfl (lv_at hl 2 rfl) ?_
      obtain ⟨r_10, σ_9, hc_8, h⟩ := bi_of h
      refine cg_ (v := .int r_10) (rV_ (nn := 1) (As := [.int x2]) (rest := []) X xkC I (c_C8_number hc_8 H.size) gX8_option_X8_number rfl ⟨rfl, rfl⟩ (by decide +kernel) ⟨Nat.le_of_ble_eq_true rfl, Nat.le_of_ble_eq_true rfl⟩ (by decide) shC_20 rfl rfl hl.1 rfl (Nat.le_of_ble_eq_true rfl) dX8_option_23) I (fun H locs I => ?_)
      obtain ⟨rfl, rfl⟩ := re_s h
      exact rti_ X I dX8_option_26
    · have h := if_t h c_5
      refine lv_iload_n hx hb dX8_option_15 rfl (lv_at hl 3 rfl) ?_
      obtain ⟨rfl, rfl⟩ := re_s h
      exact rti_ X I dX8_option_16
theorem c_C8_option {l : Launch} {D : va_G} {cy : Nat → ClassId} {a gs : Nat → Nat} {σ : Sg} {x1 : Nat} {x2 : Int32} {x3 : Int32} {r0 : Int32} {σ' : Sg} (h : C8_option_0 σ x1 x2 x3 = some (r0, σ')) (sz : Nat) : Met l yX8_option wsX8_option ({ frames := 5, cells := 0, slots := 0, locals := 107 }) (va_Pc [.ref (a 20), .ref (gs (2 + x1)), .int x2, .int x3] (pr_ 59 a D cy (shC cy a σ) (xfC gs) sz)) (qg_ 59 a D (shC cy a σ') (some (.int r0)) sz) 0 0 (fr_ 59 a sz) := by
  refine ent_ (by decide) rfl (Nat.le_of_ble_eq_true rfl) ?_
  intro p e s m below meth c ls hsz X I hl
  subst hsz
  exact kC8_option_0 X σ x1 x2 x3 s.heap [] ls h I hl

def C6_begin_0  (σ : Sg) (x0 : Nat) (x1 : Int32) (x2 : Int32) (x3 : Int32) (x4 : Int32) : Option (Unit × Sg) :=
  gd_ (lf_ x0 25) (
  lt_ (wr_ σ (34 + x0) 0 x1) fun σ_2 =>
  lt_ (wr_ σ_2 (34 + x0) 1 x2) fun σ_4 =>
  lt_ (wr_ σ_4 (34 + x0) 2 x3) fun σ_6 =>
  lt_ (wr_ σ_6 (34 + x0) 5 x4) fun σ_8 =>
  lt_ (wr_ σ_8 (34 + x0) 3 (50 : Int32)) fun σ_10 =>
  lt_ (wr_ σ_10 (34 + x0) 4 (0 : Int32)) fun σ_12 =>
  some ((), σ_12))
set_option maxRecDepth 100000 in
theorem kC6_begin_0 {p : Program} {l : Launch} {e : Env} {s : State} {m : MethodId} {args : Array Value} {below : List Frame} {meth : Method} {c : Code} {D : va_G} {cy : Nat → ClassId} {a gs : Nat → Nat} (X : cx_ cX6_begin RX6 wsX6_begin 5 none 59 a D cy (xfC gs) p s m args meth c)   {σ' : Sg}  : ∀ (σ : Sg) (x0 : Nat) (x1 : Int32) (x2 : Int32) (x3 : Int32) (x4 : Int32) (H : Heap) (locs : List Loc) (ls : Array Slot), C6_begin_0 σ x0 x1 x2 x3 x4 = some ((), σ') → iv_ 59 a D (shC cy a σ) s H locs → lv_has ls 5 [(0, .ref (a (34 + x0))), (1, .int x1), (2, .int x2), (3, .int x3), (4, .int x4)] → W p l e ({ frames := 0, cells := 0, slots := 0, locals := 0 }) s m args below meth c H locs 0 0 (MQ below (qg_ 59 a D (shC cy a σ') none s.heap.size) args s 0 0 (fr_ 59 a s.heap.size)) (F0 m 0 ls []) := by
  obtain ⟨hx, hb, hr, hml, hown, hts, hlk, hK, hA, hXf⟩ := id X
  intro σ x0 x1 x2 x3 x4 H locs ls h I hl
  unfold C6_begin_0 at h
  refine lv_aload_n hx hb dX6_begin_0 rfl (lv_at hl 0 rfl) ?_
  refine lv_iload_n hx hb dX6_begin_1 rfl (lv_at hl 1 rfl) ?_
  obtain ⟨g_1, h⟩ := gd_of h
  refine ip_ (index := 9) (ty := .int) X I (fun _ q => List.mem_cons_of_mem _ (List.mem_append_right _ q)) tyX6 tyX6_ok nmX6 (34 + x0) (lf59 g_1) shC_L rfl 0 (by decide) (by decide +kernel) rfl rfl (by decide +kernel) rfl rfl (Nat.le_of_ble_eq_true rfl) shC_pl_0 dX6_begin_2 (fun σ_2 H locs e_3 I => ?_)
  have h := lt_at h e_3
  refine lv_aload_n hx hb dX6_begin_5 rfl (lv_at hl 0 rfl) ?_
  refine lv_iload_n hx hb dX6_begin_6 rfl (lv_at hl 2 rfl) ?_
  refine ip_ (index := 15) (ty := .int) X I (fun _ q => List.mem_cons_of_mem _ (List.mem_append_right _ q)) tyX6 tyX6_ok nmX6 (34 + x0) (lf59 g_1) shC_L rfl 1 (by decide) (by decide +kernel) rfl rfl (by decide +kernel) rfl rfl (Nat.le_of_ble_eq_true rfl) shC_pl_1 dX6_begin_7 (fun σ_4 H locs e_5 I => ?_)
  have h := lt_at h e_5
  refine lv_aload_n hx hb dX6_begin_10 rfl (lv_at hl 0 rfl) ?_
  refine lv_iload_n hx hb dX6_begin_11 rfl (lv_at hl 3 rfl) ?_
  refine ip_ (index := 18) (ty := .int) X I (fun _ q => List.mem_cons_of_mem _ (List.mem_append_right _ q)) tyX6 tyX6_ok nmX6 (34 + x0) (lf59 g_1) shC_L rfl 2 (by decide) (by decide +kernel) rfl rfl (by decide +kernel) rfl rfl (Nat.le_of_ble_eq_true rfl) shC_pl_2 dX6_begin_12 (fun σ_6 H locs e_7 I => ?_)
  have h := lt_at h e_7
  refine lv_aload_n hx hb dX6_begin_15 rfl (lv_at hl 0 rfl) ?_
  refine lv_iload hx hb dX6_begin_16 (lv_at hl 4 rfl) ?_
  refine ip_ (index := 27) (ty := .int) X I (fun _ q => List.mem_cons_of_mem _ (List.mem_append_right _ q)) tyX6 tyX6_ok nmX6 (34 + x0) (lf59 g_1) shC_L rfl 5 (by decide) (by decide +kernel) rfl rfl (by decide +kernel) rfl rfl (Nat.le_of_ble_eq_true rfl) shC_pl_5 dX6_begin_18 (fun σ_8 H locs e_9 I => ?_)
  have h := lt_at h e_9
  refine lv_aload_n hx hb dX6_begin_21 rfl (lv_at hl 0 rfl) ?_
  refine lv_bipush (v := 50) hx hb dX6_begin_22 (by decide) ?_
  refine ip_ (index := 21) (ty := .int) X I (fun _ q => List.mem_cons_of_mem _ (List.mem_append_right _ q)) tyX6 tyX6_ok nmX6 (34 + x0) (lf59 g_1) shC_L rfl 3 (by decide) (by decide +kernel) rfl rfl (by decide +kernel) rfl rfl (Nat.le_of_ble_eq_true rfl) shC_pl_3 dX6_begin_24 (fun σ_10 H locs e_11 I => ?_)
  have h := lt_at h e_11
  refine lv_aload_n hx hb dX6_begin_27 rfl (lv_at hl 0 rfl) ?_
  refine lv_iconst (v := 0) hx hb dX6_begin_28 (by decide) ?_
  refine ip_ (index := 24) (ty := .int) X I (fun _ q => List.mem_cons_of_mem _ (List.mem_append_right _ q)) tyX6 tyX6_ok nmX6 (34 + x0) (lf59 g_1) shC_L rfl 4 (by decide) (by decide +kernel) rfl rfl (by decide +kernel) rfl rfl (Nat.le_of_ble_eq_true rfl) shC_pl_4 dX6_begin_29 (fun σ_12 H locs e_13 I => ?_)
  have h := lt_at h e_13
  obtain rfl := re_v h
  exact rtv_ X I dX6_begin_32
theorem c_C6_begin {l : Launch} {D : va_G} {cy : Nat → ClassId} {a gs : Nat → Nat} {σ : Sg} {x0 : Nat} {x1 : Int32} {x2 : Int32} {x3 : Int32} {x4 : Int32}  {σ' : Sg} (h : C6_begin_0 σ x0 x1 x2 x3 x4 = some ((), σ')) (sz : Nat) : Met l yX6_begin wsX6_begin ({ frames := 0, cells := 0, slots := 0, locals := 0 }) (va_Pc [.ref (a (34 + x0)), .int x1, .int x2, .int x3, .int x4] (pr_ 59 a D cy (shC cy a σ) (xfC gs) sz)) (qg_ 59 a D (shC cy a σ') none sz) 0 0 (fr_ 59 a sz) := by
  refine ent_ (by decide) rfl (Nat.le_of_ble_eq_true rfl) ?_
  intro p e s m below meth c ls hsz X I hl
  subst hsz
  exact kC6_begin_0 X σ x0 x1 x2 x3 x4 s.heap [] ls h I hl

def C8_tellChild_3_0  (σ : Sg) (x2 : Int32) : Option (Unit × Sg) :=
  bi_ (C1_added_3_0 σ) fun r_3 σ_2 =>
  on_ r_3 (bi_ (C8_failHere_0 σ_2) fun _ σ_6 =>
  some ((), σ_6)) fun j_4 =>
  bi_ (C8_step_0 σ_2) fun _ σ_8 =>
  bi_ (C8_name_0 σ_8 3) fun _ σ_10 =>
  bi_ (C8_number_0 σ_10 (7 : Int32)) fun r_13 σ_12 =>
  bi_ (C8_option_0 σ_12 4 (99 : Int32) (50 : Int32)) fun r_16 σ_15 =>
  bi_ (C8_option_0 σ_15 5 (9 : Int32) (5 : Int32)) fun r_19 σ_18 =>
  gd_ (lf_ j_4 25) (
  bi_ (C6_begin_0 σ_18 j_4 x2 r_16 r_19 r_13) fun _ σ_21 =>
  bi_ (C8_option_0 σ_21 6 (99 : Int32) (50 : Int32)) fun r_25 σ_24 =>
  lt_ (wr_ σ_24 (34 + j_4) 3 r_25) fun σ_26 =>
  bi_ (C8_option_0 σ_26 7 (99 : Int32) (0 : Int32)) fun r_30 σ_29 =>
  lt_ (wr_ σ_29 (34 + j_4) 4 r_30) fun σ_31 =>
  some ((), σ_31))
set_option maxRecDepth 100000 in
theorem kC8_tellChild_3_0 {p : Program} {l : Launch} {e : Env} {s : State} {m : MethodId} {args : Array Value} {below : List Frame} {meth : Method} {c : Code} {D : va_G} {cy : Nat → ClassId} {a gs : Nat → Nat} (X : cx_ cX8_tellChild RX8 wsX8_tellChild 7 none 59 a D cy (xfC gs) p s m args meth c)   {σ' : Sg}  : ∀ (σ : Sg) (x2 : Int32) (H : Heap) (locs : List Loc) (ls : Array Slot), C8_tellChild_3_0 σ x2 = some ((), σ') → iv_ 59 a D (shC cy a σ) s H locs → lv_has ls 7 [(0, .ref (a 20)), (1, .ref (a 3)), (2, .int x2)] → W p l e ({ frames := 6, cells := 0, slots := 0, locals := 130 }) s m args below meth c H locs 0 0 (MQ below (qg_ 59 a D (shC cy a σ') none s.heap.size) args s 0 0 (fr_ 59 a s.heap.size)) (F0 m 0 ls []) := by
  obtain ⟨hx, hb, hr, hml, hown, hts, hlk, hK, hA, hXf⟩ := id X
  intro σ x2 H locs ls h I hl
  unfold C8_tellChild_3_0 at h
  refine lv_aload_n hx hb dX8_tellChild_0 rfl (lv_at hl 1 rfl) ?_
  obtain ⟨r_3, σ_2, hc_1, h⟩ := bi_of h
  refine cg_ (v := va_re (fun j => a (34 + j)) r_3) (rV_ (nn := 0) (As := []) (rest := []) X xkC I (c_C1_added_3 hc_1 H.size) gX8_tellChild_X1_added rfl ⟨rfl, rfl⟩ (by decide +kernel) ⟨Nat.le_of_ble_eq_true rfl, Nat.le_of_ble_eq_true rfl⟩ (by decide) shC_3 rfl rfl hl.1 rfl (Nat.le_of_ble_eq_true rfl) dX8_tellChild_1) I (fun H locs I => ?_)
  rcases r_3 with _ | j_4
  · have h := on_n h
    refine W.eq (g2 := F0 m 4 ls [.null]) rfl ?_
    refine lv_astore_nN (lv' := [(3, .null), (0, .ref (a 20)), (1, .ref (a 3)), (2, .int x2)]) hx hb dX8_tellChild_4 rfl hl (by decide) rfl (fun ls hl => ?_)
    refine lv_aload_nN hx hb dX8_tellChild_5 rfl (lv_at hl 0 rfl) ?_
    refine lv_ifnonnullN hx hb dX8_tellChild_6 ?_
    refine lv_aload_n hx hb dX8_tellChild_9 rfl (lv_at hl 1 rfl) ?_
    obtain ⟨_, σ_6, hc_5, h⟩ := bi_of h
    refine cv_ (rV_ (nn := 0) (As := []) (rest := []) X xkC I (c_C8_failHere hc_5 H.size) gX8_tellChild_X8_failHere rfl ⟨rfl, rfl⟩ (by decide +kernel) ⟨Nat.le_of_ble_eq_true rfl, Nat.le_of_ble_eq_true rfl⟩ (by decide) shC_20 rfl rfl hl.1 rfl (Nat.le_of_ble_eq_true rfl) dX8_tellChild_10) I (fun H locs I => ?_)
    obtain rfl := re_v h
    exact rtv_ X I dX8_tellChild_13
  · have h := on_s h
    refine W.eq (g2 := F0 m 4 ls [.ref (a (34 + j_4))]) rfl ?_
    refine lv_astore_n (lv' := [(3, .ref (a (34 + j_4))), (0, .ref (a 20)), (1, .ref (a 3)), (2, .int x2)]) hx hb dX8_tellChild_4 rfl hl (by decide) rfl (fun ls hl => ?_)
    refine lv_aload_n hx hb dX8_tellChild_5 rfl (lv_at hl 0 rfl) ?_
    refine lv_ifnonnull (tgt := 14) hx hb dX8_tellChild_6 (by decide) ?_
    refine lv_aload_n hx hb dX8_tellChild_14 rfl (lv_at hl 1 rfl) ?_
    obtain ⟨_, σ_8, hc_7, h⟩ := bi_of h
    refine cv_ (rV_ (nn := 0) (As := []) (rest := []) X xkC I (c_C8_step hc_7 H.size) gX8_tellChild_X8_step rfl ⟨rfl, rfl⟩ (by decide +kernel) ⟨Nat.le_of_ble_eq_true rfl, Nat.le_of_ble_eq_true rfl⟩ (by decide) shC_20 rfl rfl hl.1 rfl (Nat.le_of_ble_eq_true rfl) dX8_tellChild_15) I (fun H locs I => ?_)
    refine lv_aload_n hx hb dX8_tellChild_18 rfl (lv_at hl 1 rfl) ?_
    refine va_ldcS hx hb hown (xC_sr hXf 3 (by decide)) dX8_tellChild_19 ?_
    obtain ⟨_, σ_10, hc_9, h⟩ := bi_of h
    refine cv_ (rV_ (nn := 1) (As := [.ref (gs (2 + 3))]) (rest := []) X xkC I (c_C8_name hc_9 H.size) gX8_tellChild_X8_name rfl ⟨rfl, rfl⟩ (by decide +kernel) ⟨Nat.le_of_ble_eq_true rfl, Nat.le_of_ble_eq_true rfl⟩ (by decide) shC_20 rfl rfl hl.1 rfl (Nat.le_of_ble_eq_true rfl) dX8_tellChild_21) I (fun H locs I => ?_)
    refine lv_aload_n hx hb dX8_tellChild_24 rfl (lv_at hl 1 rfl) ?_
    refine lv_bipush (v := 7) hx hb dX8_tellChild_25 (by decide) ?_
    obtain ⟨r_13, σ_12, hc_11, h⟩ := bi_of h
    refine cg_ (v := .int r_13) (rV_ (nn := 1) (As := [.int (7 : Int32)]) (rest := []) X xkC I (c_C8_number hc_11 H.size) gX8_tellChild_X8_number rfl ⟨rfl, rfl⟩ (by decide +kernel) ⟨Nat.le_of_ble_eq_true rfl, Nat.le_of_ble_eq_true rfl⟩ (by decide) shC_20 rfl rfl hl.1 rfl (Nat.le_of_ble_eq_true rfl) dX8_tellChild_27) I (fun H locs I => ?_)
    refine lv_istore (lv' := [(4, .int r_13), (3, .ref (a (34 + j_4))), (0, .ref (a 20)), (1, .ref (a 3)), (2, .int x2)]) hx hb dX8_tellChild_30 hl (by decide) rfl (fun ls hl => ?_)
    refine lv_aload_n hx hb dX8_tellChild_32 rfl (lv_at hl 2 rfl) ?_
    refine va_ldcS hx hb hown (xC_sr hXf 4 (by decide)) dX8_tellChild_33 ?_
    refine lv_bipush (v := 99) hx hb dX8_tellChild_35 (by decide) ?_
    refine lv_bipush (v := 50) hx hb dX8_tellChild_37 (by decide) ?_
    obtain ⟨r_16, σ_15, hc_14, h⟩ := bi_of h
    refine cg_ (v := .int r_16) (rV_ (nn := 3) (As := [.ref (gs (2 + 4)), .int (99 : Int32), .int (50 : Int32)]) (rest := []) X xkC I (c_C8_option hc_14 H.size) gX8_tellChild_X8_option rfl ⟨rfl, rfl⟩ (by decide +kernel) ⟨Nat.le_of_ble_eq_true rfl, Nat.le_of_ble_eq_true rfl⟩ (by decide) shC_20 rfl rfl hl.1 rfl (Nat.le_of_ble_eq_true rfl) dX8_tellChild_39) I (fun H locs I => ?_)
    refine lv_istore (lv' := [(5, .int r_16), (4, .int r_13), (3, .ref (a (34 + j_4))), (0, .ref (a 20)), (1, .ref (a 3)), (2, .int x2)]) hx hb dX8_tellChild_42 hl (by decide) rfl (fun ls hl => ?_)
    refine lv_aload_n hx hb dX8_tellChild_44 rfl (lv_at hl 3 rfl) ?_
    refine va_ldcS hx hb hown (xC_sr hXf 5 (by decide)) dX8_tellChild_45 ?_
    refine lv_bipush (v := 9) hx hb dX8_tellChild_47 (by decide) ?_
    refine lv_iconst (v := 5) hx hb dX8_tellChild_49 (by decide) ?_
    obtain ⟨r_19, σ_18, hc_17, h⟩ := bi_of h
    refine cg_ (v := .int r_19) (rV_ (nn := 3) (As := [.ref (gs (2 + 5)), .int (9 : Int32), .int (5 : Int32)]) (rest := []) X xkC I (c_C8_option hc_17 H.size) gX8_tellChild_X8_option rfl ⟨rfl, rfl⟩ (by decide +kernel) ⟨Nat.le_of_ble_eq_true rfl, Nat.le_of_ble_eq_true rfl⟩ (by decide) shC_20 rfl rfl hl.1 rfl (Nat.le_of_ble_eq_true rfl) dX8_tellChild_50) I (fun H locs I => ?_)
    refine lv_istore (lv' := [(6, .int r_19), (5, .int r_16), (4, .int r_13), (3, .ref (a (34 + j_4))), (0, .ref (a 20)), (1, .ref (a 3)), (2, .int x2)]) hx hb dX8_tellChild_53 hl (by decide) rfl (fun ls hl => ?_)
    refine lv_aload_n hx hb dX8_tellChild_55 rfl (lv_at hl 3 rfl) ?_
    refine lv_iload_n hx hb dX8_tellChild_56 rfl (lv_at hl 6 rfl) ?_
    refine lv_iload hx hb dX8_tellChild_57 (lv_at hl 1 rfl) ?_
    refine lv_iload hx hb dX8_tellChild_59 (lv_at hl 0 rfl) ?_
    refine lv_iload hx hb dX8_tellChild_61 (lv_at hl 2 rfl) ?_
    obtain ⟨g_22, h⟩ := gd_of h
    obtain ⟨_, σ_21, hc_20, h⟩ := bi_of h
    refine cv_ (rV_ (nn := 4) (As := [.int x2, .int r_16, .int r_19, .int r_13]) (rest := []) X xkC I (c_C6_begin hc_20 H.size) gX8_tellChild_X6_begin rfl ⟨rfl, rfl⟩ (by decide +kernel) ⟨Nat.le_of_ble_eq_true rfl, Nat.le_of_ble_eq_true rfl⟩ (lf59 g_22) shC_L rfl rfl hl.1 rfl (Nat.le_of_ble_eq_true rfl) dX8_tellChild_63) I (fun H locs I => ?_)
    refine lv_aload_n hx hb dX8_tellChild_66 rfl (lv_at hl 3 rfl) ?_
    refine lv_aload_n hx hb dX8_tellChild_67 rfl (lv_at hl 4 rfl) ?_
    refine va_ldcS hx hb hown (xC_sr hXf 6 (by decide)) dX8_tellChild_68 ?_
    refine lv_bipush (v := 99) hx hb dX8_tellChild_70 (by decide) ?_
    refine lv_bipush (v := 50) hx hb dX8_tellChild_72 (by decide) ?_
    obtain ⟨r_25, σ_24, hc_23, h⟩ := bi_of h
    refine cg_ (v := .int r_25) (rV_ (nn := 3) (As := [.ref (gs (2 + 6)), .int (99 : Int32), .int (50 : Int32)]) (rest := [.ref (a (34 + j_4))]) X xkC I (c_C8_option hc_23 H.size) gX8_tellChild_X8_option rfl ⟨rfl, rfl⟩ (by decide +kernel) ⟨Nat.le_of_ble_eq_true rfl, Nat.le_of_ble_eq_true rfl⟩ (by decide) shC_20 rfl rfl hl.1 rfl (Nat.le_of_ble_eq_true rfl) dX8_tellChild_74) I (fun H locs I => ?_)
    refine ip_ (index := 111) (ty := .int) X I (fun _ q => List.mem_cons_of_mem _ (List.mem_append_left _ (List.mem_append_left _ (List.mem_append_right _ q)))) tyX6 tyX6_ok nmX6 (34 + j_4) (lf59 g_22) shC_L rfl 3 (by decide) (by decide +kernel) rfl rfl (by decide +kernel) rfl rfl (Nat.le_of_ble_eq_true rfl) shC_pl_3 dX8_tellChild_77 (fun σ_26 H locs e_27 I => ?_)
    have h := lt_at h e_27
    refine lv_aload_n hx hb dX8_tellChild_80 rfl (lv_at hl 3 rfl) ?_
    refine lv_aload_n hx hb dX8_tellChild_81 rfl (lv_at hl 4 rfl) ?_
    refine va_ldcS hx hb hown (xC_sr hXf 7 (by decide)) dX8_tellChild_82 ?_
    refine lv_bipush (v := 99) hx hb dX8_tellChild_84 (by decide) ?_
    refine lv_iconst (v := 0) hx hb dX8_tellChild_86 (by decide) ?_
    obtain ⟨r_30, σ_29, hc_28, h⟩ := bi_of h
    refine cg_ (v := .int r_30) (rV_ (nn := 3) (As := [.ref (gs (2 + 7)), .int (99 : Int32), .int (0 : Int32)]) (rest := [.ref (a (34 + j_4))]) X xkC I (c_C8_option hc_28 H.size) gX8_tellChild_X8_option rfl ⟨rfl, rfl⟩ (by decide +kernel) ⟨Nat.le_of_ble_eq_true rfl, Nat.le_of_ble_eq_true rfl⟩ (by decide) shC_20 rfl rfl hl.1 rfl (Nat.le_of_ble_eq_true rfl) dX8_tellChild_87) I (fun H locs I => ?_)
    refine ip_ (index := 115) (ty := .int) X I (fun _ q => List.mem_cons_of_mem _ (List.mem_append_left _ (List.mem_append_left _ (List.mem_append_right _ q)))) tyX6 tyX6_ok nmX6 (34 + j_4) (lf59 g_22) shC_L rfl 4 (by decide) (by decide +kernel) rfl rfl (by decide +kernel) rfl rfl (Nat.le_of_ble_eq_true rfl) shC_pl_4 dX8_tellChild_90 (fun σ_31 H locs e_32 I => ?_)
    have h := lt_at h e_32
    obtain rfl := re_v h
    exact rtv_ X I dX8_tellChild_93
theorem c_C8_tellChild_3 {l : Launch} {D : va_G} {cy : Nat → ClassId} {a gs : Nat → Nat} {σ : Sg} {x2 : Int32}  {σ' : Sg} (h : C8_tellChild_3_0 σ x2 = some ((), σ')) (sz : Nat) : Met l yX8_tellChild wsX8_tellChild ({ frames := 6, cells := 0, slots := 0, locals := 130 }) (va_Pc [.ref (a 20), .ref (a 3), .int x2] (pr_ 59 a D cy (shC cy a σ) (xfC gs) sz)) (qg_ 59 a D (shC cy a σ') none sz) 0 0 (fr_ 59 a sz) := by
  refine ent_ (by decide) rfl (Nat.le_of_ble_eq_true rfl) ?_
  intro p e s m below meth c ls hsz X I hl
  subst hsz
  exact kC8_tellChild_3_0 X σ x2 s.heap [] ls h I hl

def C8_semicolon_28  (σ : Sg)  : Option (Unit × Sg) :=
  bi_ (C8_failHere_0 σ) fun _ σ_2 =>
  some ((), σ_2)
set_option maxRecDepth 100000 in
theorem kC8_semicolon_28 {p : Program} {l : Launch} {e : Env} {s : State} {m : MethodId} {args : Array Value} {below : List Frame} {meth : Method} {c : Code} {D : va_G} {cy : Nat → ClassId} {a gs : Nat → Nat} (X : cx_ cX8_semicolon RX8 wsX8_semicolon 1 none 59 a D cy (xfC gs) p s m args meth c)   {σ' : Sg}  : ∀ (σ : Sg)  (H : Heap) (locs : List Loc) (ls : Array Slot), C8_semicolon_28 σ = some ((), σ') → iv_ 59 a D (shC cy a σ) s H locs → lv_has ls 1 [(0, .ref (a 20))] → W p l e ({ frames := 2, cells := 0, slots := 0, locals := 44 }) s m args below meth c H locs 0 0 (MQ below (qg_ 59 a D (shC cy a σ') none s.heap.size) args s 0 0 (fr_ 59 a s.heap.size)) (F0 m 28 ls []) := by
  obtain ⟨hx, hb, hr, hml, hown, hts, hlk, hK, hA, hXf⟩ := id X
  intro σ  H locs ls h I hl
  unfold C8_semicolon_28 at h
  refine lv_aload_n hx hb dX8_semicolon_28 rfl (lv_at hl 0 rfl) ?_
  obtain ⟨_, σ_2, hc_1, h⟩ := bi_of h
  refine cv_ (rV_ (nn := 0) (As := []) (rest := []) X xkC I (c_C8_failHere hc_1 H.size) gX8_semicolon_X8_failHere rfl ⟨rfl, rfl⟩ (by decide +kernel) ⟨Nat.le_of_ble_eq_true rfl, Nat.le_of_ble_eq_true rfl⟩ (by decide) shC_20 rfl rfl hl.1 rfl (Nat.le_of_ble_eq_true rfl) dX8_semicolon_29) I (fun H locs I => ?_)
  obtain rfl := re_v h
  exact rtv_ X I dX8_semicolon_32
def C8_semicolon_0  (σ : Sg)  : Option (Unit × Sg) :=
  if (rd_ σ 20 4) = (3 : Int32) then (bi_ (C8_byteAt_0 σ (rd_ σ 20 2)) fun r_4 σ_3 =>
  if r_4 = (59 : Int32) then (bi_ (C8_step_0 σ_3) fun _ σ_7 =>
  some ((), σ_7))
  else (C8_semicolon_28 σ_3))
  else (C8_semicolon_28 σ)
set_option maxRecDepth 100000 in
theorem kC8_semicolon_0 {p : Program} {l : Launch} {e : Env} {s : State} {m : MethodId} {args : Array Value} {below : List Frame} {meth : Method} {c : Code} {D : va_G} {cy : Nat → ClassId} {a gs : Nat → Nat} (X : cx_ cX8_semicolon RX8 wsX8_semicolon 1 none 59 a D cy (xfC gs) p s m args meth c)   {σ' : Sg}  : ∀ (σ : Sg)  (H : Heap) (locs : List Loc) (ls : Array Slot), C8_semicolon_0 σ = some ((), σ') → iv_ 59 a D (shC cy a σ) s H locs → lv_has ls 1 [(0, .ref (a 20))] → W p l e ({ frames := 2, cells := 0, slots := 0, locals := 44 }) s m args below meth c H locs 0 0 (MQ below (qg_ 59 a D (shC cy a σ') none s.heap.size) args s 0 0 (fr_ 59 a s.heap.size)) (F0 m 0 ls []) := by
  obtain ⟨hx, hb, hr, hml, hown, hts, hlk, hK, hA, hXf⟩ := id X
  intro σ  H locs ls h I hl
  unfold C8_semicolon_0 at h
  refine lv_aload_n hx hb dX8_semicolon_0 rfl (lv_at hl 0 rfl) ?_
  refine ig_ (index := 32) X I (fun _ q => List.mem_cons_of_mem _ (List.mem_append_right _ q)) 20 (by decide) shC_20 rfl 4 (by decide) (by decide +kernel) rfl (v := .int (rd_ σ 20 4)) rfl dX8_semicolon_1 ?_
  refine lv_iconst (v := 3) hx hb dX8_semicolon_4 (by decide) ?_
  refine lv_icmp_ne (tgt := 28) hx hb dX8_semicolon_5 (by decide) (fun c_1 => ?_) (fun c_1 => ?_)
  · have h := if_f h c_1
    exact kC8_semicolon_28 X  σ H locs ls h I (lv_sub hl [0] rfl)
  · have h := if_t h c_1
    refine lv_aload_n hx hb dX8_semicolon_8 rfl (lv_at hl 0 rfl) ?_
    refine lv_aload_n hx hb dX8_semicolon_9 rfl (lv_at hl 0 rfl) ?_
    refine ig_ (index := 137) X I (fun _ q => List.mem_cons_of_mem _ (List.mem_append_right _ q)) 20 (by decide) shC_20 rfl 2 (by decide) (by decide +kernel) rfl (v := .int (rd_ σ 20 2)) rfl dX8_semicolon_10 ?_
    obtain ⟨r_4, σ_3, hc_2, h⟩ := bi_of h
    refine cg_ (v := .int r_4) (rV_ (nn := 1) (As := [.int (rd_ σ 20 2)]) (rest := []) X xkC I (c_C8_byteAt hc_2 H.size) gX8_semicolon_X8_byteAt rfl ⟨rfl, rfl⟩ (by decide +kernel) ⟨Nat.le_of_ble_eq_true rfl, Nat.le_of_ble_eq_true rfl⟩ (by decide) shC_20 rfl rfl hl.1 rfl (Nat.le_of_ble_eq_true rfl) dX8_semicolon_13) I (fun H locs I => ?_)
    refine lv_bipush (v := 59) hx hb dX8_semicolon_16 (by decide) ?_
    refine lv_icmp_ne (tgt := 28) hx hb dX8_semicolon_18 (by decide) (fun c_5 => ?_) (fun c_5 => ?_)
    · have h := if_f h c_5
      exact kC8_semicolon_28 X  σ_3 H locs ls h I (lv_sub hl [0] rfl)
    · have h := if_t h c_5
      refine lv_aload_n hx hb dX8_semicolon_21 rfl (lv_at hl 0 rfl) ?_
      obtain ⟨_, σ_7, hc_6, h⟩ := bi_of h
      refine cv_ (rV_ (nn := 0) (As := []) (rest := []) X xkC I (c_C8_step hc_6 H.size) gX8_semicolon_X8_step rfl ⟨rfl, rfl⟩ (by decide +kernel) ⟨Nat.le_of_ble_eq_true rfl, Nat.le_of_ble_eq_true rfl⟩ (by decide) shC_20 rfl rfl hl.1 rfl (Nat.le_of_ble_eq_true rfl) dX8_semicolon_22) I (fun H locs I => ?_)
      refine lv_goto (tgt := 32) hx hb dX8_semicolon_25 (by decide) ?_
      obtain rfl := re_v h
      exact rtv_ X I dX8_semicolon_32
theorem c_C8_semicolon {l : Launch} {D : va_G} {cy : Nat → ClassId} {a gs : Nat → Nat} {σ : Sg}   {σ' : Sg} (h : C8_semicolon_0 σ  = some ((), σ')) (sz : Nat) : Met l yX8_semicolon wsX8_semicolon ({ frames := 2, cells := 0, slots := 0, locals := 44 }) (va_Pc [.ref (a 20)] (pr_ 59 a D cy (shC cy a σ) (xfC gs) sz)) (qg_ 59 a D (shC cy a σ') none sz) 0 0 (fr_ 59 a sz) := by
  refine ent_ (by decide) rfl (Nat.le_of_ble_eq_true rfl) ?_
  intro p e s m below meth c ls hsz X I hl
  subst hsz
  exact kC8_semicolon_0 X σ  s.heap [] ls h I hl

def C8_tellStatement_3_129  (σ : Sg)  : Option (Unit × Sg) :=
  bi_ (C8_semicolon_0 σ) fun _ σ_2 =>
  some ((), σ_2)
set_option maxRecDepth 100000 in
theorem kC8_tellStatement_3_129 {p : Program} {l : Launch} {e : Env} {s : State} {m : MethodId} {args : Array Value} {below : List Frame} {meth : Method} {c : Code} {D : va_G} {cy : Nat → ClassId} {a gs : Nat → Nat} (X : cx_ cX8_tellStatement RX8 wsX8_tellStatement 5 none 59 a D cy (xfC gs) p s m args meth c)   {σ' : Sg}  : ∀ (σ : Sg)  (H : Heap) (locs : List Loc) (ls : Array Slot), C8_tellStatement_3_129 σ = some ((), σ') → iv_ 59 a D (shC cy a σ) s H locs → lv_has ls 5 [(0, .ref (a 20))] → W p l e ({ frames := 7, cells := 0, slots := 0, locals := 156 }) s m args below meth c H locs 0 0 (MQ below (qg_ 59 a D (shC cy a σ') none s.heap.size) args s 0 0 (fr_ 59 a s.heap.size)) (F0 m 129 ls []) := by
  obtain ⟨hx, hb, hr, hml, hown, hts, hlk, hK, hA, hXf⟩ := id X
  intro σ  H locs ls h I hl
  unfold C8_tellStatement_3_129 at h
  refine lv_aload_n hx hb dX8_tellStatement_129 rfl (lv_at hl 0 rfl) ?_
  obtain ⟨_, σ_2, hc_1, h⟩ := bi_of h
  refine cv_ (rV_ (nn := 0) (As := []) (rest := []) X xkC I (c_C8_semicolon hc_1 H.size) gX8_tellStatement_X8_semicolon rfl ⟨rfl, rfl⟩ (by decide +kernel) ⟨Nat.le_of_ble_eq_true rfl, Nat.le_of_ble_eq_true rfl⟩ (by decide) shC_20 rfl rfl hl.1 rfl (Nat.le_of_ble_eq_true rfl) dX8_tellStatement_130) I (fun H locs I => ?_)
  obtain rfl := re_v h
  exact rtv_ X I dX8_tellStatement_133
def C8_tellStatement_3_0  (σ : Sg)  : Option (Unit × Sg) :=
  bi_ (C8_kindTold_0 σ) fun r_3 σ_2 =>
  bi_ (C8_lawTold_0 σ_2) fun r_6 σ_5 =>
  if r_3 < 0 then (if r_6 < 0 then (bi_ (C8_isName_0 σ_5 0) fun r_11 σ_10 =>
  if r_11 = 0 then (bi_ (C8_isName_0 σ_10 2) fun r_15 σ_14 =>
  if r_15 = 0 then (bi_ (C8_failHere_0 σ_14) fun _ σ_18 =>
  C8_tellStatement_3_129 σ_18)
  else (bi_ (C8_step_0 σ_14) fun _ σ_20 =>
  bi_ (C8_number_0 σ_20 (7 : Int32)) fun r_23 σ_22 =>
  lt_ (wr_ σ_22 3 2 ((rd_ σ_20 3 2) ||| ((1 : Int32) <<< (r_23 &&& 31)))) fun σ_24 =>
  C8_tellStatement_3_129 σ_24))
  else (bi_ (C8_step_0 σ_10) fun _ σ_27 =>
  bi_ (C8_number_0 σ_27 (7 : Int32)) fun r_30 σ_29 =>
  bi_ (C8_name_0 σ_29 1) fun _ σ_32 =>
  bi_ (C8_number_0 σ_32 (99 : Int32)) fun r_35 σ_34 =>
  gd_ (in_ r_30 8) (
  lt_ (wr_ σ_34 9 r_30.toNatClampNeg r_35) fun σ_36 =>
  C8_tellStatement_3_129 σ_36)))
  else (bi_ (C8_step_0 σ_5) fun _ σ_40 =>
  gd_ (in_ r_6 4) (
  bi_ (C8_number_0 σ_40 (lmA r_6.toNatClampNeg)) fun r_44 σ_43 =>
  gd_ (in_ r_6 4) (
  lt_ (wr_ σ_43 6 r_6.toNatClampNeg r_44) fun σ_45 =>
  C8_tellStatement_3_129 σ_45))))
  else (bi_ (C8_tellChild_3_0 σ_5 r_3) fun _ σ_49 =>
  C8_tellStatement_3_129 σ_49)
set_option maxRecDepth 100000 in
theorem kC8_tellStatement_3_0 {p : Program} {l : Launch} {e : Env} {s : State} {m : MethodId} {args : Array Value} {below : List Frame} {meth : Method} {c : Code} {D : va_G} {cy : Nat → ClassId} {a gs : Nat → Nat} (X : cx_ cX8_tellStatement RX8 wsX8_tellStatement 5 none 59 a D cy (xfC gs) p s m args meth c)   {σ' : Sg}  : ∀ (σ : Sg)  (H : Heap) (locs : List Loc) (ls : Array Slot), C8_tellStatement_3_0 σ = some ((), σ') → iv_ 59 a D (shC cy a σ) s H locs → lv_has ls 5 [(0, .ref (a 20)), (1, .ref (a 3))] → W p l e ({ frames := 7, cells := 0, slots := 0, locals := 156 }) s m args below meth c H locs 0 0 (MQ below (qg_ 59 a D (shC cy a σ') none s.heap.size) args s 0 0 (fr_ 59 a s.heap.size)) (F0 m 0 ls []) := by
  obtain ⟨hx, hb, hr, hml, hown, hts, hlk, hK, hA, hXf⟩ := id X
  intro σ  H locs ls h I hl
  unfold C8_tellStatement_3_0 at h
  refine lv_aload_n hx hb dX8_tellStatement_0 rfl (lv_at hl 0 rfl) ?_
  obtain ⟨r_3, σ_2, hc_1, h⟩ := bi_of h
  refine cg_ (v := .int r_3) (rV_ (nn := 0) (As := []) (rest := []) X xkC I (c_C8_kindTold hc_1 H.size) gX8_tellStatement_X8_kindTold rfl ⟨rfl, rfl⟩ (by decide +kernel) ⟨Nat.le_of_ble_eq_true rfl, Nat.le_of_ble_eq_true rfl⟩ (by decide) shC_20 rfl rfl hl.1 rfl (Nat.le_of_ble_eq_true rfl) dX8_tellStatement_1) I (fun H locs I => ?_)
  refine lv_istore_n (lv' := [(2, .int r_3), (0, .ref (a 20)), (1, .ref (a 3))]) hx hb dX8_tellStatement_4 rfl hl (by decide) rfl (fun ls hl => ?_)
  refine lv_aload_n hx hb dX8_tellStatement_5 rfl (lv_at hl 1 rfl) ?_
  obtain ⟨r_6, σ_5, hc_4, h⟩ := bi_of h
  refine cg_ (v := .int r_6) (rV_ (nn := 0) (As := []) (rest := []) X xkC I (c_C8_lawTold hc_4 H.size) gX8_tellStatement_X8_lawTold rfl ⟨rfl, rfl⟩ (by decide +kernel) ⟨Nat.le_of_ble_eq_true rfl, Nat.le_of_ble_eq_true rfl⟩ (by decide) shC_20 rfl rfl hl.1 rfl (Nat.le_of_ble_eq_true rfl) dX8_tellStatement_6) I (fun H locs I => ?_)
  refine lv_istore_n (lv' := [(3, .int r_6), (2, .int r_3), (0, .ref (a 20)), (1, .ref (a 3))]) hx hb dX8_tellStatement_9 rfl hl (by decide) rfl (fun ls hl => ?_)
  refine lv_iload_n hx hb dX8_tellStatement_10 rfl (lv_at hl 1 rfl) ?_
  refine lv_if_lt (tgt := 23) hx hb dX8_tellStatement_11 (by decide) (fun c_7 => ?_) (fun c_7 => ?_)
  · have h := if_t h c_7
    refine lv_iload_n hx hb dX8_tellStatement_23 rfl (lv_at hl 0 rfl) ?_
    refine lv_if_lt (tgt := 49) hx hb dX8_tellStatement_24 (by decide) (fun c_8 => ?_) (fun c_8 => ?_)
    · have h := if_t h c_8
      refine lv_aload_n hx hb dX8_tellStatement_49 rfl (lv_at hl 2 rfl) ?_
      refine va_ldcS hx hb hown (xC_sr hXf 0 (by decide)) dX8_tellStatement_50 ?_
      obtain ⟨r_11, σ_10, hc_9, h⟩ := bi_of h
      refine cg_ (v := .int r_11) (rV_ (nn := 1) (As := [.ref (gs (2 + 0))]) (rest := []) X xkC I (c_C8_isName hc_9 H.size) gX8_tellStatement_X8_isName rfl ⟨rfl, rfl⟩ (by decide +kernel) ⟨Nat.le_of_ble_eq_true rfl, Nat.le_of_ble_eq_true rfl⟩ (by decide) shC_20 rfl rfl hl.1 rfl (Nat.le_of_ble_eq_true rfl) dX8_tellStatement_52) I (fun H locs I => ?_)
      refine lv_if_eq (tgt := 92) hx hb dX8_tellStatement_55 (by decide) (fun c_12 => ?_) (fun c_12 => ?_)
      · have h := if_t h c_12
        refine lv_aload_n hx hb dX8_tellStatement_92 rfl (lv_at hl 2 rfl) ?_
        refine va_ldcS hx hb hown (xC_sr hXf 2 (by decide)) dX8_tellStatement_93 ?_
        obtain ⟨r_15, σ_14, hc_13, h⟩ := bi_of h
        refine cg_ (v := .int r_15) (rV_ (nn := 1) (As := [.ref (gs (2 + 2))]) (rest := []) X xkC I (c_C8_isName hc_13 H.size) gX8_tellStatement_X8_isName rfl ⟨rfl, rfl⟩ (by decide +kernel) ⟨Nat.le_of_ble_eq_true rfl, Nat.le_of_ble_eq_true rfl⟩ (by decide) shC_20 rfl rfl hl.1 rfl (Nat.le_of_ble_eq_true rfl) dX8_tellStatement_95) I (fun H locs I => ?_)
        refine lv_if_eq (tgt := 125) hx hb dX8_tellStatement_98 (by decide) (fun c_16 => ?_) (fun c_16 => ?_)
        · have h := if_t h c_16
          refine lv_aload_n hx hb dX8_tellStatement_125 rfl (lv_at hl 2 rfl) ?_
          obtain ⟨_, σ_18, hc_17, h⟩ := bi_of h
          refine cv_ (rV_ (nn := 0) (As := []) (rest := []) X xkC I (c_C8_failHere hc_17 H.size) gX8_tellStatement_X8_failHere rfl ⟨rfl, rfl⟩ (by decide +kernel) ⟨Nat.le_of_ble_eq_true rfl, Nat.le_of_ble_eq_true rfl⟩ (by decide) shC_20 rfl rfl hl.1 rfl (Nat.le_of_ble_eq_true rfl) dX8_tellStatement_126) I (fun H locs I => ?_)
          exact kC8_tellStatement_3_129 X  σ_18 H locs ls h I (lv_sub hl [2] rfl)
        · have h := if_f h c_16
          refine lv_aload_n hx hb dX8_tellStatement_101 rfl (lv_at hl 2 rfl) ?_
          obtain ⟨_, σ_20, hc_19, h⟩ := bi_of h
          refine cv_ (rV_ (nn := 0) (As := []) (rest := []) X xkC I (c_C8_step hc_19 H.size) gX8_tellStatement_X8_step rfl ⟨rfl, rfl⟩ (by decide +kernel) ⟨Nat.le_of_ble_eq_true rfl, Nat.le_of_ble_eq_true rfl⟩ (by decide) shC_20 rfl rfl hl.1 rfl (Nat.le_of_ble_eq_true rfl) dX8_tellStatement_102) I (fun H locs I => ?_)
          refine lv_aload_n hx hb dX8_tellStatement_105 rfl (lv_at hl 3 rfl) ?_
          refine lv_dup hx hb dX8_tellStatement_106 rfl ?_
          refine ig_ (index := 80) X I (fun _ q => List.mem_cons_of_mem _ (List.mem_append_left _ (List.mem_append_left _ (List.mem_append_right _ q)))) 3 (by decide) shC_3 rfl 2 (by decide) (by decide +kernel) rfl (v := .int (rd_ σ_20 3 2)) rfl dX8_tellStatement_107 ?_
          refine lv_iconst (v := 1) hx hb dX8_tellStatement_110 (by decide) ?_
          refine lv_aload_n hx hb dX8_tellStatement_111 rfl (lv_at hl 2 rfl) ?_
          refine lv_bipush (v := 7) hx hb dX8_tellStatement_112 (by decide) ?_
          obtain ⟨r_23, σ_22, hc_21, h⟩ := bi_of h
          refine cg_ (v := .int r_23) (rV_ (nn := 1) (As := [.int (7 : Int32)]) (rest := [.int (1 : Int32), .int (rd_ σ_20 3 2), .ref (a 3)]) X xkC I (c_C8_number hc_21 H.size) gX8_tellStatement_X8_number rfl ⟨rfl, rfl⟩ (by decide +kernel) ⟨Nat.le_of_ble_eq_true rfl, Nat.le_of_ble_eq_true rfl⟩ (by decide) shC_20 rfl rfl hl.1 rfl (Nat.le_of_ble_eq_true rfl) dX8_tellStatement_114) I (fun H locs I => ?_)
          refine lv_ishl hx hb dX8_tellStatement_117 ?_
          refine lv_ior hx hb dX8_tellStatement_118 ?_
          refine ip_ (index := 80) (ty := .int) X I (fun _ q => List.mem_cons_of_mem _ (List.mem_append_left _ (List.mem_append_left _ (List.mem_append_right _ q)))) tyX1 tyX1_ok nmX1 3 (by decide) shC_3 rfl 2 (by decide) (by decide +kernel) rfl rfl (by decide +kernel) rfl rfl (Nat.le_of_ble_eq_true rfl) shC_pt_3_2 dX8_tellStatement_119 (fun σ_24 H locs e_25 I => ?_)
          have h := lt_at h e_25
          refine lv_goto (tgt := 129) hx hb dX8_tellStatement_122 (by decide) ?_
          exact kC8_tellStatement_3_129 X  σ_24 H locs ls h I (lv_sub hl [2] rfl)
      · have h := if_f h c_12
        refine lv_aload_n hx hb dX8_tellStatement_58 rfl (lv_at hl 2 rfl) ?_
        obtain ⟨_, σ_27, hc_26, h⟩ := bi_of h
        refine cv_ (rV_ (nn := 0) (As := []) (rest := []) X xkC I (c_C8_step hc_26 H.size) gX8_tellStatement_X8_step rfl ⟨rfl, rfl⟩ (by decide +kernel) ⟨Nat.le_of_ble_eq_true rfl, Nat.le_of_ble_eq_true rfl⟩ (by decide) shC_20 rfl rfl hl.1 rfl (Nat.le_of_ble_eq_true rfl) dX8_tellStatement_59) I (fun H locs I => ?_)
        refine lv_aload_n hx hb dX8_tellStatement_62 rfl (lv_at hl 2 rfl) ?_
        refine lv_bipush (v := 7) hx hb dX8_tellStatement_63 (by decide) ?_
        obtain ⟨r_30, σ_29, hc_28, h⟩ := bi_of h
        refine cg_ (v := .int r_30) (rV_ (nn := 1) (As := [.int (7 : Int32)]) (rest := []) X xkC I (c_C8_number hc_28 H.size) gX8_tellStatement_X8_number rfl ⟨rfl, rfl⟩ (by decide +kernel) ⟨Nat.le_of_ble_eq_true rfl, Nat.le_of_ble_eq_true rfl⟩ (by decide) shC_20 rfl rfl hl.1 rfl (Nat.le_of_ble_eq_true rfl) dX8_tellStatement_65) I (fun H locs I => ?_)
        refine lv_istore (lv' := [(4, .int r_30), (3, .int r_6), (2, .int r_3), (0, .ref (a 20)), (1, .ref (a 3))]) hx hb dX8_tellStatement_68 hl (by decide) rfl (fun ls hl => ?_)
        refine lv_aload_n hx hb dX8_tellStatement_70 rfl (lv_at hl 3 rfl) ?_
        refine va_ldcS hx hb hown (xC_sr hXf 1 (by decide)) dX8_tellStatement_71 ?_
        obtain ⟨_, σ_32, hc_31, h⟩ := bi_of h
        refine cv_ (rV_ (nn := 1) (As := [.ref (gs (2 + 1))]) (rest := []) X xkC I (c_C8_name hc_31 H.size) gX8_tellStatement_X8_name rfl ⟨rfl, rfl⟩ (by decide +kernel) ⟨Nat.le_of_ble_eq_true rfl, Nat.le_of_ble_eq_true rfl⟩ (by decide) shC_20 rfl rfl hl.1 rfl (Nat.le_of_ble_eq_true rfl) dX8_tellStatement_73) I (fun H locs I => ?_)
        refine lv_aload_n hx hb dX8_tellStatement_76 rfl (lv_at hl 4 rfl) ?_
        refine ig_ (index := 75) X I (fun _ q => List.mem_cons_of_mem _ (List.mem_append_left _ (List.mem_append_left _ (List.mem_append_right _ q)))) 3 (by decide) shC_3 rfl 1 (by decide) (by decide +kernel) rfl (v := .ref (a 9)) rfl dX8_tellStatement_77 ?_
        refine lv_iload hx hb dX8_tellStatement_80 (lv_at hl 0 rfl) ?_
        refine lv_aload_n hx hb dX8_tellStatement_82 rfl (lv_at hl 3 rfl) ?_
        refine lv_bipush (v := 99) hx hb dX8_tellStatement_83 (by decide) ?_
        obtain ⟨r_35, σ_34, hc_33, h⟩ := bi_of h
        refine cg_ (v := .int r_35) (rV_ (nn := 1) (As := [.int (99 : Int32)]) (rest := [.int r_30, .ref (a 9)]) X xkC I (c_C8_number hc_33 H.size) gX8_tellStatement_X8_number rfl ⟨rfl, rfl⟩ (by decide +kernel) ⟨Nat.le_of_ble_eq_true rfl, Nat.le_of_ble_eq_true rfl⟩ (by decide) shC_20 rfl rfl hl.1 rfl (Nat.le_of_ble_eq_true rfl) dX8_tellStatement_85) I (fun H locs I => ?_)
        obtain ⟨g_38, h⟩ := gd_of h
        refine is_ (σ2 := wr_ σ_34 9 r_30.toNatClampNeg r_35) X I 9 (by decide) shC_9 (in_of g_38) shC_st_9 dX8_tellStatement_88 (fun σ_36 H locs e_37 I => ?_)
        have h := lt_at h e_37
        refine lv_goto (tgt := 129) hx hb dX8_tellStatement_89 (by decide) ?_
        exact kC8_tellStatement_3_129 X  σ_36 H locs ls h I (lv_sub hl [3] rfl)
    · have h := if_f h c_8
      refine lv_aload_n hx hb dX8_tellStatement_27 rfl (lv_at hl 2 rfl) ?_
      obtain ⟨_, σ_40, hc_39, h⟩ := bi_of h
      refine cv_ (rV_ (nn := 0) (As := []) (rest := []) X xkC I (c_C8_step hc_39 H.size) gX8_tellStatement_X8_step rfl ⟨rfl, rfl⟩ (by decide +kernel) ⟨Nat.le_of_ble_eq_true rfl, Nat.le_of_ble_eq_true rfl⟩ (by decide) shC_20 rfl rfl hl.1 rfl (Nat.le_of_ble_eq_true rfl) dX8_tellStatement_28) I (fun H locs I => ?_)
      refine lv_aload_n hx hb dX8_tellStatement_31 rfl (lv_at hl 3 rfl) ?_
      refine ig_ (index := 50) X I (fun _ q => List.mem_cons_of_mem _ (List.mem_append_left _ (List.mem_append_left _ (List.mem_append_right _ q)))) 3 (by decide) shC_3 rfl 0 (by decide) (by decide +kernel) rfl (v := .ref (a 6)) rfl dX8_tellStatement_32 ?_
      refine lv_iload_n hx hb dX8_tellStatement_35 rfl (lv_at hl 0 rfl) ?_
      refine lv_aload_n hx hb dX8_tellStatement_36 rfl (lv_at hl 2 rfl) ?_
      refine va_getsN hx hb (xC_mz hXf) I.2 hown (va_Nw.use rfl (xC_nf8 hXf)) (fun _ q => q) dX8_tellStatement_37 ?_
      refine lv_iload_n hx hb dX8_tellStatement_40 rfl (lv_at hl 0 rfl) ?_
      obtain ⟨g_41, h⟩ := gd_of h
      refine va_ti hx hb (xC_mt hXf) I.2 (in_of g_41) (v := .int (lmA r_6.toNatClampNeg)) rfl dX8_tellStatement_41 ?_
      obtain ⟨r_44, σ_43, hc_42, h⟩ := bi_of h
      refine cg_ (v := .int r_44) (rV_ (nn := 1) (As := [.int (lmA r_6.toNatClampNeg)]) (rest := [.int r_6, .ref (a 6)]) X xkC I (c_C8_number hc_42 H.size) gX8_tellStatement_X8_number rfl ⟨rfl, rfl⟩ (by decide +kernel) ⟨Nat.le_of_ble_eq_true rfl, Nat.le_of_ble_eq_true rfl⟩ (by decide) shC_20 rfl rfl hl.1 rfl (Nat.le_of_ble_eq_true rfl) dX8_tellStatement_42) I (fun H locs I => ?_)
      obtain ⟨g_47, h⟩ := gd_of h
      refine is_ (σ2 := wr_ σ_43 6 r_6.toNatClampNeg r_44) X I 6 (by decide) shC_6 (in_of g_47) shC_st_6 dX8_tellStatement_45 (fun σ_45 H locs e_46 I => ?_)
      have h := lt_at h e_46
      refine lv_goto (tgt := 129) hx hb dX8_tellStatement_46 (by decide) ?_
      exact kC8_tellStatement_3_129 X  σ_45 H locs ls h I (lv_sub hl [2] rfl)
  · have h := if_f h c_7
    refine lv_aload_n hx hb dX8_tellStatement_14 rfl (lv_at hl 2 rfl) ?_
    refine lv_aload_n hx hb dX8_tellStatement_15 rfl (lv_at hl 3 rfl) ?_
    refine lv_iload_n hx hb dX8_tellStatement_16 rfl (lv_at hl 1 rfl) ?_
    obtain ⟨_, σ_49, hc_48, h⟩ := bi_of h
    refine cv_ (rV_ (nn := 2) (As := [.ref (a 3), .int r_3]) (rest := []) X xkC I (c_C8_tellChild_3 hc_48 H.size) gX8_tellStatement_X8_tellChild rfl ⟨rfl, rfl⟩ (by decide +kernel) ⟨Nat.le_of_ble_eq_true rfl, Nat.le_of_ble_eq_true rfl⟩ (by decide) shC_20 rfl rfl hl.1 rfl (Nat.le_of_ble_eq_true rfl) dX8_tellStatement_17) I (fun H locs I => ?_)
    refine lv_goto (tgt := 129) hx hb dX8_tellStatement_20 (by decide) ?_
    exact kC8_tellStatement_3_129 X  σ_49 H locs ls h I (lv_sub hl [2] rfl)
theorem c_C8_tellStatement_3 {l : Launch} {D : va_G} {cy : Nat → ClassId} {a gs : Nat → Nat} {σ : Sg}   {σ' : Sg} (h : C8_tellStatement_3_0 σ  = some ((), σ')) (sz : Nat) : Met l yX8_tellStatement wsX8_tellStatement ({ frames := 7, cells := 0, slots := 0, locals := 156 }) (va_Pc [.ref (a 20), .ref (a 3)] (pr_ 59 a D cy (shC cy a σ) (xfC gs) sz)) (qg_ 59 a D (shC cy a σ') none sz) 0 0 (fr_ 59 a sz) := by
  refine ent_ (by decide) rfl (Nat.le_of_ble_eq_true rfl) ?_
  intro p e s m below meth c ls hsz X I hl
  subst hsz
  exact kC8_tellStatement_3_0 X σ  s.heap [] ls h I hl

def C8_tells_3_16 (k16 : Sg → Int32 → Option (Int32 × Sg)) (σ : Sg) (x2 : Int32) : Option (Int32 × Sg) :=
  if (200 : Int32) < x2 then (some ((rd_ σ 20 5), σ))
  else (if 0 ≤ (rd_ σ 20 5) then (some ((rd_ σ 20 5), σ))
  else (if (rd_ σ 20 4) = 0 then (some ((rd_ σ 20 5), σ))
  else (bi_ (C8_tellStatement_3_0 σ) fun _ σ_5 =>
  lt_ (x2 + (1 : Int32)) fun y_6 =>
  k16 σ_5 y_6)))
set_option maxRecDepth 100000 in
theorem kC8_tells_3_16 {p : Program} {l : Launch} {e : Env} {s : State} {m : MethodId} {args : Array Value} {below : List Frame} {meth : Method} {c : Code} {D : va_G} {cy : Nat → ClassId} {a gs : Nat → Nat} (X : cx_ cX8_tells RX8 wsX8_tells 3 (some .int) 59 a D cy (xfC gs) p s m args meth c) {k16 : Sg → Int32 → Option (Int32 × Sg)} {r0 : Int32} {σ' : Sg} (hk16 : ∀ (σ : Sg) (x2 : Int32) (H : Heap) (locs : List Loc) (ls : Array Slot), k16 σ x2 = some (r0, σ') → iv_ 59 a D (shC cy a σ) s H locs → lv_has ls 3 [(0, .ref (a 20)), (1, .ref (a 3)), (2, .int x2)] → W p l e ({ frames := 8, cells := 0, slots := 0, locals := 180 }) s m args below meth c H locs 0 0 (MQ below (qg_ 59 a D (shC cy a σ') (some (.int r0)) s.heap.size) args s 0 0 (fr_ 59 a s.heap.size)) (F0 m 16 ls [])) : ∀ (σ : Sg) (x2 : Int32) (H : Heap) (locs : List Loc) (ls : Array Slot), C8_tells_3_16 k16 σ x2 = some (r0, σ') → iv_ 59 a D (shC cy a σ) s H locs → lv_has ls 3 [(0, .ref (a 20)), (1, .ref (a 3)), (2, .int x2)] → W p l e ({ frames := 8, cells := 0, slots := 0, locals := 180 }) s m args below meth c H locs 0 0 (MQ below (qg_ 59 a D (shC cy a σ') (some (.int r0)) s.heap.size) args s 0 0 (fr_ 59 a s.heap.size)) (F0 m 16 ls []) := by
  obtain ⟨hx, hb, hr, hml, hown, hts, hlk, hK, hA, hXf⟩ := id X
  intro σ x2 H locs ls h I hl
  unfold C8_tells_3_16 at h
  refine lv_iload_n hx hb dX8_tells_16 rfl (lv_at hl 2 rfl) ?_
  refine lv_sipush (v := 200) hx hb dX8_tells_17 (by decide) ?_
  refine lv_icmp_gt (tgt := 48) hx hb dX8_tells_20 (by decide) (fun c_1 => ?_) (fun c_1 => ?_)
  · have h := if_t h c_1
    refine lv_aload_n hx hb dX8_tells_48 rfl (lv_at hl 0 rfl) ?_
    refine ig_ (index := 26) X I (fun _ q => List.mem_cons_of_mem _ (List.mem_append_left _ (List.mem_append_left _ (List.mem_append_right _ q)))) 20 (by decide) shC_20 rfl 5 (by decide) (by decide +kernel) rfl (v := .int (rd_ σ 20 5)) rfl dX8_tells_49 ?_
    obtain ⟨rfl, rfl⟩ := re_s h
    exact rti_ X I dX8_tells_52
  · have h := if_f h c_1
    refine lv_aload_n hx hb dX8_tells_23 rfl (lv_at hl 0 rfl) ?_
    refine ig_ (index := 26) X I (fun _ q => List.mem_cons_of_mem _ (List.mem_append_left _ (List.mem_append_left _ (List.mem_append_right _ q)))) 20 (by decide) shC_20 rfl 5 (by decide) (by decide +kernel) rfl (v := .int (rd_ σ 20 5)) rfl dX8_tells_24 ?_
    refine lv_if_ge (tgt := 48) hx hb dX8_tells_27 (by decide) (fun c_2 => ?_) (fun c_2 => ?_)
    · have h := if_t h c_2
      refine lv_aload_n hx hb dX8_tells_48 rfl (lv_at hl 0 rfl) ?_
      refine ig_ (index := 26) X I (fun _ q => List.mem_cons_of_mem _ (List.mem_append_left _ (List.mem_append_left _ (List.mem_append_right _ q)))) 20 (by decide) shC_20 rfl 5 (by decide) (by decide +kernel) rfl (v := .int (rd_ σ 20 5)) rfl dX8_tells_49 ?_
      obtain ⟨rfl, rfl⟩ := re_s h
      exact rti_ X I dX8_tells_52
    · have h := if_f h c_2
      refine lv_aload_n hx hb dX8_tells_30 rfl (lv_at hl 0 rfl) ?_
      refine ig_ (index := 32) X I (fun _ q => List.mem_cons_of_mem _ (List.mem_append_left _ (List.mem_append_left _ (List.mem_append_right _ q)))) 20 (by decide) shC_20 rfl 4 (by decide) (by decide +kernel) rfl (v := .int (rd_ σ 20 4)) rfl dX8_tells_31 ?_
      refine lv_if_eq (tgt := 48) hx hb dX8_tells_34 (by decide) (fun c_3 => ?_) (fun c_3 => ?_)
      · have h := if_t h c_3
        refine lv_aload_n hx hb dX8_tells_48 rfl (lv_at hl 0 rfl) ?_
        refine ig_ (index := 26) X I (fun _ q => List.mem_cons_of_mem _ (List.mem_append_left _ (List.mem_append_left _ (List.mem_append_right _ q)))) 20 (by decide) shC_20 rfl 5 (by decide) (by decide +kernel) rfl (v := .int (rd_ σ 20 5)) rfl dX8_tells_49 ?_
        obtain ⟨rfl, rfl⟩ := re_s h
        exact rti_ X I dX8_tells_52
      · have h := if_f h c_3
        refine lv_aload_n hx hb dX8_tells_37 rfl (lv_at hl 0 rfl) ?_
        refine lv_aload_n hx hb dX8_tells_38 rfl (lv_at hl 1 rfl) ?_
        obtain ⟨_, σ_5, hc_4, h⟩ := bi_of h
        refine cv_ (rV_ (nn := 1) (As := [.ref (a 3)]) (rest := []) X xkC I (c_C8_tellStatement_3 hc_4 H.size) gX8_tells_X8_tellStatement rfl ⟨rfl, rfl⟩ (by decide +kernel) ⟨Nat.le_of_ble_eq_true rfl, Nat.le_of_ble_eq_true rfl⟩ (by decide) shC_20 rfl rfl hl.1 rfl (Nat.le_of_ble_eq_true rfl) dX8_tells_39) I (fun H locs I => ?_)
        obtain ⟨y_6, e_7⟩ : ∃ q : Int32, q = x2 + (1 : Int32) := ⟨_, rfl⟩
        have h := lt_at h e_7
        refine lv_iinc (v := y_6) (lv' := [(2, .int y_6), (0, .ref (a 20)), (1, .ref (a 3))]) hx hb dX8_tells_42 hl (k := 2) rfl (by rw [e_7]; rfl) (by decide) rfl (fun ls hl => ?_)
        refine lv_goto (tgt := 16) hx hb dX8_tells_45 (by decide) ?_
        exact hk16 σ_5 y_6 H locs ls h I (lv_sub hl [1, 2, 0] rfl)
set_option maxRecDepth 100000 in
theorem kC8_tells_3_16L {p : Program} {l : Launch} {e : Env} {s : State} {m : MethodId} {args : Array Value} {below : List Frame} {meth : Method} {c : Code} {D : va_G} {cy : Nat → ClassId} {a gs : Nat → Nat} (X : cx_ cX8_tells RX8 wsX8_tells 3 (some .int) 59 a D cy (xfC gs) p s m args meth c)  {r0 : Int32} {σ' : Sg}  : ∀ (n : Nat), ∀ (σ : Sg) (x2 : Int32) (H : Heap) (locs : List Loc) (ls : Array Slot), lp_ (C8_tells_3_16) (fun _ _ => none) n σ x2 = some (r0, σ') → iv_ 59 a D (shC cy a σ) s H locs → lv_has ls 3 [(0, .ref (a 20)), (1, .ref (a 3)), (2, .int x2)] → W p l e ({ frames := 8, cells := 0, slots := 0, locals := 180 }) s m args below meth c H locs 0 0 (MQ below (qg_ 59 a D (shC cy a σ') (some (.int r0)) s.heap.size) args s 0 0 (fr_ 59 a s.heap.size)) (F0 m 16 ls []) := by
  intro n
  induction n with
  | zero =>
    intro _ _ _ _ _ h
    exact absurd h (fun q => by cases (show (none : Option _) = some _ from q))
  | succ n ih => exact kC8_tells_3_16 X ih

def C8_tells_3_0  (σ : Sg)  : Option (Int32 × Sg) :=
  lt_ (wr_ σ 20 3 (0 : Int32)) fun σ_1 =>
  lt_ (wr_ σ_1 20 5 (-1 : Int32)) fun σ_3 =>
  bi_ (C8_step_0 σ_3) fun _ σ_6 =>
  lp_ C8_tells_3_16 (fun _ _ => none) FU σ_6 (0 : Int32)
set_option maxRecDepth 100000 in
theorem kC8_tells_3_0 {p : Program} {l : Launch} {e : Env} {s : State} {m : MethodId} {args : Array Value} {below : List Frame} {meth : Method} {c : Code} {D : va_G} {cy : Nat → ClassId} {a gs : Nat → Nat} (X : cx_ cX8_tells RX8 wsX8_tells 3 (some .int) 59 a D cy (xfC gs) p s m args meth c)  {r0 : Int32} {σ' : Sg}  : ∀ (σ : Sg)  (H : Heap) (locs : List Loc) (ls : Array Slot), C8_tells_3_0 σ = some (r0, σ') → iv_ 59 a D (shC cy a σ) s H locs → lv_has ls 3 [(0, .ref (a 20)), (1, .ref (a 3))] → W p l e ({ frames := 8, cells := 0, slots := 0, locals := 180 }) s m args below meth c H locs 0 0 (MQ below (qg_ 59 a D (shC cy a σ') (some (.int r0)) s.heap.size) args s 0 0 (fr_ 59 a s.heap.size)) (F0 m 0 ls []) := by
  obtain ⟨hx, hb, hr, hml, hown, hts, hlk, hK, hA, hXf⟩ := id X
  intro σ  H locs ls h I hl
  unfold C8_tells_3_0 at h
  refine lv_aload_n hx hb dX8_tells_0 rfl (lv_at hl 0 rfl) ?_
  refine lv_iconst (v := 0) hx hb dX8_tells_1 (by decide) ?_
  refine ip_ (index := 23) (ty := .int) X I (fun _ q => List.mem_cons_of_mem _ (List.mem_append_left _ (List.mem_append_left _ (List.mem_append_right _ q)))) tyX8 tyX8_ok nmX8 20 (by decide) shC_20 rfl 3 (by decide) (by decide +kernel) rfl rfl (by decide +kernel) rfl rfl (Nat.le_of_ble_eq_true rfl) shC_pt_20_3 dX8_tells_2 (fun σ_1 H locs e_2 I => ?_)
  have h := lt_at h e_2
  refine lv_aload_n hx hb dX8_tells_5 rfl (lv_at hl 0 rfl) ?_
  refine lv_iconst (v := (-1)) hx hb dX8_tells_6 (by decide) ?_
  refine ip_ (index := 26) (ty := .int) X I (fun _ q => List.mem_cons_of_mem _ (List.mem_append_left _ (List.mem_append_left _ (List.mem_append_right _ q)))) tyX8 tyX8_ok nmX8 20 (by decide) shC_20 rfl 5 (by decide) (by decide +kernel) rfl rfl (by decide +kernel) rfl rfl (Nat.le_of_ble_eq_true rfl) shC_pt_20_5 dX8_tells_7 (fun σ_3 H locs e_4 I => ?_)
  have h := lt_at h e_4
  refine lv_aload_n hx hb dX8_tells_10 rfl (lv_at hl 0 rfl) ?_
  obtain ⟨_, σ_6, hc_5, h⟩ := bi_of h
  refine cv_ (rV_ (nn := 0) (As := []) (rest := []) X xkC I (c_C8_step hc_5 H.size) gX8_tells_X8_step rfl ⟨rfl, rfl⟩ (by decide +kernel) ⟨Nat.le_of_ble_eq_true rfl, Nat.le_of_ble_eq_true rfl⟩ (by decide) shC_20 rfl rfl hl.1 rfl (Nat.le_of_ble_eq_true rfl) dX8_tells_11) I (fun H locs I => ?_)
  refine lv_iconst (v := 0) hx hb dX8_tells_14 (by decide) ?_
  refine lv_istore_n (lv' := [(2, .int (0 : Int32)), (0, .ref (a 20)), (1, .ref (a 3))]) hx hb dX8_tells_15 rfl hl (by decide) rfl (fun ls hl => ?_)
  exact kC8_tells_3_16L X  FU σ_6 (0 : Int32) H locs ls h I (lv_sub hl [1, 2, 0] rfl)
theorem c_C8_tells_3 {l : Launch} {D : va_G} {cy : Nat → ClassId} {a gs : Nat → Nat} {σ : Sg}  {r0 : Int32} {σ' : Sg} (h : C8_tells_3_0 σ  = some (r0, σ')) (sz : Nat) : Met l yX8_tells wsX8_tells ({ frames := 8, cells := 0, slots := 0, locals := 180 }) (va_Pc [.ref (a 20), .ref (a 3)] (pr_ 59 a D cy (shC cy a σ) (xfC gs) sz)) (qg_ 59 a D (shC cy a σ') (some (.int r0)) sz) 0 0 (fr_ 59 a sz) := by
  refine ent_ (by decide) rfl (Nat.le_of_ble_eq_true rfl) ?_
  intro p e s m below meth c ls hsz X I hl
  subst hsz
  exact kC8_tells_3_0 X σ  s.heap [] ls h I hl

def C6_become_0  (σ : Sg) (x0 : Nat) (x1 : Nat) : Option (Unit × Sg) :=
  gd_ (lf_ x1 25) (
  gd_ (lf_ x0 25) (
  lt_ (wr_ σ (34 + x0) 0 (rd_ σ (34 + x1) 0)) fun σ_3 =>
  lt_ (wr_ σ_3 (34 + x0) 1 (rd_ σ_3 (34 + x1) 1)) fun σ_5 =>
  lt_ (wr_ σ_5 (34 + x0) 2 (rd_ σ_5 (34 + x1) 2)) fun σ_7 =>
  lt_ (wr_ σ_7 (34 + x0) 3 (rd_ σ_7 (34 + x1) 3)) fun σ_9 =>
  lt_ (wr_ σ_9 (34 + x0) 4 (rd_ σ_9 (34 + x1) 4)) fun σ_11 =>
  lt_ (wr_ σ_11 (34 + x0) 5 (rd_ σ_11 (34 + x1) 5)) fun σ_13 =>
  some ((), σ_13)))
set_option maxRecDepth 100000 in
theorem kC6_become_0 {p : Program} {l : Launch} {e : Env} {s : State} {m : MethodId} {args : Array Value} {below : List Frame} {meth : Method} {c : Code} {D : va_G} {cy : Nat → ClassId} {a gs : Nat → Nat} (X : cx_ cX6_become RX6 wsX6_become 2 none 59 a D cy (xfC gs) p s m args meth c)   {σ' : Sg}  : ∀ (σ : Sg) (x0 : Nat) (x1 : Nat) (H : Heap) (locs : List Loc) (ls : Array Slot), C6_become_0 σ x0 x1 = some ((), σ') → iv_ 59 a D (shC cy a σ) s H locs → lv_has ls 2 [(0, .ref (a (34 + x0))), (1, .ref (a (34 + x1)))] → W p l e ({ frames := 0, cells := 0, slots := 0, locals := 0 }) s m args below meth c H locs 0 0 (MQ below (qg_ 59 a D (shC cy a σ') none s.heap.size) args s 0 0 (fr_ 59 a s.heap.size)) (F0 m 0 ls []) := by
  obtain ⟨hx, hb, hr, hml, hown, hts, hlk, hK, hA, hXf⟩ := id X
  intro σ x0 x1 H locs ls h I hl
  unfold C6_become_0 at h
  refine lv_aload_n hx hb dX6_become_0 rfl (lv_at hl 0 rfl) ?_
  refine lv_aload_n hx hb dX6_become_1 rfl (lv_at hl 1 rfl) ?_
  obtain ⟨g_1, h⟩ := gd_of h
  refine ig_ (index := 9) X I (fun _ q => List.mem_cons_of_mem _ (List.mem_append_right _ q)) (34 + x1) (lf59 g_1) shC_L rfl 0 (by decide) (by decide +kernel) rfl (v := .int (rd_ σ (34 + x1) 0)) rfl dX6_become_2 ?_
  obtain ⟨g_2, h⟩ := gd_of h
  refine ip_ (index := 9) (ty := .int) X I (fun _ q => List.mem_cons_of_mem _ (List.mem_append_right _ q)) tyX6 tyX6_ok nmX6 (34 + x0) (lf59 g_2) shC_L rfl 0 (by decide) (by decide +kernel) rfl rfl (by decide +kernel) rfl rfl (Nat.le_of_ble_eq_true rfl) shC_pl_0 dX6_become_5 (fun σ_3 H locs e_4 I => ?_)
  have h := lt_at h e_4
  refine lv_aload_n hx hb dX6_become_8 rfl (lv_at hl 0 rfl) ?_
  refine lv_aload_n hx hb dX6_become_9 rfl (lv_at hl 1 rfl) ?_
  refine ig_ (index := 15) X I (fun _ q => List.mem_cons_of_mem _ (List.mem_append_right _ q)) (34 + x1) (lf59 g_1) shC_L rfl 1 (by decide) (by decide +kernel) rfl (v := .int (rd_ σ_3 (34 + x1) 1)) rfl dX6_become_10 ?_
  refine ip_ (index := 15) (ty := .int) X I (fun _ q => List.mem_cons_of_mem _ (List.mem_append_right _ q)) tyX6 tyX6_ok nmX6 (34 + x0) (lf59 g_2) shC_L rfl 1 (by decide) (by decide +kernel) rfl rfl (by decide +kernel) rfl rfl (Nat.le_of_ble_eq_true rfl) shC_pl_1 dX6_become_13 (fun σ_5 H locs e_6 I => ?_)
  have h := lt_at h e_6
  refine lv_aload_n hx hb dX6_become_16 rfl (lv_at hl 0 rfl) ?_
  refine lv_aload_n hx hb dX6_become_17 rfl (lv_at hl 1 rfl) ?_
  refine ig_ (index := 18) X I (fun _ q => List.mem_cons_of_mem _ (List.mem_append_right _ q)) (34 + x1) (lf59 g_1) shC_L rfl 2 (by decide) (by decide +kernel) rfl (v := .int (rd_ σ_5 (34 + x1) 2)) rfl dX6_become_18 ?_
  refine ip_ (index := 18) (ty := .int) X I (fun _ q => List.mem_cons_of_mem _ (List.mem_append_right _ q)) tyX6 tyX6_ok nmX6 (34 + x0) (lf59 g_2) shC_L rfl 2 (by decide) (by decide +kernel) rfl rfl (by decide +kernel) rfl rfl (Nat.le_of_ble_eq_true rfl) shC_pl_2 dX6_become_21 (fun σ_7 H locs e_8 I => ?_)
  have h := lt_at h e_8
  refine lv_aload_n hx hb dX6_become_24 rfl (lv_at hl 0 rfl) ?_
  refine lv_aload_n hx hb dX6_become_25 rfl (lv_at hl 1 rfl) ?_
  refine ig_ (index := 21) X I (fun _ q => List.mem_cons_of_mem _ (List.mem_append_right _ q)) (34 + x1) (lf59 g_1) shC_L rfl 3 (by decide) (by decide +kernel) rfl (v := .int (rd_ σ_7 (34 + x1) 3)) rfl dX6_become_26 ?_
  refine ip_ (index := 21) (ty := .int) X I (fun _ q => List.mem_cons_of_mem _ (List.mem_append_right _ q)) tyX6 tyX6_ok nmX6 (34 + x0) (lf59 g_2) shC_L rfl 3 (by decide) (by decide +kernel) rfl rfl (by decide +kernel) rfl rfl (Nat.le_of_ble_eq_true rfl) shC_pl_3 dX6_become_29 (fun σ_9 H locs e_10 I => ?_)
  have h := lt_at h e_10
  refine lv_aload_n hx hb dX6_become_32 rfl (lv_at hl 0 rfl) ?_
  refine lv_aload_n hx hb dX6_become_33 rfl (lv_at hl 1 rfl) ?_
  refine ig_ (index := 24) X I (fun _ q => List.mem_cons_of_mem _ (List.mem_append_right _ q)) (34 + x1) (lf59 g_1) shC_L rfl 4 (by decide) (by decide +kernel) rfl (v := .int (rd_ σ_9 (34 + x1) 4)) rfl dX6_become_34 ?_
  refine ip_ (index := 24) (ty := .int) X I (fun _ q => List.mem_cons_of_mem _ (List.mem_append_right _ q)) tyX6 tyX6_ok nmX6 (34 + x0) (lf59 g_2) shC_L rfl 4 (by decide) (by decide +kernel) rfl rfl (by decide +kernel) rfl rfl (Nat.le_of_ble_eq_true rfl) shC_pl_4 dX6_become_37 (fun σ_11 H locs e_12 I => ?_)
  have h := lt_at h e_12
  refine lv_aload_n hx hb dX6_become_40 rfl (lv_at hl 0 rfl) ?_
  refine lv_aload_n hx hb dX6_become_41 rfl (lv_at hl 1 rfl) ?_
  refine ig_ (index := 27) X I (fun _ q => List.mem_cons_of_mem _ (List.mem_append_right _ q)) (34 + x1) (lf59 g_1) shC_L rfl 5 (by decide) (by decide +kernel) rfl (v := .int (rd_ σ_11 (34 + x1) 5)) rfl dX6_become_42 ?_
  refine ip_ (index := 27) (ty := .int) X I (fun _ q => List.mem_cons_of_mem _ (List.mem_append_right _ q)) tyX6 tyX6_ok nmX6 (34 + x0) (lf59 g_2) shC_L rfl 5 (by decide) (by decide +kernel) rfl rfl (by decide +kernel) rfl rfl (Nat.le_of_ble_eq_true rfl) shC_pl_5 dX6_become_45 (fun σ_13 H locs e_14 I => ?_)
  have h := lt_at h e_14
  obtain rfl := re_v h
  exact rtv_ X I dX6_become_48
theorem c_C6_become {l : Launch} {D : va_G} {cy : Nat → ClassId} {a gs : Nat → Nat} {σ : Sg} {x0 : Nat} {x1 : Nat}  {σ' : Sg} (h : C6_become_0 σ x0 x1 = some ((), σ')) (sz : Nat) : Met l yX6_become wsX6_become ({ frames := 0, cells := 0, slots := 0, locals := 0 }) (va_Pc [.ref (a (34 + x0)), .ref (a (34 + x1))] (pr_ 59 a D cy (shC cy a σ) (xfC gs) sz)) (qg_ 59 a D (shC cy a σ') none sz) 0 0 (fr_ 59 a sz) := by
  refine ent_ (by decide) rfl (Nat.le_of_ble_eq_true rfl) ?_
  intro p e s m below meth c ls hsz X I hl
  subst hsz
  exact kC6_become_0 X σ x0 x1 s.heap [] ls h I hl

def C1_become_1_3_53 (k53 : Sg → Int32 → Option (Unit × Sg)) (σ : Sg) (x2 : Int32) : Option (Unit × Sg) :=
  if (8 : Int32) ≤ x2 then (lt_ (wr_ σ 1 2 (rd_ σ 3 2)) fun σ_2 =>
  lt_ (wr_ σ_2 1 3 (rd_ σ_2 3 3)) fun σ_4 =>
  lt_ (wr_ σ_4 1 4 (rd_ σ_4 3 4)) fun σ_6 =>
  lt_ (wr_ σ_6 1 5 (rd_ σ_6 3 5)) fun σ_8 =>
  some ((), σ_8))
  else (gd_ (in_ x2 8) (
  gd_ (in_ x2 8) (
  gd_ (lf_ x2.toNatClampNeg 25) (
  bi_ (C6_become_0 σ x2.toNatClampNeg (16 + x2.toNatClampNeg)) fun _ σ_13 =>
  lt_ (x2 + (1 : Int32)) fun y_15 =>
  k53 σ_13 y_15))))
set_option maxRecDepth 100000 in
theorem kC1_become_1_3_53 {p : Program} {l : Launch} {e : Env} {s : State} {m : MethodId} {args : Array Value} {below : List Frame} {meth : Method} {c : Code} {D : va_G} {cy : Nat → ClassId} {a gs : Nat → Nat} (X : cx_ cX1_become RX1 wsX1_become 3 none 59 a D cy (xfC gs) p s m args meth c) {k53 : Sg → Int32 → Option (Unit × Sg)}  {σ' : Sg} (hk53 : ∀ (σ : Sg) (x2 : Int32) (H : Heap) (locs : List Loc) (ls : Array Slot), k53 σ x2 = some ((), σ') → iv_ 59 a D (shC cy a σ) s H locs → lv_has ls 3 [(0, .ref (a 1)), (1, .ref (a 3)), (2, .int x2)] → W p l e ({ frames := 1, cells := 0, slots := 0, locals := 21 }) s m args below meth c H locs 0 0 (MQ below (qg_ 59 a D (shC cy a σ') none s.heap.size) args s 0 0 (fr_ 59 a s.heap.size)) (F0 m 53 ls [])) : ∀ (σ : Sg) (x2 : Int32) (H : Heap) (locs : List Loc) (ls : Array Slot), C1_become_1_3_53 k53 σ x2 = some ((), σ') → iv_ 59 a D (shC cy a σ) s H locs → lv_has ls 3 [(0, .ref (a 1)), (1, .ref (a 3)), (2, .int x2)] → W p l e ({ frames := 1, cells := 0, slots := 0, locals := 21 }) s m args below meth c H locs 0 0 (MQ below (qg_ 59 a D (shC cy a σ') none s.heap.size) args s 0 0 (fr_ 59 a s.heap.size)) (F0 m 53 ls []) := by
  obtain ⟨hx, hb, hr, hml, hown, hts, hlk, hK, hA, hXf⟩ := id X
  intro σ x2 H locs ls h I hl
  unfold C1_become_1_3_53 at h
  refine lv_iload_n hx hb dX1_become_53 rfl (lv_at hl 2 rfl) ?_
  refine lv_bipush (v := 8) hx hb dX1_become_54 (by decide) ?_
  refine lv_icmp_ge (tgt := 80) hx hb dX1_become_56 (by decide) (fun c_1 => ?_) (fun c_1 => ?_)
  · have h := if_t h c_1
    refine lv_aload_n hx hb dX1_become_80 rfl (lv_at hl 0 rfl) ?_
    refine lv_aload_n hx hb dX1_become_81 rfl (lv_at hl 1 rfl) ?_
    refine ig_ (index := 39) X I (fun _ q => List.mem_cons_of_mem _ (List.mem_append_left _ (List.mem_append_right _ q))) 3 (by decide) shC_3 rfl 2 (by decide) (by decide +kernel) rfl (v := .int (rd_ σ 3 2)) rfl dX1_become_82 ?_
    refine ip_ (index := 39) (ty := .int) X I (fun _ q => List.mem_cons_of_mem _ (List.mem_append_left _ (List.mem_append_right _ q))) tyX1 tyX1_ok nmX1 1 (by decide) shC_1 rfl 2 (by decide) (by decide +kernel) rfl rfl (by decide +kernel) rfl rfl (Nat.le_of_ble_eq_true rfl) shC_pt_1_2 dX1_become_85 (fun σ_2 H locs e_3 I => ?_)
    have h := lt_at h e_3
    refine lv_aload_n hx hb dX1_become_88 rfl (lv_at hl 0 rfl) ?_
    refine lv_aload_n hx hb dX1_become_89 rfl (lv_at hl 1 rfl) ?_
    refine ig_ (index := 42) X I (fun _ q => List.mem_cons_of_mem _ (List.mem_append_left _ (List.mem_append_right _ q))) 3 (by decide) shC_3 rfl 3 (by decide) (by decide +kernel) rfl (v := .int (rd_ σ_2 3 3)) rfl dX1_become_90 ?_
    refine ip_ (index := 42) (ty := .int) X I (fun _ q => List.mem_cons_of_mem _ (List.mem_append_left _ (List.mem_append_right _ q))) tyX1 tyX1_ok nmX1 1 (by decide) shC_1 rfl 3 (by decide) (by decide +kernel) rfl rfl (by decide +kernel) rfl rfl (Nat.le_of_ble_eq_true rfl) shC_pt_1_3 dX1_become_93 (fun σ_4 H locs e_5 I => ?_)
    have h := lt_at h e_5
    refine lv_aload_n hx hb dX1_become_96 rfl (lv_at hl 0 rfl) ?_
    refine lv_aload_n hx hb dX1_become_97 rfl (lv_at hl 1 rfl) ?_
    refine ig_ (index := 45) X I (fun _ q => List.mem_cons_of_mem _ (List.mem_append_left _ (List.mem_append_right _ q))) 3 (by decide) shC_3 rfl 4 (by decide) (by decide +kernel) rfl (v := .int (rd_ σ_4 3 4)) rfl dX1_become_98 ?_
    refine ip_ (index := 45) (ty := .int) X I (fun _ q => List.mem_cons_of_mem _ (List.mem_append_left _ (List.mem_append_right _ q))) tyX1 tyX1_ok nmX1 1 (by decide) shC_1 rfl 4 (by decide) (by decide +kernel) rfl rfl (by decide +kernel) rfl rfl (Nat.le_of_ble_eq_true rfl) shC_pt_1_4 dX1_become_101 (fun σ_6 H locs e_7 I => ?_)
    have h := lt_at h e_7
    refine lv_aload_n hx hb dX1_become_104 rfl (lv_at hl 0 rfl) ?_
    refine lv_aload_n hx hb dX1_become_105 rfl (lv_at hl 1 rfl) ?_
    refine ig_ (index := 32) X I (fun _ q => List.mem_cons_of_mem _ (List.mem_append_left _ (List.mem_append_right _ q))) 3 (by decide) shC_3 rfl 5 (by decide) (by decide +kernel) rfl (v := .int (rd_ σ_6 3 5)) rfl dX1_become_106 ?_
    refine ip_ (index := 32) (ty := .int) X I (fun _ q => List.mem_cons_of_mem _ (List.mem_append_left _ (List.mem_append_right _ q))) tyX1 tyX1_ok nmX1 1 (by decide) shC_1 rfl 5 (by decide) (by decide +kernel) rfl rfl (by decide +kernel) rfl rfl (Nat.le_of_ble_eq_true rfl) shC_pt_1_5 dX1_become_109 (fun σ_8 H locs e_9 I => ?_)
    have h := lt_at h e_9
    obtain rfl := re_v h
    exact rtv_ X I dX1_become_112
  · have h := if_f h c_1
    refine lv_aload_n hx hb dX1_become_59 rfl (lv_at hl 0 rfl) ?_
    refine ig_ (index := 24) X I (fun _ q => List.mem_cons_of_mem _ (List.mem_append_left _ (List.mem_append_right _ q))) 1 (by decide) shC_1 rfl 6 (by decide) (by decide +kernel) rfl (v := .ref (a 10)) rfl dX1_become_60 ?_
    refine lv_iload_n hx hb dX1_become_63 rfl (lv_at hl 2 rfl) ?_
    obtain ⟨g_10, h⟩ := gd_of h
    refine aq_ (t := 4) (b := (a (34 + x2.toNatClampNeg))) X I 10 (by decide) shC_10 rfl (in_of g_10) rfl dX1_become_64 ?_
    refine lv_aload_n hx hb dX1_become_65 rfl (lv_at hl 1 rfl) ?_
    refine ig_ (index := 24) X I (fun _ q => List.mem_cons_of_mem _ (List.mem_append_left _ (List.mem_append_right _ q))) 3 (by decide) shC_3 rfl 6 (by decide) (by decide +kernel) rfl (v := .ref (a 12)) rfl dX1_become_66 ?_
    refine lv_iload_n hx hb dX1_become_69 rfl (lv_at hl 2 rfl) ?_
    obtain ⟨g_11, h⟩ := gd_of h
    refine aq_ (t := 4) (b := (a (34 + (16 + x2.toNatClampNeg)))) X I 12 (by decide) shC_12 rfl (in_of g_11) rfl dX1_become_70 ?_
    obtain ⟨g_14, h⟩ := gd_of h
    obtain ⟨_, σ_13, hc_12, h⟩ := bi_of h
    refine cv_ (rV_ (nn := 1) (As := [.ref (a (34 + (16 + x2.toNatClampNeg)))]) (rest := []) X xkC I (c_C6_become hc_12 H.size) gX1_become_X6_become rfl ⟨rfl, rfl⟩ (by decide +kernel) ⟨Nat.le_of_ble_eq_true rfl, Nat.le_of_ble_eq_true rfl⟩ (lf59 g_14) shC_L rfl rfl hl.1 rfl (Nat.le_of_ble_eq_true rfl) dX1_become_71) I (fun H locs I => ?_)
    obtain ⟨y_15, e_16⟩ : ∃ q : Int32, q = x2 + (1 : Int32) := ⟨_, rfl⟩
    have h := lt_at h e_16
    refine lv_iinc (v := y_15) (lv' := [(2, .int y_15), (0, .ref (a 1)), (1, .ref (a 3))]) hx hb dX1_become_74 hl (k := 2) rfl (by rw [e_16]; rfl) (by decide) rfl (fun ls hl => ?_)
    refine lv_goto (tgt := 53) hx hb dX1_become_77 (by decide) ?_
    exact hk53 σ_13 y_15 H locs ls h I (lv_sub hl [1, 2, 0] rfl)
set_option maxRecDepth 100000 in
theorem kC1_become_1_3_53L {p : Program} {l : Launch} {e : Env} {s : State} {m : MethodId} {args : Array Value} {below : List Frame} {meth : Method} {c : Code} {D : va_G} {cy : Nat → ClassId} {a gs : Nat → Nat} (X : cx_ cX1_become RX1 wsX1_become 3 none 59 a D cy (xfC gs) p s m args meth c)   {σ' : Sg}  : ∀ (n : Nat), ∀ (σ : Sg) (x2 : Int32) (H : Heap) (locs : List Loc) (ls : Array Slot), lp_ (C1_become_1_3_53) (fun _ _ => none) n σ x2 = some ((), σ') → iv_ 59 a D (shC cy a σ) s H locs → lv_has ls 3 [(0, .ref (a 1)), (1, .ref (a 3)), (2, .int x2)] → W p l e ({ frames := 1, cells := 0, slots := 0, locals := 21 }) s m args below meth c H locs 0 0 (MQ below (qg_ 59 a D (shC cy a σ') none s.heap.size) args s 0 0 (fr_ 59 a s.heap.size)) (F0 m 53 ls []) := by
  intro n
  induction n with
  | zero =>
    intro _ _ _ _ _ h
    exact absurd h (fun q => by cases (show (none : Option _) = some _ from q))
  | succ n ih => exact kC1_become_1_3_53 X ih

def C1_become_1_3_27 (k27 : Sg → Int32 → Option (Unit × Sg)) (σ : Sg) (x2 : Int32) : Option (Unit × Sg) :=
  if (8 : Int32) ≤ x2 then (lp_ C1_become_1_3_53 (fun _ _ => none) FU σ (0 : Int32))
  else (gd_ (in_ x2 8) (
  gd_ (in_ x2 8) (
  lt_ (wr_ σ 7 x2.toNatClampNeg (rd_ σ 9 x2.toNatClampNeg)) fun σ_3 =>
  lt_ (x2 + (1 : Int32)) fun y_6 =>
  k27 σ_3 y_6)))
set_option maxRecDepth 100000 in
theorem kC1_become_1_3_27 {p : Program} {l : Launch} {e : Env} {s : State} {m : MethodId} {args : Array Value} {below : List Frame} {meth : Method} {c : Code} {D : va_G} {cy : Nat → ClassId} {a gs : Nat → Nat} (X : cx_ cX1_become RX1 wsX1_become 3 none 59 a D cy (xfC gs) p s m args meth c) {k27 : Sg → Int32 → Option (Unit × Sg)}  {σ' : Sg} (hk27 : ∀ (σ : Sg) (x2 : Int32) (H : Heap) (locs : List Loc) (ls : Array Slot), k27 σ x2 = some ((), σ') → iv_ 59 a D (shC cy a σ) s H locs → lv_has ls 3 [(0, .ref (a 1)), (1, .ref (a 3)), (2, .int x2)] → W p l e ({ frames := 1, cells := 0, slots := 0, locals := 21 }) s m args below meth c H locs 0 0 (MQ below (qg_ 59 a D (shC cy a σ') none s.heap.size) args s 0 0 (fr_ 59 a s.heap.size)) (F0 m 27 ls [])) : ∀ (σ : Sg) (x2 : Int32) (H : Heap) (locs : List Loc) (ls : Array Slot), C1_become_1_3_27 k27 σ x2 = some ((), σ') → iv_ 59 a D (shC cy a σ) s H locs → lv_has ls 3 [(0, .ref (a 1)), (1, .ref (a 3)), (2, .int x2)] → W p l e ({ frames := 1, cells := 0, slots := 0, locals := 21 }) s m args below meth c H locs 0 0 (MQ below (qg_ 59 a D (shC cy a σ') none s.heap.size) args s 0 0 (fr_ 59 a s.heap.size)) (F0 m 27 ls []) := by
  obtain ⟨hx, hb, hr, hml, hown, hts, hlk, hK, hA, hXf⟩ := id X
  intro σ x2 H locs ls h I hl
  unfold C1_become_1_3_27 at h
  refine lv_iload_n hx hb dX1_become_27 rfl (lv_at hl 2 rfl) ?_
  refine lv_bipush (v := 8) hx hb dX1_become_28 (by decide) ?_
  refine lv_icmp_ge (tgt := 51) hx hb dX1_become_30 (by decide) (fun c_1 => ?_) (fun c_1 => ?_)
  · have h := if_t h c_1
    refine lv_iconst (v := 0) hx hb dX1_become_51 (by decide) ?_
    refine lv_istore_n (lv' := [(2, .int (0 : Int32)), (0, .ref (a 1)), (1, .ref (a 3))]) hx hb dX1_become_52 rfl hl (by decide) rfl (fun ls hl => ?_)
    exact kC1_become_1_3_53L X  FU σ (0 : Int32) H locs ls h I (lv_sub hl [1, 2, 0] rfl)
  · have h := if_f h c_1
    refine lv_aload_n hx hb dX1_become_33 rfl (lv_at hl 0 rfl) ?_
    refine ig_ (index := 19) X I (fun _ q => List.mem_cons_of_mem _ (List.mem_append_left _ (List.mem_append_right _ q))) 1 (by decide) shC_1 rfl 1 (by decide) (by decide +kernel) rfl (v := .ref (a 7)) rfl dX1_become_34 ?_
    refine lv_iload_n hx hb dX1_become_37 rfl (lv_at hl 2 rfl) ?_
    refine lv_aload_n hx hb dX1_become_38 rfl (lv_at hl 1 rfl) ?_
    refine ig_ (index := 19) X I (fun _ q => List.mem_cons_of_mem _ (List.mem_append_left _ (List.mem_append_right _ q))) 3 (by decide) shC_3 rfl 1 (by decide) (by decide +kernel) rfl (v := .ref (a 9)) rfl dX1_become_39 ?_
    refine lv_iload_n hx hb dX1_become_42 rfl (lv_at hl 2 rfl) ?_
    obtain ⟨g_2, h⟩ := gd_of h
    refine ia_ X I 9 (by decide) shC_9 (in_of g_2) (v0 := (rd_ σ 9 x2.toNatClampNeg)) rfl dX1_become_43 ?_
    obtain ⟨g_5, h⟩ := gd_of h
    refine is_ (σ2 := wr_ σ 7 x2.toNatClampNeg (rd_ σ 9 x2.toNatClampNeg)) X I 7 (by decide) shC_7 (in_of g_5) shC_st_7 dX1_become_44 (fun σ_3 H locs e_4 I => ?_)
    have h := lt_at h e_4
    obtain ⟨y_6, e_7⟩ : ∃ q : Int32, q = x2 + (1 : Int32) := ⟨_, rfl⟩
    have h := lt_at h e_7
    refine lv_iinc (v := y_6) (lv' := [(2, .int y_6), (0, .ref (a 1)), (1, .ref (a 3))]) hx hb dX1_become_45 hl (k := 2) rfl (by rw [e_7]; rfl) (by decide) rfl (fun ls hl => ?_)
    refine lv_goto (tgt := 27) hx hb dX1_become_48 (by decide) ?_
    exact hk27 σ_3 y_6 H locs ls h I (lv_sub hl [1, 2, 0] rfl)
set_option maxRecDepth 100000 in
theorem kC1_become_1_3_27L {p : Program} {l : Launch} {e : Env} {s : State} {m : MethodId} {args : Array Value} {below : List Frame} {meth : Method} {c : Code} {D : va_G} {cy : Nat → ClassId} {a gs : Nat → Nat} (X : cx_ cX1_become RX1 wsX1_become 3 none 59 a D cy (xfC gs) p s m args meth c)   {σ' : Sg}  : ∀ (n : Nat), ∀ (σ : Sg) (x2 : Int32) (H : Heap) (locs : List Loc) (ls : Array Slot), lp_ (C1_become_1_3_27) (fun _ _ => none) n σ x2 = some ((), σ') → iv_ 59 a D (shC cy a σ) s H locs → lv_has ls 3 [(0, .ref (a 1)), (1, .ref (a 3)), (2, .int x2)] → W p l e ({ frames := 1, cells := 0, slots := 0, locals := 21 }) s m args below meth c H locs 0 0 (MQ below (qg_ 59 a D (shC cy a σ') none s.heap.size) args s 0 0 (fr_ 59 a s.heap.size)) (F0 m 27 ls []) := by
  intro n
  induction n with
  | zero =>
    intro _ _ _ _ _ h
    exact absurd h (fun q => by cases (show (none : Option _) = some _ from q))
  | succ n ih => exact kC1_become_1_3_27 X ih

def C1_become_1_3_2 (k2 : Sg → Int32 → Option (Unit × Sg)) (σ : Sg) (x2 : Int32) : Option (Unit × Sg) :=
  if (4 : Int32) ≤ x2 then (lp_ C1_become_1_3_27 (fun _ _ => none) FU σ (0 : Int32))
  else (gd_ (in_ x2 4) (
  gd_ (in_ x2 4) (
  lt_ (wr_ σ 4 x2.toNatClampNeg (rd_ σ 6 x2.toNatClampNeg)) fun σ_3 =>
  lt_ (x2 + (1 : Int32)) fun y_6 =>
  k2 σ_3 y_6)))
set_option maxRecDepth 100000 in
theorem kC1_become_1_3_2 {p : Program} {l : Launch} {e : Env} {s : State} {m : MethodId} {args : Array Value} {below : List Frame} {meth : Method} {c : Code} {D : va_G} {cy : Nat → ClassId} {a gs : Nat → Nat} (X : cx_ cX1_become RX1 wsX1_become 3 none 59 a D cy (xfC gs) p s m args meth c) {k2 : Sg → Int32 → Option (Unit × Sg)}  {σ' : Sg} (hk2 : ∀ (σ : Sg) (x2 : Int32) (H : Heap) (locs : List Loc) (ls : Array Slot), k2 σ x2 = some ((), σ') → iv_ 59 a D (shC cy a σ) s H locs → lv_has ls 3 [(0, .ref (a 1)), (1, .ref (a 3)), (2, .int x2)] → W p l e ({ frames := 1, cells := 0, slots := 0, locals := 21 }) s m args below meth c H locs 0 0 (MQ below (qg_ 59 a D (shC cy a σ') none s.heap.size) args s 0 0 (fr_ 59 a s.heap.size)) (F0 m 2 ls [])) : ∀ (σ : Sg) (x2 : Int32) (H : Heap) (locs : List Loc) (ls : Array Slot), C1_become_1_3_2 k2 σ x2 = some ((), σ') → iv_ 59 a D (shC cy a σ) s H locs → lv_has ls 3 [(0, .ref (a 1)), (1, .ref (a 3)), (2, .int x2)] → W p l e ({ frames := 1, cells := 0, slots := 0, locals := 21 }) s m args below meth c H locs 0 0 (MQ below (qg_ 59 a D (shC cy a σ') none s.heap.size) args s 0 0 (fr_ 59 a s.heap.size)) (F0 m 2 ls []) := by
  obtain ⟨hx, hb, hr, hml, hown, hts, hlk, hK, hA, hXf⟩ := id X
  intro σ x2 H locs ls h I hl
  unfold C1_become_1_3_2 at h
  refine lv_iload_n hx hb dX1_become_2 rfl (lv_at hl 2 rfl) ?_
  refine lv_iconst (v := 4) hx hb dX1_become_3 (by decide) ?_
  refine lv_icmp_ge (tgt := 25) hx hb dX1_become_4 (by decide) (fun c_1 => ?_) (fun c_1 => ?_)
  · have h := if_t h c_1
    refine lv_iconst (v := 0) hx hb dX1_become_25 (by decide) ?_
    refine lv_istore_n (lv' := [(2, .int (0 : Int32)), (0, .ref (a 1)), (1, .ref (a 3))]) hx hb dX1_become_26 rfl hl (by decide) rfl (fun ls hl => ?_)
    exact kC1_become_1_3_27L X  FU σ (0 : Int32) H locs ls h I (lv_sub hl [1, 2, 0] rfl)
  · have h := if_f h c_1
    refine lv_aload_n hx hb dX1_become_7 rfl (lv_at hl 0 rfl) ?_
    refine ig_ (index := 15) X I (fun _ q => List.mem_cons_of_mem _ (List.mem_append_left _ (List.mem_append_right _ q))) 1 (by decide) shC_1 rfl 0 (by decide) (by decide +kernel) rfl (v := .ref (a 4)) rfl dX1_become_8 ?_
    refine lv_iload_n hx hb dX1_become_11 rfl (lv_at hl 2 rfl) ?_
    refine lv_aload_n hx hb dX1_become_12 rfl (lv_at hl 1 rfl) ?_
    refine ig_ (index := 15) X I (fun _ q => List.mem_cons_of_mem _ (List.mem_append_left _ (List.mem_append_right _ q))) 3 (by decide) shC_3 rfl 0 (by decide) (by decide +kernel) rfl (v := .ref (a 6)) rfl dX1_become_13 ?_
    refine lv_iload_n hx hb dX1_become_16 rfl (lv_at hl 2 rfl) ?_
    obtain ⟨g_2, h⟩ := gd_of h
    refine ia_ X I 6 (by decide) shC_6 (in_of g_2) (v0 := (rd_ σ 6 x2.toNatClampNeg)) rfl dX1_become_17 ?_
    obtain ⟨g_5, h⟩ := gd_of h
    refine is_ (σ2 := wr_ σ 4 x2.toNatClampNeg (rd_ σ 6 x2.toNatClampNeg)) X I 4 (by decide) shC_4 (in_of g_5) shC_st_4 dX1_become_18 (fun σ_3 H locs e_4 I => ?_)
    have h := lt_at h e_4
    obtain ⟨y_6, e_7⟩ : ∃ q : Int32, q = x2 + (1 : Int32) := ⟨_, rfl⟩
    have h := lt_at h e_7
    refine lv_iinc (v := y_6) (lv' := [(2, .int y_6), (0, .ref (a 1)), (1, .ref (a 3))]) hx hb dX1_become_19 hl (k := 2) rfl (by rw [e_7]; rfl) (by decide) rfl (fun ls hl => ?_)
    refine lv_goto (tgt := 2) hx hb dX1_become_22 (by decide) ?_
    exact hk2 σ_3 y_6 H locs ls h I (lv_sub hl [1, 2, 0] rfl)
set_option maxRecDepth 100000 in
theorem kC1_become_1_3_2L {p : Program} {l : Launch} {e : Env} {s : State} {m : MethodId} {args : Array Value} {below : List Frame} {meth : Method} {c : Code} {D : va_G} {cy : Nat → ClassId} {a gs : Nat → Nat} (X : cx_ cX1_become RX1 wsX1_become 3 none 59 a D cy (xfC gs) p s m args meth c)   {σ' : Sg}  : ∀ (n : Nat), ∀ (σ : Sg) (x2 : Int32) (H : Heap) (locs : List Loc) (ls : Array Slot), lp_ (C1_become_1_3_2) (fun _ _ => none) n σ x2 = some ((), σ') → iv_ 59 a D (shC cy a σ) s H locs → lv_has ls 3 [(0, .ref (a 1)), (1, .ref (a 3)), (2, .int x2)] → W p l e ({ frames := 1, cells := 0, slots := 0, locals := 21 }) s m args below meth c H locs 0 0 (MQ below (qg_ 59 a D (shC cy a σ') none s.heap.size) args s 0 0 (fr_ 59 a s.heap.size)) (F0 m 2 ls []) := by
  intro n
  induction n with
  | zero =>
    intro _ _ _ _ _ h
    exact absurd h (fun q => by cases (show (none : Option _) = some _ from q))
  | succ n ih => exact kC1_become_1_3_2 X ih

def C1_become_1_3_0  (σ : Sg)  : Option (Unit × Sg) :=
  lp_ C1_become_1_3_2 (fun _ _ => none) FU σ (0 : Int32)
set_option maxRecDepth 100000 in
theorem kC1_become_1_3_0 {p : Program} {l : Launch} {e : Env} {s : State} {m : MethodId} {args : Array Value} {below : List Frame} {meth : Method} {c : Code} {D : va_G} {cy : Nat → ClassId} {a gs : Nat → Nat} (X : cx_ cX1_become RX1 wsX1_become 3 none 59 a D cy (xfC gs) p s m args meth c)   {σ' : Sg}  : ∀ (σ : Sg)  (H : Heap) (locs : List Loc) (ls : Array Slot), C1_become_1_3_0 σ = some ((), σ') → iv_ 59 a D (shC cy a σ) s H locs → lv_has ls 3 [(0, .ref (a 1)), (1, .ref (a 3))] → W p l e ({ frames := 1, cells := 0, slots := 0, locals := 21 }) s m args below meth c H locs 0 0 (MQ below (qg_ 59 a D (shC cy a σ') none s.heap.size) args s 0 0 (fr_ 59 a s.heap.size)) (F0 m 0 ls []) := by
  obtain ⟨hx, hb, hr, hml, hown, hts, hlk, hK, hA, hXf⟩ := id X
  intro σ  H locs ls h I hl
  unfold C1_become_1_3_0 at h
  refine lv_iconst (v := 0) hx hb dX1_become_0 (by decide) ?_
  refine lv_istore_n (lv' := [(2, .int (0 : Int32)), (0, .ref (a 1)), (1, .ref (a 3))]) hx hb dX1_become_1 rfl hl (by decide) rfl (fun ls hl => ?_)
  exact kC1_become_1_3_2L X  FU σ (0 : Int32) H locs ls h I (lv_sub hl [1, 2, 0] rfl)
theorem c_C1_become_1_3 {l : Launch} {D : va_G} {cy : Nat → ClassId} {a gs : Nat → Nat} {σ : Sg}   {σ' : Sg} (h : C1_become_1_3_0 σ  = some ((), σ')) (sz : Nat) : Met l yX1_become wsX1_become ({ frames := 1, cells := 0, slots := 0, locals := 21 }) (va_Pc [.ref (a 1), .ref (a 3)] (pr_ 59 a D cy (shC cy a σ) (xfC gs) sz)) (qg_ 59 a D (shC cy a σ') none sz) 0 0 (fr_ 59 a sz) := by
  refine ent_ (by decide) rfl (Nat.le_of_ble_eq_true rfl) ?_
  intro p e s m below meth c ls hsz X I hl
  subst hsz
  exact kC1_become_1_3_0 X σ  s.heap [] ls h I hl

def C_church_0  (σ : Sg)  : Option (Int32 × Sg) :=
  bi_ (C1_beAsAtFirst_3_0 σ) fun _ σ_2 =>
  lt_ (wr_ σ_2 3 5 (rd_ σ_2 1 5)) fun σ_3 =>
  bi_ (C8_tells_3_0 σ_3) fun r_7 σ_6 =>
  lt_ (wr_ σ_6 20 0 (0 : Int32)) fun σ_8 =>
  if r_7 < 0 then (bi_ (C1_become_1_3_0 σ_8) fun _ σ_12 =>
  lt_ (wr_ σ_12 0 10 (0 : Int32)) fun σ_13 =>
  some ((rd_ σ_13 1 3), σ_13))
  else (some (((-100 : Int32) - r_7), σ_8))
set_option maxRecDepth 100000 in
theorem kC_church_0 {p : Program} {l : Launch} {e : Env} {s : State} {m : MethodId} {args : Array Value} {below : List Frame} {meth : Method} {c : Code} {D : va_G} {cy : Nat → ClassId} {a gs : Nat → Nat} (X : cx_ cX11_church RX11 wsX11_church 2 (some .int) 59 a D cy (xfC gs) p s m args meth c)  {r0 : Int32} {σ' : Sg}  : ∀ (σ : Sg)  (H : Heap) (locs : List Loc) (ls : Array Slot), C_church_0 σ = some (r0, σ') → iv_ 59 a D (shC cy a σ) s H locs → lv_has ls 2 [(0, .ref (a 0))] → W p l e ({ frames := 9, cells := 0, slots := 0, locals := 202 }) s m args below meth c H locs 0 0 (MQ below (qg_ 59 a D (shC cy a σ') (some (.int r0)) s.heap.size) args s 0 0 (fr_ 59 a s.heap.size)) (F0 m 0 ls []) := by
  obtain ⟨hx, hb, hr, hml, hown, hts, hlk, hK, hA, hXf⟩ := id X
  intro σ  H locs ls h I hl
  unfold C_church_0 at h
  refine lv_aload_n hx hb dX11_church_0 rfl (lv_at hl 0 rfl) ?_
  refine ig_ (index := 39) X I (fun _ q => List.mem_cons_of_mem _ (List.mem_append_left _ (List.mem_append_left _ (List.mem_append_left _ (List.mem_append_right _ q))))) 0 (by decide) shC_0 rfl 2 (by decide) (by decide +kernel) rfl (v := .ref (a 3)) rfl dX11_church_1 ?_
  obtain ⟨_, σ_2, hc_1, h⟩ := bi_of h
  refine cv_ (rV_ (nn := 0) (As := []) (rest := []) X xkC I (c_C1_beAsAtFirst_3 hc_1 H.size) gX11_church_X1_beAsAtFirst rfl ⟨rfl, rfl⟩ (by decide +kernel) ⟨Nat.le_of_ble_eq_true rfl, Nat.le_of_ble_eq_true rfl⟩ (by decide) shC_3 rfl rfl hl.1 rfl (Nat.le_of_ble_eq_true rfl) dX11_church_4) I (fun H locs I => ?_)
  refine lv_aload_n hx hb dX11_church_7 rfl (lv_at hl 0 rfl) ?_
  refine ig_ (index := 39) X I (fun _ q => List.mem_cons_of_mem _ (List.mem_append_left _ (List.mem_append_left _ (List.mem_append_left _ (List.mem_append_right _ q))))) 0 (by decide) shC_0 rfl 2 (by decide) (by decide +kernel) rfl (v := .ref (a 3)) rfl dX11_church_8 ?_
  refine lv_aload_n hx hb dX11_church_11 rfl (lv_at hl 0 rfl) ?_
  refine ig_ (index := 30) X I (fun _ q => List.mem_cons_of_mem _ (List.mem_append_left _ (List.mem_append_left _ (List.mem_append_left _ (List.mem_append_right _ q))))) 0 (by decide) shC_0 rfl 0 (by decide) (by decide +kernel) rfl (v := .ref (a 1)) rfl dX11_church_12 ?_
  refine ig_ (index := 91) X I (fun _ q => List.mem_cons_of_mem _ (List.mem_append_left _ (List.mem_append_left _ (List.mem_append_right _ q)))) 1 (by decide) shC_1 rfl 5 (by decide) (by decide +kernel) rfl (v := .int (rd_ σ_2 1 5)) rfl dX11_church_15 ?_
  refine ip_ (index := 91) (ty := .int) X I (fun _ q => List.mem_cons_of_mem _ (List.mem_append_left _ (List.mem_append_left _ (List.mem_append_right _ q)))) tyX1 tyX1_ok nmX1 3 (by decide) shC_3 rfl 5 (by decide) (by decide +kernel) rfl rfl (by decide +kernel) rfl rfl (Nat.le_of_ble_eq_true rfl) shC_pt_3_5 dX11_church_18 (fun σ_3 H locs e_4 I => ?_)
  have h := lt_at h e_4
  refine lv_aload_n hx hb dX11_church_21 rfl (lv_at hl 0 rfl) ?_
  refine ig_ (index := 52) X I (fun _ q => List.mem_cons_of_mem _ (List.mem_append_left _ (List.mem_append_left _ (List.mem_append_left _ (List.mem_append_right _ q))))) 0 (by decide) shC_0 rfl 4 (by decide) (by decide +kernel) rfl (v := .ref (a 20)) rfl dX11_church_22 ?_
  refine lv_aload_n hx hb dX11_church_25 rfl (lv_at hl 0 rfl) ?_
  refine ig_ (index := 39) X I (fun _ q => List.mem_cons_of_mem _ (List.mem_append_left _ (List.mem_append_left _ (List.mem_append_left _ (List.mem_append_right _ q))))) 0 (by decide) shC_0 rfl 2 (by decide) (by decide +kernel) rfl (v := .ref (a 3)) rfl dX11_church_26 ?_
  obtain ⟨r_7, σ_6, hc_5, h⟩ := bi_of h
  refine cg_ (v := .int r_7) (rV_ (nn := 1) (As := [.ref (a 3)]) (rest := []) X xkC I (c_C8_tells_3 hc_5 H.size) gX11_church_X8_tells rfl ⟨rfl, rfl⟩ (by decide +kernel) ⟨Nat.le_of_ble_eq_true rfl, Nat.le_of_ble_eq_true rfl⟩ (by decide) shC_20 rfl rfl hl.1 rfl (Nat.le_of_ble_eq_true rfl) dX11_church_29) I (fun H locs I => ?_)
  refine lv_istore_n (lv' := [(1, .int r_7), (0, .ref (a 0))]) hx hb dX11_church_32 rfl hl (by decide) rfl (fun ls hl => ?_)
  refine lv_aload_n hx hb dX11_church_33 rfl (lv_at hl 1 rfl) ?_
  refine ig_ (index := 52) X I (fun _ q => List.mem_cons_of_mem _ (List.mem_append_left _ (List.mem_append_left _ (List.mem_append_left _ (List.mem_append_right _ q))))) 0 (by decide) shC_0 rfl 4 (by decide) (by decide +kernel) rfl (v := .ref (a 20)) rfl dX11_church_34 ?_
  refine lv_iconst (v := 0) hx hb dX11_church_37 (by decide) ?_
  refine ip_ (index := 84) (ty := .int) X I (fun _ q => List.mem_cons_of_mem _ (List.mem_append_left _ (List.mem_append_right _ q))) tyX8 tyX8_ok nmX8 20 (by decide) shC_20 rfl 0 (by decide) (by decide +kernel) rfl rfl (by decide +kernel) rfl rfl (Nat.le_of_ble_eq_true rfl) shC_pt_20_0 dX11_church_38 (fun σ_8 H locs e_9 I => ?_)
  have h := lt_at h e_9
  refine lv_iload_n hx hb dX11_church_41 rfl (lv_at hl 0 rfl) ?_
  refine lv_if_lt (tgt := 50) hx hb dX11_church_42 (by decide) (fun c_10 => ?_) (fun c_10 => ?_)
  · have h := if_t h c_10
    refine lv_aload_n hx hb dX11_church_50 rfl (lv_at hl 1 rfl) ?_
    refine ig_ (index := 30) X I (fun _ q => List.mem_cons_of_mem _ (List.mem_append_left _ (List.mem_append_left _ (List.mem_append_left _ (List.mem_append_right _ q))))) 0 (by decide) shC_0 rfl 0 (by decide) (by decide +kernel) rfl (v := .ref (a 1)) rfl dX11_church_51 ?_
    refine lv_aload_n hx hb dX11_church_54 rfl (lv_at hl 1 rfl) ?_
    refine ig_ (index := 39) X I (fun _ q => List.mem_cons_of_mem _ (List.mem_append_left _ (List.mem_append_left _ (List.mem_append_left _ (List.mem_append_right _ q))))) 0 (by decide) shC_0 rfl 2 (by decide) (by decide +kernel) rfl (v := .ref (a 3)) rfl dX11_church_55 ?_
    obtain ⟨_, σ_12, hc_11, h⟩ := bi_of h
    refine cv_ (rV_ (nn := 1) (As := [.ref (a 3)]) (rest := []) X xkC I (c_C1_become_1_3 hc_11 H.size) gX11_church_X1_become rfl ⟨rfl, rfl⟩ (by decide +kernel) ⟨Nat.le_of_ble_eq_true rfl, Nat.le_of_ble_eq_true rfl⟩ (by decide) shC_1 rfl rfl hl.1 rfl (Nat.le_of_ble_eq_true rfl) dX11_church_58) I (fun H locs I => ?_)
    refine lv_aload_n hx hb dX11_church_61 rfl (lv_at hl 1 rfl) ?_
    refine lv_iconst (v := 0) hx hb dX11_church_62 (by decide) ?_
    refine ip_ (index := 102) (ty := .int) X I (fun _ q => List.mem_cons_of_mem _ (List.mem_append_left _ (List.mem_append_left _ (List.mem_append_left _ (List.mem_append_right _ q))))) tyX11 tyX11_ok nmX11 0 (by decide) shC_0 rfl 10 (by decide) (by decide +kernel) rfl rfl (by decide +kernel) rfl rfl (Nat.le_of_ble_eq_true rfl) shC_pt_0_10 dX11_church_63 (fun σ_13 H locs e_14 I => ?_)
    have h := lt_at h e_14
    refine lv_aload_n hx hb dX11_church_66 rfl (lv_at hl 1 rfl) ?_
    refine ig_ (index := 30) X I (fun _ q => List.mem_cons_of_mem _ (List.mem_append_left _ (List.mem_append_left _ (List.mem_append_left _ (List.mem_append_right _ q))))) 0 (by decide) shC_0 rfl 0 (by decide) (by decide +kernel) rfl (v := .ref (a 1)) rfl dX11_church_67 ?_
    refine ig_ (index := 105) X I (fun _ q => List.mem_cons_of_mem _ (List.mem_append_left _ (List.mem_append_left _ (List.mem_append_right _ q)))) 1 (by decide) shC_1 rfl 3 (by decide) (by decide +kernel) rfl (v := .int (rd_ σ_13 1 3)) rfl dX11_church_70 ?_
    obtain ⟨rfl, rfl⟩ := re_s h
    exact rti_ X I dX11_church_73
  · have h := if_f h c_10
    refine lv_bipush (v := (-100)) hx hb dX11_church_45 (by decide) ?_
    refine lv_iload_n hx hb dX11_church_47 rfl (lv_at hl 0 rfl) ?_
    refine lv_isub hx hb dX11_church_48 ?_
    obtain ⟨rfl, rfl⟩ := re_s h
    exact rti_ X I dX11_church_49
theorem c_C_church {l : Launch} {D : va_G} {cy : Nat → ClassId} {a gs : Nat → Nat} {σ : Sg}  {r0 : Int32} {σ' : Sg} (h : C_church_0 σ  = some (r0, σ')) (sz : Nat) : Met l yX11_church wsX11_church ({ frames := 9, cells := 0, slots := 0, locals := 202 }) (va_Pc [.ref (a 0)] (pr_ 59 a D cy (shC cy a σ) (xfC gs) sz)) (qg_ 59 a D (shC cy a σ') (some (.int r0)) sz) 0 0 (fr_ 59 a sz) := by
  refine ent_ (by decide) rfl (Nat.le_of_ble_eq_true rfl) ?_
  intro p e s m below meth c ls hsz X I hl
  subst hsz
  exact kC_church_0 X σ  s.heap [] ls h I hl

def C_set_0  (σ : Sg) (x1 : Int32) (x2 : Int32) : Option (Int32 × Sg) :=
  bp_ (C_within_0 x1 (3 : Int32)) fun r_2 =>
  if r_2 = 0 then (some ((-1 : Int32), σ))
  else (gd_ (in_ x1 4) (
  bp_ (C_within_0 x2 (lmA x1.toNatClampNeg)) fun r_6 =>
  if r_6 = 0 then (some ((-1 : Int32), σ))
  else (gd_ (in_ x1 4) (
  lt_ ((rd_ σ 4 x1.toNatClampNeg)) fun y_9 =>
  gd_ (in_ x1 4) (
  lt_ (wr_ σ 4 x1.toNatClampNeg x2) fun σ_11 =>
  some (y_9, σ_11))))))
set_option maxRecDepth 100000 in
theorem kC_set_0 {p : Program} {l : Launch} {e : Env} {s : State} {m : MethodId} {args : Array Value} {below : List Frame} {meth : Method} {c : Code} {D : va_G} {cy : Nat → ClassId} {a gs : Nat → Nat} (X : cx_ cX11_set RX11 wsX11_set 4 (some .int) 59 a D cy (xfC gs) p s m args meth c)  {r0 : Int32} {σ' : Sg}  : ∀ (σ : Sg) (x1 : Int32) (x2 : Int32) (H : Heap) (locs : List Loc) (ls : Array Slot), C_set_0 σ x1 x2 = some (r0, σ') → iv_ 59 a D (shC cy a σ) s H locs → lv_has ls 4 [(0, .ref (a 0)), (1, .int x1), (2, .int x2)] → W p l e ({ frames := 1, cells := 0, slots := 0, locals := 21 }) s m args below meth c H locs 0 0 (MQ below (qg_ 59 a D (shC cy a σ') (some (.int r0)) s.heap.size) args s 0 0 (fr_ 59 a s.heap.size)) (F0 m 0 ls []) := by
  obtain ⟨hx, hb, hr, hml, hown, hts, hlk, hK, hA, hXf⟩ := id X
  intro σ x1 x2 H locs ls h I hl
  unfold C_set_0 at h
  refine lv_iload_n hx hb dX11_set_0 rfl (lv_at hl 1 rfl) ?_
  refine lv_iconst (v := 3) hx hb dX11_set_1 (by decide) ?_
  obtain ⟨r_2, hc_1, h⟩ := bp_of h
  refine cp_ (rP_ (nn := 2) (As := [.int x1, .int (3 : Int32)]) (rest := []) ⟨hx, hb, hml, hown, hts⟩ (c_C_within hc_1) gX11_set_X11_within rfl ⟨rfl, rfl⟩ (by decide +kernel) ⟨Nat.le_of_ble_eq_true rfl, Nat.le_of_ble_eq_true rfl⟩ rfl hl.1 rfl (Nat.le_of_ble_eq_true rfl) dX11_set_2 ⟨Nat.zero_le _, Nat.zero_le _⟩) ?_
  refine lv_if_eq (tgt := 20) hx hb dX11_set_5 (by decide) (fun c_3 => ?_) (fun c_3 => ?_)
  · have h := if_t h c_3
    refine lv_iconst (v := (-1)) hx hb dX11_set_20 (by decide) ?_
    obtain ⟨rfl, rfl⟩ := re_s h
    exact rti_ X I dX11_set_21
  · have h := if_f h c_3
    refine lv_iload_n hx hb dX11_set_8 rfl (lv_at hl 2 rfl) ?_
    refine va_gets hx hb (xC_mz hXf) I.2 hown (hts (.fieldLink RX11 110 "BoundGodmothers" "LAW_MOST" "[I") (by decide +kernel)) (fun _ q => q) dX11_set_9 ?_
    refine lv_iload_n hx hb dX11_set_12 rfl (lv_at hl 1 rfl) ?_
    obtain ⟨g_4, h⟩ := gd_of h
    refine va_ti hx hb (xC_mt hXf) I.2 (in_of g_4) (v := .int (lmA x1.toNatClampNeg)) rfl dX11_set_13 ?_
    obtain ⟨r_6, hc_5, h⟩ := bp_of h
    refine cp_ (rP_ (nn := 2) (As := [.int x2, .int (lmA x1.toNatClampNeg)]) (rest := []) ⟨hx, hb, hml, hown, hts⟩ (c_C_within hc_5) gX11_set_X11_within rfl ⟨rfl, rfl⟩ (by decide +kernel) ⟨Nat.le_of_ble_eq_true rfl, Nat.le_of_ble_eq_true rfl⟩ rfl hl.1 rfl (Nat.le_of_ble_eq_true rfl) dX11_set_14 ⟨Nat.zero_le _, Nat.zero_le _⟩) ?_
    refine lv_if_ne (tgt := 22) hx hb dX11_set_17 (by decide) (fun c_7 => ?_) (fun c_7 => ?_)
    · have h := if_f h c_7
      refine lv_aload_n hx hb dX11_set_22 rfl (lv_at hl 0 rfl) ?_
      refine ig_ (index := 30) X I (fun _ q => List.mem_cons_of_mem _ (List.mem_append_left _ (List.mem_append_right _ q))) 0 (by decide) shC_0 rfl 0 (by decide) (by decide +kernel) rfl (v := .ref (a 1)) rfl dX11_set_23 ?_
      refine ig_ (index := 113) X I (fun _ q => List.mem_cons_of_mem _ (List.mem_append_right _ q)) 1 (by decide) shC_1 rfl 0 (by decide) (by decide +kernel) rfl (v := .ref (a 4)) rfl dX11_set_26 ?_
      refine lv_iload_n hx hb dX11_set_29 rfl (lv_at hl 1 rfl) ?_
      obtain ⟨g_8, h⟩ := gd_of h
      refine ia_ X I 4 (by decide) shC_4 (in_of g_8) (v0 := (rd_ σ 4 x1.toNatClampNeg)) rfl dX11_set_30 ?_
      refine lv_topi (fun y_9 e_10 => ?_)
      have h := lt_at h e_10
      refine lv_istore_n (lv' := [(3, .int y_9), (0, .ref (a 0)), (1, .int x1), (2, .int x2)]) hx hb dX11_set_31 rfl hl (by decide) rfl (fun ls hl => ?_)
      refine lv_aload_n hx hb dX11_set_32 rfl (lv_at hl 1 rfl) ?_
      refine ig_ (index := 30) X I (fun _ q => List.mem_cons_of_mem _ (List.mem_append_left _ (List.mem_append_right _ q))) 0 (by decide) shC_0 rfl 0 (by decide) (by decide +kernel) rfl (v := .ref (a 1)) rfl dX11_set_33 ?_
      refine ig_ (index := 113) X I (fun _ q => List.mem_cons_of_mem _ (List.mem_append_right _ q)) 1 (by decide) shC_1 rfl 0 (by decide) (by decide +kernel) rfl (v := .ref (a 4)) rfl dX11_set_36 ?_
      refine lv_iload_n hx hb dX11_set_39 rfl (lv_at hl 2 rfl) ?_
      refine lv_iload_n hx hb dX11_set_40 rfl (lv_at hl 3 rfl) ?_
      obtain ⟨g_13, h⟩ := gd_of h
      refine is_ (σ2 := wr_ σ 4 x1.toNatClampNeg x2) X I 4 (by decide) shC_4 (in_of g_13) shC_st_4 dX11_set_41 (fun σ_11 H locs e_12 I => ?_)
      have h := lt_at h e_12
      refine lv_iload_n hx hb dX11_set_42 rfl (lv_at hl 0 rfl) ?_
      obtain ⟨rfl, rfl⟩ := re_s h
      exact rti_ X I dX11_set_43
    · have h := if_t h c_7
      refine lv_iconst (v := (-1)) hx hb dX11_set_20 (by decide) ?_
      obtain ⟨rfl, rfl⟩ := re_s h
      exact rti_ X I dX11_set_21
theorem c_C_set {l : Launch} {D : va_G} {cy : Nat → ClassId} {a gs : Nat → Nat} {σ : Sg} {x1 : Int32} {x2 : Int32} {r0 : Int32} {σ' : Sg} (h : C_set_0 σ x1 x2 = some (r0, σ')) (sz : Nat) : Met l yX11_set wsX11_set ({ frames := 1, cells := 0, slots := 0, locals := 21 }) (va_Pc [.ref (a 0), .int x1, .int x2] (pr_ 59 a D cy (shC cy a σ) (xfC gs) sz)) (qg_ 59 a D (shC cy a σ') (some (.int r0)) sz) 0 0 (fr_ 59 a sz) := by
  refine ent_ (by decide) rfl (Nat.le_of_ble_eq_true rfl) ?_
  intro p e s m below meth c ls hsz X I hl
  subst hsz
  exact kC_set_0 X σ x1 x2 s.heap [] ls h I hl

def C_lawOf_0  (σ : Sg) (x1 : Int32) : Option (Int32 × Sg) :=
  bp_ (C_within_0 x1 (3 : Int32)) fun r_2 =>
  if r_2 = 0 then (some ((-1 : Int32), σ))
  else (gd_ (in_ x1 4) (
  some ((rd_ σ 4 x1.toNatClampNeg), σ)))
set_option maxRecDepth 100000 in
theorem kC_lawOf_0 {p : Program} {l : Launch} {e : Env} {s : State} {m : MethodId} {args : Array Value} {below : List Frame} {meth : Method} {c : Code} {D : va_G} {cy : Nat → ClassId} {a gs : Nat → Nat} (X : cx_ cX11_lawOf RX11 wsX11_lawOf 2 (some .int) 59 a D cy (xfC gs) p s m args meth c)  {r0 : Int32} {σ' : Sg}  : ∀ (σ : Sg) (x1 : Int32) (H : Heap) (locs : List Loc) (ls : Array Slot), C_lawOf_0 σ x1 = some (r0, σ') → iv_ 59 a D (shC cy a σ) s H locs → lv_has ls 2 [(0, .ref (a 0)), (1, .int x1)] → W p l e ({ frames := 1, cells := 0, slots := 0, locals := 21 }) s m args below meth c H locs 0 0 (MQ below (qg_ 59 a D (shC cy a σ') (some (.int r0)) s.heap.size) args s 0 0 (fr_ 59 a s.heap.size)) (F0 m 0 ls []) := by
  obtain ⟨hx, hb, hr, hml, hown, hts, hlk, hK, hA, hXf⟩ := id X
  intro σ x1 H locs ls h I hl
  unfold C_lawOf_0 at h
  refine lv_iload_n hx hb dX11_lawOf_0 rfl (lv_at hl 1 rfl) ?_
  refine lv_iconst (v := 3) hx hb dX11_lawOf_1 (by decide) ?_
  obtain ⟨r_2, hc_1, h⟩ := bp_of h
  refine cp_ (rP_ (nn := 2) (As := [.int x1, .int (3 : Int32)]) (rest := []) ⟨hx, hb, hml, hown, hts⟩ (c_C_within hc_1) gX11_lawOf_X11_within rfl ⟨rfl, rfl⟩ (by decide +kernel) ⟨Nat.le_of_ble_eq_true rfl, Nat.le_of_ble_eq_true rfl⟩ rfl hl.1 rfl (Nat.le_of_ble_eq_true rfl) dX11_lawOf_2 ⟨Nat.zero_le _, Nat.zero_le _⟩) ?_
  refine lv_if_eq (tgt := 20) hx hb dX11_lawOf_5 (by decide) (fun c_3 => ?_) (fun c_3 => ?_)
  · have h := if_t h c_3
    refine lv_iconst (v := (-1)) hx hb dX11_lawOf_20 (by decide) ?_
    obtain ⟨rfl, rfl⟩ := re_s h
    exact rti_ X I dX11_lawOf_21
  · have h := if_f h c_3
    refine lv_aload_n hx hb dX11_lawOf_8 rfl (lv_at hl 0 rfl) ?_
    refine ig_ (index := 30) X I (fun _ q => List.mem_cons_of_mem _ (List.mem_append_left _ (List.mem_append_right _ q))) 0 (by decide) shC_0 rfl 0 (by decide) (by decide +kernel) rfl (v := .ref (a 1)) rfl dX11_lawOf_9 ?_
    refine ig_ (index := 113) X I (fun _ q => List.mem_cons_of_mem _ (List.mem_append_right _ q)) 1 (by decide) shC_1 rfl 0 (by decide) (by decide +kernel) rfl (v := .ref (a 4)) rfl dX11_lawOf_12 ?_
    refine lv_iload_n hx hb dX11_lawOf_15 rfl (lv_at hl 1 rfl) ?_
    obtain ⟨g_4, h⟩ := gd_of h
    refine ia_ X I 4 (by decide) shC_4 (in_of g_4) (v0 := (rd_ σ 4 x1.toNatClampNeg)) rfl dX11_lawOf_16 ?_
    refine lv_goto (tgt := 21) hx hb dX11_lawOf_17 (by decide) ?_
    obtain ⟨rfl, rfl⟩ := re_s h
    exact rti_ X I dX11_lawOf_21
theorem c_C_lawOf {l : Launch} {D : va_G} {cy : Nat → ClassId} {a gs : Nat → Nat} {σ : Sg} {x1 : Int32} {r0 : Int32} {σ' : Sg} (h : C_lawOf_0 σ x1 = some (r0, σ')) (sz : Nat) : Met l yX11_lawOf wsX11_lawOf ({ frames := 1, cells := 0, slots := 0, locals := 21 }) (va_Pc [.ref (a 0), .int x1] (pr_ 59 a D cy (shC cy a σ) (xfC gs) sz)) (qg_ 59 a D (shC cy a σ') (some (.int r0)) sz) 0 0 (fr_ 59 a sz) := by
  refine ent_ (by decide) rfl (Nat.le_of_ble_eq_true rfl) ?_
  intro p e s m below meth c ls hsz X I hl
  subst hsz
  exact kC_lawOf_0 X σ x1 s.heap [] ls h I hl

def C_isKindWithFire_0  (x0 : Int32) (x1 : Int32) : Option Int32 :=
  bp_ (C_within_0 x0 (5 : Int32)) fun r_2 =>
  if r_2 = 0 then (some ((0 : Int32)))
  else (bp_ (C_within_0 x1 (9 : Int32)) fun r_5 =>
  if r_5 = 0 then (some ((0 : Int32)))
  else (some ((1 : Int32))))
set_option maxRecDepth 100000 in
theorem kC_isKindWithFire_0 {p : Program} {l : Launch} {e : Env} {s : State} {m : MethodId} {args : Array Value} {below : List Frame} {meth : Method} {c : Code} (X : px_ cX11_isKindWithFire RX11 wsX11_isKindWithFire 2 (some .boolean) p s m args meth c)  {r0 : Int32}  : ∀ (x0 : Int32) (x1 : Int32) (ls : Array Slot), C_isKindWithFire_0 x0 x1 = some r0 → lv_has ls 2 [(0, .int x0), (1, .int x1)] → W p l e ({ frames := 1, cells := 0, slots := 0, locals := 21 }) s m args below meth c s.heap [] 0 0 (MQ below (qp_ (some (.int r0))) args s 0 0 (fun _ => False)) (F0 m 0 ls []) := by
  obtain ⟨hx, hb, hr, hml, hown, hts, hlk⟩ := id X
  intro x0 x1 ls h hl
  unfold C_isKindWithFire_0 at h
  refine lv_iload_n hx hb dX11_isKindWithFire_0 rfl (lv_at hl 0 rfl) ?_
  refine lv_iconst (v := 5) hx hb dX11_isKindWithFire_1 (by decide) ?_
  obtain ⟨r_2, hc_1, h⟩ := bp_of h
  refine cp_ (rP_ (nn := 2) (As := [.int x0, .int (5 : Int32)]) (rest := []) ⟨hx, hb, hml, hown, hts⟩ (c_C_within hc_1) gX11_isKindWithFire_X11_within rfl ⟨rfl, rfl⟩ (by decide +kernel) ⟨Nat.le_of_ble_eq_true rfl, Nat.le_of_ble_eq_true rfl⟩ rfl hl.1 rfl (Nat.le_of_ble_eq_true rfl) dX11_isKindWithFire_2 ⟨Nat.zero_le _, Nat.zero_le _⟩) ?_
  refine lv_if_eq (tgt := 21) hx hb dX11_isKindWithFire_5 (by decide) (fun c_3 => ?_) (fun c_3 => ?_)
  · have h := if_t h c_3
    refine lv_iconst (v := 0) hx hb dX11_isKindWithFire_21 (by decide) ?_
    obtain rfl := re_p h
    exact rpz_ X (by decide) dX11_isKindWithFire_22
  · have h := if_f h c_3
    refine lv_iload_n hx hb dX11_isKindWithFire_8 rfl (lv_at hl 1 rfl) ?_
    refine lv_bipush (v := 9) hx hb dX11_isKindWithFire_9 (by decide) ?_
    obtain ⟨r_5, hc_4, h⟩ := bp_of h
    refine cp_ (rP_ (nn := 2) (As := [.int x1, .int (9 : Int32)]) (rest := []) ⟨hx, hb, hml, hown, hts⟩ (c_C_within hc_4) gX11_isKindWithFire_X11_within rfl ⟨rfl, rfl⟩ (by decide +kernel) ⟨Nat.le_of_ble_eq_true rfl, Nat.le_of_ble_eq_true rfl⟩ rfl hl.1 rfl (Nat.le_of_ble_eq_true rfl) dX11_isKindWithFire_11 ⟨Nat.zero_le _, Nat.zero_le _⟩) ?_
    refine lv_if_eq (tgt := 21) hx hb dX11_isKindWithFire_14 (by decide) (fun c_6 => ?_) (fun c_6 => ?_)
    · have h := if_t h c_6
      refine lv_iconst (v := 0) hx hb dX11_isKindWithFire_21 (by decide) ?_
      obtain rfl := re_p h
      exact rpz_ X (by decide) dX11_isKindWithFire_22
    · have h := if_f h c_6
      refine lv_iconst (v := 1) hx hb dX11_isKindWithFire_17 (by decide) ?_
      refine lv_goto (tgt := 22) hx hb dX11_isKindWithFire_18 (by decide) ?_
      obtain rfl := re_p h
      exact rpz_ X (by decide) dX11_isKindWithFire_22
theorem c_C_isKindWithFire {l : Launch} {x0 : Int32} {x1 : Int32} {r0 : Int32} (h : C_isKindWithFire_0 x0 x1 = some r0) : Met l yX11_isKindWithFire wsX11_isKindWithFire ({ frames := 1, cells := 0, slots := 0, locals := 21 }) (pp_ [.int x0, .int x1]) (qp_ (some (.int r0))) 0 0 (fun _ => False) := by
  refine enp_ (by decide) rfl (Nat.le_of_ble_eq_true rfl) ?_
  intro p e s m below meth c ls X hl
  exact kC_isKindWithFire_0 X x0 x1 ls h hl

def C_isGodmother_0  (x0 : Int32) : Option Int32 :=
  bp_ (C_within_0 x0 (7 : Int32)) fun r_2 =>
  gd_ (bo_ r_2) (some (r_2))
set_option maxRecDepth 100000 in
theorem kC_isGodmother_0 {p : Program} {l : Launch} {e : Env} {s : State} {m : MethodId} {args : Array Value} {below : List Frame} {meth : Method} {c : Code} (X : px_ cX11_isGodmother RX11 wsX11_isGodmother 1 (some .boolean) p s m args meth c)  {r0 : Int32}  : ∀ (x0 : Int32) (ls : Array Slot), C_isGodmother_0 x0 = some r0 → lv_has ls 1 [(0, .int x0)] → W p l e ({ frames := 1, cells := 0, slots := 0, locals := 21 }) s m args below meth c s.heap [] 0 0 (MQ below (qp_ (some (.int r0))) args s 0 0 (fun _ => False)) (F0 m 0 ls []) := by
  obtain ⟨hx, hb, hr, hml, hown, hts, hlk⟩ := id X
  intro x0 ls h hl
  unfold C_isGodmother_0 at h
  refine lv_iload_n hx hb dX11_isGodmother_0 rfl (lv_at hl 0 rfl) ?_
  refine lv_bipush (v := 7) hx hb dX11_isGodmother_1 (by decide) ?_
  obtain ⟨r_2, hc_1, h⟩ := bp_of h
  refine cp_ (rP_ (nn := 2) (As := [.int x0, .int (7 : Int32)]) (rest := []) ⟨hx, hb, hml, hown, hts⟩ (c_C_within hc_1) gX11_isGodmother_X11_within rfl ⟨rfl, rfl⟩ (by decide +kernel) ⟨Nat.le_of_ble_eq_true rfl, Nat.le_of_ble_eq_true rfl⟩ rfl hl.1 rfl (Nat.le_of_ble_eq_true rfl) dX11_isGodmother_3 ⟨Nat.zero_le _, Nat.zero_le _⟩) ?_
  obtain ⟨g_3, h⟩ := gd_of h
  obtain rfl := re_p h
  exact rpz_ X (bo_of g_3).1 dX11_isGodmother_6
theorem c_C_isGodmother {l : Launch} {x0 : Int32} {r0 : Int32} (h : C_isGodmother_0 x0 = some r0) : Met l yX11_isGodmother wsX11_isGodmother ({ frames := 1, cells := 0, slots := 0, locals := 21 }) (pp_ [.int x0]) (qp_ (some (.int r0))) 0 0 (fun _ => False) := by
  refine enp_ (by decide) rfl (Nat.le_of_ble_eq_true rfl) ?_
  intro p e s m below meth c ls X hl
  exact kC_isGodmother_0 X x0 ls h hl

def C1_life_0  (σ : Sg) (x1 : Int32) : Option (Option Nat × Sg) :=
  bp_ (C_within_0 x1 ((if (8 : Int32) < (rd_ σ 1 3) then (8 : Int32) else (rd_ σ 1 3)) - (1 : Int32))) fun r_2 =>
  if r_2 = 0 then (some (none, σ))
  else (gd_ (in_ x1 8) (
  some ((some x1.toNatClampNeg), σ)))
set_option maxRecDepth 100000 in
theorem kC1_life_0 {p : Program} {l : Launch} {e : Env} {s : State} {m : MethodId} {args : Array Value} {below : List Frame} {meth : Method} {c : Code} {D : va_G} {cy : Nat → ClassId} {a gs : Nat → Nat} (X : cx_ cX1_life RX1 wsX1_life 2 (some (.object "BoundGodmothers$Life")) 59 a D cy (xfC gs) p s m args meth c)  {r0 : Option Nat} {σ' : Sg}  : ∀ (σ : Sg) (x1 : Int32) (H : Heap) (locs : List Loc) (ls : Array Slot), C1_life_0 σ x1 = some (r0, σ') → iv_ 59 a D (shC cy a σ) s H locs → lv_has ls 2 [(0, .ref (a 1)), (1, .int x1)] → W p l e ({ frames := 1, cells := 0, slots := 0, locals := 21 }) s m args below meth c H locs 0 0 (MQ below (qg_ 59 a D (shC cy a σ') (some (va_re (fun j => a (34 + j)) r0)) s.heap.size) args s 0 0 (fr_ 59 a s.heap.size)) (F0 m 0 ls []) := by
  obtain ⟨hx, hb, hr, hml, hown, hts, hlk, hK, hA, hXf⟩ := id X
  intro σ x1 H locs ls h I hl
  unfold C1_life_0 at h
  refine lv_iload_n hx hb dX1_life_0 rfl (lv_at hl 1 rfl) ?_
  refine lv_aload_n hx hb dX1_life_1 rfl (lv_at hl 0 rfl) ?_
  refine ig_ (index := 42) X I (fun _ q => List.mem_cons_of_mem _ (List.mem_append_right _ q)) 1 (by decide) shC_1 rfl 3 (by decide) (by decide +kernel) rfl (v := .int (rd_ σ 1 3)) rfl dX1_life_2 ?_
  refine lv_bipush (v := 8) hx hb dX1_life_5 (by decide) ?_
  refine va_mmin hx hb (by rw [hml]; exact hl.1.symm) hown (hts (.methodLink RX1 52 Lib.Math.min.name) (by decide +kernel)) (hts (.static Lib.Math.min.name) (by decide +kernel)) (hts (.initialized "java/lang/Math") (by decide +kernel)) (hts (.code Lib.Math.min.name Lib.Math.min.code 2 (some .int)) (by decide +kernel)) (Nat.le_of_ble_eq_true rfl) (Nat.le_of_ble_eq_true rfl) (Nat.zero_le _) (Nat.zero_le _) dX1_life_7 ?_
  refine lv_iconst (v := 1) hx hb dX1_life_10 (by decide) ?_
  refine lv_isub hx hb dX1_life_11 ?_
  obtain ⟨r_2, hc_1, h⟩ := bp_of h
  refine cp_ (rN_ (host := "BoundGodmothers") (nn := 2) (As := [.int x1, .int ((if (8 : Int32) < (rd_ σ 1 3) then (8 : Int32) else (rd_ σ 1 3)) - (1 : Int32))]) (rest := []) ⟨hx, hb, hml, hown, hts⟩ (c_C_within hc_1) gX1_life_X11_within_n58 (xC_nw1 hXf) (by decide +kernel) (by decide +kernel) rfl ⟨rfl, rfl⟩ (by decide +kernel) ⟨Nat.le_of_ble_eq_true rfl, Nat.le_of_ble_eq_true rfl⟩ rfl hl.1 rfl (Nat.le_of_ble_eq_true rfl) dX1_life_12 ⟨Nat.zero_le _, Nat.zero_le _⟩) ?_
  refine lv_if_eq (tgt := 27) hx hb dX1_life_15 (by decide) (fun c_3 => ?_) (fun c_3 => ?_)
  · have h := if_t h c_3
    refine lv_null hx hb dX1_life_27 ?_
    obtain ⟨rfl, rfl⟩ := re_s h
    exact rta_ X I (Or.inl rfl) dX1_life_28
  · have h := if_f h c_3
    refine lv_aload_n hx hb dX1_life_18 rfl (lv_at hl 0 rfl) ?_
    refine ig_ (index := 24) X I (fun _ q => List.mem_cons_of_mem _ (List.mem_append_right _ q)) 1 (by decide) shC_1 rfl 6 (by decide) (by decide +kernel) rfl (v := .ref (a 10)) rfl dX1_life_19 ?_
    refine lv_iload_n hx hb dX1_life_22 rfl (lv_at hl 1 rfl) ?_
    obtain ⟨g_4, h⟩ := gd_of h
    refine aq_ (t := 4) (b := (a (34 + x1.toNatClampNeg))) X I 10 (by decide) shC_10 rfl (in_of g_4) rfl dX1_life_23 ?_
    refine lv_goto (tgt := 28) hx hb dX1_life_24 (by decide) ?_
    obtain ⟨rfl, rfl⟩ := re_s h
    exact rta_ X I (Or.inr ⟨_, rfl⟩) dX1_life_28
theorem c_C1_life {l : Launch} {D : va_G} {cy : Nat → ClassId} {a gs : Nat → Nat} {σ : Sg} {x1 : Int32} {r0 : Option Nat} {σ' : Sg} (h : C1_life_0 σ x1 = some (r0, σ')) (sz : Nat) : Met l yX1_life wsX1_life ({ frames := 1, cells := 0, slots := 0, locals := 21 }) (va_Pc [.ref (a 1), .int x1] (pr_ 59 a D cy (shC cy a σ) (xfC gs) sz)) (qg_ 59 a D (shC cy a σ') (some (va_re (fun j => a (34 + j)) r0)) sz) 0 0 (fr_ 59 a sz) := by
  refine ent_ (by decide) rfl (Nat.le_of_ble_eq_true rfl) ?_
  intro p e s m below meth c ls hsz X I hl
  subst hsz
  exact kC1_life_0 X σ x1 s.heap [] ls h I hl

def C1_added_0  (σ : Sg)  : Option (Option Nat × Sg) :=
  if (rd_ σ 1 3) < (8 : Int32) then (lt_ (wr_ σ 1 3 ((rd_ σ 1 3) + (1 : Int32))) fun σ_2 =>
  bi_ (C1_life_0 σ_2 ((rd_ σ_2 1 3) - (1 : Int32))) fun r_6 σ_5 =>
  on_ r_6 (some (none, σ_5)) fun j_7 =>
  some ((some j_7), σ_5))
  else (some (none, σ))
set_option maxRecDepth 100000 in
theorem kC1_added_0 {p : Program} {l : Launch} {e : Env} {s : State} {m : MethodId} {args : Array Value} {below : List Frame} {meth : Method} {c : Code} {D : va_G} {cy : Nat → ClassId} {a gs : Nat → Nat} (X : cx_ cX1_added RX1 wsX1_added 1 (some (.object "BoundGodmothers$Life")) 59 a D cy (xfC gs) p s m args meth c)  {r0 : Option Nat} {σ' : Sg}  : ∀ (σ : Sg)  (H : Heap) (locs : List Loc) (ls : Array Slot), C1_added_0 σ = some (r0, σ') → iv_ 59 a D (shC cy a σ) s H locs → lv_has ls 1 [(0, .ref (a 1))] → W p l e ({ frames := 2, cells := 0, slots := 0, locals := 42 }) s m args below meth c H locs 0 0 (MQ below (qg_ 59 a D (shC cy a σ') (some (va_re (fun j => a (34 + j)) r0)) s.heap.size) args s 0 0 (fr_ 59 a s.heap.size)) (F0 m 0 ls []) := by
  obtain ⟨hx, hb, hr, hml, hown, hts, hlk, hK, hA, hXf⟩ := id X
  intro σ  H locs ls h I hl
  unfold C1_added_0 at h
  refine lv_aload_n hx hb dX1_added_0 rfl (lv_at hl 0 rfl) ?_
  refine ig_ (index := 42) X I (fun _ q => List.mem_cons_of_mem _ (List.mem_append_right _ q)) 1 (by decide) shC_1 rfl 3 (by decide) (by decide +kernel) rfl (v := .int (rd_ σ 1 3)) rfl dX1_added_1 ?_
  refine lv_bipush (v := 8) hx hb dX1_added_4 (by decide) ?_
  refine lv_icmp_lt (tgt := 11) hx hb dX1_added_6 (by decide) (fun c_1 => ?_) (fun c_1 => ?_)
  · have h := if_t h c_1
    refine lv_aload_n hx hb dX1_added_11 rfl (lv_at hl 0 rfl) ?_
    refine lv_dup hx hb dX1_added_12 rfl ?_
    refine ig_ (index := 42) X I (fun _ q => List.mem_cons_of_mem _ (List.mem_append_right _ q)) 1 (by decide) shC_1 rfl 3 (by decide) (by decide +kernel) rfl (v := .int (rd_ σ 1 3)) rfl dX1_added_13 ?_
    refine lv_iconst (v := 1) hx hb dX1_added_16 (by decide) ?_
    refine lv_iadd hx hb dX1_added_17 ?_
    refine ip_ (index := 42) (ty := .int) X I (fun _ q => List.mem_cons_of_mem _ (List.mem_append_right _ q)) tyX1 tyX1_ok nmX1 1 (by decide) shC_1 rfl 3 (by decide) (by decide +kernel) rfl rfl (by decide +kernel) rfl rfl (Nat.le_of_ble_eq_true rfl) shC_pt_1_3 dX1_added_18 (fun σ_2 H locs e_3 I => ?_)
    have h := lt_at h e_3
    refine lv_aload_n hx hb dX1_added_21 rfl (lv_at hl 0 rfl) ?_
    refine lv_aload_n hx hb dX1_added_22 rfl (lv_at hl 0 rfl) ?_
    refine ig_ (index := 42) X I (fun _ q => List.mem_cons_of_mem _ (List.mem_append_right _ q)) 1 (by decide) shC_1 rfl 3 (by decide) (by decide +kernel) rfl (v := .int (rd_ σ_2 1 3)) rfl dX1_added_23 ?_
    refine lv_iconst (v := 1) hx hb dX1_added_26 (by decide) ?_
    refine lv_isub hx hb dX1_added_27 ?_
    obtain ⟨r_6, σ_5, hc_4, h⟩ := bi_of h
    refine cg_ (v := va_re (fun j => a (34 + j)) r_6) (rV_ (nn := 1) (As := [.int ((rd_ σ_2 1 3) - (1 : Int32))]) (rest := []) X xkC I (c_C1_life hc_4 H.size) gX1_added_X1_life rfl ⟨rfl, rfl⟩ (by decide +kernel) ⟨Nat.le_of_ble_eq_true rfl, Nat.le_of_ble_eq_true rfl⟩ (by decide) shC_1 rfl rfl hl.1 rfl (Nat.le_of_ble_eq_true rfl) dX1_added_28) I (fun H locs I => ?_)
    rcases r_6 with _ | j_7
    · have h := on_n h
      refine W.eq (g2 := F0 m 31 ls [.null]) rfl ?_
      obtain ⟨rfl, rfl⟩ := re_s h
      exact rta_ X I (Or.inl rfl) dX1_added_31
    · have h := on_s h
      refine W.eq (g2 := F0 m 31 ls [.ref (a (34 + j_7))]) rfl ?_
      obtain ⟨rfl, rfl⟩ := re_s h
      exact rta_ X I (Or.inr ⟨_, rfl⟩) dX1_added_31
  · have h := if_f h c_1
    refine lv_null hx hb dX1_added_9 ?_
    obtain ⟨rfl, rfl⟩ := re_s h
    exact rta_ X I (Or.inl rfl) dX1_added_10
theorem c_C1_added {l : Launch} {D : va_G} {cy : Nat → ClassId} {a gs : Nat → Nat} {σ : Sg}  {r0 : Option Nat} {σ' : Sg} (h : C1_added_0 σ  = some (r0, σ')) (sz : Nat) : Met l yX1_added wsX1_added ({ frames := 2, cells := 0, slots := 0, locals := 42 }) (va_Pc [.ref (a 1)] (pr_ 59 a D cy (shC cy a σ) (xfC gs) sz)) (qg_ 59 a D (shC cy a σ') (some (va_re (fun j => a (34 + j)) r0)) sz) 0 0 (fr_ 59 a sz) := by
  refine ent_ (by decide) rfl (Nat.le_of_ble_eq_true rfl) ?_
  intro p e s m below meth c ls hsz X I hl
  subst hsz
  exact kC1_added_0 X σ  s.heap [] ls h I hl

def C_child_0  (σ : Sg) (x1 : Int32) (x2 : Int32) (x3 : Int32) (x4 : Int32) : Option (Int32 × Sg) :=
  bp_ (C_isKindWithFire_0 x1 x3) fun r_2 =>
  if r_2 = 0 then (some ((-1 : Int32), σ))
  else (bp_ (C_within_0 x2 (99 : Int32)) fun r_5 =>
  if r_5 = 0 then (some ((-1 : Int32), σ))
  else (bp_ (C_isGodmother_0 x4) fun r_8 =>
  if r_8 = 0 then (some ((-1 : Int32), σ))
  else (bi_ (C1_added_0 σ) fun r_12 σ_11 =>
  on_ r_12 (some ((-2 : Int32), σ_11)) fun j_13 =>
  gd_ (lf_ j_13 25) (
  bi_ (C6_begin_0 σ_11 j_13 x1 x2 x3 x4) fun _ σ_15 =>
  some (((rd_ σ_15 1 3) - (1 : Int32)), σ_15)))))
set_option maxRecDepth 100000 in
theorem kC_child_0 {p : Program} {l : Launch} {e : Env} {s : State} {m : MethodId} {args : Array Value} {below : List Frame} {meth : Method} {c : Code} {D : va_G} {cy : Nat → ClassId} {a gs : Nat → Nat} (X : cx_ cX11_child RX11 wsX11_child 6 (some .int) 59 a D cy (xfC gs) p s m args meth c)  {r0 : Int32} {σ' : Sg}  : ∀ (σ : Sg) (x1 : Int32) (x2 : Int32) (x3 : Int32) (x4 : Int32) (H : Heap) (locs : List Loc) (ls : Array Slot), C_child_0 σ x1 x2 x3 x4 = some (r0, σ') → iv_ 59 a D (shC cy a σ) s H locs → lv_has ls 6 [(0, .ref (a 0)), (1, .int x1), (2, .int x2), (3, .int x3), (4, .int x4)] → W p l e ({ frames := 3, cells := 0, slots := 0, locals := 62 }) s m args below meth c H locs 0 0 (MQ below (qg_ 59 a D (shC cy a σ') (some (.int r0)) s.heap.size) args s 0 0 (fr_ 59 a s.heap.size)) (F0 m 0 ls []) := by
  obtain ⟨hx, hb, hr, hml, hown, hts, hlk, hK, hA, hXf⟩ := id X
  intro σ x1 x2 x3 x4 H locs ls h I hl
  unfold C_child_0 at h
  refine lv_iload_n hx hb dX11_child_0 rfl (lv_at hl 1 rfl) ?_
  refine lv_iload_n hx hb dX11_child_1 rfl (lv_at hl 3 rfl) ?_
  obtain ⟨r_2, hc_1, h⟩ := bp_of h
  refine cp_ (rP_ (nn := 2) (As := [.int x1, .int x3]) (rest := []) ⟨hx, hb, hml, hown, hts⟩ (c_C_isKindWithFire hc_1) gX11_child_X11_isKindWithFire rfl ⟨rfl, rfl⟩ (by decide +kernel) ⟨Nat.le_of_ble_eq_true rfl, Nat.le_of_ble_eq_true rfl⟩ rfl hl.1 rfl (Nat.le_of_ble_eq_true rfl) dX11_child_2 ⟨Nat.zero_le _, Nat.zero_le _⟩) ?_
  refine lv_if_eq (tgt := 25) hx hb dX11_child_5 (by decide) (fun c_3 => ?_) (fun c_3 => ?_)
  · have h := if_t h c_3
    refine lv_iconst (v := (-1)) hx hb dX11_child_25 (by decide) ?_
    obtain ⟨rfl, rfl⟩ := re_s h
    exact rti_ X I dX11_child_26
  · have h := if_f h c_3
    refine lv_iload_n hx hb dX11_child_8 rfl (lv_at hl 2 rfl) ?_
    refine lv_bipush (v := 99) hx hb dX11_child_9 (by decide) ?_
    obtain ⟨r_5, hc_4, h⟩ := bp_of h
    refine cp_ (rP_ (nn := 2) (As := [.int x2, .int (99 : Int32)]) (rest := []) ⟨hx, hb, hml, hown, hts⟩ (c_C_within hc_4) gX11_child_X11_within rfl ⟨rfl, rfl⟩ (by decide +kernel) ⟨Nat.le_of_ble_eq_true rfl, Nat.le_of_ble_eq_true rfl⟩ rfl hl.1 rfl (Nat.le_of_ble_eq_true rfl) dX11_child_11 ⟨Nat.zero_le _, Nat.zero_le _⟩) ?_
    refine lv_if_eq (tgt := 25) hx hb dX11_child_14 (by decide) (fun c_6 => ?_) (fun c_6 => ?_)
    · have h := if_t h c_6
      refine lv_iconst (v := (-1)) hx hb dX11_child_25 (by decide) ?_
      obtain ⟨rfl, rfl⟩ := re_s h
      exact rti_ X I dX11_child_26
    · have h := if_f h c_6
      refine lv_iload hx hb dX11_child_17 (lv_at hl 4 rfl) ?_
      obtain ⟨r_8, hc_7, h⟩ := bp_of h
      refine cp_ (rP_ (nn := 1) (As := [.int x4]) (rest := []) ⟨hx, hb, hml, hown, hts⟩ (c_C_isGodmother hc_7) gX11_child_X11_isGodmother rfl ⟨rfl, rfl⟩ (by decide +kernel) ⟨Nat.le_of_ble_eq_true rfl, Nat.le_of_ble_eq_true rfl⟩ rfl hl.1 rfl (Nat.le_of_ble_eq_true rfl) dX11_child_19 ⟨Nat.zero_le _, Nat.zero_le _⟩) ?_
      refine lv_if_ne (tgt := 27) hx hb dX11_child_22 (by decide) (fun c_9 => ?_) (fun c_9 => ?_)
      · have h := if_f h c_9
        refine lv_aload_n hx hb dX11_child_27 rfl (lv_at hl 0 rfl) ?_
        refine ig_ (index := 30) X I (fun _ q => List.mem_cons_of_mem _ (List.mem_append_left _ (List.mem_append_left _ (List.mem_append_right _ q)))) 0 (by decide) shC_0 rfl 0 (by decide) (by decide +kernel) rfl (v := .ref (a 1)) rfl dX11_child_28 ?_
        obtain ⟨r_12, σ_11, hc_10, h⟩ := bi_of h
        refine cg_ (v := va_re (fun j => a (34 + j)) r_12) (rV_ (nn := 0) (As := []) (rest := []) X xkC I (c_C1_added hc_10 H.size) gX11_child_X1_added rfl ⟨rfl, rfl⟩ (by decide +kernel) ⟨Nat.le_of_ble_eq_true rfl, Nat.le_of_ble_eq_true rfl⟩ (by decide) shC_1 rfl rfl hl.1 rfl (Nat.le_of_ble_eq_true rfl) dX11_child_31) I (fun H locs I => ?_)
        rcases r_12 with _ | j_13
        · have h := on_n h
          refine W.eq (g2 := F0 m 34 ls [.null]) rfl ?_
          refine lv_astoreN (lv' := [(5, .null), (0, .ref (a 0)), (1, .int x1), (2, .int x2), (3, .int x3), (4, .int x4)]) hx hb dX11_child_34 hl (by decide) rfl (fun ls hl => ?_)
          refine lv_aloadN hx hb dX11_child_36 (lv_at hl 0 rfl) ?_
          refine lv_ifnonnullN hx hb dX11_child_38 ?_
          refine lv_bipush (v := (-2)) hx hb dX11_child_41 (by decide) ?_
          obtain ⟨rfl, rfl⟩ := re_s h
          exact rti_ X I dX11_child_43
        · have h := on_s h
          refine W.eq (g2 := F0 m 34 ls [.ref (a (34 + j_13))]) rfl ?_
          refine lv_astore (lv' := [(5, .ref (a (34 + j_13))), (0, .ref (a 0)), (1, .int x1), (2, .int x2), (3, .int x3), (4, .int x4)]) hx hb dX11_child_34 hl (by decide) rfl (fun ls hl => ?_)
          refine lv_aload hx hb dX11_child_36 (lv_at hl 0 rfl) ?_
          refine lv_ifnonnull (tgt := 44) hx hb dX11_child_38 (by decide) ?_
          refine lv_aload hx hb dX11_child_44 (lv_at hl 0 rfl) ?_
          refine lv_iload_n hx hb dX11_child_46 rfl (lv_at hl 2 rfl) ?_
          refine lv_iload_n hx hb dX11_child_47 rfl (lv_at hl 3 rfl) ?_
          refine lv_iload_n hx hb dX11_child_48 rfl (lv_at hl 4 rfl) ?_
          refine lv_iload hx hb dX11_child_49 (lv_at hl 5 rfl) ?_
          obtain ⟨g_16, h⟩ := gd_of h
          obtain ⟨_, σ_15, hc_14, h⟩ := bi_of h
          refine cv_ (rV_ (nn := 4) (As := [.int x1, .int x2, .int x3, .int x4]) (rest := []) X xkC I (c_C6_begin hc_14 H.size) gX11_child_X6_begin rfl ⟨rfl, rfl⟩ (by decide +kernel) ⟨Nat.le_of_ble_eq_true rfl, Nat.le_of_ble_eq_true rfl⟩ (lf59 g_16) shC_L rfl rfl hl.1 rfl (Nat.le_of_ble_eq_true rfl) dX11_child_51) I (fun H locs I => ?_)
          refine lv_aload_n hx hb dX11_child_54 rfl (lv_at hl 1 rfl) ?_
          refine ig_ (index := 30) X I (fun _ q => List.mem_cons_of_mem _ (List.mem_append_left _ (List.mem_append_left _ (List.mem_append_right _ q)))) 0 (by decide) shC_0 rfl 0 (by decide) (by decide +kernel) rfl (v := .ref (a 1)) rfl dX11_child_55 ?_
          refine ig_ (index := 105) X I (fun _ q => List.mem_cons_of_mem _ (List.mem_append_left _ (List.mem_append_right _ q))) 1 (by decide) shC_1 rfl 3 (by decide) (by decide +kernel) rfl (v := .int (rd_ σ_15 1 3)) rfl dX11_child_58 ?_
          refine lv_iconst (v := 1) hx hb dX11_child_61 (by decide) ?_
          refine lv_isub hx hb dX11_child_62 ?_
          obtain ⟨rfl, rfl⟩ := re_s h
          exact rti_ X I dX11_child_63
      · have h := if_t h c_9
        refine lv_iconst (v := (-1)) hx hb dX11_child_25 (by decide) ?_
        obtain ⟨rfl, rfl⟩ := re_s h
        exact rti_ X I dX11_child_26
theorem c_C_child {l : Launch} {D : va_G} {cy : Nat → ClassId} {a gs : Nat → Nat} {σ : Sg} {x1 : Int32} {x2 : Int32} {x3 : Int32} {x4 : Int32} {r0 : Int32} {σ' : Sg} (h : C_child_0 σ x1 x2 x3 x4 = some (r0, σ')) (sz : Nat) : Met l yX11_child wsX11_child ({ frames := 3, cells := 0, slots := 0, locals := 62 }) (va_Pc [.ref (a 0), .int x1, .int x2, .int x3, .int x4] (pr_ 59 a D cy (shC cy a σ) (xfC gs) sz)) (qg_ 59 a D (shC cy a σ') (some (.int r0)) sz) 0 0 (fr_ 59 a sz) := by
  refine ent_ (by decide) rfl (Nat.le_of_ble_eq_true rfl) ?_
  intro p e s m below meth c ls hsz X I hl
  subst hsz
  exact kC_child_0 X σ x1 x2 x3 x4 s.heap [] ls h I hl
