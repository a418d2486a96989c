/-! constructors that make rows -/
set_option maxHeartbeats 4000000 in
set_option maxRecDepth 100000 in
theorem ci_X8 {l : Launch} {D : va_G} {cy : Nat → ClassId} {h0 : Nat} {gs : Nat → Nat} (sz : Nat) : Met l yX8_init wsX8_init ({ frames := 1, cells := 1, slots := 200, locals := 12 }) (va_Pc [.ref h0] (pc_ D cy [(h0, .inr (8, [.int 0, .null, .int 0, .int 0, .int 0, .int 0]))] (xg_ gs) sz)) (qc_ D (fun u : Nat → Nat => [(h0, .inr (8, [.int 0, .ref (u 0), .int 0, .int 0, .int 0, .int 0])), ((u 0), .inl (cy 0, 200, .inl (fun _ => 0)))]) (va_A [(h0, .inr (8, [.int 0, .null, .int 0, .int 0, .int 0, .int 0]))] sz)) 1 200 (va_A [(h0, .inr (8, [.int 0, .null, .int 0, .int 0, .int 0, .int 0]))] sz) := by
  refine enc_ (by decide) rfl (Nat.le_of_ble_eq_true rfl) ?_
  intro p e s m below meth c ls hsz hnm hr X I hl
  subst hsz
  obtain ⟨hx, hb, hml, hown, hts, hK, hA, hXf⟩ := id X
  refine lv_aload_n hx hb dX8_init_0 rfl (lv_at hl 0 rfl) ?_
  refine lob_ (nL := 1) hx hb hml hown hts (by decide +kernel) (by decide +kernel) (List.mem_of_getElem? (i := 3) rfl) hl.1 ⟨Nat.le_of_ble_eq_true rfl, Nat.le_of_ble_eq_true rfl⟩ dX8_init_1 ?_
  refine lv_aload_n hx hb dX8_init_4 rfl (lv_at hl 0 rfl) ?_
  refine lv_sipush (v := nI 200) hx hb dX8_init_5 (by decide) ?_
  refine lna_ (atype := .byte) (ty := .byte) (N := 200) (a0 := (200, .inl (fun _ => 0))) (cells1 := 1) (slots1 := 200) (ws2 := fun q => [(h0, .inr (8, [.int 0, .null, .int 0, .int 0, .int 0, .int 0])), (q, .inl (cy 0, 200, .inl (fun _ => 0)))]) 0 X I (by decide +kernel) rfl rfl (fun _ h => h) zbyte_ (by omega) (Nat.le_of_ble_eq_true rfl) ⟨rfl, rfl⟩ ⟨Nat.le_of_ble_eq_true rfl, Nat.le_of_ble_eq_true rfl⟩ (fun _ => rfl) dX8_init_8 (fun q1 H I => ?_)
  refine lpf_ (index := 11) (ty := .array .byte) (ws1 := [(h0, .inr (8, [.int 0, .ref q1, .int 0, .int 0, .int 0, .int 0])), (q1, .inl (cy 0, 200, .inl (fun _ => 0)))]) X I (fun _ q => List.mem_cons_of_mem _ (List.mem_append_right _ q)) tyX8 tyX8_ok nmX8 0 rfl rfl 1 (by decide) (by decide +kernel) rfl rfl hnm rfl (by decide +kernel) rfl rfl (Nat.le_of_ble_eq_true rfl) rfl dX8_init_10 (fun H locs I => ?_)
  exact rtc_ (fun i => ([q1] : List Nat).getD i 0) X hr I rfl dX8_init_13
set_option maxHeartbeats 4000000 in
set_option maxRecDepth 100000 in
theorem ci_X4 {l : Launch} {D : va_G} {cy : Nat → ClassId} {h0 : Nat} {gs : Nat → Nat} (sz : Nat) : Met l yX4_init wsX4_init ({ frames := 1, cells := 1, slots := 30, locals := 12 }) (va_Pc [.ref h0] (pc_ D cy [(h0, .inr (4, [.null, .int 0, .int 0, .int 0, .int 0]))] (xg_ gs) sz)) (qc_ D (fun u : Nat → Nat => [(h0, .inr (4, [.ref (u 0), .int 0, .int 0, .int 0, .int 0])), ((u 0), .inl (cy 1, 30, .inl (fun _ => 0)))]) (va_A [(h0, .inr (4, [.null, .int 0, .int 0, .int 0, .int 0]))] sz)) 1 30 (va_A [(h0, .inr (4, [.null, .int 0, .int 0, .int 0, .int 0]))] sz) := by
  refine enc_ (by decide) rfl (Nat.le_of_ble_eq_true rfl) ?_
  intro p e s m below meth c ls hsz hnm hr X I hl
  subst hsz
  obtain ⟨hx, hb, hml, hown, hts, hK, hA, hXf⟩ := id X
  refine lv_aload_n hx hb dX4_init_0 rfl (lv_at hl 0 rfl) ?_
  refine lob_ (nL := 1) hx hb hml hown hts (by decide +kernel) (by decide +kernel) (List.mem_of_getElem? (i := 3) rfl) hl.1 ⟨Nat.le_of_ble_eq_true rfl, Nat.le_of_ble_eq_true rfl⟩ dX4_init_1 ?_
  refine lv_aload_n hx hb dX4_init_4 rfl (lv_at hl 0 rfl) ?_
  refine lv_bipush (v := nI 30) hx hb dX4_init_5 (by decide) ?_
  refine lna_ (atype := .int) (ty := .int) (N := 30) (a0 := (30, .inl (fun _ => 0))) (cells1 := 1) (slots1 := 30) (ws2 := fun q => [(h0, .inr (4, [.null, .int 0, .int 0, .int 0, .int 0])), (q, .inl (cy 1, 30, .inl (fun _ => 0)))]) 1 X I (by decide +kernel) rfl rfl (fun _ h => h) zint_ (by omega) (Nat.le_of_ble_eq_true rfl) ⟨rfl, rfl⟩ ⟨Nat.le_of_ble_eq_true rfl, Nat.le_of_ble_eq_true rfl⟩ (fun _ => rfl) dX4_init_7 (fun q1 H I => ?_)
  refine lpf_ (index := 9) (ty := .array .int) (ws1 := [(h0, .inr (4, [.ref q1, .int 0, .int 0, .int 0, .int 0])), (q1, .inl (cy 1, 30, .inl (fun _ => 0)))]) X I (fun _ q => List.mem_cons_of_mem _ (List.mem_append_right _ q)) tyX4 tyX4_ok nmX4 0 rfl rfl 0 (by decide) (by decide +kernel) rfl rfl hnm rfl (by decide +kernel) rfl rfl (Nat.le_of_ble_eq_true rfl) rfl dX4_init_9 (fun H locs I => ?_)
  exact rtc_ (fun i => ([q1] : List Nat).getD i 0) X hr I rfl dX4_init_12
set_option maxHeartbeats 4000000 in
set_option maxRecDepth 100000 in
theorem ci_X2 {l : Launch} {D : va_G} {cy : Nat → ClassId} {h0 : Nat} {gs : Nat → Nat} (sz : Nat) : Met l yX2_init wsX2_init ({ frames := 1, cells := 6, slots := 180, locals := 12 }) (va_Pc [.ref h0] (pc_ D cy [(h0, .inr (2, [.null, .null, .null, .null, .null, .null]))] (xg_ gs) sz)) (qc_ D (fun u : Nat → Nat => [(h0, .inr (2, [.ref (u 0), .ref (u 1), .ref (u 2), .ref (u 3), .ref (u 4), .ref (u 5)])), ((u 0), .inl (cy 1, 4, .inl (upd (upd (upd (upd (fun _ => 0) 0 (-1)) 1 (-1)) 2 (-1)) 3 (-1)))), ((u 1), .inl (cy 1, 4, .inl (fun _ => 0))), ((u 2), .inl (cy 1, 4, .inl (upd (upd (upd (upd (fun _ => 0) 0 (-1)) 1 (-1)) 2 (-1)) 3 (-1)))), ((u 3), .inl (cy 1, 4, .inl (fun _ => 0))), ((u 4), .inl (cy 1, 4, .inl (upd (upd (upd (upd (fun _ => 0) 0 (-1)) 1 (-1)) 2 (-1)) 3 (-1)))), ((u 5), .inl (cy 2, 160, .inr (.inl (fun _ => 0))))]) (va_A [(h0, .inr (2, [.null, .null, .null, .null, .null, .null]))] sz)) 6 180 (va_A [(h0, .inr (2, [.null, .null, .null, .null, .null, .null]))] sz) := by
  refine enc_ (by decide) rfl (Nat.le_of_ble_eq_true rfl) ?_
  intro p e s m below meth c ls hsz hnm hr X I hl
  subst hsz
  obtain ⟨hx, hb, hml, hown, hts, hK, hA, hXf⟩ := id X
  refine lv_aload_n hx hb dX2_init_0 rfl (lv_at hl 0 rfl) ?_
  refine lob_ (nL := 2) hx hb hml hown hts (by decide +kernel) (by decide +kernel) (List.mem_of_getElem? (i := 3) rfl) hl.1 ⟨Nat.le_of_ble_eq_true rfl, Nat.le_of_ble_eq_true rfl⟩ dX2_init_1 ?_
  refine lv_aload_n hx hb dX2_init_4 rfl (lv_at hl 0 rfl) ?_
  refine lv_iconst (v := nI 4) hx hb dX2_init_5 (by decide) ?_
  refine lna_ (atype := .int) (ty := .int) (N := 4) (a0 := (4, .inl (fun _ => 0))) (cells1 := 1) (slots1 := 4) (ws2 := fun q => [(h0, .inr (2, [.null, .null, .null, .null, .null, .null])), (q, .inl (cy 1, 4, .inl (fun _ => 0)))]) 1 X I (by decide +kernel) rfl rfl (fun _ h => h) zint_ (by omega) (Nat.le_of_ble_eq_true rfl) ⟨rfl, rfl⟩ ⟨Nat.le_of_ble_eq_true rfl, Nat.le_of_ble_eq_true rfl⟩ (fun _ => rfl) dX2_init_6 (fun q1 H I => ?_)
  refine lpf_ (index := 9) (ty := .array .int) (ws1 := [(h0, .inr (2, [.ref q1, .null, .null, .null, .null, .null])), (q1, .inl (cy 1, 4, .inl (fun _ => 0)))]) X I (fun _ q => List.mem_cons_of_mem _ (List.mem_append_right _ q)) tyX2 tyX2_ok nmX2 0 rfl rfl 0 (by decide) (by decide +kernel) rfl rfl hnm rfl (by decide +kernel) rfl rfl (Nat.le_of_ble_eq_true rfl) rfl dX2_init_8 (fun H locs I => ?_)
  refine lv_aload_n hx hb dX2_init_11 rfl (lv_at hl 0 rfl) ?_
  refine lv_iconst (v := nI 4) hx hb dX2_init_12 (by decide) ?_
  refine lna_ (atype := .int) (ty := .int) (N := 4) (a0 := (4, .inl (fun _ => 0))) (cells1 := 2) (slots1 := 8) (ws2 := fun q => [(h0, .inr (2, [.ref q1, .null, .null, .null, .null, .null])), (q1, .inl (cy 1, 4, .inl (fun _ => 0))), (q, .inl (cy 1, 4, .inl (fun _ => 0)))]) 1 X I (by decide +kernel) rfl rfl (fun _ h => h) zint_ (by omega) (Nat.le_of_ble_eq_true rfl) ⟨rfl, rfl⟩ ⟨Nat.le_of_ble_eq_true rfl, Nat.le_of_ble_eq_true rfl⟩ (fun _ => rfl) dX2_init_13 (fun q2 H I => ?_)
  refine lpf_ (index := 13) (ty := .array .int) (ws1 := [(h0, .inr (2, [.ref q1, .ref q2, .null, .null, .null, .null])), (q1, .inl (cy 1, 4, .inl (fun _ => 0))), (q2, .inl (cy 1, 4, .inl (fun _ => 0)))]) X I (fun _ q => List.mem_cons_of_mem _ (List.mem_append_right _ q)) tyX2 tyX2_ok nmX2 0 rfl rfl 1 (by decide) (by decide +kernel) rfl rfl hnm rfl (by decide +kernel) rfl rfl (Nat.le_of_ble_eq_true rfl) rfl dX2_init_15 (fun H locs I => ?_)
  refine lv_aload_n hx hb dX2_init_18 rfl (lv_at hl 0 rfl) ?_
  refine lv_iconst (v := nI 4) hx hb dX2_init_19 (by decide) ?_
  refine lna_ (atype := .int) (ty := .int) (N := 4) (a0 := (4, .inl (fun _ => 0))) (cells1 := 3) (slots1 := 12) (ws2 := fun q => [(h0, .inr (2, [.ref q1, .ref q2, .null, .null, .null, .null])), (q1, .inl (cy 1, 4, .inl (fun _ => 0))), (q2, .inl (cy 1, 4, .inl (fun _ => 0))), (q, .inl (cy 1, 4, .inl (fun _ => 0)))]) 1 X I (by decide +kernel) rfl rfl (fun _ h => h) zint_ (by omega) (Nat.le_of_ble_eq_true rfl) ⟨rfl, rfl⟩ ⟨Nat.le_of_ble_eq_true rfl, Nat.le_of_ble_eq_true rfl⟩ (fun _ => rfl) dX2_init_20 (fun q3 H I => ?_)
  refine lpf_ (index := 16) (ty := .array .int) (ws1 := [(h0, .inr (2, [.ref q1, .ref q2, .ref q3, .null, .null, .null])), (q1, .inl (cy 1, 4, .inl (fun _ => 0))), (q2, .inl (cy 1, 4, .inl (fun _ => 0))), (q3, .inl (cy 1, 4, .inl (fun _ => 0)))]) X I (fun _ q => List.mem_cons_of_mem _ (List.mem_append_right _ q)) tyX2 tyX2_ok nmX2 0 rfl rfl 2 (by decide) (by decide +kernel) rfl rfl hnm rfl (by decide +kernel) rfl rfl (Nat.le_of_ble_eq_true rfl) rfl dX2_init_22 (fun H locs I => ?_)
  refine lv_aload_n hx hb dX2_init_25 rfl (lv_at hl 0 rfl) ?_
  refine lv_iconst (v := nI 4) hx hb dX2_init_26 (by decide) ?_
  refine lna_ (atype := .int) (ty := .int) (N := 4) (a0 := (4, .inl (fun _ => 0))) (cells1 := 4) (slots1 := 16) (ws2 := fun q => [(h0, .inr (2, [.ref q1, .ref q2, .ref q3, .null, .null, .null])), (q1, .inl (cy 1, 4, .inl (fun _ => 0))), (q2, .inl (cy 1, 4, .inl (fun _ => 0))), (q3, .inl (cy 1, 4, .inl (fun _ => 0))), (q, .inl (cy 1, 4, .inl (fun _ => 0)))]) 1 X I (by decide +kernel) rfl rfl (fun _ h => h) zint_ (by omega) (Nat.le_of_ble_eq_true rfl) ⟨rfl, rfl⟩ ⟨Nat.le_of_ble_eq_true rfl, Nat.le_of_ble_eq_true rfl⟩ (fun _ => rfl) dX2_init_27 (fun q4 H I => ?_)
  refine lpf_ (index := 19) (ty := .array .int) (ws1 := [(h0, .inr (2, [.ref q1, .ref q2, .ref q3, .ref q4, .null, .null])), (q1, .inl (cy 1, 4, .inl (fun _ => 0))), (q2, .inl (cy 1, 4, .inl (fun _ => 0))), (q3, .inl (cy 1, 4, .inl (fun _ => 0))), (q4, .inl (cy 1, 4, .inl (fun _ => 0)))]) X I (fun _ q => List.mem_cons_of_mem _ (List.mem_append_right _ q)) tyX2 tyX2_ok nmX2 0 rfl rfl 3 (by decide) (by decide +kernel) rfl rfl hnm rfl (by decide +kernel) rfl rfl (Nat.le_of_ble_eq_true rfl) rfl dX2_init_29 (fun H locs I => ?_)
  refine lv_aload_n hx hb dX2_init_32 rfl (lv_at hl 0 rfl) ?_
  refine lv_iconst (v := nI 4) hx hb dX2_init_33 (by decide) ?_
  refine lna_ (atype := .int) (ty := .int) (N := 4) (a0 := (4, .inl (fun _ => 0))) (cells1 := 5) (slots1 := 20) (ws2 := fun q => [(h0, .inr (2, [.ref q1, .ref q2, .ref q3, .ref q4, .null, .null])), (q1, .inl (cy 1, 4, .inl (fun _ => 0))), (q2, .inl (cy 1, 4, .inl (fun _ => 0))), (q3, .inl (cy 1, 4, .inl (fun _ => 0))), (q4, .inl (cy 1, 4, .inl (fun _ => 0))), (q, .inl (cy 1, 4, .inl (fun _ => 0)))]) 1 X I (by decide +kernel) rfl rfl (fun _ h => h) zint_ (by omega) (Nat.le_of_ble_eq_true rfl) ⟨rfl, rfl⟩ ⟨Nat.le_of_ble_eq_true rfl, Nat.le_of_ble_eq_true rfl⟩ (fun _ => rfl) dX2_init_34 (fun q5 H I => ?_)
  refine lpf_ (index := 22) (ty := .array .int) (ws1 := [(h0, .inr (2, [.ref q1, .ref q2, .ref q3, .ref q4, .ref q5, .null])), (q1, .inl (cy 1, 4, .inl (fun _ => 0))), (q2, .inl (cy 1, 4, .inl (fun _ => 0))), (q3, .inl (cy 1, 4, .inl (fun _ => 0))), (q4, .inl (cy 1, 4, .inl (fun _ => 0))), (q5, .inl (cy 1, 4, .inl (fun _ => 0)))]) X I (fun _ q => List.mem_cons_of_mem _ (List.mem_append_right _ q)) tyX2 tyX2_ok nmX2 0 rfl rfl 4 (by decide) (by decide +kernel) rfl rfl hnm rfl (by decide +kernel) rfl rfl (Nat.le_of_ble_eq_true rfl) rfl dX2_init_36 (fun H locs I => ?_)
  refine lv_aload_n hx hb dX2_init_39 rfl (lv_at hl 0 rfl) ?_
  refine lv_sipush (v := nI 160) hx hb dX2_init_40 (by decide) ?_
  refine lna_ (atype := .long) (ty := .long) (N := 160) (a0 := (160, .inr (.inl (fun _ => 0)))) (cells1 := 6) (slots1 := 180) (ws2 := fun q => [(h0, .inr (2, [.ref q1, .ref q2, .ref q3, .ref q4, .ref q5, .null])), (q1, .inl (cy 1, 4, .inl (fun _ => 0))), (q2, .inl (cy 1, 4, .inl (fun _ => 0))), (q3, .inl (cy 1, 4, .inl (fun _ => 0))), (q4, .inl (cy 1, 4, .inl (fun _ => 0))), (q5, .inl (cy 1, 4, .inl (fun _ => 0))), (q, .inl (cy 2, 160, .inr (.inl (fun _ => 0))))]) 2 X I (by decide +kernel) rfl rfl (fun _ h => h) zlong_ (by omega) (Nat.le_of_ble_eq_true rfl) ⟨rfl, rfl⟩ ⟨Nat.le_of_ble_eq_true rfl, Nat.le_of_ble_eq_true rfl⟩ (fun _ => rfl) dX2_init_43 (fun q6 H I => ?_)
  refine lpf_ (index := 25) (ty := .array .long) (ws1 := [(h0, .inr (2, [.ref q1, .ref q2, .ref q3, .ref q4, .ref q5, .ref q6])), (q1, .inl (cy 1, 4, .inl (fun _ => 0))), (q2, .inl (cy 1, 4, .inl (fun _ => 0))), (q3, .inl (cy 1, 4, .inl (fun _ => 0))), (q4, .inl (cy 1, 4, .inl (fun _ => 0))), (q5, .inl (cy 1, 4, .inl (fun _ => 0))), (q6, .inl (cy 2, 160, .inr (.inl (fun _ => 0))))]) X I (fun _ q => List.mem_cons_of_mem _ (List.mem_append_right _ q)) tyX2 tyX2_ok nmX2 0 rfl rfl 5 (by decide) (by decide +kernel) rfl rfl hnm rfl (by decide +kernel) rfl rfl (Nat.le_of_ble_eq_true rfl) rfl dX2_init_45 (fun H locs I => ?_)
  refine lv_iconst (v := nI 0) hx hb dX2_init_48 (by decide) ?_
  refine lv_istore_n (lv' := [(1, .int (nI 0)), (0, .ref h0)]) hx hb dX2_init_49 rfl hl (by decide) rfl (fun ls hl => ?_)
  refine lv_iload_n hx hb dX2_init_50 rfl (lv_at hl 0 rfl) ?_
  refine lv_iconst (v := nI 4) hx hb dX2_init_51 (by decide) ?_
  refine lv_icmp_ge (tgt := 82) hx hb dX2_init_52 (by decide) (fun q => absurd q (by decide)) (fun _ => ?_)
  refine lv_aload_n hx hb dX2_init_55 rfl (lv_at hl 1 rfl) ?_
  refine lgf_ (index := 9) X I (fun _ q => List.mem_cons_of_mem _ (List.mem_append_right _ q)) 0 rfl rfl 0 (by decide) (by decide +kernel) rfl (v := .ref q1) rfl dX2_init_56 ?_
  refine lv_iload_n hx hb dX2_init_59 rfl (lv_at hl 0 rfl) ?_
  refine lv_iconst (v := -1) hx hb dX2_init_60 (by decide) ?_
  refine lis_ (ws1 := [(h0, .inr (2, [.ref q1, .ref q2, .ref q3, .ref q4, .ref q5, .ref q6])), (q1, .inl (cy 1, 4, .inl (upd (fun _ => 0) 0 (-1)))), (q2, .inl (cy 1, 4, .inl (fun _ => 0))), (q3, .inl (cy 1, 4, .inl (fun _ => 0))), (q4, .inl (cy 1, 4, .inl (fun _ => 0))), (q5, .inl (cy 1, 4, .inl (fun _ => 0))), (q6, .inl (cy 2, 160, .inr (.inl (fun _ => 0))))]) X I 1 rfl (by omega) (by omega) rfl dX2_init_61 (fun H locs I => ?_)
  refine lv_aload_n hx hb dX2_init_62 rfl (lv_at hl 1 rfl) ?_
  refine lgf_ (index := 16) X I (fun _ q => List.mem_cons_of_mem _ (List.mem_append_right _ q)) 0 rfl rfl 2 (by decide) (by decide +kernel) rfl (v := .ref q3) rfl dX2_init_63 ?_
  refine lv_iload_n hx hb dX2_init_66 rfl (lv_at hl 0 rfl) ?_
  refine lv_iconst (v := -1) hx hb dX2_init_67 (by decide) ?_
  refine lis_ (ws1 := [(h0, .inr (2, [.ref q1, .ref q2, .ref q3, .ref q4, .ref q5, .ref q6])), (q1, .inl (cy 1, 4, .inl (upd (fun _ => 0) 0 (-1)))), (q2, .inl (cy 1, 4, .inl (fun _ => 0))), (q3, .inl (cy 1, 4, .inl (upd (fun _ => 0) 0 (-1)))), (q4, .inl (cy 1, 4, .inl (fun _ => 0))), (q5, .inl (cy 1, 4, .inl (fun _ => 0))), (q6, .inl (cy 2, 160, .inr (.inl (fun _ => 0))))]) X I 3 rfl (by omega) (by omega) rfl dX2_init_68 (fun H locs I => ?_)
  refine lv_aload_n hx hb dX2_init_69 rfl (lv_at hl 1 rfl) ?_
  refine lgf_ (index := 22) X I (fun _ q => List.mem_cons_of_mem _ (List.mem_append_right _ q)) 0 rfl rfl 4 (by decide) (by decide +kernel) rfl (v := .ref q5) rfl dX2_init_70 ?_
  refine lv_iload_n hx hb dX2_init_73 rfl (lv_at hl 0 rfl) ?_
  refine lv_iconst (v := -1) hx hb dX2_init_74 (by decide) ?_
  refine lis_ (ws1 := [(h0, .inr (2, [.ref q1, .ref q2, .ref q3, .ref q4, .ref q5, .ref q6])), (q1, .inl (cy 1, 4, .inl (upd (fun _ => 0) 0 (-1)))), (q2, .inl (cy 1, 4, .inl (fun _ => 0))), (q3, .inl (cy 1, 4, .inl (upd (fun _ => 0) 0 (-1)))), (q4, .inl (cy 1, 4, .inl (fun _ => 0))), (q5, .inl (cy 1, 4, .inl (upd (fun _ => 0) 0 (-1)))), (q6, .inl (cy 2, 160, .inr (.inl (fun _ => 0))))]) X I 5 rfl (by omega) (by omega) rfl dX2_init_75 (fun H locs I => ?_)
  refine lv_iinc (v := nI 1) (lv' := [(1, .int (nI 1)), (0, .ref h0)]) hx hb dX2_init_76 hl (k := 0) rfl (by decide) (by decide) rfl (fun ls hl => ?_)
  refine lv_goto (tgt := 50) hx hb dX2_init_79 (by decide) ?_
  refine lv_iload_n hx hb dX2_init_50 rfl (lv_at hl 0 rfl) ?_
  refine lv_iconst (v := nI 4) hx hb dX2_init_51 (by decide) ?_
  refine lv_icmp_ge (tgt := 82) hx hb dX2_init_52 (by decide) (fun q => absurd q (by decide)) (fun _ => ?_)
  refine lv_aload_n hx hb dX2_init_55 rfl (lv_at hl 1 rfl) ?_
  refine lgf_ (index := 9) X I (fun _ q => List.mem_cons_of_mem _ (List.mem_append_right _ q)) 0 rfl rfl 0 (by decide) (by decide +kernel) rfl (v := .ref q1) rfl dX2_init_56 ?_
  refine lv_iload_n hx hb dX2_init_59 rfl (lv_at hl 0 rfl) ?_
  refine lv_iconst (v := -1) hx hb dX2_init_60 (by decide) ?_
  refine lis_ (ws1 := [(h0, .inr (2, [.ref q1, .ref q2, .ref q3, .ref q4, .ref q5, .ref q6])), (q1, .inl (cy 1, 4, .inl (upd (upd (fun _ => 0) 0 (-1)) 1 (-1)))), (q2, .inl (cy 1, 4, .inl (fun _ => 0))), (q3, .inl (cy 1, 4, .inl (upd (fun _ => 0) 0 (-1)))), (q4, .inl (cy 1, 4, .inl (fun _ => 0))), (q5, .inl (cy 1, 4, .inl (upd (fun _ => 0) 0 (-1)))), (q6, .inl (cy 2, 160, .inr (.inl (fun _ => 0))))]) X I 1 rfl (by omega) (by omega) rfl dX2_init_61 (fun H locs I => ?_)
  refine lv_aload_n hx hb dX2_init_62 rfl (lv_at hl 1 rfl) ?_
  refine lgf_ (index := 16) X I (fun _ q => List.mem_cons_of_mem _ (List.mem_append_right _ q)) 0 rfl rfl 2 (by decide) (by decide +kernel) rfl (v := .ref q3) rfl dX2_init_63 ?_
  refine lv_iload_n hx hb dX2_init_66 rfl (lv_at hl 0 rfl) ?_
  refine lv_iconst (v := -1) hx hb dX2_init_67 (by decide) ?_
  refine lis_ (ws1 := [(h0, .inr (2, [.ref q1, .ref q2, .ref q3, .ref q4, .ref q5, .ref q6])), (q1, .inl (cy 1, 4, .inl (upd (upd (fun _ => 0) 0 (-1)) 1 (-1)))), (q2, .inl (cy 1, 4, .inl (fun _ => 0))), (q3, .inl (cy 1, 4, .inl (upd (upd (fun _ => 0) 0 (-1)) 1 (-1)))), (q4, .inl (cy 1, 4, .inl (fun _ => 0))), (q5, .inl (cy 1, 4, .inl (upd (fun _ => 0) 0 (-1)))), (q6, .inl (cy 2, 160, .inr (.inl (fun _ => 0))))]) X I 3 rfl (by omega) (by omega) rfl dX2_init_68 (fun H locs I => ?_)
  refine lv_aload_n hx hb dX2_init_69 rfl (lv_at hl 1 rfl) ?_
  refine lgf_ (index := 22) X I (fun _ q => List.mem_cons_of_mem _ (List.mem_append_right _ q)) 0 rfl rfl 4 (by decide) (by decide +kernel) rfl (v := .ref q5) rfl dX2_init_70 ?_
  refine lv_iload_n hx hb dX2_init_73 rfl (lv_at hl 0 rfl) ?_
  refine lv_iconst (v := -1) hx hb dX2_init_74 (by decide) ?_
  refine lis_ (ws1 := [(h0, .inr (2, [.ref q1, .ref q2, .ref q3, .ref q4, .ref q5, .ref q6])), (q1, .inl (cy 1, 4, .inl (upd (upd (fun _ => 0) 0 (-1)) 1 (-1)))), (q2, .inl (cy 1, 4, .inl (fun _ => 0))), (q3, .inl (cy 1, 4, .inl (upd (upd (fun _ => 0) 0 (-1)) 1 (-1)))), (q4, .inl (cy 1, 4, .inl (fun _ => 0))), (q5, .inl (cy 1, 4, .inl (upd (upd (fun _ => 0) 0 (-1)) 1 (-1)))), (q6, .inl (cy 2, 160, .inr (.inl (fun _ => 0))))]) X I 5 rfl (by omega) (by omega) rfl dX2_init_75 (fun H locs I => ?_)
  refine lv_iinc (v := nI 2) (lv' := [(1, .int (nI 2)), (0, .ref h0)]) hx hb dX2_init_76 hl (k := 0) rfl (by decide) (by decide) rfl (fun ls hl => ?_)
  refine lv_goto (tgt := 50) hx hb dX2_init_79 (by decide) ?_
  refine lv_iload_n hx hb dX2_init_50 rfl (lv_at hl 0 rfl) ?_
  refine lv_iconst (v := nI 4) hx hb dX2_init_51 (by decide) ?_
  refine lv_icmp_ge (tgt := 82) hx hb dX2_init_52 (by decide) (fun q => absurd q (by decide)) (fun _ => ?_)
  refine lv_aload_n hx hb dX2_init_55 rfl (lv_at hl 1 rfl) ?_
  refine lgf_ (index := 9) X I (fun _ q => List.mem_cons_of_mem _ (List.mem_append_right _ q)) 0 rfl rfl 0 (by decide) (by decide +kernel) rfl (v := .ref q1) rfl dX2_init_56 ?_
  refine lv_iload_n hx hb dX2_init_59 rfl (lv_at hl 0 rfl) ?_
  refine lv_iconst (v := -1) hx hb dX2_init_60 (by decide) ?_
  refine lis_ (ws1 := [(h0, .inr (2, [.ref q1, .ref q2, .ref q3, .ref q4, .ref q5, .ref q6])), (q1, .inl (cy 1, 4, .inl (upd (upd (upd (fun _ => 0) 0 (-1)) 1 (-1)) 2 (-1)))), (q2, .inl (cy 1, 4, .inl (fun _ => 0))), (q3, .inl (cy 1, 4, .inl (upd (upd (fun _ => 0) 0 (-1)) 1 (-1)))), (q4, .inl (cy 1, 4, .inl (fun _ => 0))), (q5, .inl (cy 1, 4, .inl (upd (upd (fun _ => 0) 0 (-1)) 1 (-1)))), (q6, .inl (cy 2, 160, .inr (.inl (fun _ => 0))))]) X I 1 rfl (by omega) (by omega) rfl dX2_init_61 (fun H locs I => ?_)
  refine lv_aload_n hx hb dX2_init_62 rfl (lv_at hl 1 rfl) ?_
  refine lgf_ (index := 16) X I (fun _ q => List.mem_cons_of_mem _ (List.mem_append_right _ q)) 0 rfl rfl 2 (by decide) (by decide +kernel) rfl (v := .ref q3) rfl dX2_init_63 ?_
  refine lv_iload_n hx hb dX2_init_66 rfl (lv_at hl 0 rfl) ?_
  refine lv_iconst (v := -1) hx hb dX2_init_67 (by decide) ?_
  refine lis_ (ws1 := [(h0, .inr (2, [.ref q1, .ref q2, .ref q3, .ref q4, .ref q5, .ref q6])), (q1, .inl (cy 1, 4, .inl (upd (upd (upd (fun _ => 0) 0 (-1)) 1 (-1)) 2 (-1)))), (q2, .inl (cy 1, 4, .inl (fun _ => 0))), (q3, .inl (cy 1, 4, .inl (upd (upd (upd (fun _ => 0) 0 (-1)) 1 (-1)) 2 (-1)))), (q4, .inl (cy 1, 4, .inl (fun _ => 0))), (q5, .inl (cy 1, 4, .inl (upd (upd (fun _ => 0) 0 (-1)) 1 (-1)))), (q6, .inl (cy 2, 160, .inr (.inl (fun _ => 0))))]) X I 3 rfl (by omega) (by omega) rfl dX2_init_68 (fun H locs I => ?_)
  refine lv_aload_n hx hb dX2_init_69 rfl (lv_at hl 1 rfl) ?_
  refine lgf_ (index := 22) X I (fun _ q => List.mem_cons_of_mem _ (List.mem_append_right _ q)) 0 rfl rfl 4 (by decide) (by decide +kernel) rfl (v := .ref q5) rfl dX2_init_70 ?_
  refine lv_iload_n hx hb dX2_init_73 rfl (lv_at hl 0 rfl) ?_
  refine lv_iconst (v := -1) hx hb dX2_init_74 (by decide) ?_
  refine lis_ (ws1 := [(h0, .inr (2, [.ref q1, .ref q2, .ref q3, .ref q4, .ref q5, .ref q6])), (q1, .inl (cy 1, 4, .inl (upd (upd (upd (fun _ => 0) 0 (-1)) 1 (-1)) 2 (-1)))), (q2, .inl (cy 1, 4, .inl (fun _ => 0))), (q3, .inl (cy 1, 4, .inl (upd (upd (upd (fun _ => 0) 0 (-1)) 1 (-1)) 2 (-1)))), (q4, .inl (cy 1, 4, .inl (fun _ => 0))), (q5, .inl (cy 1, 4, .inl (upd (upd (upd (fun _ => 0) 0 (-1)) 1 (-1)) 2 (-1)))), (q6, .inl (cy 2, 160, .inr (.inl (fun _ => 0))))]) X I 5 rfl (by omega) (by omega) rfl dX2_init_75 (fun H locs I => ?_)
  refine lv_iinc (v := nI 3) (lv' := [(1, .int (nI 3)), (0, .ref h0)]) hx hb dX2_init_76 hl (k := 0) rfl (by decide) (by decide) rfl (fun ls hl => ?_)
  refine lv_goto (tgt := 50) hx hb dX2_init_79 (by decide) ?_
  refine lv_iload_n hx hb dX2_init_50 rfl (lv_at hl 0 rfl) ?_
  refine lv_iconst (v := nI 4) hx hb dX2_init_51 (by decide) ?_
  refine lv_icmp_ge (tgt := 82) hx hb dX2_init_52 (by decide) (fun q => absurd q (by decide)) (fun _ => ?_)
  refine lv_aload_n hx hb dX2_init_55 rfl (lv_at hl 1 rfl) ?_
  refine lgf_ (index := 9) X I (fun _ q => List.mem_cons_of_mem _ (List.mem_append_right _ q)) 0 rfl rfl 0 (by decide) (by decide +kernel) rfl (v := .ref q1) rfl dX2_init_56 ?_
  refine lv_iload_n hx hb dX2_init_59 rfl (lv_at hl 0 rfl) ?_
  refine lv_iconst (v := -1) hx hb dX2_init_60 (by decide) ?_
  refine lis_ (ws1 := [(h0, .inr (2, [.ref q1, .ref q2, .ref q3, .ref q4, .ref q5, .ref q6])), (q1, .inl (cy 1, 4, .inl (upd (upd (upd (upd (fun _ => 0) 0 (-1)) 1 (-1)) 2 (-1)) 3 (-1)))), (q2, .inl (cy 1, 4, .inl (fun _ => 0))), (q3, .inl (cy 1, 4, .inl (upd (upd (upd (fun _ => 0) 0 (-1)) 1 (-1)) 2 (-1)))), (q4, .inl (cy 1, 4, .inl (fun _ => 0))), (q5, .inl (cy 1, 4, .inl (upd (upd (upd (fun _ => 0) 0 (-1)) 1 (-1)) 2 (-1)))), (q6, .inl (cy 2, 160, .inr (.inl (fun _ => 0))))]) X I 1 rfl (by omega) (by omega) rfl dX2_init_61 (fun H locs I => ?_)
  refine lv_aload_n hx hb dX2_init_62 rfl (lv_at hl 1 rfl) ?_
  refine lgf_ (index := 16) X I (fun _ q => List.mem_cons_of_mem _ (List.mem_append_right _ q)) 0 rfl rfl 2 (by decide) (by decide +kernel) rfl (v := .ref q3) rfl dX2_init_63 ?_
  refine lv_iload_n hx hb dX2_init_66 rfl (lv_at hl 0 rfl) ?_
  refine lv_iconst (v := -1) hx hb dX2_init_67 (by decide) ?_
  refine lis_ (ws1 := [(h0, .inr (2, [.ref q1, .ref q2, .ref q3, .ref q4, .ref q5, .ref q6])), (q1, .inl (cy 1, 4, .inl (upd (upd (upd (upd (fun _ => 0) 0 (-1)) 1 (-1)) 2 (-1)) 3 (-1)))), (q2, .inl (cy 1, 4, .inl (fun _ => 0))), (q3, .inl (cy 1, 4, .inl (upd (upd (upd (upd (fun _ => 0) 0 (-1)) 1 (-1)) 2 (-1)) 3 (-1)))), (q4, .inl (cy 1, 4, .inl (fun _ => 0))), (q5, .inl (cy 1, 4, .inl (upd (upd (upd (fun _ => 0) 0 (-1)) 1 (-1)) 2 (-1)))), (q6, .inl (cy 2, 160, .inr (.inl (fun _ => 0))))]) X I 3 rfl (by omega) (by omega) rfl dX2_init_68 (fun H locs I => ?_)
  refine lv_aload_n hx hb dX2_init_69 rfl (lv_at hl 1 rfl) ?_
  refine lgf_ (index := 22) X I (fun _ q => List.mem_cons_of_mem _ (List.mem_append_right _ q)) 0 rfl rfl 4 (by decide) (by decide +kernel) rfl (v := .ref q5) rfl dX2_init_70 ?_
  refine lv_iload_n hx hb dX2_init_73 rfl (lv_at hl 0 rfl) ?_
  refine lv_iconst (v := -1) hx hb dX2_init_74 (by decide) ?_
  refine lis_ (ws1 := [(h0, .inr (2, [.ref q1, .ref q2, .ref q3, .ref q4, .ref q5, .ref q6])), (q1, .inl (cy 1, 4, .inl (upd (upd (upd (upd (fun _ => 0) 0 (-1)) 1 (-1)) 2 (-1)) 3 (-1)))), (q2, .inl (cy 1, 4, .inl (fun _ => 0))), (q3, .inl (cy 1, 4, .inl (upd (upd (upd (upd (fun _ => 0) 0 (-1)) 1 (-1)) 2 (-1)) 3 (-1)))), (q4, .inl (cy 1, 4, .inl (fun _ => 0))), (q5, .inl (cy 1, 4, .inl (upd (upd (upd (upd (fun _ => 0) 0 (-1)) 1 (-1)) 2 (-1)) 3 (-1)))), (q6, .inl (cy 2, 160, .inr (.inl (fun _ => 0))))]) X I 5 rfl (by omega) (by omega) rfl dX2_init_75 (fun H locs I => ?_)
  refine lv_iinc (v := nI 4) (lv' := [(1, .int (nI 4)), (0, .ref h0)]) hx hb dX2_init_76 hl (k := 0) rfl (by decide) (by decide) rfl (fun ls hl => ?_)
  refine lv_goto (tgt := 50) hx hb dX2_init_79 (by decide) ?_
  refine lv_iload_n hx hb dX2_init_50 rfl (lv_at hl 0 rfl) ?_
  refine lv_iconst (v := nI 4) hx hb dX2_init_51 (by decide) ?_
  refine lv_icmp_ge (tgt := 82) hx hb dX2_init_52 (by decide) (fun _ => ?_) (fun q => absurd (show nI 4 ≤ nI 4 by decide) q)
  exact rtc_ (fun i => ([q1, q2, q3, q4, q5, q6] : List Nat).getD i 0) X hr I rfl dX2_init_82
