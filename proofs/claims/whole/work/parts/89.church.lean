/-! a church is made -/
set_option maxHeartbeats 4000000 in
set_option maxRecDepth 100000 in
theorem ci_first {l : Launch} {D : va_G} {cy : Nat → ClassId} {h0 L V : Nat} {gs : Nat → Nat} {ve vn vy vz : Int32} {v6 v7 : Value} {f g : Nat → Int32} (sz : Nat) : Met l yX1_beAsAtFirst wsX1_beAsAtFirst ({ frames := 0, cells := 0, slots := 0, locals := 0 }) (va_Pc [.ref h0] (pc_ D cy [(h0, .inr (1, [.ref L, .ref V, .int ve, .int vn, .int vy, .int vz, v6, v7])), (L, .inl (cy 1, 4, .inl (f))), (V, .inl (cy 1, 8, .inl (g)))] (xg_ gs) sz)) (qc_ D (fun _ : Unit => [(h0, .inr (1, [.ref L, .ref V, .int (nI 0), .int (nI 0), .int (nI 0), .int vz, v6, v7])), (L, .inl (cy 1, 4, .inl (upd (upd (upd (upd (f) 0 (lfA 0)) 1 (lfA 1)) 2 (lfA 2)) 3 (lfA 3)))), (V, .inl (cy 1, 8, .inl (upd (upd (upd (upd (upd (upd (upd (upd (g) 0 (nI 50)) 1 (nI 50)) 2 (nI 50)) 3 (nI 50)) 4 (nI 50)) 5 (nI 50)) 6 (nI 50)) 7 (nI 50))))]) (va_A [(h0, .inr (1, [.ref L, .ref V, .int ve, .int vn, .int vy, .int vz, v6, v7])), (L, .inl (cy 1, 4, .inl (f))), (V, .inl (cy 1, 8, .inl (g)))] sz)) 0 0 (va_A [(h0, .inr (1, [.ref L, .ref V, .int ve, .int vn, .int vy, .int vz, v6, v7])), (L, .inl (cy 1, 4, .inl (f))), (V, .inl (cy 1, 8, .inl (g)))] sz) := by
  refine enc_ (by decide) rfl (Nat.le_of_ble_eq_true rfl) ?_
  intro p e s m below meth c ls hsz hnm hr X I hl
  subst hsz
  obtain ⟨hx, hb, hml, hown, hts, hK, hA, hXf⟩ := id X
  refine lv_iconst (v := nI 0) hx hb dX1_beAsAtFirst_0 (by decide) ?_
  refine lv_istore_n (lv' := [(1, .int (nI 0)), (0, .ref h0)]) hx hb dX1_beAsAtFirst_1 rfl hl (by decide) rfl (fun ls hl => ?_)
  refine lv_iload_n hx hb dX1_beAsAtFirst_2 rfl (lv_at hl 0 rfl) ?_
  refine lv_iconst (v := nI 4) hx hb dX1_beAsAtFirst_3 (by decide) ?_
  refine lv_icmp_ge (tgt := 24) hx hb dX1_beAsAtFirst_4 (by decide) (fun q => absurd q (by decide)) (fun _ => ?_)
  refine lv_aload_n hx hb dX1_beAsAtFirst_7 rfl (lv_at hl 1 rfl) ?_
  refine lgf_ (index := 15) X I (fun _ q => List.mem_cons_of_mem _ (List.mem_append_right _ q)) 0 rfl rfl 0 (by decide) (by decide +kernel) rfl (v := .ref L) rfl dX1_beAsAtFirst_8 ?_
  refine lv_iload_n hx hb dX1_beAsAtFirst_11 rfl (lv_at hl 0 rfl) ?_
  refine va_getsN hx hb (xC_fz hXf.1) I.2.2 hown (va_Nw.use rfl (xC_nf1 hXf.1)) (fun _ q => q) dX1_beAsAtFirst_12 ?_
  refine lv_iload_n hx hb dX1_beAsAtFirst_15 rfl (lv_at hl 0 rfl) ?_
  refine va_ti hx hb (xC_ft hXf.1) I.2.2 (nI_in (show 0 < 4 by omega) (by omega)) (v := .int (lfA 0)) rfl dX1_beAsAtFirst_16 ?_
  refine lis_ (ws1 := [(h0, .inr (1, [.ref L, .ref V, .int ve, .int vn, .int vy, .int vz, v6, v7])), (L, .inl (cy 1, 4, .inl (upd (f) 0 (lfA 0)))), (V, .inl (cy 1, 8, .inl (g)))]) X I 1 rfl (by omega) (by omega) rfl dX1_beAsAtFirst_17 (fun H locs I => ?_)
  refine lv_iinc (v := nI 1) (lv' := [(1, .int (nI 1)), (0, .ref h0)]) hx hb dX1_beAsAtFirst_18 hl (k := 0) rfl (by decide) (by decide) rfl (fun ls hl => ?_)
  refine lv_goto (tgt := 2) hx hb dX1_beAsAtFirst_21 (by decide) ?_
  refine lv_iload_n hx hb dX1_beAsAtFirst_2 rfl (lv_at hl 0 rfl) ?_
  refine lv_iconst (v := nI 4) hx hb dX1_beAsAtFirst_3 (by decide) ?_
  refine lv_icmp_ge (tgt := 24) hx hb dX1_beAsAtFirst_4 (by decide) (fun q => absurd q (by decide)) (fun _ => ?_)
  refine lv_aload_n hx hb dX1_beAsAtFirst_7 rfl (lv_at hl 1 rfl) ?_
  refine lgf_ (index := 15) X I (fun _ q => List.mem_cons_of_mem _ (List.mem_append_right _ q)) 0 rfl rfl 0 (by decide) (by decide +kernel) rfl (v := .ref L) rfl dX1_beAsAtFirst_8 ?_
  refine lv_iload_n hx hb dX1_beAsAtFirst_11 rfl (lv_at hl 0 rfl) ?_
  refine va_getsN hx hb (xC_fz hXf.1) I.2.2 hown (va_Nw.use rfl (xC_nf1 hXf.1)) (fun _ q => q) dX1_beAsAtFirst_12 ?_
  refine lv_iload_n hx hb dX1_beAsAtFirst_15 rfl (lv_at hl 0 rfl) ?_
  refine va_ti hx hb (xC_ft hXf.1) I.2.2 (nI_in (show 1 < 4 by omega) (by omega)) (v := .int (lfA 1)) rfl dX1_beAsAtFirst_16 ?_
  refine lis_ (ws1 := [(h0, .inr (1, [.ref L, .ref V, .int ve, .int vn, .int vy, .int vz, v6, v7])), (L, .inl (cy 1, 4, .inl (upd (upd (f) 0 (lfA 0)) 1 (lfA 1)))), (V, .inl (cy 1, 8, .inl (g)))]) X I 1 rfl (by omega) (by omega) rfl dX1_beAsAtFirst_17 (fun H locs I => ?_)
  refine lv_iinc (v := nI 2) (lv' := [(1, .int (nI 2)), (0, .ref h0)]) hx hb dX1_beAsAtFirst_18 hl (k := 0) rfl (by decide) (by decide) rfl (fun ls hl => ?_)
  refine lv_goto (tgt := 2) hx hb dX1_beAsAtFirst_21 (by decide) ?_
  refine lv_iload_n hx hb dX1_beAsAtFirst_2 rfl (lv_at hl 0 rfl) ?_
  refine lv_iconst (v := nI 4) hx hb dX1_beAsAtFirst_3 (by decide) ?_
  refine lv_icmp_ge (tgt := 24) hx hb dX1_beAsAtFirst_4 (by decide) (fun q => absurd q (by decide)) (fun _ => ?_)
  refine lv_aload_n hx hb dX1_beAsAtFirst_7 rfl (lv_at hl 1 rfl) ?_
  refine lgf_ (index := 15) X I (fun _ q => List.mem_cons_of_mem _ (List.mem_append_right _ q)) 0 rfl rfl 0 (by decide) (by decide +kernel) rfl (v := .ref L) rfl dX1_beAsAtFirst_8 ?_
  refine lv_iload_n hx hb dX1_beAsAtFirst_11 rfl (lv_at hl 0 rfl) ?_
  refine va_getsN hx hb (xC_fz hXf.1) I.2.2 hown (va_Nw.use rfl (xC_nf1 hXf.1)) (fun _ q => q) dX1_beAsAtFirst_12 ?_
  refine lv_iload_n hx hb dX1_beAsAtFirst_15 rfl (lv_at hl 0 rfl) ?_
  refine va_ti hx hb (xC_ft hXf.1) I.2.2 (nI_in (show 2 < 4 by omega) (by omega)) (v := .int (lfA 2)) rfl dX1_beAsAtFirst_16 ?_
  refine lis_ (ws1 := [(h0, .inr (1, [.ref L, .ref V, .int ve, .int vn, .int vy, .int vz, v6, v7])), (L, .inl (cy 1, 4, .inl (upd (upd (upd (f) 0 (lfA 0)) 1 (lfA 1)) 2 (lfA 2)))), (V, .inl (cy 1, 8, .inl (g)))]) X I 1 rfl (by omega) (by omega) rfl dX1_beAsAtFirst_17 (fun H locs I => ?_)
  refine lv_iinc (v := nI 3) (lv' := [(1, .int (nI 3)), (0, .ref h0)]) hx hb dX1_beAsAtFirst_18 hl (k := 0) rfl (by decide) (by decide) rfl (fun ls hl => ?_)
  refine lv_goto (tgt := 2) hx hb dX1_beAsAtFirst_21 (by decide) ?_
  refine lv_iload_n hx hb dX1_beAsAtFirst_2 rfl (lv_at hl 0 rfl) ?_
  refine lv_iconst (v := nI 4) hx hb dX1_beAsAtFirst_3 (by decide) ?_
  refine lv_icmp_ge (tgt := 24) hx hb dX1_beAsAtFirst_4 (by decide) (fun q => absurd q (by decide)) (fun _ => ?_)
  refine lv_aload_n hx hb dX1_beAsAtFirst_7 rfl (lv_at hl 1 rfl) ?_
  refine lgf_ (index := 15) X I (fun _ q => List.mem_cons_of_mem _ (List.mem_append_right _ q)) 0 rfl rfl 0 (by decide) (by decide +kernel) rfl (v := .ref L) rfl dX1_beAsAtFirst_8 ?_
  refine lv_iload_n hx hb dX1_beAsAtFirst_11 rfl (lv_at hl 0 rfl) ?_
  refine va_getsN hx hb (xC_fz hXf.1) I.2.2 hown (va_Nw.use rfl (xC_nf1 hXf.1)) (fun _ q => q) dX1_beAsAtFirst_12 ?_
  refine lv_iload_n hx hb dX1_beAsAtFirst_15 rfl (lv_at hl 0 rfl) ?_
  refine va_ti hx hb (xC_ft hXf.1) I.2.2 (nI_in (show 3 < 4 by omega) (by omega)) (v := .int (lfA 3)) rfl dX1_beAsAtFirst_16 ?_
  refine lis_ (ws1 := [(h0, .inr (1, [.ref L, .ref V, .int ve, .int vn, .int vy, .int vz, v6, v7])), (L, .inl (cy 1, 4, .inl (upd (upd (upd (upd (f) 0 (lfA 0)) 1 (lfA 1)) 2 (lfA 2)) 3 (lfA 3)))), (V, .inl (cy 1, 8, .inl (g)))]) X I 1 rfl (by omega) (by omega) rfl dX1_beAsAtFirst_17 (fun H locs I => ?_)
  refine lv_iinc (v := nI 4) (lv' := [(1, .int (nI 4)), (0, .ref h0)]) hx hb dX1_beAsAtFirst_18 hl (k := 0) rfl (by decide) (by decide) rfl (fun ls hl => ?_)
  refine lv_goto (tgt := 2) hx hb dX1_beAsAtFirst_21 (by decide) ?_
  refine lv_iload_n hx hb dX1_beAsAtFirst_2 rfl (lv_at hl 0 rfl) ?_
  refine lv_iconst (v := nI 4) hx hb dX1_beAsAtFirst_3 (by decide) ?_
  refine lv_icmp_ge (tgt := 24) hx hb dX1_beAsAtFirst_4 (by decide) (fun _ => ?_) (fun q => absurd (show nI 4 ≤ nI 4 by decide) q)
  refine lv_iconst (v := nI 0) hx hb dX1_beAsAtFirst_24 (by decide) ?_
  refine lv_istore_n (lv' := [(1, .int (nI 0)), (0, .ref h0)]) hx hb dX1_beAsAtFirst_25 rfl hl (by decide) rfl (fun ls hl => ?_)
  refine lv_iload_n hx hb dX1_beAsAtFirst_26 rfl (lv_at hl 0 rfl) ?_
  refine lv_bipush (v := nI 8) hx hb dX1_beAsAtFirst_27 (by decide) ?_
  refine lv_icmp_ge (tgt := 46) hx hb dX1_beAsAtFirst_29 (by decide) (fun q => absurd q (by decide)) (fun _ => ?_)
  refine lv_aload_n hx hb dX1_beAsAtFirst_32 rfl (lv_at hl 1 rfl) ?_
  refine lgf_ (index := 19) X I (fun _ q => List.mem_cons_of_mem _ (List.mem_append_right _ q)) 0 rfl rfl 1 (by decide) (by decide +kernel) rfl (v := .ref V) rfl dX1_beAsAtFirst_33 ?_
  refine lv_iload_n hx hb dX1_beAsAtFirst_36 rfl (lv_at hl 0 rfl) ?_
  refine lv_bipush (v := nI 50) hx hb dX1_beAsAtFirst_37 (by decide) ?_
  refine lis_ (ws1 := [(h0, .inr (1, [.ref L, .ref V, .int ve, .int vn, .int vy, .int vz, v6, v7])), (L, .inl (cy 1, 4, .inl (upd (upd (upd (upd (f) 0 (lfA 0)) 1 (lfA 1)) 2 (lfA 2)) 3 (lfA 3)))), (V, .inl (cy 1, 8, .inl (upd (g) 0 (nI 50))))]) X I 2 rfl (by omega) (by omega) rfl dX1_beAsAtFirst_39 (fun H locs I => ?_)
  refine lv_iinc (v := nI 1) (lv' := [(1, .int (nI 1)), (0, .ref h0)]) hx hb dX1_beAsAtFirst_40 hl (k := 0) rfl (by decide) (by decide) rfl (fun ls hl => ?_)
  refine lv_goto (tgt := 26) hx hb dX1_beAsAtFirst_43 (by decide) ?_
  refine lv_iload_n hx hb dX1_beAsAtFirst_26 rfl (lv_at hl 0 rfl) ?_
  refine lv_bipush (v := nI 8) hx hb dX1_beAsAtFirst_27 (by decide) ?_
  refine lv_icmp_ge (tgt := 46) hx hb dX1_beAsAtFirst_29 (by decide) (fun q => absurd q (by decide)) (fun _ => ?_)
  refine lv_aload_n hx hb dX1_beAsAtFirst_32 rfl (lv_at hl 1 rfl) ?_
  refine lgf_ (index := 19) X I (fun _ q => List.mem_cons_of_mem _ (List.mem_append_right _ q)) 0 rfl rfl 1 (by decide) (by decide +kernel) rfl (v := .ref V) rfl dX1_beAsAtFirst_33 ?_
  refine lv_iload_n hx hb dX1_beAsAtFirst_36 rfl (lv_at hl 0 rfl) ?_
  refine lv_bipush (v := nI 50) hx hb dX1_beAsAtFirst_37 (by decide) ?_
  refine lis_ (ws1 := [(h0, .inr (1, [.ref L, .ref V, .int ve, .int vn, .int vy, .int vz, v6, v7])), (L, .inl (cy 1, 4, .inl (upd (upd (upd (upd (f) 0 (lfA 0)) 1 (lfA 1)) 2 (lfA 2)) 3 (lfA 3)))), (V, .inl (cy 1, 8, .inl (upd (upd (g) 0 (nI 50)) 1 (nI 50))))]) X I 2 rfl (by omega) (by omega) rfl dX1_beAsAtFirst_39 (fun H locs I => ?_)
  refine lv_iinc (v := nI 2) (lv' := [(1, .int (nI 2)), (0, .ref h0)]) hx hb dX1_beAsAtFirst_40 hl (k := 0) rfl (by decide) (by decide) rfl (fun ls hl => ?_)
  refine lv_goto (tgt := 26) hx hb dX1_beAsAtFirst_43 (by decide) ?_
  refine lv_iload_n hx hb dX1_beAsAtFirst_26 rfl (lv_at hl 0 rfl) ?_
  refine lv_bipush (v := nI 8) hx hb dX1_beAsAtFirst_27 (by decide) ?_
  refine lv_icmp_ge (tgt := 46) hx hb dX1_beAsAtFirst_29 (by decide) (fun q => absurd q (by decide)) (fun _ => ?_)
  refine lv_aload_n hx hb dX1_beAsAtFirst_32 rfl (lv_at hl 1 rfl) ?_
  refine lgf_ (index := 19) X I (fun _ q => List.mem_cons_of_mem _ (List.mem_append_right _ q)) 0 rfl rfl 1 (by decide) (by decide +kernel) rfl (v := .ref V) rfl dX1_beAsAtFirst_33 ?_
  refine lv_iload_n hx hb dX1_beAsAtFirst_36 rfl (lv_at hl 0 rfl) ?_
  refine lv_bipush (v := nI 50) hx hb dX1_beAsAtFirst_37 (by decide) ?_
  refine lis_ (ws1 := [(h0, .inr (1, [.ref L, .ref V, .int ve, .int vn, .int vy, .int vz, v6, v7])), (L, .inl (cy 1, 4, .inl (upd (upd (upd (upd (f) 0 (lfA 0)) 1 (lfA 1)) 2 (lfA 2)) 3 (lfA 3)))), (V, .inl (cy 1, 8, .inl (upd (upd (upd (g) 0 (nI 50)) 1 (nI 50)) 2 (nI 50))))]) X I 2 rfl (by omega) (by omega) rfl dX1_beAsAtFirst_39 (fun H locs I => ?_)
  refine lv_iinc (v := nI 3) (lv' := [(1, .int (nI 3)), (0, .ref h0)]) hx hb dX1_beAsAtFirst_40 hl (k := 0) rfl (by decide) (by decide) rfl (fun ls hl => ?_)
  refine lv_goto (tgt := 26) hx hb dX1_beAsAtFirst_43 (by decide) ?_
  refine lv_iload_n hx hb dX1_beAsAtFirst_26 rfl (lv_at hl 0 rfl) ?_
  refine lv_bipush (v := nI 8) hx hb dX1_beAsAtFirst_27 (by decide) ?_
  refine lv_icmp_ge (tgt := 46) hx hb dX1_beAsAtFirst_29 (by decide) (fun q => absurd q (by decide)) (fun _ => ?_)
  refine lv_aload_n hx hb dX1_beAsAtFirst_32 rfl (lv_at hl 1 rfl) ?_
  refine lgf_ (index := 19) X I (fun _ q => List.mem_cons_of_mem _ (List.mem_append_right _ q)) 0 rfl rfl 1 (by decide) (by decide +kernel) rfl (v := .ref V) rfl dX1_beAsAtFirst_33 ?_
  refine lv_iload_n hx hb dX1_beAsAtFirst_36 rfl (lv_at hl 0 rfl) ?_
  refine lv_bipush (v := nI 50) hx hb dX1_beAsAtFirst_37 (by decide) ?_
  refine lis_ (ws1 := [(h0, .inr (1, [.ref L, .ref V, .int ve, .int vn, .int vy, .int vz, v6, v7])), (L, .inl (cy 1, 4, .inl (upd (upd (upd (upd (f) 0 (lfA 0)) 1 (lfA 1)) 2 (lfA 2)) 3 (lfA 3)))), (V, .inl (cy 1, 8, .inl (upd (upd (upd (upd (g) 0 (nI 50)) 1 (nI 50)) 2 (nI 50)) 3 (nI 50))))]) X I 2 rfl (by omega) (by omega) rfl dX1_beAsAtFirst_39 (fun H locs I => ?_)
  refine lv_iinc (v := nI 4) (lv' := [(1, .int (nI 4)), (0, .ref h0)]) hx hb dX1_beAsAtFirst_40 hl (k := 0) rfl (by decide) (by decide) rfl (fun ls hl => ?_)
  refine lv_goto (tgt := 26) hx hb dX1_beAsAtFirst_43 (by decide) ?_
  refine lv_iload_n hx hb dX1_beAsAtFirst_26 rfl (lv_at hl 0 rfl) ?_
  refine lv_bipush (v := nI 8) hx hb dX1_beAsAtFirst_27 (by decide) ?_
  refine lv_icmp_ge (tgt := 46) hx hb dX1_beAsAtFirst_29 (by decide) (fun q => absurd q (by decide)) (fun _ => ?_)
  refine lv_aload_n hx hb dX1_beAsAtFirst_32 rfl (lv_at hl 1 rfl) ?_
  refine lgf_ (index := 19) X I (fun _ q => List.mem_cons_of_mem _ (List.mem_append_right _ q)) 0 rfl rfl 1 (by decide) (by decide +kernel) rfl (v := .ref V) rfl dX1_beAsAtFirst_33 ?_
  refine lv_iload_n hx hb dX1_beAsAtFirst_36 rfl (lv_at hl 0 rfl) ?_
  refine lv_bipush (v := nI 50) hx hb dX1_beAsAtFirst_37 (by decide) ?_
  refine lis_ (ws1 := [(h0, .inr (1, [.ref L, .ref V, .int ve, .int vn, .int vy, .int vz, v6, v7])), (L, .inl (cy 1, 4, .inl (upd (upd (upd (upd (f) 0 (lfA 0)) 1 (lfA 1)) 2 (lfA 2)) 3 (lfA 3)))), (V, .inl (cy 1, 8, .inl (upd (upd (upd (upd (upd (g) 0 (nI 50)) 1 (nI 50)) 2 (nI 50)) 3 (nI 50)) 4 (nI 50))))]) X I 2 rfl (by omega) (by omega) rfl dX1_beAsAtFirst_39 (fun H locs I => ?_)
  refine lv_iinc (v := nI 5) (lv' := [(1, .int (nI 5)), (0, .ref h0)]) hx hb dX1_beAsAtFirst_40 hl (k := 0) rfl (by decide) (by decide) rfl (fun ls hl => ?_)
  refine lv_goto (tgt := 26) hx hb dX1_beAsAtFirst_43 (by decide) ?_
  refine lv_iload_n hx hb dX1_beAsAtFirst_26 rfl (lv_at hl 0 rfl) ?_
  refine lv_bipush (v := nI 8) hx hb dX1_beAsAtFirst_27 (by decide) ?_
  refine lv_icmp_ge (tgt := 46) hx hb dX1_beAsAtFirst_29 (by decide) (fun q => absurd q (by decide)) (fun _ => ?_)
  refine lv_aload_n hx hb dX1_beAsAtFirst_32 rfl (lv_at hl 1 rfl) ?_
  refine lgf_ (index := 19) X I (fun _ q => List.mem_cons_of_mem _ (List.mem_append_right _ q)) 0 rfl rfl 1 (by decide) (by decide +kernel) rfl (v := .ref V) rfl dX1_beAsAtFirst_33 ?_
  refine lv_iload_n hx hb dX1_beAsAtFirst_36 rfl (lv_at hl 0 rfl) ?_
  refine lv_bipush (v := nI 50) hx hb dX1_beAsAtFirst_37 (by decide) ?_
  refine lis_ (ws1 := [(h0, .inr (1, [.ref L, .ref V, .int ve, .int vn, .int vy, .int vz, v6, v7])), (L, .inl (cy 1, 4, .inl (upd (upd (upd (upd (f) 0 (lfA 0)) 1 (lfA 1)) 2 (lfA 2)) 3 (lfA 3)))), (V, .inl (cy 1, 8, .inl (upd (upd (upd (upd (upd (upd (g) 0 (nI 50)) 1 (nI 50)) 2 (nI 50)) 3 (nI 50)) 4 (nI 50)) 5 (nI 50))))]) X I 2 rfl (by omega) (by omega) rfl dX1_beAsAtFirst_39 (fun H locs I => ?_)
  refine lv_iinc (v := nI 6) (lv' := [(1, .int (nI 6)), (0, .ref h0)]) hx hb dX1_beAsAtFirst_40 hl (k := 0) rfl (by decide) (by decide) rfl (fun ls hl => ?_)
  refine lv_goto (tgt := 26) hx hb dX1_beAsAtFirst_43 (by decide) ?_
  refine lv_iload_n hx hb dX1_beAsAtFirst_26 rfl (lv_at hl 0 rfl) ?_
  refine lv_bipush (v := nI 8) hx hb dX1_beAsAtFirst_27 (by decide) ?_
  refine lv_icmp_ge (tgt := 46) hx hb dX1_beAsAtFirst_29 (by decide) (fun q => absurd q (by decide)) (fun _ => ?_)
  refine lv_aload_n hx hb dX1_beAsAtFirst_32 rfl (lv_at hl 1 rfl) ?_
  refine lgf_ (index := 19) X I (fun _ q => List.mem_cons_of_mem _ (List.mem_append_right _ q)) 0 rfl rfl 1 (by decide) (by decide +kernel) rfl (v := .ref V) rfl dX1_beAsAtFirst_33 ?_
  refine lv_iload_n hx hb dX1_beAsAtFirst_36 rfl (lv_at hl 0 rfl) ?_
  refine lv_bipush (v := nI 50) hx hb dX1_beAsAtFirst_37 (by decide) ?_
  refine lis_ (ws1 := [(h0, .inr (1, [.ref L, .ref V, .int ve, .int vn, .int vy, .int vz, v6, v7])), (L, .inl (cy 1, 4, .inl (upd (upd (upd (upd (f) 0 (lfA 0)) 1 (lfA 1)) 2 (lfA 2)) 3 (lfA 3)))), (V, .inl (cy 1, 8, .inl (upd (upd (upd (upd (upd (upd (upd (g) 0 (nI 50)) 1 (nI 50)) 2 (nI 50)) 3 (nI 50)) 4 (nI 50)) 5 (nI 50)) 6 (nI 50))))]) X I 2 rfl (by omega) (by omega) rfl dX1_beAsAtFirst_39 (fun H locs I => ?_)
  refine lv_iinc (v := nI 7) (lv' := [(1, .int (nI 7)), (0, .ref h0)]) hx hb dX1_beAsAtFirst_40 hl (k := 0) rfl (by decide) (by decide) rfl (fun ls hl => ?_)
  refine lv_goto (tgt := 26) hx hb dX1_beAsAtFirst_43 (by decide) ?_
  refine lv_iload_n hx hb dX1_beAsAtFirst_26 rfl (lv_at hl 0 rfl) ?_
  refine lv_bipush (v := nI 8) hx hb dX1_beAsAtFirst_27 (by decide) ?_
  refine lv_icmp_ge (tgt := 46) hx hb dX1_beAsAtFirst_29 (by decide) (fun q => absurd q (by decide)) (fun _ => ?_)
  refine lv_aload_n hx hb dX1_beAsAtFirst_32 rfl (lv_at hl 1 rfl) ?_
  refine lgf_ (index := 19) X I (fun _ q => List.mem_cons_of_mem _ (List.mem_append_right _ q)) 0 rfl rfl 1 (by decide) (by decide +kernel) rfl (v := .ref V) rfl dX1_beAsAtFirst_33 ?_
  refine lv_iload_n hx hb dX1_beAsAtFirst_36 rfl (lv_at hl 0 rfl) ?_
  refine lv_bipush (v := nI 50) hx hb dX1_beAsAtFirst_37 (by decide) ?_
  refine lis_ (ws1 := [(h0, .inr (1, [.ref L, .ref V, .int ve, .int vn, .int vy, .int vz, v6, v7])), (L, .inl (cy 1, 4, .inl (upd (upd (upd (upd (f) 0 (lfA 0)) 1 (lfA 1)) 2 (lfA 2)) 3 (lfA 3)))), (V, .inl (cy 1, 8, .inl (upd (upd (upd (upd (upd (upd (upd (upd (g) 0 (nI 50)) 1 (nI 50)) 2 (nI 50)) 3 (nI 50)) 4 (nI 50)) 5 (nI 50)) 6 (nI 50)) 7 (nI 50))))]) X I 2 rfl (by omega) (by omega) rfl dX1_beAsAtFirst_39 (fun H locs I => ?_)
  refine lv_iinc (v := nI 8) (lv' := [(1, .int (nI 8)), (0, .ref h0)]) hx hb dX1_beAsAtFirst_40 hl (k := 0) rfl (by decide) (by decide) rfl (fun ls hl => ?_)
  refine lv_goto (tgt := 26) hx hb dX1_beAsAtFirst_43 (by decide) ?_
  refine lv_iload_n hx hb dX1_beAsAtFirst_26 rfl (lv_at hl 0 rfl) ?_
  refine lv_bipush (v := nI 8) hx hb dX1_beAsAtFirst_27 (by decide) ?_
  refine lv_icmp_ge (tgt := 46) hx hb dX1_beAsAtFirst_29 (by decide) (fun _ => ?_) (fun q => absurd (show nI 8 ≤ nI 8 by decide) q)
  refine lv_aload_n hx hb dX1_beAsAtFirst_46 rfl (lv_at hl 1 rfl) ?_
  refine lv_iconst (v := nI 0) hx hb dX1_beAsAtFirst_47 (by decide) ?_
  refine lpn_ (index := 39) (ty := .int) (ws1 := [(h0, .inr (1, [.ref L, .ref V, .int (nI 0), .int vn, .int vy, .int vz, v6, v7])), (L, .inl (cy 1, 4, .inl (upd (upd (upd (upd (f) 0 (lfA 0)) 1 (lfA 1)) 2 (lfA 2)) 3 (lfA 3)))), (V, .inl (cy 1, 8, .inl (upd (upd (upd (upd (upd (upd (upd (upd (g) 0 (nI 50)) 1 (nI 50)) 2 (nI 50)) 3 (nI 50)) 4 (nI 50)) 5 (nI 50)) 6 (nI 50)) 7 (nI 50))))]) X I (fun _ q => List.mem_cons_of_mem _ (List.mem_append_right _ q)) tyX1 tyX1_ok nmX1 0 rfl rfl 2 (by decide) (by decide +kernel) rfl rfl (by decide +kernel) rfl rfl (Nat.le_of_ble_eq_true rfl) rfl dX1_beAsAtFirst_48 (fun H locs I => ?_)
  refine lv_aload_n hx hb dX1_beAsAtFirst_51 rfl (lv_at hl 1 rfl) ?_
  refine lv_iconst (v := nI 0) hx hb dX1_beAsAtFirst_52 (by decide) ?_
  refine lpn_ (index := 42) (ty := .int) (ws1 := [(h0, .inr (1, [.ref L, .ref V, .int (nI 0), .int (nI 0), .int vy, .int vz, v6, v7])), (L, .inl (cy 1, 4, .inl (upd (upd (upd (upd (f) 0 (lfA 0)) 1 (lfA 1)) 2 (lfA 2)) 3 (lfA 3)))), (V, .inl (cy 1, 8, .inl (upd (upd (upd (upd (upd (upd (upd (upd (g) 0 (nI 50)) 1 (nI 50)) 2 (nI 50)) 3 (nI 50)) 4 (nI 50)) 5 (nI 50)) 6 (nI 50)) 7 (nI 50))))]) X I (fun _ q => List.mem_cons_of_mem _ (List.mem_append_right _ q)) tyX1 tyX1_ok nmX1 0 rfl rfl 3 (by decide) (by decide +kernel) rfl rfl (by decide +kernel) rfl rfl (Nat.le_of_ble_eq_true rfl) rfl dX1_beAsAtFirst_53 (fun H locs I => ?_)
  refine lv_aload_n hx hb dX1_beAsAtFirst_56 rfl (lv_at hl 1 rfl) ?_
  refine lv_iconst (v := nI 0) hx hb dX1_beAsAtFirst_57 (by decide) ?_
  refine lpn_ (index := 45) (ty := .int) (ws1 := [(h0, .inr (1, [.ref L, .ref V, .int (nI 0), .int (nI 0), .int (nI 0), .int vz, v6, v7])), (L, .inl (cy 1, 4, .inl (upd (upd (upd (upd (f) 0 (lfA 0)) 1 (lfA 1)) 2 (lfA 2)) 3 (lfA 3)))), (V, .inl (cy 1, 8, .inl (upd (upd (upd (upd (upd (upd (upd (upd (g) 0 (nI 50)) 1 (nI 50)) 2 (nI 50)) 3 (nI 50)) 4 (nI 50)) 5 (nI 50)) 6 (nI 50)) 7 (nI 50))))]) X I (fun _ q => List.mem_cons_of_mem _ (List.mem_append_right _ q)) tyX1 tyX1_ok nmX1 0 rfl rfl 4 (by decide) (by decide +kernel) rfl rfl (by decide +kernel) rfl rfl (Nat.le_of_ble_eq_true rfl) rfl dX1_beAsAtFirst_58 (fun H locs I => ?_)
  exact rtc_ () X hr I rfl dX1_beAsAtFirst_61
set_option maxHeartbeats 4000000 in
set_option maxRecDepth 100000 in
theorem ci_X1 {l : Launch} {D : va_G} {cy : Nat → ClassId} {h0 kk : Nat} {gs : Nat → Nat} (sz : Nat) : Met l yX1_init wsX1_init ({ frames := 2, cells := 11, slots := 68, locals := 34 }) (va_Pc [.ref h0, .ref kk] (pc_ D cy [(h0, .inr (1, [.null, .null, .int 0, .int 0, .int 0, .int 0, .null, .null]))] (xg_ gs) sz)) (qc_ D (fun u : Nat → Nat => [((u 2), .inl (cy 4, 8, .inr (.inr (.inr (.inr (va_up (va_up (va_up (va_up (va_up (va_up (va_up (va_up (fun _ => none) 0 (some (u 3))) 1 (some (u 4))) 2 (some (u 5))) 3 (some (u 6))) 4 (some (u 7))) 5 (some (u 8))) 6 (some (u 9))) 7 (some (u 10)))))))), ((u 3), .inr (6, [.int 0, .int 0, .int 0, .int 0, .int 0, .int 0])), ((u 4), .inr (6, [.int 0, .int 0, .int 0, .int 0, .int 0, .int 0])), ((u 5), .inr (6, [.int 0, .int 0, .int 0, .int 0, .int 0, .int 0])), ((u 6), .inr (6, [.int 0, .int 0, .int 0, .int 0, .int 0, .int 0])), ((u 7), .inr (6, [.int 0, .int 0, .int 0, .int 0, .int 0, .int 0])), ((u 8), .inr (6, [.int 0, .int 0, .int 0, .int 0, .int 0, .int 0])), ((u 9), .inr (6, [.int 0, .int 0, .int 0, .int 0, .int 0, .int 0])), ((u 10), .inr (6, [.int 0, .int 0, .int 0, .int 0, .int 0, .int 0])), (h0, .inr (1, [.ref (u 0), .ref (u 1), .int (nI 0), .int (nI 0), .int (nI 0), .int (nI 1), .ref (u 2), .ref kk])), ((u 0), .inl (cy 1, 4, .inl (upd (upd (upd (upd ((fun _ => 0)) 0 (lfA 0)) 1 (lfA 1)) 2 (lfA 2)) 3 (lfA 3)))), ((u 1), .inl (cy 1, 8, .inl (upd (upd (upd (upd (upd (upd (upd (upd ((fun _ => 0)) 0 (nI 50)) 1 (nI 50)) 2 (nI 50)) 3 (nI 50)) 4 (nI 50)) 5 (nI 50)) 6 (nI 50)) 7 (nI 50))))]) (va_A [(h0, .inr (1, [.null, .null, .int 0, .int 0, .int 0, .int 0, .null, .null]))] sz)) 11 68 (va_A [(h0, .inr (1, [.null, .null, .int 0, .int 0, .int 0, .int 0, .null, .null]))] sz) := by
  refine enc_ (by decide) rfl (Nat.le_of_ble_eq_true rfl) ?_
  intro p e s m below meth c ls hsz hnm hr X I hl
  subst hsz
  obtain ⟨hx, hb, hml, hown, hts, hK, hA, hXf⟩ := id X
  refine lv_aload_n hx hb dX1_init_0 rfl (lv_at hl 0 rfl) ?_
  refine lob_ (nL := 3) hx hb hml hown hts (by decide +kernel) (by decide +kernel) (List.mem_of_getElem? (i := 3) rfl) hl.1 ⟨Nat.le_of_ble_eq_true rfl, Nat.le_of_ble_eq_true rfl⟩ dX1_init_1 ?_
  refine lv_aload_n hx hb dX1_init_4 rfl (lv_at hl 0 rfl) ?_
  refine lv_aload_n hx hb dX1_init_5 rfl (lv_at hl 1 rfl) ?_
  refine lpf_ (index := 9) (ty := .array (.object "BoundGodmothers$Child")) (ws1 := [(h0, .inr (1, [.null, .null, .int 0, .int 0, .int 0, .int 0, .null, .ref kk]))]) X I (fun _ q => List.mem_cons_of_mem _ (List.mem_append_left _ (List.mem_append_right _ q))) tyX1 tyX1_ok nmX1 0 rfl rfl 7 (by decide) (by decide +kernel) rfl rfl hnm rfl (by decide +kernel) rfl rfl (Nat.le_of_ble_eq_true rfl) rfl dX1_init_6 (fun H locs I => ?_)
  refine lv_aload_n hx hb dX1_init_9 rfl (lv_at hl 0 rfl) ?_
  refine lv_iconst (v := nI 4) hx hb dX1_init_10 (by decide) ?_
  refine lna_ (atype := .int) (ty := .int) (N := 4) (a0 := (4, .inl (fun _ => 0))) (cells1 := 1) (slots1 := 4) (ws2 := fun q => [(h0, .inr (1, [.null, .null, .int 0, .int 0, .int 0, .int 0, .null, .ref kk])), (q, .inl (cy 1, 4, .inl (fun _ => 0)))]) 1 X I (by decide +kernel) rfl rfl (fun _ h => h) zint_ (by omega) (Nat.le_of_ble_eq_true rfl) ⟨rfl, rfl⟩ ⟨Nat.le_of_ble_eq_true rfl, Nat.le_of_ble_eq_true rfl⟩ (fun _ => rfl) dX1_init_11 (fun q1 H I => ?_)
  refine lpf_ (index := 15) (ty := .array .int) (ws1 := [(h0, .inr (1, [.ref q1, .null, .int 0, .int 0, .int 0, .int 0, .null, .ref kk])), (q1, .inl (cy 1, 4, .inl (fun _ => 0)))]) X I (fun _ q => List.mem_cons_of_mem _ (List.mem_append_left _ (List.mem_append_right _ q))) tyX1 tyX1_ok nmX1 0 rfl rfl 0 (by decide) (by decide +kernel) rfl rfl hnm rfl (by decide +kernel) rfl rfl (Nat.le_of_ble_eq_true rfl) rfl dX1_init_13 (fun H locs I => ?_)
  refine lv_aload_n hx hb dX1_init_16 rfl (lv_at hl 0 rfl) ?_
  refine lv_bipush (v := nI 8) hx hb dX1_init_17 (by decide) ?_
  refine lna_ (atype := .int) (ty := .int) (N := 8) (a0 := (8, .inl (fun _ => 0))) (cells1 := 2) (slots1 := 12) (ws2 := fun q => [(h0, .inr (1, [.ref q1, .null, .int 0, .int 0, .int 0, .int 0, .null, .ref kk])), (q1, .inl (cy 1, 4, .inl (fun _ => 0))), (q, .inl (cy 1, 8, .inl (fun _ => 0)))]) 1 X I (by decide +kernel) rfl rfl (fun _ h => h) zint_ (by omega) (Nat.le_of_ble_eq_true rfl) ⟨rfl, rfl⟩ ⟨Nat.le_of_ble_eq_true rfl, Nat.le_of_ble_eq_true rfl⟩ (fun _ => rfl) dX1_init_19 (fun q2 H I => ?_)
  refine lpf_ (index := 19) (ty := .array .int) (ws1 := [(h0, .inr (1, [.ref q1, .ref q2, .int 0, .int 0, .int 0, .int 0, .null, .ref kk])), (q1, .inl (cy 1, 4, .inl (fun _ => 0))), (q2, .inl (cy 1, 8, .inl (fun _ => 0)))]) X I (fun _ q => List.mem_cons_of_mem _ (List.mem_append_left _ (List.mem_append_right _ q))) tyX1 tyX1_ok nmX1 0 rfl rfl 1 (by decide) (by decide +kernel) rfl rfl hnm rfl (by decide +kernel) rfl rfl (Nat.le_of_ble_eq_true rfl) rfl dX1_init_21 (fun H locs I => ?_)
  refine lv_aload_n hx hb dX1_init_24 rfl (lv_at hl 0 rfl) ?_
  refine lv_bipush (v := nI 8) hx hb dX1_init_25 (by decide) ?_
  refine lnq_ (N := 8) (C := RX6) (cells1 := 3) (slots1 := 20) (ws2 := fun q => [(h0, .inr (1, [.ref q1, .ref q2, .int 0, .int 0, .int 0, .int 0, .null, .ref kk])), (q1, .inl (cy 1, 4, .inl (fun _ => 0))), (q2, .inl (cy 1, 8, .inl (fun _ => 0))), (q, .inl (cy 4, 8, .inr (.inr (.inr (.inr (fun _ => none))))))]) 4 X I (by decide +kernel) hXf.2.2 rfl (by omega) (Nat.le_of_ble_eq_true rfl) ⟨rfl, rfl⟩ ⟨Nat.le_of_ble_eq_true rfl, Nat.le_of_ble_eq_true rfl⟩ (fun _ => rfl) dX1_init_27 (fun q3 H I => ?_)
  refine lpf_ (index := 24) (ty := .array (.object "BoundGodmothers$Life")) (ws1 := [(h0, .inr (1, [.ref q1, .ref q2, .int 0, .int 0, .int 0, .int 0, .ref q3, .ref kk])), (q1, .inl (cy 1, 4, .inl (fun _ => 0))), (q2, .inl (cy 1, 8, .inl (fun _ => 0))), (q3, .inl (cy 4, 8, .inr (.inr (.inr (.inr (fun _ => none))))))]) X I (fun _ q => List.mem_cons_of_mem _ (List.mem_append_left _ (List.mem_append_right _ q))) tyX1 tyX1_ok nmX1 0 rfl rfl 6 (by decide) (by decide +kernel) rfl rfl hnm rfl (by decide +kernel) rfl rfl (Nat.le_of_ble_eq_true rfl) rfl dX1_init_30 (fun H locs I => ?_)
  refine lv_iconst (v := nI 0) hx hb dX1_init_33 (by decide) ?_
  refine lv_istore_n (lv' := [(2, .int (nI 0)), (0, .ref h0), (1, .ref kk)]) hx hb dX1_init_34 rfl hl (by decide) rfl (fun ls hl => ?_)
  refine lv_iload_n hx hb dX1_init_35 rfl (lv_at hl 0 rfl) ?_
  refine lv_bipush (v := nI 8) hx hb dX1_init_36 (by decide) ?_
  refine lv_icmp_ge (tgt := 60) hx hb dX1_init_38 (by decide) (fun q => absurd q (by decide)) (fun _ => ?_)
  refine lv_aload_n hx hb dX1_init_41 rfl (lv_at hl 1 rfl) ?_
  refine lgf_ (index := 24) X I (fun _ q => List.mem_cons_of_mem _ (List.mem_append_left _ (List.mem_append_right _ q))) 0 rfl rfl 6 (by decide) (by decide +kernel) rfl (v := .ref q3) rfl dX1_init_42 ?_
  refine lv_iload_n hx hb dX1_init_45 rfl (lv_at hl 0 rfl) ?_
  refine lnw_ (ci := 6) (fs := [.int 0, .int 0, .int 0, .int 0, .int 0, .int 0]) (cells1 := 4) (slots1 := 26) (ws2 := fun q => [(h0, .inr (1, [.ref q1, .ref q2, .int 0, .int 0, .int 0, .int 0, .ref q3, .ref kk])), (q1, .inl (cy 1, 4, .inl (fun _ => 0))), (q2, .inl (cy 1, 8, .inl (fun _ => 0))), (q3, .inl (cy 4, 8, .inr (.inr (.inr (.inr (fun _ => none)))))), (q, .inr (6, [.int 0, .int 0, .int 0, .int 0, .int 0, .int 0]))]) X I (fun _ q => List.mem_cons_of_mem _ (List.mem_append_right _ q)) tyX6 tyX6_ok (by decide +kernel) (by decide +kernel) (by decide +kernel) rfl dfX6 ⟨rfl, rfl⟩ ⟨Nat.le_of_ble_eq_true rfl, Nat.le_of_ble_eq_true rfl⟩ (fun _ => rfl) dX1_init_46 (fun q4 H I => ?_)
  refine lv_dup hx hb dX1_init_49 rfl ?_
  refine cpv_ (rI_ (b := q4) (nn := 0) (As := []) (rest := [.ref q4, .int (nI 0), .ref q3]) ⟨hx, hb, hml, hown, hts⟩ ci_X6 gX1_init_X6_init rfl ⟨rfl, rfl⟩ (by decide +kernel) (by decide +kernel) (by decide +kernel) rfl (by decide +kernel) ⟨Nat.le_of_ble_eq_true rfl, Nat.le_of_ble_eq_true rfl⟩ rfl hl.1 rfl (Nat.le_of_ble_eq_true rfl) dX1_init_50 ⟨Nat.le_of_ble_eq_true rfl, Nat.le_of_ble_eq_true rfl⟩) ?_
  refine las_ (ws1 := [(h0, .inr (1, [.ref q1, .ref q2, .int 0, .int 0, .int 0, .int 0, .ref q3, .ref kk])), (q1, .inl (cy 1, 4, .inl (fun _ => 0))), (q2, .inl (cy 1, 8, .inl (fun _ => 0))), (q3, .inl (cy 4, 8, .inr (.inr (.inr (.inr (va_up (fun _ => none) 0 (some q4))))))), (q4, .inr (6, [.int 0, .int 0, .int 0, .int 0, .int 0, .int 0]))]) (qk := 4) (ci := 6) (E := RX6) (r := (RX6, TX6, 6)) 4 X I 3 rfl rfl (Or.inl rfl) rfl rfl (by omega) (by omega) rfl dX1_init_53 (fun H locs I => ?_)
  refine lv_iinc (v := nI 1) (lv' := [(2, .int (nI 1)), (0, .ref h0), (1, .ref kk)]) hx hb dX1_init_54 hl (k := 0) rfl (by decide) (by decide) rfl (fun ls hl => ?_)
  refine lv_goto (tgt := 35) hx hb dX1_init_57 (by decide) ?_
  refine lv_iload_n hx hb dX1_init_35 rfl (lv_at hl 0 rfl) ?_
  refine lv_bipush (v := nI 8) hx hb dX1_init_36 (by decide) ?_
  refine lv_icmp_ge (tgt := 60) hx hb dX1_init_38 (by decide) (fun q => absurd q (by decide)) (fun _ => ?_)
  refine lv_aload_n hx hb dX1_init_41 rfl (lv_at hl 1 rfl) ?_
  refine lgf_ (index := 24) X I (fun _ q => List.mem_cons_of_mem _ (List.mem_append_left _ (List.mem_append_right _ q))) 0 rfl rfl 6 (by decide) (by decide +kernel) rfl (v := .ref q3) rfl dX1_init_42 ?_
  refine lv_iload_n hx hb dX1_init_45 rfl (lv_at hl 0 rfl) ?_
  refine lnw_ (ci := 6) (fs := [.int 0, .int 0, .int 0, .int 0, .int 0, .int 0]) (cells1 := 5) (slots1 := 32) (ws2 := fun q => [(h0, .inr (1, [.ref q1, .ref q2, .int 0, .int 0, .int 0, .int 0, .ref q3, .ref kk])), (q1, .inl (cy 1, 4, .inl (fun _ => 0))), (q2, .inl (cy 1, 8, .inl (fun _ => 0))), (q3, .inl (cy 4, 8, .inr (.inr (.inr (.inr (va_up (fun _ => none) 0 (some q4))))))), (q4, .inr (6, [.int 0, .int 0, .int 0, .int 0, .int 0, .int 0])), (q, .inr (6, [.int 0, .int 0, .int 0, .int 0, .int 0, .int 0]))]) X I (fun _ q => List.mem_cons_of_mem _ (List.mem_append_right _ q)) tyX6 tyX6_ok (by decide +kernel) (by decide +kernel) (by decide +kernel) rfl dfX6 ⟨rfl, rfl⟩ ⟨Nat.le_of_ble_eq_true rfl, Nat.le_of_ble_eq_true rfl⟩ (fun _ => rfl) dX1_init_46 (fun q5 H I => ?_)
  refine lv_dup hx hb dX1_init_49 rfl ?_
  refine cpv_ (rI_ (b := q5) (nn := 0) (As := []) (rest := [.ref q5, .int (nI 1), .ref q3]) ⟨hx, hb, hml, hown, hts⟩ ci_X6 gX1_init_X6_init rfl ⟨rfl, rfl⟩ (by decide +kernel) (by decide +kernel) (by decide +kernel) rfl (by decide +kernel) ⟨Nat.le_of_ble_eq_true rfl, Nat.le_of_ble_eq_true rfl⟩ rfl hl.1 rfl (Nat.le_of_ble_eq_true rfl) dX1_init_50 ⟨Nat.le_of_ble_eq_true rfl, Nat.le_of_ble_eq_true rfl⟩) ?_
  refine las_ (ws1 := [(h0, .inr (1, [.ref q1, .ref q2, .int 0, .int 0, .int 0, .int 0, .ref q3, .ref kk])), (q1, .inl (cy 1, 4, .inl (fun _ => 0))), (q2, .inl (cy 1, 8, .inl (fun _ => 0))), (q3, .inl (cy 4, 8, .inr (.inr (.inr (.inr (va_up (va_up (fun _ => none) 0 (some q4)) 1 (some q5))))))), (q4, .inr (6, [.int 0, .int 0, .int 0, .int 0, .int 0, .int 0])), (q5, .inr (6, [.int 0, .int 0, .int 0, .int 0, .int 0, .int 0]))]) (qk := 5) (ci := 6) (E := RX6) (r := (RX6, TX6, 6)) 4 X I 3 rfl rfl (Or.inl rfl) rfl rfl (by omega) (by omega) rfl dX1_init_53 (fun H locs I => ?_)
  refine lv_iinc (v := nI 2) (lv' := [(2, .int (nI 2)), (0, .ref h0), (1, .ref kk)]) hx hb dX1_init_54 hl (k := 0) rfl (by decide) (by decide) rfl (fun ls hl => ?_)
  refine lv_goto (tgt := 35) hx hb dX1_init_57 (by decide) ?_
  refine lv_iload_n hx hb dX1_init_35 rfl (lv_at hl 0 rfl) ?_
  refine lv_bipush (v := nI 8) hx hb dX1_init_36 (by decide) ?_
  refine lv_icmp_ge (tgt := 60) hx hb dX1_init_38 (by decide) (fun q => absurd q (by decide)) (fun _ => ?_)
  refine lv_aload_n hx hb dX1_init_41 rfl (lv_at hl 1 rfl) ?_
  refine lgf_ (index := 24) X I (fun _ q => List.mem_cons_of_mem _ (List.mem_append_left _ (List.mem_append_right _ q))) 0 rfl rfl 6 (by decide) (by decide +kernel) rfl (v := .ref q3) rfl dX1_init_42 ?_
  refine lv_iload_n hx hb dX1_init_45 rfl (lv_at hl 0 rfl) ?_
  refine lnw_ (ci := 6) (fs := [.int 0, .int 0, .int 0, .int 0, .int 0, .int 0]) (cells1 := 6) (slots1 := 38) (ws2 := fun q => [(h0, .inr (1, [.ref q1, .ref q2, .int 0, .int 0, .int 0, .int 0, .ref q3, .ref kk])), (q1, .inl (cy 1, 4, .inl (fun _ => 0))), (q2, .inl (cy 1, 8, .inl (fun _ => 0))), (q3, .inl (cy 4, 8, .inr (.inr (.inr (.inr (va_up (va_up (fun _ => none) 0 (some q4)) 1 (some q5))))))), (q4, .inr (6, [.int 0, .int 0, .int 0, .int 0, .int 0, .int 0])), (q5, .inr (6, [.int 0, .int 0, .int 0, .int 0, .int 0, .int 0])), (q, .inr (6, [.int 0, .int 0, .int 0, .int 0, .int 0, .int 0]))]) X I (fun _ q => List.mem_cons_of_mem _ (List.mem_append_right _ q)) tyX6 tyX6_ok (by decide +kernel) (by decide +kernel) (by decide +kernel) rfl dfX6 ⟨rfl, rfl⟩ ⟨Nat.le_of_ble_eq_true rfl, Nat.le_of_ble_eq_true rfl⟩ (fun _ => rfl) dX1_init_46 (fun q6 H I => ?_)
  refine lv_dup hx hb dX1_init_49 rfl ?_
  refine cpv_ (rI_ (b := q6) (nn := 0) (As := []) (rest := [.ref q6, .int (nI 2), .ref q3]) ⟨hx, hb, hml, hown, hts⟩ ci_X6 gX1_init_X6_init rfl ⟨rfl, rfl⟩ (by decide +kernel) (by decide +kernel) (by decide +kernel) rfl (by decide +kernel) ⟨Nat.le_of_ble_eq_true rfl, Nat.le_of_ble_eq_true rfl⟩ rfl hl.1 rfl (Nat.le_of_ble_eq_true rfl) dX1_init_50 ⟨Nat.le_of_ble_eq_true rfl, Nat.le_of_ble_eq_true rfl⟩) ?_
  refine las_ (ws1 := [(h0, .inr (1, [.ref q1, .ref q2, .int 0, .int 0, .int 0, .int 0, .ref q3, .ref kk])), (q1, .inl (cy 1, 4, .inl (fun _ => 0))), (q2, .inl (cy 1, 8, .inl (fun _ => 0))), (q3, .inl (cy 4, 8, .inr (.inr (.inr (.inr (va_up (va_up (va_up (fun _ => none) 0 (some q4)) 1 (some q5)) 2 (some q6))))))), (q4, .inr (6, [.int 0, .int 0, .int 0, .int 0, .int 0, .int 0])), (q5, .inr (6, [.int 0, .int 0, .int 0, .int 0, .int 0, .int 0])), (q6, .inr (6, [.int 0, .int 0, .int 0, .int 0, .int 0, .int 0]))]) (qk := 6) (ci := 6) (E := RX6) (r := (RX6, TX6, 6)) 4 X I 3 rfl rfl (Or.inl rfl) rfl rfl (by omega) (by omega) rfl dX1_init_53 (fun H locs I => ?_)
  refine lv_iinc (v := nI 3) (lv' := [(2, .int (nI 3)), (0, .ref h0), (1, .ref kk)]) hx hb dX1_init_54 hl (k := 0) rfl (by decide) (by decide) rfl (fun ls hl => ?_)
  refine lv_goto (tgt := 35) hx hb dX1_init_57 (by decide) ?_
  refine lv_iload_n hx hb dX1_init_35 rfl (lv_at hl 0 rfl) ?_
  refine lv_bipush (v := nI 8) hx hb dX1_init_36 (by decide) ?_
  refine lv_icmp_ge (tgt := 60) hx hb dX1_init_38 (by decide) (fun q => absurd q (by decide)) (fun _ => ?_)
  refine lv_aload_n hx hb dX1_init_41 rfl (lv_at hl 1 rfl) ?_
  refine lgf_ (index := 24) X I (fun _ q => List.mem_cons_of_mem _ (List.mem_append_left _ (List.mem_append_right _ q))) 0 rfl rfl 6 (by decide) (by decide +kernel) rfl (v := .ref q3) rfl dX1_init_42 ?_
  refine lv_iload_n hx hb dX1_init_45 rfl (lv_at hl 0 rfl) ?_
  refine lnw_ (ci := 6) (fs := [.int 0, .int 0, .int 0, .int 0, .int 0, .int 0]) (cells1 := 7) (slots1 := 44) (ws2 := fun q => [(h0, .inr (1, [.ref q1, .ref q2, .int 0, .int 0, .int 0, .int 0, .ref q3, .ref kk])), (q1, .inl (cy 1, 4, .inl (fun _ => 0))), (q2, .inl (cy 1, 8, .inl (fun _ => 0))), (q3, .inl (cy 4, 8, .inr (.inr (.inr (.inr (va_up (va_up (va_up (fun _ => none) 0 (some q4)) 1 (some q5)) 2 (some q6))))))), (q4, .inr (6, [.int 0, .int 0, .int 0, .int 0, .int 0, .int 0])), (q5, .inr (6, [.int 0, .int 0, .int 0, .int 0, .int 0, .int 0])), (q6, .inr (6, [.int 0, .int 0, .int 0, .int 0, .int 0, .int 0])), (q, .inr (6, [.int 0, .int 0, .int 0, .int 0, .int 0, .int 0]))]) X I (fun _ q => List.mem_cons_of_mem _ (List.mem_append_right _ q)) tyX6 tyX6_ok (by decide +kernel) (by decide +kernel) (by decide +kernel) rfl dfX6 ⟨rfl, rfl⟩ ⟨Nat.le_of_ble_eq_true rfl, Nat.le_of_ble_eq_true rfl⟩ (fun _ => rfl) dX1_init_46 (fun q7 H I => ?_)
  refine lv_dup hx hb dX1_init_49 rfl ?_
  refine cpv_ (rI_ (b := q7) (nn := 0) (As := []) (rest := [.ref q7, .int (nI 3), .ref q3]) ⟨hx, hb, hml, hown, hts⟩ ci_X6 gX1_init_X6_init rfl ⟨rfl, rfl⟩ (by decide +kernel) (by decide +kernel) (by decide +kernel) rfl (by decide +kernel) ⟨Nat.le_of_ble_eq_true rfl, Nat.le_of_ble_eq_true rfl⟩ rfl hl.1 rfl (Nat.le_of_ble_eq_true rfl) dX1_init_50 ⟨Nat.le_of_ble_eq_true rfl, Nat.le_of_ble_eq_true rfl⟩) ?_
  refine las_ (ws1 := [(h0, .inr (1, [.ref q1, .ref q2, .int 0, .int 0, .int 0, .int 0, .ref q3, .ref kk])), (q1, .inl (cy 1, 4, .inl (fun _ => 0))), (q2, .inl (cy 1, 8, .inl (fun _ => 0))), (q3, .inl (cy 4, 8, .inr (.inr (.inr (.inr (va_up (va_up (va_up (va_up (fun _ => none) 0 (some q4)) 1 (some q5)) 2 (some q6)) 3 (some q7))))))), (q4, .inr (6, [.int 0, .int 0, .int 0, .int 0, .int 0, .int 0])), (q5, .inr (6, [.int 0, .int 0, .int 0, .int 0, .int 0, .int 0])), (q6, .inr (6, [.int 0, .int 0, .int 0, .int 0, .int 0, .int 0])), (q7, .inr (6, [.int 0, .int 0, .int 0, .int 0, .int 0, .int 0]))]) (qk := 7) (ci := 6) (E := RX6) (r := (RX6, TX6, 6)) 4 X I 3 rfl rfl (Or.inl rfl) rfl rfl (by omega) (by omega) rfl dX1_init_53 (fun H locs I => ?_)
  refine lv_iinc (v := nI 4) (lv' := [(2, .int (nI 4)), (0, .ref h0), (1, .ref kk)]) hx hb dX1_init_54 hl (k := 0) rfl (by decide) (by decide) rfl (fun ls hl => ?_)
  refine lv_goto (tgt := 35) hx hb dX1_init_57 (by decide) ?_
  refine lv_iload_n hx hb dX1_init_35 rfl (lv_at hl 0 rfl) ?_
  refine lv_bipush (v := nI 8) hx hb dX1_init_36 (by decide) ?_
  refine lv_icmp_ge (tgt := 60) hx hb dX1_init_38 (by decide) (fun q => absurd q (by decide)) (fun _ => ?_)
  refine lv_aload_n hx hb dX1_init_41 rfl (lv_at hl 1 rfl) ?_
  refine lgf_ (index := 24) X I (fun _ q => List.mem_cons_of_mem _ (List.mem_append_left _ (List.mem_append_right _ q))) 0 rfl rfl 6 (by decide) (by decide +kernel) rfl (v := .ref q3) rfl dX1_init_42 ?_
  refine lv_iload_n hx hb dX1_init_45 rfl (lv_at hl 0 rfl) ?_
  refine lnw_ (ci := 6) (fs := [.int 0, .int 0, .int 0, .int 0, .int 0, .int 0]) (cells1 := 8) (slots1 := 50) (ws2 := fun q => [(h0, .inr (1, [.ref q1, .ref q2, .int 0, .int 0, .int 0, .int 0, .ref q3, .ref kk])), (q1, .inl (cy 1, 4, .inl (fun _ => 0))), (q2, .inl (cy 1, 8, .inl (fun _ => 0))), (q3, .inl (cy 4, 8, .inr (.inr (.inr (.inr (va_up (va_up (va_up (va_up (fun _ => none) 0 (some q4)) 1 (some q5)) 2 (some q6)) 3 (some q7))))))), (q4, .inr (6, [.int 0, .int 0, .int 0, .int 0, .int 0, .int 0])), (q5, .inr (6, [.int 0, .int 0, .int 0, .int 0, .int 0, .int 0])), (q6, .inr (6, [.int 0, .int 0, .int 0, .int 0, .int 0, .int 0])), (q7, .inr (6, [.int 0, .int 0, .int 0, .int 0, .int 0, .int 0])), (q, .inr (6, [.int 0, .int 0, .int 0, .int 0, .int 0, .int 0]))]) X I (fun _ q => List.mem_cons_of_mem _ (List.mem_append_right _ q)) tyX6 tyX6_ok (by decide +kernel) (by decide +kernel) (by decide +kernel) rfl dfX6 ⟨rfl, rfl⟩ ⟨Nat.le_of_ble_eq_true rfl, Nat.le_of_ble_eq_true rfl⟩ (fun _ => rfl) dX1_init_46 (fun q8 H I => ?_)
  refine lv_dup hx hb dX1_init_49 rfl ?_
  refine cpv_ (rI_ (b := q8) (nn := 0) (As := []) (rest := [.ref q8, .int (nI 4), .ref q3]) ⟨hx, hb, hml, hown, hts⟩ ci_X6 gX1_init_X6_init rfl ⟨rfl, rfl⟩ (by decide +kernel) (by decide +kernel) (by decide +kernel) rfl (by decide +kernel) ⟨Nat.le_of_ble_eq_true rfl, Nat.le_of_ble_eq_true rfl⟩ rfl hl.1 rfl (Nat.le_of_ble_eq_true rfl) dX1_init_50 ⟨Nat.le_of_ble_eq_true rfl, Nat.le_of_ble_eq_true rfl⟩) ?_
  refine las_ (ws1 := [(h0, .inr (1, [.ref q1, .ref q2, .int 0, .int 0, .int 0, .int 0, .ref q3, .ref kk])), (q1, .inl (cy 1, 4, .inl (fun _ => 0))), (q2, .inl (cy 1, 8, .inl (fun _ => 0))), (q3, .inl (cy 4, 8, .inr (.inr (.inr (.inr (va_up (va_up (va_up (va_up (va_up (fun _ => none) 0 (some q4)) 1 (some q5)) 2 (some q6)) 3 (some q7)) 4 (some q8))))))), (q4, .inr (6, [.int 0, .int 0, .int 0, .int 0, .int 0, .int 0])), (q5, .inr (6, [.int 0, .int 0, .int 0, .int 0, .int 0, .int 0])), (q6, .inr (6, [.int 0, .int 0, .int 0, .int 0, .int 0, .int 0])), (q7, .inr (6, [.int 0, .int 0, .int 0, .int 0, .int 0, .int 0])), (q8, .inr (6, [.int 0, .int 0, .int 0, .int 0, .int 0, .int 0]))]) (qk := 8) (ci := 6) (E := RX6) (r := (RX6, TX6, 6)) 4 X I 3 rfl rfl (Or.inl rfl) rfl rfl (by omega) (by omega) rfl dX1_init_53 (fun H locs I => ?_)
  refine lv_iinc (v := nI 5) (lv' := [(2, .int (nI 5)), (0, .ref h0), (1, .ref kk)]) hx hb dX1_init_54 hl (k := 0) rfl (by decide) (by decide) rfl (fun ls hl => ?_)
  refine lv_goto (tgt := 35) hx hb dX1_init_57 (by decide) ?_
  refine lv_iload_n hx hb dX1_init_35 rfl (lv_at hl 0 rfl) ?_
  refine lv_bipush (v := nI 8) hx hb dX1_init_36 (by decide) ?_
  refine lv_icmp_ge (tgt := 60) hx hb dX1_init_38 (by decide) (fun q => absurd q (by decide)) (fun _ => ?_)
  refine lv_aload_n hx hb dX1_init_41 rfl (lv_at hl 1 rfl) ?_
  refine lgf_ (index := 24) X I (fun _ q => List.mem_cons_of_mem _ (List.mem_append_left _ (List.mem_append_right _ q))) 0 rfl rfl 6 (by decide) (by decide +kernel) rfl (v := .ref q3) rfl dX1_init_42 ?_
  refine lv_iload_n hx hb dX1_init_45 rfl (lv_at hl 0 rfl) ?_
  refine lnw_ (ci := 6) (fs := [.int 0, .int 0, .int 0, .int 0, .int 0, .int 0]) (cells1 := 9) (slots1 := 56) (ws2 := fun q => [(h0, .inr (1, [.ref q1, .ref q2, .int 0, .int 0, .int 0, .int 0, .ref q3, .ref kk])), (q1, .inl (cy 1, 4, .inl (fun _ => 0))), (q2, .inl (cy 1, 8, .inl (fun _ => 0))), (q3, .inl (cy 4, 8, .inr (.inr (.inr (.inr (va_up (va_up (va_up (va_up (va_up (fun _ => none) 0 (some q4)) 1 (some q5)) 2 (some q6)) 3 (some q7)) 4 (some q8))))))), (q4, .inr (6, [.int 0, .int 0, .int 0, .int 0, .int 0, .int 0])), (q5, .inr (6, [.int 0, .int 0, .int 0, .int 0, .int 0, .int 0])), (q6, .inr (6, [.int 0, .int 0, .int 0, .int 0, .int 0, .int 0])), (q7, .inr (6, [.int 0, .int 0, .int 0, .int 0, .int 0, .int 0])), (q8, .inr (6, [.int 0, .int 0, .int 0, .int 0, .int 0, .int 0])), (q, .inr (6, [.int 0, .int 0, .int 0, .int 0, .int 0, .int 0]))]) X I (fun _ q => List.mem_cons_of_mem _ (List.mem_append_right _ q)) tyX6 tyX6_ok (by decide +kernel) (by decide +kernel) (by decide +kernel) rfl dfX6 ⟨rfl, rfl⟩ ⟨Nat.le_of_ble_eq_true rfl, Nat.le_of_ble_eq_true rfl⟩ (fun _ => rfl) dX1_init_46 (fun q9 H I => ?_)
  refine lv_dup hx hb dX1_init_49 rfl ?_
  refine cpv_ (rI_ (b := q9) (nn := 0) (As := []) (rest := [.ref q9, .int (nI 5), .ref q3]) ⟨hx, hb, hml, hown, hts⟩ ci_X6 gX1_init_X6_init rfl ⟨rfl, rfl⟩ (by decide +kernel) (by decide +kernel) (by decide +kernel) rfl (by decide +kernel) ⟨Nat.le_of_ble_eq_true rfl, Nat.le_of_ble_eq_true rfl⟩ rfl hl.1 rfl (Nat.le_of_ble_eq_true rfl) dX1_init_50 ⟨Nat.le_of_ble_eq_true rfl, Nat.le_of_ble_eq_true rfl⟩) ?_
  refine las_ (ws1 := [(h0, .inr (1, [.ref q1, .ref q2, .int 0, .int 0, .int 0, .int 0, .ref q3, .ref kk])), (q1, .inl (cy 1, 4, .inl (fun _ => 0))), (q2, .inl (cy 1, 8, .inl (fun _ => 0))), (q3, .inl (cy 4, 8, .inr (.inr (.inr (.inr (va_up (va_up (va_up (va_up (va_up (va_up (fun _ => none) 0 (some q4)) 1 (some q5)) 2 (some q6)) 3 (some q7)) 4 (some q8)) 5 (some q9))))))), (q4, .inr (6, [.int 0, .int 0, .int 0, .int 0, .int 0, .int 0])), (q5, .inr (6, [.int 0, .int 0, .int 0, .int 0, .int 0, .int 0])), (q6, .inr (6, [.int 0, .int 0, .int 0, .int 0, .int 0, .int 0])), (q7, .inr (6, [.int 0, .int 0, .int 0, .int 0, .int 0, .int 0])), (q8, .inr (6, [.int 0, .int 0, .int 0, .int 0, .int 0, .int 0])), (q9, .inr (6, [.int 0, .int 0, .int 0, .int 0, .int 0, .int 0]))]) (qk := 9) (ci := 6) (E := RX6) (r := (RX6, TX6, 6)) 4 X I 3 rfl rfl (Or.inl rfl) rfl rfl (by omega) (by omega) rfl dX1_init_53 (fun H locs I => ?_)
  refine lv_iinc (v := nI 6) (lv' := [(2, .int (nI 6)), (0, .ref h0), (1, .ref kk)]) hx hb dX1_init_54 hl (k := 0) rfl (by decide) (by decide) rfl (fun ls hl => ?_)
  refine lv_goto (tgt := 35) hx hb dX1_init_57 (by decide) ?_
  refine lv_iload_n hx hb dX1_init_35 rfl (lv_at hl 0 rfl) ?_
  refine lv_bipush (v := nI 8) hx hb dX1_init_36 (by decide) ?_
  refine lv_icmp_ge (tgt := 60) hx hb dX1_init_38 (by decide) (fun q => absurd q (by decide)) (fun _ => ?_)
  refine lv_aload_n hx hb dX1_init_41 rfl (lv_at hl 1 rfl) ?_
  refine lgf_ (index := 24) X I (fun _ q => List.mem_cons_of_mem _ (List.mem_append_left _ (List.mem_append_right _ q))) 0 rfl rfl 6 (by decide) (by decide +kernel) rfl (v := .ref q3) rfl dX1_init_42 ?_
  refine lv_iload_n hx hb dX1_init_45 rfl (lv_at hl 0 rfl) ?_
  refine lnw_ (ci := 6) (fs := [.int 0, .int 0, .int 0, .int 0, .int 0, .int 0]) (cells1 := 10) (slots1 := 62) (ws2 := fun q => [(h0, .inr (1, [.ref q1, .ref q2, .int 0, .int 0, .int 0, .int 0, .ref q3, .ref kk])), (q1, .inl (cy 1, 4, .inl (fun _ => 0))), (q2, .inl (cy 1, 8, .inl (fun _ => 0))), (q3, .inl (cy 4, 8, .inr (.inr (.inr (.inr (va_up (va_up (va_up (va_up (va_up (va_up (fun _ => none) 0 (some q4)) 1 (some q5)) 2 (some q6)) 3 (some q7)) 4 (some q8)) 5 (some q9))))))), (q4, .inr (6, [.int 0, .int 0, .int 0, .int 0, .int 0, .int 0])), (q5, .inr (6, [.int 0, .int 0, .int 0, .int 0, .int 0, .int 0])), (q6, .inr (6, [.int 0, .int 0, .int 0, .int 0, .int 0, .int 0])), (q7, .inr (6, [.int 0, .int 0, .int 0, .int 0, .int 0, .int 0])), (q8, .inr (6, [.int 0, .int 0, .int 0, .int 0, .int 0, .int 0])), (q9, .inr (6, [.int 0, .int 0, .int 0, .int 0, .int 0, .int 0])), (q, .inr (6, [.int 0, .int 0, .int 0, .int 0, .int 0, .int 0]))]) X I (fun _ q => List.mem_cons_of_mem _ (List.mem_append_right _ q)) tyX6 tyX6_ok (by decide +kernel) (by decide +kernel) (by decide +kernel) rfl dfX6 ⟨rfl, rfl⟩ ⟨Nat.le_of_ble_eq_true rfl, Nat.le_of_ble_eq_true rfl⟩ (fun _ => rfl) dX1_init_46 (fun q10 H I => ?_)
  refine lv_dup hx hb dX1_init_49 rfl ?_
  refine cpv_ (rI_ (b := q10) (nn := 0) (As := []) (rest := [.ref q10, .int (nI 6), .ref q3]) ⟨hx, hb, hml, hown, hts⟩ ci_X6 gX1_init_X6_init rfl ⟨rfl, rfl⟩ (by decide +kernel) (by decide +kernel) (by decide +kernel) rfl (by decide +kernel) ⟨Nat.le_of_ble_eq_true rfl, Nat.le_of_ble_eq_true rfl⟩ rfl hl.1 rfl (Nat.le_of_ble_eq_true rfl) dX1_init_50 ⟨Nat.le_of_ble_eq_true rfl, Nat.le_of_ble_eq_true rfl⟩) ?_
  refine las_ (ws1 := [(h0, .inr (1, [.ref q1, .ref q2, .int 0, .int 0, .int 0, .int 0, .ref q3, .ref kk])), (q1, .inl (cy 1, 4, .inl (fun _ => 0))), (q2, .inl (cy 1, 8, .inl (fun _ => 0))), (q3, .inl (cy 4, 8, .inr (.inr (.inr (.inr (va_up (va_up (va_up (va_up (va_up (va_up (va_up (fun _ => none) 0 (some q4)) 1 (some q5)) 2 (some q6)) 3 (some q7)) 4 (some q8)) 5 (some q9)) 6 (some q10))))))), (q4, .inr (6, [.int 0, .int 0, .int 0, .int 0, .int 0, .int 0])), (q5, .inr (6, [.int 0, .int 0, .int 0, .int 0, .int 0, .int 0])), (q6, .inr (6, [.int 0, .int 0, .int 0, .int 0, .int 0, .int 0])), (q7, .inr (6, [.int 0, .int 0, .int 0, .int 0, .int 0, .int 0])), (q8, .inr (6, [.int 0, .int 0, .int 0, .int 0, .int 0, .int 0])), (q9, .inr (6, [.int 0, .int 0, .int 0, .int 0, .int 0, .int 0])), (q10, .inr (6, [.int 0, .int 0, .int 0, .int 0, .int 0, .int 0]))]) (qk := 10) (ci := 6) (E := RX6) (r := (RX6, TX6, 6)) 4 X I 3 rfl rfl (Or.inl rfl) rfl rfl (by omega) (by omega) rfl dX1_init_53 (fun H locs I => ?_)
  refine lv_iinc (v := nI 7) (lv' := [(2, .int (nI 7)), (0, .ref h0), (1, .ref kk)]) hx hb dX1_init_54 hl (k := 0) rfl (by decide) (by decide) rfl (fun ls hl => ?_)
  refine lv_goto (tgt := 35) hx hb dX1_init_57 (by decide) ?_
  refine lv_iload_n hx hb dX1_init_35 rfl (lv_at hl 0 rfl) ?_
  refine lv_bipush (v := nI 8) hx hb dX1_init_36 (by decide) ?_
  refine lv_icmp_ge (tgt := 60) hx hb dX1_init_38 (by decide) (fun q => absurd q (by decide)) (fun _ => ?_)
  refine lv_aload_n hx hb dX1_init_41 rfl (lv_at hl 1 rfl) ?_
  refine lgf_ (index := 24) X I (fun _ q => List.mem_cons_of_mem _ (List.mem_append_left _ (List.mem_append_right _ q))) 0 rfl rfl 6 (by decide) (by decide +kernel) rfl (v := .ref q3) rfl dX1_init_42 ?_
  refine lv_iload_n hx hb dX1_init_45 rfl (lv_at hl 0 rfl) ?_
  refine lnw_ (ci := 6) (fs := [.int 0, .int 0, .int 0, .int 0, .int 0, .int 0]) (cells1 := 11) (slots1 := 68) (ws2 := fun q => [(h0, .inr (1, [.ref q1, .ref q2, .int 0, .int 0, .int 0, .int 0, .ref q3, .ref kk])), (q1, .inl (cy 1, 4, .inl (fun _ => 0))), (q2, .inl (cy 1, 8, .inl (fun _ => 0))), (q3, .inl (cy 4, 8, .inr (.inr (.inr (.inr (va_up (va_up (va_up (va_up (va_up (va_up (va_up (fun _ => none) 0 (some q4)) 1 (some q5)) 2 (some q6)) 3 (some q7)) 4 (some q8)) 5 (some q9)) 6 (some q10))))))), (q4, .inr (6, [.int 0, .int 0, .int 0, .int 0, .int 0, .int 0])), (q5, .inr (6, [.int 0, .int 0, .int 0, .int 0, .int 0, .int 0])), (q6, .inr (6, [.int 0, .int 0, .int 0, .int 0, .int 0, .int 0])), (q7, .inr (6, [.int 0, .int 0, .int 0, .int 0, .int 0, .int 0])), (q8, .inr (6, [.int 0, .int 0, .int 0, .int 0, .int 0, .int 0])), (q9, .inr (6, [.int 0, .int 0, .int 0, .int 0, .int 0, .int 0])), (q10, .inr (6, [.int 0, .int 0, .int 0, .int 0, .int 0, .int 0])), (q, .inr (6, [.int 0, .int 0, .int 0, .int 0, .int 0, .int 0]))]) X I (fun _ q => List.mem_cons_of_mem _ (List.mem_append_right _ q)) tyX6 tyX6_ok (by decide +kernel) (by decide +kernel) (by decide +kernel) rfl dfX6 ⟨rfl, rfl⟩ ⟨Nat.le_of_ble_eq_true rfl, Nat.le_of_ble_eq_true rfl⟩ (fun _ => rfl) dX1_init_46 (fun q11 H I => ?_)
  refine lv_dup hx hb dX1_init_49 rfl ?_
  refine cpv_ (rI_ (b := q11) (nn := 0) (As := []) (rest := [.ref q11, .int (nI 7), .ref q3]) ⟨hx, hb, hml, hown, hts⟩ ci_X6 gX1_init_X6_init rfl ⟨rfl, rfl⟩ (by decide +kernel) (by decide +kernel) (by decide +kernel) rfl (by decide +kernel) ⟨Nat.le_of_ble_eq_true rfl, Nat.le_of_ble_eq_true rfl⟩ rfl hl.1 rfl (Nat.le_of_ble_eq_true rfl) dX1_init_50 ⟨Nat.le_of_ble_eq_true rfl, Nat.le_of_ble_eq_true rfl⟩) ?_
  refine las_ (ws1 := [(h0, .inr (1, [.ref q1, .ref q2, .int 0, .int 0, .int 0, .int 0, .ref q3, .ref kk])), (q1, .inl (cy 1, 4, .inl (fun _ => 0))), (q2, .inl (cy 1, 8, .inl (fun _ => 0))), (q3, .inl (cy 4, 8, .inr (.inr (.inr (.inr (va_up (va_up (va_up (va_up (va_up (va_up (va_up (va_up (fun _ => none) 0 (some q4)) 1 (some q5)) 2 (some q6)) 3 (some q7)) 4 (some q8)) 5 (some q9)) 6 (some q10)) 7 (some q11))))))), (q4, .inr (6, [.int 0, .int 0, .int 0, .int 0, .int 0, .int 0])), (q5, .inr (6, [.int 0, .int 0, .int 0, .int 0, .int 0, .int 0])), (q6, .inr (6, [.int 0, .int 0, .int 0, .int 0, .int 0, .int 0])), (q7, .inr (6, [.int 0, .int 0, .int 0, .int 0, .int 0, .int 0])), (q8, .inr (6, [.int 0, .int 0, .int 0, .int 0, .int 0, .int 0])), (q9, .inr (6, [.int 0, .int 0, .int 0, .int 0, .int 0, .int 0])), (q10, .inr (6, [.int 0, .int 0, .int 0, .int 0, .int 0, .int 0])), (q11, .inr (6, [.int 0, .int 0, .int 0, .int 0, .int 0, .int 0]))]) (qk := 11) (ci := 6) (E := RX6) (r := (RX6, TX6, 6)) 4 X I 3 rfl rfl (Or.inl rfl) rfl rfl (by omega) (by omega) rfl dX1_init_53 (fun H locs I => ?_)
  refine lv_iinc (v := nI 8) (lv' := [(2, .int (nI 8)), (0, .ref h0), (1, .ref kk)]) hx hb dX1_init_54 hl (k := 0) rfl (by decide) (by decide) rfl (fun ls hl => ?_)
  refine lv_goto (tgt := 35) hx hb dX1_init_57 (by decide) ?_
  refine lv_iload_n hx hb dX1_init_35 rfl (lv_at hl 0 rfl) ?_
  refine lv_bipush (v := nI 8) hx hb dX1_init_36 (by decide) ?_
  refine lv_icmp_ge (tgt := 60) hx hb dX1_init_38 (by decide) (fun _ => ?_) (fun q => absurd (show nI 8 ≤ nI 8 by decide) q)
  refine lv_aload_n hx hb dX1_init_60 rfl (lv_at hl 1 rfl) ?_
  refine cV_ (k := 0) (wc := [(h0, .inr (1, [.ref q1, .ref q2, .int 0, .int 0, .int 0, .int 0, .ref q3, .ref kk])), (q1, .inl (cy 1, 4, .inl (fun _ => 0))), (q2, .inl (cy 1, 8, .inl (fun _ => 0)))]) (wr := [(q3, .inl (cy 4, 8, .inr (.inr (.inr (.inr (va_up (va_up (va_up (va_up (va_up (va_up (va_up (va_up (fun _ => none) 0 (some q4)) 1 (some q5)) 2 (some q6)) 3 (some q7)) 4 (some q8)) 5 (some q9)) 6 (some q10)) 7 (some q11))))))), (q4, .inr (6, [.int 0, .int 0, .int 0, .int 0, .int 0, .int 0])), (q5, .inr (6, [.int 0, .int 0, .int 0, .int 0, .int 0, .int 0])), (q6, .inr (6, [.int 0, .int 0, .int 0, .int 0, .int 0, .int 0])), (q7, .inr (6, [.int 0, .int 0, .int 0, .int 0, .int 0, .int 0])), (q8, .inr (6, [.int 0, .int 0, .int 0, .int 0, .int 0, .int 0])), (q9, .inr (6, [.int 0, .int 0, .int 0, .int 0, .int 0, .int 0])), (q10, .inr (6, [.int 0, .int 0, .int 0, .int 0, .int 0, .int 0])), (q11, .inr (6, [.int 0, .int 0, .int 0, .int 0, .int 0, .int 0]))]) (ws2 := fun _ => [(q3, .inl (cy 4, 8, .inr (.inr (.inr (.inr (va_up (va_up (va_up (va_up (va_up (va_up (va_up (va_up (fun _ => none) 0 (some q4)) 1 (some q5)) 2 (some q6)) 3 (some q7)) 4 (some q8)) 5 (some q9)) 6 (some q10)) 7 (some q11))))))), (q4, .inr (6, [.int 0, .int 0, .int 0, .int 0, .int 0, .int 0])), (q5, .inr (6, [.int 0, .int 0, .int 0, .int 0, .int 0, .int 0])), (q6, .inr (6, [.int 0, .int 0, .int 0, .int 0, .int 0, .int 0])), (q7, .inr (6, [.int 0, .int 0, .int 0, .int 0, .int 0, .int 0])), (q8, .inr (6, [.int 0, .int 0, .int 0, .int 0, .int 0, .int 0])), (q9, .inr (6, [.int 0, .int 0, .int 0, .int 0, .int 0, .int 0])), (q10, .inr (6, [.int 0, .int 0, .int 0, .int 0, .int 0, .int 0])), (q11, .inr (6, [.int 0, .int 0, .int 0, .int 0, .int 0, .int 0])), (h0, .inr (1, [.ref q1, .ref q2, .int (nI 0), .int (nI 0), .int (nI 0), .int 0, .ref q3, .ref kk])), (q1, .inl (cy 1, 4, .inl (upd (upd (upd (upd ((fun _ => 0)) 0 (lfA 0)) 1 (lfA 1)) 2 (lfA 2)) 3 (lfA 3)))), (q2, .inl (cy 1, 8, .inl (upd (upd (upd (upd (upd (upd (upd (upd ((fun _ => 0)) 0 (nI 50)) 1 (nI 50)) 2 (nI 50)) 3 (nI 50)) 4 (nI 50)) 5 (nI 50)) 6 (nI 50)) 7 (nI 50))))]) X xkG I (ci_first _) gX1_init_X1_beAsAtFirst rfl ⟨rfl, rfl⟩ (by decide +kernel) ⟨Nat.le_of_ble_eq_true rfl, Nat.le_of_ble_eq_true rfl⟩ rfl rfl [0, 1, 2] [3, 4, 5, 6, 7, 8, 9, 10, 11] rfl rfl rfl rfl rfl (by decide) (fun _ => rfl) rfl hl.1 rfl (Nat.le_of_ble_eq_true rfl) dX1_init_61 ⟨Nat.le_of_ble_eq_true rfl, Nat.le_of_ble_eq_true rfl⟩ (fun _ H locs I => ?_)
  refine lv_aload_n hx hb dX1_init_64 rfl (lv_at hl 1 rfl) ?_
  refine lv_iconst (v := nI 1) hx hb dX1_init_65 (by decide) ?_
  refine lpn_ (index := 32) (ty := .int) (ws1 := [(q3, .inl (cy 4, 8, .inr (.inr (.inr (.inr (va_up (va_up (va_up (va_up (va_up (va_up (va_up (va_up (fun _ => none) 0 (some q4)) 1 (some q5)) 2 (some q6)) 3 (some q7)) 4 (some q8)) 5 (some q9)) 6 (some q10)) 7 (some q11))))))), (q4, .inr (6, [.int 0, .int 0, .int 0, .int 0, .int 0, .int 0])), (q5, .inr (6, [.int 0, .int 0, .int 0, .int 0, .int 0, .int 0])), (q6, .inr (6, [.int 0, .int 0, .int 0, .int 0, .int 0, .int 0])), (q7, .inr (6, [.int 0, .int 0, .int 0, .int 0, .int 0, .int 0])), (q8, .inr (6, [.int 0, .int 0, .int 0, .int 0, .int 0, .int 0])), (q9, .inr (6, [.int 0, .int 0, .int 0, .int 0, .int 0, .int 0])), (q10, .inr (6, [.int 0, .int 0, .int 0, .int 0, .int 0, .int 0])), (q11, .inr (6, [.int 0, .int 0, .int 0, .int 0, .int 0, .int 0])), (h0, .inr (1, [.ref q1, .ref q2, .int (nI 0), .int (nI 0), .int (nI 0), .int (nI 1), .ref q3, .ref kk])), (q1, .inl (cy 1, 4, .inl (upd (upd (upd (upd ((fun _ => 0)) 0 (lfA 0)) 1 (lfA 1)) 2 (lfA 2)) 3 (lfA 3)))), (q2, .inl (cy 1, 8, .inl (upd (upd (upd (upd (upd (upd (upd (upd ((fun _ => 0)) 0 (nI 50)) 1 (nI 50)) 2 (nI 50)) 3 (nI 50)) 4 (nI 50)) 5 (nI 50)) 6 (nI 50)) 7 (nI 50))))]) X I (fun _ q => List.mem_cons_of_mem _ (List.mem_append_left _ (List.mem_append_right _ q))) tyX1 tyX1_ok nmX1 9 rfl rfl 5 (by decide) (by decide +kernel) rfl rfl (by decide +kernel) rfl rfl (Nat.le_of_ble_eq_true rfl) rfl dX1_init_66 (fun H locs I => ?_)
  exact rtc_ (fun i => ([q1, q2, q3, q4, q5, q6, q7, q8, q9, q10, q11] : List Nat).getD i 0) X hr I rfl dX1_init_69
