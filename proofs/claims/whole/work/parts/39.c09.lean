def C_many_0  (σ : Sg) (x1 : Int32) : Option (Int32 × Sg) :=
  if x1 = 0 then (some ((rd_ σ 1 3), σ))
  else (if x1 = 1 then (bi_ (C1_ofAge_0 σ) fun r_5 σ_4 =>
  bp_ (CJ6_bitCount_0 r_5) fun r_7 =>
  some (((rd_ σ 1 3) - r_7), σ_4))
  else (if x1 = 2 then (bp_ (CJ6_bitCount_0 (rd_ σ 1 2)) fun r_10 =>
  some (r_10, σ))
  else (if x1 = 3 then (bi_ (C1_godmothersInUse_0 σ) fun r_14 σ_13 =>
  some (r_14, σ_13))
  else (if x1 = 4 then (some ((rd_ σ 0 10), σ))
  else (if x1 = 5 then (some ((rd_ σ 20 0), σ))
  else (if x1 = 6 then (some ((rd_ σ 29 1), σ))
  else (some ((-1 : Int32), σ))))))))
set_option maxRecDepth 100000 in
theorem kC_many_0 {p : Program} {l : Launch} {e : Env} {s : State} {m : MethodId} {args : Array Value} {below : List Frame} {meth : Method} {c : Code} {D : va_G} {cy : Nat → ClassId} {a gs : Nat → Nat} (X : cx_ cX11_many RX11 wsX11_many 2 (some .int) 59 a D cy (xfC gs) p s m args meth c)  {r0 : Int32} {σ' : Sg}  : ∀ (σ : Sg) (x1 : Int32) (H : Heap) (locs : List Loc) (ls : Array Slot), C_many_0 σ x1 = some (r0, σ') → iv_ 59 a D (shC cy a σ) s H locs → lv_has ls 2 [(0, .ref (a 0)), (1, .int x1)] → W p l e ({ frames := 6, cells := 0, slots := 0, locals := 131 }) s m args below meth c H locs 0 0 (MQ below (qg_ 59 a D (shC cy a σ') (some (.int r0)) s.heap.size) args s 0 0 (fr_ 59 a s.heap.size)) (F0 m 0 ls []) := by
  obtain ⟨hx, hb, hr, hml, hown, hts, hlk, hK, hA, hXf⟩ := id X
  intro σ x1 H locs ls h I hl
  unfold C_many_0 at h
  refine lv_iload_n hx hb dX11_many_0 rfl (lv_at hl 1 rfl) ?_
  by_cases c_1 : x1 = 0
  · have h := if_t h c_1
    refine lv_tableIn (tgt := 44) (off := 43) hx hb dX11_many_1 (by rw [c_1]; decide) (by rw [c_1]; decide) (by rw [c_1]; decide) (by decide) ?_
    refine lv_aload_n hx hb dX11_many_44 rfl (lv_at hl 0 rfl) ?_
    refine ig_ (index := 30) X I (fun _ q => List.mem_cons_of_mem _ (List.mem_append_left _ (List.mem_append_left _ (List.mem_append_left _ (List.mem_append_left _ (List.mem_append_right _ q)))))) 0 (by decide) shC_0 rfl 0 (by decide) (by decide +kernel) rfl (v := .ref (a 1)) rfl dX11_many_45 ?_
    refine ig_ (index := 105) X I (fun _ q => List.mem_cons_of_mem _ (List.mem_append_left _ (List.mem_append_left _ (List.mem_append_left _ (List.mem_append_right _ q))))) 1 (by decide) shC_1 rfl 3 (by decide) (by decide +kernel) rfl (v := .int (rd_ σ 1 3)) rfl dX11_many_48 ?_
    obtain ⟨rfl, rfl⟩ := re_s h
    exact rti_ X I dX11_many_51
  · have h := if_f h c_1
    by_cases c_2 : x1 = 1
    · have h := if_t h c_2
      refine lv_tableIn (tgt := 52) (off := 51) hx hb dX11_many_1 (by rw [c_2]; decide) (by rw [c_2]; decide) (by rw [c_2]; decide) (by decide) ?_
      refine lv_aload_n hx hb dX11_many_52 rfl (lv_at hl 0 rfl) ?_
      refine ig_ (index := 30) X I (fun _ q => List.mem_cons_of_mem _ (List.mem_append_left _ (List.mem_append_left _ (List.mem_append_left _ (List.mem_append_left _ (List.mem_append_right _ q)))))) 0 (by decide) shC_0 rfl 0 (by decide) (by decide +kernel) rfl (v := .ref (a 1)) rfl dX11_many_53 ?_
      refine ig_ (index := 105) X I (fun _ q => List.mem_cons_of_mem _ (List.mem_append_left _ (List.mem_append_left _ (List.mem_append_left _ (List.mem_append_right _ q))))) 1 (by decide) shC_1 rfl 3 (by decide) (by decide +kernel) rfl (v := .int (rd_ σ 1 3)) rfl dX11_many_56 ?_
      refine lv_aload_n hx hb dX11_many_59 rfl (lv_at hl 0 rfl) ?_
      refine ig_ (index := 30) X I (fun _ q => List.mem_cons_of_mem _ (List.mem_append_left _ (List.mem_append_left _ (List.mem_append_left _ (List.mem_append_left _ (List.mem_append_right _ q)))))) 0 (by decide) shC_0 rfl 0 (by decide) (by decide +kernel) rfl (v := .ref (a 1)) rfl dX11_many_60 ?_
      obtain ⟨r_5, σ_4, hc_3, h⟩ := bi_of h
      refine cg_ (v := .int r_5) (rV_ (nn := 0) (As := []) (rest := [.int (rd_ σ 1 3)]) X xkC I (c_C1_ofAge hc_3 H.size) gX11_many_X1_ofAge rfl ⟨rfl, rfl⟩ (by decide +kernel) ⟨Nat.le_of_ble_eq_true rfl, Nat.le_of_ble_eq_true rfl⟩ (by decide) shC_1 rfl rfl hl.1 rfl (Nat.le_of_ble_eq_true rfl) dX11_many_63) I (fun H locs I => ?_)
      obtain ⟨r_7, hc_6, h⟩ := bp_of h
      refine cp_ (rP_ (nn := 1) (As := [.int r_5]) (rest := [.int (rd_ σ 1 3)]) ⟨hx, hb, hml, hown, hts⟩ (c_CJ6_bitCount hc_6) gX11_many_J6_bitCount_0f7a4 rfl ⟨rfl, rfl⟩ (by decide +kernel) ⟨Nat.le_of_ble_eq_true rfl, Nat.le_of_ble_eq_true rfl⟩ rfl hl.1 rfl (Nat.le_of_ble_eq_true rfl) dX11_many_66 ⟨Nat.zero_le _, Nat.zero_le _⟩) ?_
      refine lv_isub hx hb dX11_many_69 ?_
      obtain ⟨rfl, rfl⟩ := re_s h
      exact rti_ X I dX11_many_70
    · have h := if_f h c_2
      by_cases c_8 : x1 = 2
      · have h := if_t h c_8
        refine lv_tableIn (tgt := 71) (off := 70) hx hb dX11_many_1 (by rw [c_8]; decide) (by rw [c_8]; decide) (by rw [c_8]; decide) (by decide) ?_
        refine lv_aload_n hx hb dX11_many_71 rfl (lv_at hl 0 rfl) ?_
        refine ig_ (index := 30) X I (fun _ q => List.mem_cons_of_mem _ (List.mem_append_left _ (List.mem_append_left _ (List.mem_append_left _ (List.mem_append_left _ (List.mem_append_right _ q)))))) 0 (by decide) shC_0 rfl 0 (by decide) (by decide +kernel) rfl (v := .ref (a 1)) rfl dX11_many_72 ?_
        refine ig_ (index := 165) X I (fun _ q => List.mem_cons_of_mem _ (List.mem_append_left _ (List.mem_append_left _ (List.mem_append_left _ (List.mem_append_right _ q))))) 1 (by decide) shC_1 rfl 2 (by decide) (by decide +kernel) rfl (v := .int (rd_ σ 1 2)) rfl dX11_many_75 ?_
        obtain ⟨r_10, hc_9, h⟩ := bp_of h
        refine cp_ (rP_ (nn := 1) (As := [.int (rd_ σ 1 2)]) (rest := []) ⟨hx, hb, hml, hown, hts⟩ (c_CJ6_bitCount hc_9) gX11_many_J6_bitCount_0f7a4 rfl ⟨rfl, rfl⟩ (by decide +kernel) ⟨Nat.le_of_ble_eq_true rfl, Nat.le_of_ble_eq_true rfl⟩ rfl hl.1 rfl (Nat.le_of_ble_eq_true rfl) dX11_many_78 ⟨Nat.zero_le _, Nat.zero_le _⟩) ?_
        obtain ⟨rfl, rfl⟩ := re_s h
        exact rti_ X I dX11_many_81
      · have h := if_f h c_8
        by_cases c_11 : x1 = 3
        · have h := if_t h c_11
          refine lv_tableIn (tgt := 82) (off := 81) hx hb dX11_many_1 (by rw [c_11]; decide) (by rw [c_11]; decide) (by rw [c_11]; decide) (by decide) ?_
          refine lv_aload_n hx hb dX11_many_82 rfl (lv_at hl 0 rfl) ?_
          refine ig_ (index := 30) X I (fun _ q => List.mem_cons_of_mem _ (List.mem_append_left _ (List.mem_append_left _ (List.mem_append_left _ (List.mem_append_left _ (List.mem_append_right _ q)))))) 0 (by decide) shC_0 rfl 0 (by decide) (by decide +kernel) rfl (v := .ref (a 1)) rfl dX11_many_83 ?_
          obtain ⟨r_14, σ_13, hc_12, h⟩ := bi_of h
          refine cg_ (v := .int r_14) (rV_ (nn := 0) (As := []) (rest := []) X xkC I (c_C1_godmothersInUse hc_12 H.size) gX11_many_X1_godmothersInUse rfl ⟨rfl, rfl⟩ (by decide +kernel) ⟨Nat.le_of_ble_eq_true rfl, Nat.le_of_ble_eq_true rfl⟩ (by decide) shC_1 rfl rfl hl.1 rfl (Nat.le_of_ble_eq_true rfl) dX11_many_86) I (fun H locs I => ?_)
          obtain ⟨rfl, rfl⟩ := re_s h
          exact rti_ X I dX11_many_89
        · have h := if_f h c_11
          by_cases c_15 : x1 = 4
          · have h := if_t h c_15
            refine lv_tableIn (tgt := 90) (off := 89) hx hb dX11_many_1 (by rw [c_15]; decide) (by rw [c_15]; decide) (by rw [c_15]; decide) (by decide) ?_
            refine lv_aload_n hx hb dX11_many_90 rfl (lv_at hl 0 rfl) ?_
            refine ig_ (index := 102) X I (fun _ q => List.mem_cons_of_mem _ (List.mem_append_left _ (List.mem_append_left _ (List.mem_append_left _ (List.mem_append_left _ (List.mem_append_right _ q)))))) 0 (by decide) shC_0 rfl 10 (by decide) (by decide +kernel) rfl (v := .int (rd_ σ 0 10)) rfl dX11_many_91 ?_
            obtain ⟨rfl, rfl⟩ := re_s h
            exact rti_ X I dX11_many_94
          · have h := if_f h c_15
            by_cases c_16 : x1 = 5
            · have h := if_t h c_16
              refine lv_tableIn (tgt := 95) (off := 94) hx hb dX11_many_1 (by rw [c_16]; decide) (by rw [c_16]; decide) (by rw [c_16]; decide) (by decide) ?_
              refine lv_aload_n hx hb dX11_many_95 rfl (lv_at hl 0 rfl) ?_
              refine ig_ (index := 52) X I (fun _ q => List.mem_cons_of_mem _ (List.mem_append_left _ (List.mem_append_left _ (List.mem_append_left _ (List.mem_append_left _ (List.mem_append_right _ q)))))) 0 (by decide) shC_0 rfl 4 (by decide) (by decide +kernel) rfl (v := .ref (a 20)) rfl dX11_many_96 ?_
              refine ig_ (index := 84) X I (fun _ q => List.mem_cons_of_mem _ (List.mem_append_left _ (List.mem_append_left _ (List.mem_append_right _ q)))) 20 (by decide) shC_20 rfl 0 (by decide) (by decide +kernel) rfl (v := .int (rd_ σ 20 0)) rfl dX11_many_99 ?_
              obtain ⟨rfl, rfl⟩ := re_s h
              exact rti_ X I dX11_many_102
            · have h := if_f h c_16
              by_cases c_17 : x1 = 6
              · have h := if_t h c_17
                refine lv_tableIn (tgt := 103) (off := 102) hx hb dX11_many_1 (by rw [c_17]; decide) (by rw [c_17]; decide) (by rw [c_17]; decide) (by decide) ?_
                refine lv_aload_n hx hb dX11_many_103 rfl (lv_at hl 0 rfl) ?_
                refine ig_ (index := 66) X I (fun _ q => List.mem_cons_of_mem _ (List.mem_append_left _ (List.mem_append_left _ (List.mem_append_left _ (List.mem_append_left _ (List.mem_append_right _ q)))))) 0 (by decide) shC_0 rfl 6 (by decide) (by decide +kernel) rfl (v := .ref (a 29)) rfl dX11_many_104 ?_
                refine ig_ (index := 361) X I (fun _ q => List.mem_cons_of_mem _ (List.mem_append_left _ (List.mem_append_right _ q))) 29 (by decide) shC_29 rfl 1 (by decide) (by decide +kernel) rfl (v := .int (rd_ σ 29 1)) rfl dX11_many_107 ?_
                obtain ⟨rfl, rfl⟩ := re_s h
                exact rti_ X I dX11_many_110
              · have h := if_f h c_17
                refine lv_tableOut (tgt := 111) hx hb dX11_many_1 (by have q0 := lv_neT (a := 0) c_1 rfl; have q1 := lv_neT (a := 1) c_2 rfl; have q2 := lv_neT (a := 2) c_8 rfl; have q3 := lv_neT (a := 3) c_11 rfl; have q4 := lv_neT (a := 4) c_15 rfl; have q5 := lv_neT (a := 5) c_16 rfl; have q6 := lv_neT (a := 6) c_17 rfl; omega) (by decide) ?_
                refine lv_iconst (v := (-1)) hx hb dX11_many_111 (by decide) ?_
                obtain ⟨rfl, rfl⟩ := re_s h
                exact rti_ X I dX11_many_112
theorem c_C_many {l : Launch} {D : va_G} {cy : Nat → ClassId} {a gs : Nat → Nat} {σ : Sg} {x1 : Int32} {r0 : Int32} {σ' : Sg} (h : C_many_0 σ x1 = some (r0, σ')) (sz : Nat) : Met l yX11_many wsX11_many ({ frames := 6, cells := 0, slots := 0, locals := 131 }) (va_Pc [.ref (a 0), .int x1] (pr_ 59 a D cy (shC cy a σ) (xfC gs) sz)) (qg_ 59 a D (shC cy a σ') (some (.int r0)) sz) 0 0 (fr_ 59 a sz) := by
  refine ent_ (by decide) rfl (Nat.le_of_ble_eq_true rfl) ?_
  intro p e s m below meth c ls hsz X I hl
  subst hsz
  exact kC_many_0 X σ x1 s.heap [] ls h I hl

def C1_become_2_1_53 (k53 : Sg → Int32 → Option (Unit × Sg)) (σ : Sg) (x2 : Int32) : Option (Unit × Sg) :=
  if (8 : Int32) ≤ x2 then (lt_ (wr_ σ 2 2 (rd_ σ 1 2)) fun σ_2 =>
  lt_ (wr_ σ_2 2 3 (rd_ σ_2 1 3)) fun σ_4 =>
  lt_ (wr_ σ_4 2 4 (rd_ σ_4 1 4)) fun σ_6 =>
  lt_ (wr_ σ_6 2 5 (rd_ σ_6 1 5)) fun σ_8 =>
  some ((), σ_8))
  else (gd_ (in_ x2 8) (
  gd_ (in_ x2 8) (
  gd_ (lf_ (8 + x2.toNatClampNeg) 25) (
  bi_ (C6_become_0 σ (8 + x2.toNatClampNeg) x2.toNatClampNeg) fun _ σ_13 =>
  lt_ (x2 + (1 : Int32)) fun y_15 =>
  k53 σ_13 y_15))))
set_option maxRecDepth 100000 in
theorem kC1_become_2_1_53 {p : Program} {l : Launch} {e : Env} {s : State} {m : MethodId} {args : Array Value} {below : List Frame} {meth : Method} {c : Code} {D : va_G} {cy : Nat → ClassId} {a gs : Nat → Nat} (X : cx_ cX1_become RX1 wsX1_become 3 none 59 a D cy (xfC gs) p s m args meth c) {k53 : Sg → Int32 → Option (Unit × Sg)}  {σ' : Sg} (hk53 : ∀ (σ : Sg) (x2 : Int32) (H : Heap) (locs : List Loc) (ls : Array Slot), k53 σ x2 = some ((), σ') → iv_ 59 a D (shC cy a σ) s H locs → lv_has ls 3 [(0, .ref (a 2)), (1, .ref (a 1)), (2, .int x2)] → W p l e ({ frames := 1, cells := 0, slots := 0, locals := 21 }) s m args below meth c H locs 0 0 (MQ below (qg_ 59 a D (shC cy a σ') none s.heap.size) args s 0 0 (fr_ 59 a s.heap.size)) (F0 m 53 ls [])) : ∀ (σ : Sg) (x2 : Int32) (H : Heap) (locs : List Loc) (ls : Array Slot), C1_become_2_1_53 k53 σ x2 = some ((), σ') → iv_ 59 a D (shC cy a σ) s H locs → lv_has ls 3 [(0, .ref (a 2)), (1, .ref (a 1)), (2, .int x2)] → W p l e ({ frames := 1, cells := 0, slots := 0, locals := 21 }) s m args below meth c H locs 0 0 (MQ below (qg_ 59 a D (shC cy a σ') none s.heap.size) args s 0 0 (fr_ 59 a s.heap.size)) (F0 m 53 ls []) := by
  obtain ⟨hx, hb, hr, hml, hown, hts, hlk, hK, hA, hXf⟩ := id X
  intro σ x2 H locs ls h I hl
  unfold C1_become_2_1_53 at h
  refine lv_iload_n hx hb dX1_become_53 rfl (lv_at hl 2 rfl) ?_
  refine lv_bipush (v := 8) hx hb dX1_become_54 (by decide) ?_
  refine lv_icmp_ge (tgt := 80) hx hb dX1_become_56 (by decide) (fun c_1 => ?_) (fun c_1 => ?_)
  · have h := if_t h c_1
    refine lv_aload_n hx hb dX1_become_80 rfl (lv_at hl 0 rfl) ?_
    refine lv_aload_n hx hb dX1_become_81 rfl (lv_at hl 1 rfl) ?_
    refine ig_ (index := 39) X I (fun _ q => List.mem_cons_of_mem _ (List.mem_append_left _ (List.mem_append_right _ q))) 1 (by decide) shC_1 rfl 2 (by decide) (by decide +kernel) rfl (v := .int (rd_ σ 1 2)) rfl dX1_become_82 ?_
    refine ip_ (index := 39) (ty := .int) X I (fun _ q => List.mem_cons_of_mem _ (List.mem_append_left _ (List.mem_append_right _ q))) tyX1 tyX1_ok nmX1 2 (by decide) shC_2 rfl 2 (by decide) (by decide +kernel) rfl rfl (by decide +kernel) rfl rfl (Nat.le_of_ble_eq_true rfl) shC_pt_2_2 dX1_become_85 (fun σ_2 H locs e_3 I => ?_)
    have h := lt_at h e_3
    refine lv_aload_n hx hb dX1_become_88 rfl (lv_at hl 0 rfl) ?_
    refine lv_aload_n hx hb dX1_become_89 rfl (lv_at hl 1 rfl) ?_
    refine ig_ (index := 42) X I (fun _ q => List.mem_cons_of_mem _ (List.mem_append_left _ (List.mem_append_right _ q))) 1 (by decide) shC_1 rfl 3 (by decide) (by decide +kernel) rfl (v := .int (rd_ σ_2 1 3)) rfl dX1_become_90 ?_
    refine ip_ (index := 42) (ty := .int) X I (fun _ q => List.mem_cons_of_mem _ (List.mem_append_left _ (List.mem_append_right _ q))) tyX1 tyX1_ok nmX1 2 (by decide) shC_2 rfl 3 (by decide) (by decide +kernel) rfl rfl (by decide +kernel) rfl rfl (Nat.le_of_ble_eq_true rfl) shC_pt_2_3 dX1_become_93 (fun σ_4 H locs e_5 I => ?_)
    have h := lt_at h e_5
    refine lv_aload_n hx hb dX1_become_96 rfl (lv_at hl 0 rfl) ?_
    refine lv_aload_n hx hb dX1_become_97 rfl (lv_at hl 1 rfl) ?_
    refine ig_ (index := 45) X I (fun _ q => List.mem_cons_of_mem _ (List.mem_append_left _ (List.mem_append_right _ q))) 1 (by decide) shC_1 rfl 4 (by decide) (by decide +kernel) rfl (v := .int (rd_ σ_4 1 4)) rfl dX1_become_98 ?_
    refine ip_ (index := 45) (ty := .int) X I (fun _ q => List.mem_cons_of_mem _ (List.mem_append_left _ (List.mem_append_right _ q))) tyX1 tyX1_ok nmX1 2 (by decide) shC_2 rfl 4 (by decide) (by decide +kernel) rfl rfl (by decide +kernel) rfl rfl (Nat.le_of_ble_eq_true rfl) shC_pt_2_4 dX1_become_101 (fun σ_6 H locs e_7 I => ?_)
    have h := lt_at h e_7
    refine lv_aload_n hx hb dX1_become_104 rfl (lv_at hl 0 rfl) ?_
    refine lv_aload_n hx hb dX1_become_105 rfl (lv_at hl 1 rfl) ?_
    refine ig_ (index := 32) X I (fun _ q => List.mem_cons_of_mem _ (List.mem_append_left _ (List.mem_append_right _ q))) 1 (by decide) shC_1 rfl 5 (by decide) (by decide +kernel) rfl (v := .int (rd_ σ_6 1 5)) rfl dX1_become_106 ?_
    refine ip_ (index := 32) (ty := .int) X I (fun _ q => List.mem_cons_of_mem _ (List.mem_append_left _ (List.mem_append_right _ q))) tyX1 tyX1_ok nmX1 2 (by decide) shC_2 rfl 5 (by decide) (by decide +kernel) rfl rfl (by decide +kernel) rfl rfl (Nat.le_of_ble_eq_true rfl) shC_pt_2_5 dX1_become_109 (fun σ_8 H locs e_9 I => ?_)
    have h := lt_at h e_9
    obtain rfl := re_v h
    exact rtv_ X I dX1_become_112
  · have h := if_f h c_1
    refine lv_aload_n hx hb dX1_become_59 rfl (lv_at hl 0 rfl) ?_
    refine ig_ (index := 24) X I (fun _ q => List.mem_cons_of_mem _ (List.mem_append_left _ (List.mem_append_right _ q))) 2 (by decide) shC_2 rfl 6 (by decide) (by decide +kernel) rfl (v := .ref (a 11)) rfl dX1_become_60 ?_
    refine lv_iload_n hx hb dX1_become_63 rfl (lv_at hl 2 rfl) ?_
    obtain ⟨g_10, h⟩ := gd_of h
    refine aq_ (t := 4) (b := (a (34 + (8 + x2.toNatClampNeg)))) X I 11 (by decide) shC_11 rfl (in_of g_10) rfl dX1_become_64 ?_
    refine lv_aload_n hx hb dX1_become_65 rfl (lv_at hl 1 rfl) ?_
    refine ig_ (index := 24) X I (fun _ q => List.mem_cons_of_mem _ (List.mem_append_left _ (List.mem_append_right _ q))) 1 (by decide) shC_1 rfl 6 (by decide) (by decide +kernel) rfl (v := .ref (a 10)) rfl dX1_become_66 ?_
    refine lv_iload_n hx hb dX1_become_69 rfl (lv_at hl 2 rfl) ?_
    obtain ⟨g_11, h⟩ := gd_of h
    refine aq_ (t := 4) (b := (a (34 + x2.toNatClampNeg))) X I 10 (by decide) shC_10 rfl (in_of g_11) rfl dX1_become_70 ?_
    obtain ⟨g_14, h⟩ := gd_of h
    obtain ⟨_, σ_13, hc_12, h⟩ := bi_of h
    refine cv_ (rV_ (nn := 1) (As := [.ref (a (34 + x2.toNatClampNeg))]) (rest := []) X xkC I (c_C6_become hc_12 H.size) gX1_become_X6_become rfl ⟨rfl, rfl⟩ (by decide +kernel) ⟨Nat.le_of_ble_eq_true rfl, Nat.le_of_ble_eq_true rfl⟩ (lf59 g_14) shC_L rfl rfl hl.1 rfl (Nat.le_of_ble_eq_true rfl) dX1_become_71) I (fun H locs I => ?_)
    obtain ⟨y_15, e_16⟩ : ∃ q : Int32, q = x2 + (1 : Int32) := ⟨_, rfl⟩
    have h := lt_at h e_16
    refine lv_iinc (v := y_15) (lv' := [(2, .int y_15), (0, .ref (a 2)), (1, .ref (a 1))]) hx hb dX1_become_74 hl (k := 2) rfl (by rw [e_16]; rfl) (by decide) rfl (fun ls hl => ?_)
    refine lv_goto (tgt := 53) hx hb dX1_become_77 (by decide) ?_
    exact hk53 σ_13 y_15 H locs ls h I (lv_sub hl [1, 2, 0] rfl)
set_option maxRecDepth 100000 in
theorem kC1_become_2_1_53L {p : Program} {l : Launch} {e : Env} {s : State} {m : MethodId} {args : Array Value} {below : List Frame} {meth : Method} {c : Code} {D : va_G} {cy : Nat → ClassId} {a gs : Nat → Nat} (X : cx_ cX1_become RX1 wsX1_become 3 none 59 a D cy (xfC gs) p s m args meth c)   {σ' : Sg}  : ∀ (n : Nat), ∀ (σ : Sg) (x2 : Int32) (H : Heap) (locs : List Loc) (ls : Array Slot), lp_ (C1_become_2_1_53) (fun _ _ => none) n σ x2 = some ((), σ') → iv_ 59 a D (shC cy a σ) s H locs → lv_has ls 3 [(0, .ref (a 2)), (1, .ref (a 1)), (2, .int x2)] → W p l e ({ frames := 1, cells := 0, slots := 0, locals := 21 }) s m args below meth c H locs 0 0 (MQ below (qg_ 59 a D (shC cy a σ') none s.heap.size) args s 0 0 (fr_ 59 a s.heap.size)) (F0 m 53 ls []) := by
  intro n
  induction n with
  | zero =>
    intro _ _ _ _ _ h
    exact absurd h (fun q => by cases (show (none : Option _) = some _ from q))
  | succ n ih => exact kC1_become_2_1_53 X ih

def C1_become_2_1_27 (k27 : Sg → Int32 → Option (Unit × Sg)) (σ : Sg) (x2 : Int32) : Option (Unit × Sg) :=
  if (8 : Int32) ≤ x2 then (lp_ C1_become_2_1_53 (fun _ _ => none) FU σ (0 : Int32))
  else (gd_ (in_ x2 8) (
  gd_ (in_ x2 8) (
  lt_ (wr_ σ 8 x2.toNatClampNeg (rd_ σ 7 x2.toNatClampNeg)) fun σ_3 =>
  lt_ (x2 + (1 : Int32)) fun y_6 =>
  k27 σ_3 y_6)))
set_option maxRecDepth 100000 in
theorem kC1_become_2_1_27 {p : Program} {l : Launch} {e : Env} {s : State} {m : MethodId} {args : Array Value} {below : List Frame} {meth : Method} {c : Code} {D : va_G} {cy : Nat → ClassId} {a gs : Nat → Nat} (X : cx_ cX1_become RX1 wsX1_become 3 none 59 a D cy (xfC gs) p s m args meth c) {k27 : Sg → Int32 → Option (Unit × Sg)}  {σ' : Sg} (hk27 : ∀ (σ : Sg) (x2 : Int32) (H : Heap) (locs : List Loc) (ls : Array Slot), k27 σ x2 = some ((), σ') → iv_ 59 a D (shC cy a σ) s H locs → lv_has ls 3 [(0, .ref (a 2)), (1, .ref (a 1)), (2, .int x2)] → W p l e ({ frames := 1, cells := 0, slots := 0, locals := 21 }) s m args below meth c H locs 0 0 (MQ below (qg_ 59 a D (shC cy a σ') none s.heap.size) args s 0 0 (fr_ 59 a s.heap.size)) (F0 m 27 ls [])) : ∀ (σ : Sg) (x2 : Int32) (H : Heap) (locs : List Loc) (ls : Array Slot), C1_become_2_1_27 k27 σ x2 = some ((), σ') → iv_ 59 a D (shC cy a σ) s H locs → lv_has ls 3 [(0, .ref (a 2)), (1, .ref (a 1)), (2, .int x2)] → W p l e ({ frames := 1, cells := 0, slots := 0, locals := 21 }) s m args below meth c H locs 0 0 (MQ below (qg_ 59 a D (shC cy a σ') none s.heap.size) args s 0 0 (fr_ 59 a s.heap.size)) (F0 m 27 ls []) := by
  obtain ⟨hx, hb, hr, hml, hown, hts, hlk, hK, hA, hXf⟩ := id X
  intro σ x2 H locs ls h I hl
  unfold C1_become_2_1_27 at h
  refine lv_iload_n hx hb dX1_become_27 rfl (lv_at hl 2 rfl) ?_
  refine lv_bipush (v := 8) hx hb dX1_become_28 (by decide) ?_
  refine lv_icmp_ge (tgt := 51) hx hb dX1_become_30 (by decide) (fun c_1 => ?_) (fun c_1 => ?_)
  · have h := if_t h c_1
    refine lv_iconst (v := 0) hx hb dX1_become_51 (by decide) ?_
    refine lv_istore_n (lv' := [(2, .int (0 : Int32)), (0, .ref (a 2)), (1, .ref (a 1))]) hx hb dX1_become_52 rfl hl (by decide) rfl (fun ls hl => ?_)
    exact kC1_become_2_1_53L X  FU σ (0 : Int32) H locs ls h I (lv_sub hl [1, 2, 0] rfl)
  · have h := if_f h c_1
    refine lv_aload_n hx hb dX1_become_33 rfl (lv_at hl 0 rfl) ?_
    refine ig_ (index := 19) X I (fun _ q => List.mem_cons_of_mem _ (List.mem_append_left _ (List.mem_append_right _ q))) 2 (by decide) shC_2 rfl 1 (by decide) (by decide +kernel) rfl (v := .ref (a 8)) rfl dX1_become_34 ?_
    refine lv_iload_n hx hb dX1_become_37 rfl (lv_at hl 2 rfl) ?_
    refine lv_aload_n hx hb dX1_become_38 rfl (lv_at hl 1 rfl) ?_
    refine ig_ (index := 19) X I (fun _ q => List.mem_cons_of_mem _ (List.mem_append_left _ (List.mem_append_right _ q))) 1 (by decide) shC_1 rfl 1 (by decide) (by decide +kernel) rfl (v := .ref (a 7)) rfl dX1_become_39 ?_
    refine lv_iload_n hx hb dX1_become_42 rfl (lv_at hl 2 rfl) ?_
    obtain ⟨g_2, h⟩ := gd_of h
    refine ia_ X I 7 (by decide) shC_7 (in_of g_2) (v0 := (rd_ σ 7 x2.toNatClampNeg)) rfl dX1_become_43 ?_
    obtain ⟨g_5, h⟩ := gd_of h
    refine is_ (σ2 := wr_ σ 8 x2.toNatClampNeg (rd_ σ 7 x2.toNatClampNeg)) X I 8 (by decide) shC_8 (in_of g_5) shC_st_8 dX1_become_44 (fun σ_3 H locs e_4 I => ?_)
    have h := lt_at h e_4
    obtain ⟨y_6, e_7⟩ : ∃ q : Int32, q = x2 + (1 : Int32) := ⟨_, rfl⟩
    have h := lt_at h e_7
    refine lv_iinc (v := y_6) (lv' := [(2, .int y_6), (0, .ref (a 2)), (1, .ref (a 1))]) hx hb dX1_become_45 hl (k := 2) rfl (by rw [e_7]; rfl) (by decide) rfl (fun ls hl => ?_)
    refine lv_goto (tgt := 27) hx hb dX1_become_48 (by decide) ?_
    exact hk27 σ_3 y_6 H locs ls h I (lv_sub hl [1, 2, 0] rfl)
set_option maxRecDepth 100000 in
theorem kC1_become_2_1_27L {p : Program} {l : Launch} {e : Env} {s : State} {m : MethodId} {args : Array Value} {below : List Frame} {meth : Method} {c : Code} {D : va_G} {cy : Nat → ClassId} {a gs : Nat → Nat} (X : cx_ cX1_become RX1 wsX1_become 3 none 59 a D cy (xfC gs) p s m args meth c)   {σ' : Sg}  : ∀ (n : Nat), ∀ (σ : Sg) (x2 : Int32) (H : Heap) (locs : List Loc) (ls : Array Slot), lp_ (C1_become_2_1_27) (fun _ _ => none) n σ x2 = some ((), σ') → iv_ 59 a D (shC cy a σ) s H locs → lv_has ls 3 [(0, .ref (a 2)), (1, .ref (a 1)), (2, .int x2)] → W p l e ({ frames := 1, cells := 0, slots := 0, locals := 21 }) s m args below meth c H locs 0 0 (MQ below (qg_ 59 a D (shC cy a σ') none s.heap.size) args s 0 0 (fr_ 59 a s.heap.size)) (F0 m 27 ls []) := by
  intro n
  induction n with
  | zero =>
    intro _ _ _ _ _ h
    exact absurd h (fun q => by cases (show (none : Option _) = some _ from q))
  | succ n ih => exact kC1_become_2_1_27 X ih

def C1_become_2_1_2 (k2 : Sg → Int32 → Option (Unit × Sg)) (σ : Sg) (x2 : Int32) : Option (Unit × Sg) :=
  if (4 : Int32) ≤ x2 then (lp_ C1_become_2_1_27 (fun _ _ => none) FU σ (0 : Int32))
  else (gd_ (in_ x2 4) (
  gd_ (in_ x2 4) (
  lt_ (wr_ σ 5 x2.toNatClampNeg (rd_ σ 4 x2.toNatClampNeg)) fun σ_3 =>
  lt_ (x2 + (1 : Int32)) fun y_6 =>
  k2 σ_3 y_6)))
set_option maxRecDepth 100000 in
theorem kC1_become_2_1_2 {p : Program} {l : Launch} {e : Env} {s : State} {m : MethodId} {args : Array Value} {below : List Frame} {meth : Method} {c : Code} {D : va_G} {cy : Nat → ClassId} {a gs : Nat → Nat} (X : cx_ cX1_become RX1 wsX1_become 3 none 59 a D cy (xfC gs) p s m args meth c) {k2 : Sg → Int32 → Option (Unit × Sg)}  {σ' : Sg} (hk2 : ∀ (σ : Sg) (x2 : Int32) (H : Heap) (locs : List Loc) (ls : Array Slot), k2 σ x2 = some ((), σ') → iv_ 59 a D (shC cy a σ) s H locs → lv_has ls 3 [(0, .ref (a 2)), (1, .ref (a 1)), (2, .int x2)] → W p l e ({ frames := 1, cells := 0, slots := 0, locals := 21 }) s m args below meth c H locs 0 0 (MQ below (qg_ 59 a D (shC cy a σ') none s.heap.size) args s 0 0 (fr_ 59 a s.heap.size)) (F0 m 2 ls [])) : ∀ (σ : Sg) (x2 : Int32) (H : Heap) (locs : List Loc) (ls : Array Slot), C1_become_2_1_2 k2 σ x2 = some ((), σ') → iv_ 59 a D (shC cy a σ) s H locs → lv_has ls 3 [(0, .ref (a 2)), (1, .ref (a 1)), (2, .int x2)] → W p l e ({ frames := 1, cells := 0, slots := 0, locals := 21 }) s m args below meth c H locs 0 0 (MQ below (qg_ 59 a D (shC cy a σ') none s.heap.size) args s 0 0 (fr_ 59 a s.heap.size)) (F0 m 2 ls []) := by
  obtain ⟨hx, hb, hr, hml, hown, hts, hlk, hK, hA, hXf⟩ := id X
  intro σ x2 H locs ls h I hl
  unfold C1_become_2_1_2 at h
  refine lv_iload_n hx hb dX1_become_2 rfl (lv_at hl 2 rfl) ?_
  refine lv_iconst (v := 4) hx hb dX1_become_3 (by decide) ?_
  refine lv_icmp_ge (tgt := 25) hx hb dX1_become_4 (by decide) (fun c_1 => ?_) (fun c_1 => ?_)
  · have h := if_t h c_1
    refine lv_iconst (v := 0) hx hb dX1_become_25 (by decide) ?_
    refine lv_istore_n (lv' := [(2, .int (0 : Int32)), (0, .ref (a 2)), (1, .ref (a 1))]) hx hb dX1_become_26 rfl hl (by decide) rfl (fun ls hl => ?_)
    exact kC1_become_2_1_27L X  FU σ (0 : Int32) H locs ls h I (lv_sub hl [1, 2, 0] rfl)
  · have h := if_f h c_1
    refine lv_aload_n hx hb dX1_become_7 rfl (lv_at hl 0 rfl) ?_
    refine ig_ (index := 15) X I (fun _ q => List.mem_cons_of_mem _ (List.mem_append_left _ (List.mem_append_right _ q))) 2 (by decide) shC_2 rfl 0 (by decide) (by decide +kernel) rfl (v := .ref (a 5)) rfl dX1_become_8 ?_
    refine lv_iload_n hx hb dX1_become_11 rfl (lv_at hl 2 rfl) ?_
    refine lv_aload_n hx hb dX1_become_12 rfl (lv_at hl 1 rfl) ?_
    refine ig_ (index := 15) X I (fun _ q => List.mem_cons_of_mem _ (List.mem_append_left _ (List.mem_append_right _ q))) 1 (by decide) shC_1 rfl 0 (by decide) (by decide +kernel) rfl (v := .ref (a 4)) rfl dX1_become_13 ?_
    refine lv_iload_n hx hb dX1_become_16 rfl (lv_at hl 2 rfl) ?_
    obtain ⟨g_2, h⟩ := gd_of h
    refine ia_ X I 4 (by decide) shC_4 (in_of g_2) (v0 := (rd_ σ 4 x2.toNatClampNeg)) rfl dX1_become_17 ?_
    obtain ⟨g_5, h⟩ := gd_of h
    refine is_ (σ2 := wr_ σ 5 x2.toNatClampNeg (rd_ σ 4 x2.toNatClampNeg)) X I 5 (by decide) shC_5 (in_of g_5) shC_st_5 dX1_become_18 (fun σ_3 H locs e_4 I => ?_)
    have h := lt_at h e_4
    obtain ⟨y_6, e_7⟩ : ∃ q : Int32, q = x2 + (1 : Int32) := ⟨_, rfl⟩
    have h := lt_at h e_7
    refine lv_iinc (v := y_6) (lv' := [(2, .int y_6), (0, .ref (a 2)), (1, .ref (a 1))]) hx hb dX1_become_19 hl (k := 2) rfl (by rw [e_7]; rfl) (by decide) rfl (fun ls hl => ?_)
    refine lv_goto (tgt := 2) hx hb dX1_become_22 (by decide) ?_
    exact hk2 σ_3 y_6 H locs ls h I (lv_sub hl [1, 2, 0] rfl)
set_option maxRecDepth 100000 in
theorem kC1_become_2_1_2L {p : Program} {l : Launch} {e : Env} {s : State} {m : MethodId} {args : Array Value} {below : List Frame} {meth : Method} {c : Code} {D : va_G} {cy : Nat → ClassId} {a gs : Nat → Nat} (X : cx_ cX1_become RX1 wsX1_become 3 none 59 a D cy (xfC gs) p s m args meth c)   {σ' : Sg}  : ∀ (n : Nat), ∀ (σ : Sg) (x2 : Int32) (H : Heap) (locs : List Loc) (ls : Array Slot), lp_ (C1_become_2_1_2) (fun _ _ => none) n σ x2 = some ((), σ') → iv_ 59 a D (shC cy a σ) s H locs → lv_has ls 3 [(0, .ref (a 2)), (1, .ref (a 1)), (2, .int x2)] → W p l e ({ frames := 1, cells := 0, slots := 0, locals := 21 }) s m args below meth c H locs 0 0 (MQ below (qg_ 59 a D (shC cy a σ') none s.heap.size) args s 0 0 (fr_ 59 a s.heap.size)) (F0 m 2 ls []) := by
  intro n
  induction n with
  | zero =>
    intro _ _ _ _ _ h
    exact absurd h (fun q => by cases (show (none : Option _) = some _ from q))
  | succ n ih => exact kC1_become_2_1_2 X ih

def C1_become_2_1_0  (σ : Sg)  : Option (Unit × Sg) :=
  lp_ C1_become_2_1_2 (fun _ _ => none) FU σ (0 : Int32)
set_option maxRecDepth 100000 in
theorem kC1_become_2_1_0 {p : Program} {l : Launch} {e : Env} {s : State} {m : MethodId} {args : Array Value} {below : List Frame} {meth : Method} {c : Code} {D : va_G} {cy : Nat → ClassId} {a gs : Nat → Nat} (X : cx_ cX1_become RX1 wsX1_become 3 none 59 a D cy (xfC gs) p s m args meth c)   {σ' : Sg}  : ∀ (σ : Sg)  (H : Heap) (locs : List Loc) (ls : Array Slot), C1_become_2_1_0 σ = some ((), σ') → iv_ 59 a D (shC cy a σ) s H locs → lv_has ls 3 [(0, .ref (a 2)), (1, .ref (a 1))] → W p l e ({ frames := 1, cells := 0, slots := 0, locals := 21 }) s m args below meth c H locs 0 0 (MQ below (qg_ 59 a D (shC cy a σ') none s.heap.size) args s 0 0 (fr_ 59 a s.heap.size)) (F0 m 0 ls []) := by
  obtain ⟨hx, hb, hr, hml, hown, hts, hlk, hK, hA, hXf⟩ := id X
  intro σ  H locs ls h I hl
  unfold C1_become_2_1_0 at h
  refine lv_iconst (v := 0) hx hb dX1_become_0 (by decide) ?_
  refine lv_istore_n (lv' := [(2, .int (0 : Int32)), (0, .ref (a 2)), (1, .ref (a 1))]) hx hb dX1_become_1 rfl hl (by decide) rfl (fun ls hl => ?_)
  exact kC1_become_2_1_2L X  FU σ (0 : Int32) H locs ls h I (lv_sub hl [1, 2, 0] rfl)
theorem c_C1_become_2_1 {l : Launch} {D : va_G} {cy : Nat → ClassId} {a gs : Nat → Nat} {σ : Sg}   {σ' : Sg} (h : C1_become_2_1_0 σ  = some ((), σ')) (sz : Nat) : Met l yX1_become wsX1_become ({ frames := 1, cells := 0, slots := 0, locals := 21 }) (va_Pc [.ref (a 2), .ref (a 1)] (pr_ 59 a D cy (shC cy a σ) (xfC gs) sz)) (qg_ 59 a D (shC cy a σ') none sz) 0 0 (fr_ 59 a sz) := by
  refine ent_ (by decide) rfl (Nat.le_of_ble_eq_true rfl) ?_
  intro p e s m below meth c ls hsz X I hl
  subst hsz
  exact kC1_become_2_1_0 X σ  s.heap [] ls h I hl

def C_keep_0  (σ : Sg)  : Option (Int32 × Sg) :=
  bi_ (C1_become_2_1_0 σ) fun _ σ_2 =>
  lt_ (wr_ σ_2 0 11 (1 : Int32)) fun σ_3 =>
  some ((1 : Int32), σ_3)
set_option maxRecDepth 100000 in
theorem kC_keep_0 {p : Program} {l : Launch} {e : Env} {s : State} {m : MethodId} {args : Array Value} {below : List Frame} {meth : Method} {c : Code} {D : va_G} {cy : Nat → ClassId} {a gs : Nat → Nat} (X : cx_ cX11_keep RX11 wsX11_keep 1 (some .int) 59 a D cy (xfC gs) p s m args meth c)  {r0 : Int32} {σ' : Sg}  : ∀ (σ : Sg)  (H : Heap) (locs : List Loc) (ls : Array Slot), C_keep_0 σ = some (r0, σ') → iv_ 59 a D (shC cy a σ) s H locs → lv_has ls 1 [(0, .ref (a 0))] → W p l e ({ frames := 2, cells := 0, slots := 0, locals := 43 }) s m args below meth c H locs 0 0 (MQ below (qg_ 59 a D (shC cy a σ') (some (.int r0)) s.heap.size) args s 0 0 (fr_ 59 a s.heap.size)) (F0 m 0 ls []) := by
  obtain ⟨hx, hb, hr, hml, hown, hts, hlk, hK, hA, hXf⟩ := id X
  intro σ  H locs ls h I hl
  unfold C_keep_0 at h
  refine lv_aload_n hx hb dX11_keep_0 rfl (lv_at hl 0 rfl) ?_
  refine ig_ (index := 36) X I (fun _ q => List.mem_cons_of_mem _ (List.mem_append_left _ (List.mem_append_left _ (List.mem_append_right _ q)))) 0 (by decide) shC_0 rfl 1 (by decide) (by decide +kernel) rfl (v := .ref (a 2)) rfl dX11_keep_1 ?_
  refine lv_aload_n hx hb dX11_keep_4 rfl (lv_at hl 0 rfl) ?_
  refine ig_ (index := 30) X I (fun _ q => List.mem_cons_of_mem _ (List.mem_append_left _ (List.mem_append_left _ (List.mem_append_right _ q)))) 0 (by decide) shC_0 rfl 0 (by decide) (by decide +kernel) rfl (v := .ref (a 1)) rfl dX11_keep_5 ?_
  obtain ⟨_, σ_2, hc_1, h⟩ := bi_of h
  refine cv_ (rV_ (nn := 1) (As := [.ref (a 1)]) (rest := []) X xkC I (c_C1_become_2_1 hc_1 H.size) gX11_keep_X1_become rfl ⟨rfl, rfl⟩ (by decide +kernel) ⟨Nat.le_of_ble_eq_true rfl, Nat.le_of_ble_eq_true rfl⟩ (by decide) shC_2 rfl rfl hl.1 rfl (Nat.le_of_ble_eq_true rfl) dX11_keep_8) I (fun H locs I => ?_)
  refine lv_aload_n hx hb dX11_keep_11 rfl (lv_at hl 0 rfl) ?_
  refine lv_iconst (v := 1) hx hb dX11_keep_12 (by decide) ?_
  refine ip_ (index := 368) (ty := .boolean) X I (fun _ q => List.mem_cons_of_mem _ (List.mem_append_left _ (List.mem_append_left _ (List.mem_append_right _ q)))) tyX11 tyX11_ok nmX11 0 (by decide) shC_0 rfl 11 (by decide) (by decide +kernel) rfl rfl (by decide +kernel) (by decide) (by decide) (Nat.le_of_ble_eq_true rfl) shC_pt_0_11 dX11_keep_13 (fun σ_3 H locs e_4 I => ?_)
  have h := lt_at h e_4
  refine lv_iconst (v := 1) hx hb dX11_keep_16 (by decide) ?_
  obtain ⟨rfl, rfl⟩ := re_s h
  exact rti_ X I dX11_keep_17
theorem c_C_keep {l : Launch} {D : va_G} {cy : Nat → ClassId} {a gs : Nat → Nat} {σ : Sg}  {r0 : Int32} {σ' : Sg} (h : C_keep_0 σ  = some (r0, σ')) (sz : Nat) : Met l yX11_keep wsX11_keep ({ frames := 2, cells := 0, slots := 0, locals := 43 }) (va_Pc [.ref (a 0)] (pr_ 59 a D cy (shC cy a σ) (xfC gs) sz)) (qg_ 59 a D (shC cy a σ') (some (.int r0)) sz) 0 0 (fr_ 59 a sz) := by
  refine ent_ (by decide) rfl (Nat.le_of_ble_eq_true rfl) ?_
  intro p e s m below meth c ls hsz X I hl
  subst hsz
  exact kC_keep_0 X σ  s.heap [] ls h I hl

def C1_become_1_2_53 (k53 : Sg → Int32 → Option (Unit × Sg)) (σ : Sg) (x2 : Int32) : Option (Unit × Sg) :=
  if (8 : Int32) ≤ x2 then (lt_ (wr_ σ 1 2 (rd_ σ 2 2)) fun σ_2 =>
  lt_ (wr_ σ_2 1 3 (rd_ σ_2 2 3)) fun σ_4 =>
  lt_ (wr_ σ_4 1 4 (rd_ σ_4 2 4)) fun σ_6 =>
  lt_ (wr_ σ_6 1 5 (rd_ σ_6 2 5)) fun σ_8 =>
  some ((), σ_8))
  else (gd_ (in_ x2 8) (
  gd_ (in_ x2 8) (
  gd_ (lf_ x2.toNatClampNeg 25) (
  bi_ (C6_become_0 σ x2.toNatClampNeg (8 + x2.toNatClampNeg)) fun _ σ_13 =>
  lt_ (x2 + (1 : Int32)) fun y_15 =>
  k53 σ_13 y_15))))
set_option maxRecDepth 100000 in
theorem kC1_become_1_2_53 {p : Program} {l : Launch} {e : Env} {s : State} {m : MethodId} {args : Array Value} {below : List Frame} {meth : Method} {c : Code} {D : va_G} {cy : Nat → ClassId} {a gs : Nat → Nat} (X : cx_ cX1_become RX1 wsX1_become 3 none 59 a D cy (xfC gs) p s m args meth c) {k53 : Sg → Int32 → Option (Unit × Sg)}  {σ' : Sg} (hk53 : ∀ (σ : Sg) (x2 : Int32) (H : Heap) (locs : List Loc) (ls : Array Slot), k53 σ x2 = some ((), σ') → iv_ 59 a D (shC cy a σ) s H locs → lv_has ls 3 [(0, .ref (a 1)), (1, .ref (a 2)), (2, .int x2)] → W p l e ({ frames := 1, cells := 0, slots := 0, locals := 21 }) s m args below meth c H locs 0 0 (MQ below (qg_ 59 a D (shC cy a σ') none s.heap.size) args s 0 0 (fr_ 59 a s.heap.size)) (F0 m 53 ls [])) : ∀ (σ : Sg) (x2 : Int32) (H : Heap) (locs : List Loc) (ls : Array Slot), C1_become_1_2_53 k53 σ x2 = some ((), σ') → iv_ 59 a D (shC cy a σ) s H locs → lv_has ls 3 [(0, .ref (a 1)), (1, .ref (a 2)), (2, .int x2)] → W p l e ({ frames := 1, cells := 0, slots := 0, locals := 21 }) s m args below meth c H locs 0 0 (MQ below (qg_ 59 a D (shC cy a σ') none s.heap.size) args s 0 0 (fr_ 59 a s.heap.size)) (F0 m 53 ls []) := by
  obtain ⟨hx, hb, hr, hml, hown, hts, hlk, hK, hA, hXf⟩ := id X
  intro σ x2 H locs ls h I hl
  unfold C1_become_1_2_53 at h
  refine lv_iload_n hx hb dX1_become_53 rfl (lv_at hl 2 rfl) ?_
  refine lv_bipush (v := 8) hx hb dX1_become_54 (by decide) ?_
  refine lv_icmp_ge (tgt := 80) hx hb dX1_become_56 (by decide) (fun c_1 => ?_) (fun c_1 => ?_)
  · have h := if_t h c_1
    refine lv_aload_n hx hb dX1_become_80 rfl (lv_at hl 0 rfl) ?_
    refine lv_aload_n hx hb dX1_become_81 rfl (lv_at hl 1 rfl) ?_
    refine ig_ (index := 39) X I (fun _ q => List.mem_cons_of_mem _ (List.mem_append_left _ (List.mem_append_right _ q))) 2 (by decide) shC_2 rfl 2 (by decide) (by decide +kernel) rfl (v := .int (rd_ σ 2 2)) rfl dX1_become_82 ?_
    refine ip_ (index := 39) (ty := .int) X I (fun _ q => List.mem_cons_of_mem _ (List.mem_append_left _ (List.mem_append_right _ q))) tyX1 tyX1_ok nmX1 1 (by decide) shC_1 rfl 2 (by decide) (by decide +kernel) rfl rfl (by decide +kernel) rfl rfl (Nat.le_of_ble_eq_true rfl) shC_pt_1_2 dX1_become_85 (fun σ_2 H locs e_3 I => ?_)
    have h := lt_at h e_3
    refine lv_aload_n hx hb dX1_become_88 rfl (lv_at hl 0 rfl) ?_
    refine lv_aload_n hx hb dX1_become_89 rfl (lv_at hl 1 rfl) ?_
    refine ig_ (index := 42) X I (fun _ q => List.mem_cons_of_mem _ (List.mem_append_left _ (List.mem_append_right _ q))) 2 (by decide) shC_2 rfl 3 (by decide) (by decide +kernel) rfl (v := .int (rd_ σ_2 2 3)) rfl dX1_become_90 ?_
    refine ip_ (index := 42) (ty := .int) X I (fun _ q => List.mem_cons_of_mem _ (List.mem_append_left _ (List.mem_append_right _ q))) tyX1 tyX1_ok nmX1 1 (by decide) shC_1 rfl 3 (by decide) (by decide +kernel) rfl rfl (by decide +kernel) rfl rfl (Nat.le_of_ble_eq_true rfl) shC_pt_1_3 dX1_become_93 (fun σ_4 H locs e_5 I => ?_)
    have h := lt_at h e_5
    refine lv_aload_n hx hb dX1_become_96 rfl (lv_at hl 0 rfl) ?_
    refine lv_aload_n hx hb dX1_become_97 rfl (lv_at hl 1 rfl) ?_
    refine ig_ (index := 45) X I (fun _ q => List.mem_cons_of_mem _ (List.mem_append_left _ (List.mem_append_right _ q))) 2 (by decide) shC_2 rfl 4 (by decide) (by decide +kernel) rfl (v := .int (rd_ σ_4 2 4)) rfl dX1_become_98 ?_
    refine ip_ (index := 45) (ty := .int) X I (fun _ q => List.mem_cons_of_mem _ (List.mem_append_left _ (List.mem_append_right _ q))) tyX1 tyX1_ok nmX1 1 (by decide) shC_1 rfl 4 (by decide) (by decide +kernel) rfl rfl (by decide +kernel) rfl rfl (Nat.le_of_ble_eq_true rfl) shC_pt_1_4 dX1_become_101 (fun σ_6 H locs e_7 I => ?_)
    have h := lt_at h e_7
    refine lv_aload_n hx hb dX1_become_104 rfl (lv_at hl 0 rfl) ?_
    refine lv_aload_n hx hb dX1_become_105 rfl (lv_at hl 1 rfl) ?_
    refine ig_ (index := 32) X I (fun _ q => List.mem_cons_of_mem _ (List.mem_append_left _ (List.mem_append_right _ q))) 2 (by decide) shC_2 rfl 5 (by decide) (by decide +kernel) rfl (v := .int (rd_ σ_6 2 5)) rfl dX1_become_106 ?_
    refine ip_ (index := 32) (ty := .int) X I (fun _ q => List.mem_cons_of_mem _ (List.mem_append_left _ (List.mem_append_right _ q))) tyX1 tyX1_ok nmX1 1 (by decide) shC_1 rfl 5 (by decide) (by decide +kernel) rfl rfl (by decide +kernel) rfl rfl (Nat.le_of_ble_eq_true rfl) shC_pt_1_5 dX1_become_109 (fun σ_8 H locs e_9 I => ?_)
    have h := lt_at h e_9
    obtain rfl := re_v h
    exact rtv_ X I dX1_become_112
  · have h := if_f h c_1
    refine lv_aload_n hx hb dX1_become_59 rfl (lv_at hl 0 rfl) ?_
    refine ig_ (index := 24) X I (fun _ q => List.mem_cons_of_mem _ (List.mem_append_left _ (List.mem_append_right _ q))) 1 (by decide) shC_1 rfl 6 (by decide) (by decide +kernel) rfl (v := .ref (a 10)) rfl dX1_become_60 ?_
    refine lv_iload_n hx hb dX1_become_63 rfl (lv_at hl 2 rfl) ?_
    obtain ⟨g_10, h⟩ := gd_of h
    refine aq_ (t := 4) (b := (a (34 + x2.toNatClampNeg))) X I 10 (by decide) shC_10 rfl (in_of g_10) rfl dX1_become_64 ?_
    refine lv_aload_n hx hb dX1_become_65 rfl (lv_at hl 1 rfl) ?_
    refine ig_ (index := 24) X I (fun _ q => List.mem_cons_of_mem _ (List.mem_append_left _ (List.mem_append_right _ q))) 2 (by decide) shC_2 rfl 6 (by decide) (by decide +kernel) rfl (v := .ref (a 11)) rfl dX1_become_66 ?_
    refine lv_iload_n hx hb dX1_become_69 rfl (lv_at hl 2 rfl) ?_
    obtain ⟨g_11, h⟩ := gd_of h
    refine aq_ (t := 4) (b := (a (34 + (8 + x2.toNatClampNeg)))) X I 11 (by decide) shC_11 rfl (in_of g_11) rfl dX1_become_70 ?_
    obtain ⟨g_14, h⟩ := gd_of h
    obtain ⟨_, σ_13, hc_12, h⟩ := bi_of h
    refine cv_ (rV_ (nn := 1) (As := [.ref (a (34 + (8 + x2.toNatClampNeg)))]) (rest := []) X xkC I (c_C6_become hc_12 H.size) gX1_become_X6_become rfl ⟨rfl, rfl⟩ (by decide +kernel) ⟨Nat.le_of_ble_eq_true rfl, Nat.le_of_ble_eq_true rfl⟩ (lf59 g_14) shC_L rfl rfl hl.1 rfl (Nat.le_of_ble_eq_true rfl) dX1_become_71) I (fun H locs I => ?_)
    obtain ⟨y_15, e_16⟩ : ∃ q : Int32, q = x2 + (1 : Int32) := ⟨_, rfl⟩
    have h := lt_at h e_16
    refine lv_iinc (v := y_15) (lv' := [(2, .int y_15), (0, .ref (a 1)), (1, .ref (a 2))]) hx hb dX1_become_74 hl (k := 2) rfl (by rw [e_16]; rfl) (by decide) rfl (fun ls hl => ?_)
    refine lv_goto (tgt := 53) hx hb dX1_become_77 (by decide) ?_
    exact hk53 σ_13 y_15 H locs ls h I (lv_sub hl [1, 2, 0] rfl)
set_option maxRecDepth 100000 in
theorem kC1_become_1_2_53L {p : Program} {l : Launch} {e : Env} {s : State} {m : MethodId} {args : Array Value} {below : List Frame} {meth : Method} {c : Code} {D : va_G} {cy : Nat → ClassId} {a gs : Nat → Nat} (X : cx_ cX1_become RX1 wsX1_become 3 none 59 a D cy (xfC gs) p s m args meth c)   {σ' : Sg}  : ∀ (n : Nat), ∀ (σ : Sg) (x2 : Int32) (H : Heap) (locs : List Loc) (ls : Array Slot), lp_ (C1_become_1_2_53) (fun _ _ => none) n σ x2 = some ((), σ') → iv_ 59 a D (shC cy a σ) s H locs → lv_has ls 3 [(0, .ref (a 1)), (1, .ref (a 2)), (2, .int x2)] → W p l e ({ frames := 1, cells := 0, slots := 0, locals := 21 }) s m args below meth c H locs 0 0 (MQ below (qg_ 59 a D (shC cy a σ') none s.heap.size) args s 0 0 (fr_ 59 a s.heap.size)) (F0 m 53 ls []) := by
  intro n
  induction n with
  | zero =>
    intro _ _ _ _ _ h
    exact absurd h (fun q => by cases (show (none : Option _) = some _ from q))
  | succ n ih => exact kC1_become_1_2_53 X ih

def C1_become_1_2_27 (k27 : Sg → Int32 → Option (Unit × Sg)) (σ : Sg) (x2 : Int32) : Option (Unit × Sg) :=
  if (8 : Int32) ≤ x2 then (lp_ C1_become_1_2_53 (fun _ _ => none) FU σ (0 : Int32))
  else (gd_ (in_ x2 8) (
  gd_ (in_ x2 8) (
  lt_ (wr_ σ 7 x2.toNatClampNeg (rd_ σ 8 x2.toNatClampNeg)) fun σ_3 =>
  lt_ (x2 + (1 : Int32)) fun y_6 =>
  k27 σ_3 y_6)))
set_option maxRecDepth 100000 in
theorem kC1_become_1_2_27 {p : Program} {l : Launch} {e : Env} {s : State} {m : MethodId} {args : Array Value} {below : List Frame} {meth : Method} {c : Code} {D : va_G} {cy : Nat → ClassId} {a gs : Nat → Nat} (X : cx_ cX1_become RX1 wsX1_become 3 none 59 a D cy (xfC gs) p s m args meth c) {k27 : Sg → Int32 → Option (Unit × Sg)}  {σ' : Sg} (hk27 : ∀ (σ : Sg) (x2 : Int32) (H : Heap) (locs : List Loc) (ls : Array Slot), k27 σ x2 = some ((), σ') → iv_ 59 a D (shC cy a σ) s H locs → lv_has ls 3 [(0, .ref (a 1)), (1, .ref (a 2)), (2, .int x2)] → W p l e ({ frames := 1, cells := 0, slots := 0, locals := 21 }) s m args below meth c H locs 0 0 (MQ below (qg_ 59 a D (shC cy a σ') none s.heap.size) args s 0 0 (fr_ 59 a s.heap.size)) (F0 m 27 ls [])) : ∀ (σ : Sg) (x2 : Int32) (H : Heap) (locs : List Loc) (ls : Array Slot), C1_become_1_2_27 k27 σ x2 = some ((), σ') → iv_ 59 a D (shC cy a σ) s H locs → lv_has ls 3 [(0, .ref (a 1)), (1, .ref (a 2)), (2, .int x2)] → W p l e ({ frames := 1, cells := 0, slots := 0, locals := 21 }) s m args below meth c H locs 0 0 (MQ below (qg_ 59 a D (shC cy a σ') none s.heap.size) args s 0 0 (fr_ 59 a s.heap.size)) (F0 m 27 ls []) := by
  obtain ⟨hx, hb, hr, hml, hown, hts, hlk, hK, hA, hXf⟩ := id X
  intro σ x2 H locs ls h I hl
  unfold C1_become_1_2_27 at h
  refine lv_iload_n hx hb dX1_become_27 rfl (lv_at hl 2 rfl) ?_
  refine lv_bipush (v := 8) hx hb dX1_become_28 (by decide) ?_
  refine lv_icmp_ge (tgt := 51) hx hb dX1_become_30 (by decide) (fun c_1 => ?_) (fun c_1 => ?_)
  · have h := if_t h c_1
    refine lv_iconst (v := 0) hx hb dX1_become_51 (by decide) ?_
    refine lv_istore_n (lv' := [(2, .int (0 : Int32)), (0, .ref (a 1)), (1, .ref (a 2))]) hx hb dX1_become_52 rfl hl (by decide) rfl (fun ls hl => ?_)
    exact kC1_become_1_2_53L X  FU σ (0 : Int32) H locs ls h I (lv_sub hl [1, 2, 0] rfl)
  · have h := if_f h c_1
    refine lv_aload_n hx hb dX1_become_33 rfl (lv_at hl 0 rfl) ?_
    refine ig_ (index := 19) X I (fun _ q => List.mem_cons_of_mem _ (List.mem_append_left _ (List.mem_append_right _ q))) 1 (by decide) shC_1 rfl 1 (by decide) (by decide +kernel) rfl (v := .ref (a 7)) rfl dX1_become_34 ?_
    refine lv_iload_n hx hb dX1_become_37 rfl (lv_at hl 2 rfl) ?_
    refine lv_aload_n hx hb dX1_become_38 rfl (lv_at hl 1 rfl) ?_
    refine ig_ (index := 19) X I (fun _ q => List.mem_cons_of_mem _ (List.mem_append_left _ (List.mem_append_right _ q))) 2 (by decide) shC_2 rfl 1 (by decide) (by decide +kernel) rfl (v := .ref (a 8)) rfl dX1_become_39 ?_
    refine lv_iload_n hx hb dX1_become_42 rfl (lv_at hl 2 rfl) ?_
    obtain ⟨g_2, h⟩ := gd_of h
    refine ia_ X I 8 (by decide) shC_8 (in_of g_2) (v0 := (rd_ σ 8 x2.toNatClampNeg)) rfl dX1_become_43 ?_
    obtain ⟨g_5, h⟩ := gd_of h
    refine is_ (σ2 := wr_ σ 7 x2.toNatClampNeg (rd_ σ 8 x2.toNatClampNeg)) X I 7 (by decide) shC_7 (in_of g_5) shC_st_7 dX1_become_44 (fun σ_3 H locs e_4 I => ?_)
    have h := lt_at h e_4
    obtain ⟨y_6, e_7⟩ : ∃ q : Int32, q = x2 + (1 : Int32) := ⟨_, rfl⟩
    have h := lt_at h e_7
    refine lv_iinc (v := y_6) (lv' := [(2, .int y_6), (0, .ref (a 1)), (1, .ref (a 2))]) hx hb dX1_become_45 hl (k := 2) rfl (by rw [e_7]; rfl) (by decide) rfl (fun ls hl => ?_)
    refine lv_goto (tgt := 27) hx hb dX1_become_48 (by decide) ?_
    exact hk27 σ_3 y_6 H locs ls h I (lv_sub hl [1, 2, 0] rfl)
set_option maxRecDepth 100000 in
theorem kC1_become_1_2_27L {p : Program} {l : Launch} {e : Env} {s : State} {m : MethodId} {args : Array Value} {below : List Frame} {meth : Method} {c : Code} {D : va_G} {cy : Nat → ClassId} {a gs : Nat → Nat} (X : cx_ cX1_become RX1 wsX1_become 3 none 59 a D cy (xfC gs) p s m args meth c)   {σ' : Sg}  : ∀ (n : Nat), ∀ (σ : Sg) (x2 : Int32) (H : Heap) (locs : List Loc) (ls : Array Slot), lp_ (C1_become_1_2_27) (fun _ _ => none) n σ x2 = some ((), σ') → iv_ 59 a D (shC cy a σ) s H locs → lv_has ls 3 [(0, .ref (a 1)), (1, .ref (a 2)), (2, .int x2)] → W p l e ({ frames := 1, cells := 0, slots := 0, locals := 21 }) s m args below meth c H locs 0 0 (MQ below (qg_ 59 a D (shC cy a σ') none s.heap.size) args s 0 0 (fr_ 59 a s.heap.size)) (F0 m 27 ls []) := by
  intro n
  induction n with
  | zero =>
    intro _ _ _ _ _ h
    exact absurd h (fun q => by cases (show (none : Option _) = some _ from q))
  | succ n ih => exact kC1_become_1_2_27 X ih

def C1_become_1_2_2 (k2 : Sg → Int32 → Option (Unit × Sg)) (σ : Sg) (x2 : Int32) : Option (Unit × Sg) :=
  if (4 : Int32) ≤ x2 then (lp_ C1_become_1_2_27 (fun _ _ => none) FU σ (0 : Int32))
  else (gd_ (in_ x2 4) (
  gd_ (in_ x2 4) (
  lt_ (wr_ σ 4 x2.toNatClampNeg (rd_ σ 5 x2.toNatClampNeg)) fun σ_3 =>
  lt_ (x2 + (1 : Int32)) fun y_6 =>
  k2 σ_3 y_6)))
set_option maxRecDepth 100000 in
theorem kC1_become_1_2_2 {p : Program} {l : Launch} {e : Env} {s : State} {m : MethodId} {args : Array Value} {below : List Frame} {meth : Method} {c : Code} {D : va_G} {cy : Nat → ClassId} {a gs : Nat → Nat} (X : cx_ cX1_become RX1 wsX1_become 3 none 59 a D cy (xfC gs) p s m args meth c) {k2 : Sg → Int32 → Option (Unit × Sg)}  {σ' : Sg} (hk2 : ∀ (σ : Sg) (x2 : Int32) (H : Heap) (locs : List Loc) (ls : Array Slot), k2 σ x2 = some ((), σ') → iv_ 59 a D (shC cy a σ) s H locs → lv_has ls 3 [(0, .ref (a 1)), (1, .ref (a 2)), (2, .int x2)] → W p l e ({ frames := 1, cells := 0, slots := 0, locals := 21 }) s m args below meth c H locs 0 0 (MQ below (qg_ 59 a D (shC cy a σ') none s.heap.size) args s 0 0 (fr_ 59 a s.heap.size)) (F0 m 2 ls [])) : ∀ (σ : Sg) (x2 : Int32) (H : Heap) (locs : List Loc) (ls : Array Slot), C1_become_1_2_2 k2 σ x2 = some ((), σ') → iv_ 59 a D (shC cy a σ) s H locs → lv_has ls 3 [(0, .ref (a 1)), (1, .ref (a 2)), (2, .int x2)] → W p l e ({ frames := 1, cells := 0, slots := 0, locals := 21 }) s m args below meth c H locs 0 0 (MQ below (qg_ 59 a D (shC cy a σ') none s.heap.size) args s 0 0 (fr_ 59 a s.heap.size)) (F0 m 2 ls []) := by
  obtain ⟨hx, hb, hr, hml, hown, hts, hlk, hK, hA, hXf⟩ := id X
  intro σ x2 H locs ls h I hl
  unfold C1_become_1_2_2 at h
  refine lv_iload_n hx hb dX1_become_2 rfl (lv_at hl 2 rfl) ?_
  refine lv_iconst (v := 4) hx hb dX1_become_3 (by decide) ?_
  refine lv_icmp_ge (tgt := 25) hx hb dX1_become_4 (by decide) (fun c_1 => ?_) (fun c_1 => ?_)
  · have h := if_t h c_1
    refine lv_iconst (v := 0) hx hb dX1_become_25 (by decide) ?_
    refine lv_istore_n (lv' := [(2, .int (0 : Int32)), (0, .ref (a 1)), (1, .ref (a 2))]) hx hb dX1_become_26 rfl hl (by decide) rfl (fun ls hl => ?_)
    exact kC1_become_1_2_27L X  FU σ (0 : Int32) H locs ls h I (lv_sub hl [1, 2, 0] rfl)
  · have h := if_f h c_1
    refine lv_aload_n hx hb dX1_become_7 rfl (lv_at hl 0 rfl) ?_
    refine ig_ (index := 15) X I (fun _ q => List.mem_cons_of_mem _ (List.mem_append_left _ (List.mem_append_right _ q))) 1 (by decide) shC_1 rfl 0 (by decide) (by decide +kernel) rfl (v := .ref (a 4)) rfl dX1_become_8 ?_
    refine lv_iload_n hx hb dX1_become_11 rfl (lv_at hl 2 rfl) ?_
    refine lv_aload_n hx hb dX1_become_12 rfl (lv_at hl 1 rfl) ?_
    refine ig_ (index := 15) X I (fun _ q => List.mem_cons_of_mem _ (List.mem_append_left _ (List.mem_append_right _ q))) 2 (by decide) shC_2 rfl 0 (by decide) (by decide +kernel) rfl (v := .ref (a 5)) rfl dX1_become_13 ?_
    refine lv_iload_n hx hb dX1_become_16 rfl (lv_at hl 2 rfl) ?_
    obtain ⟨g_2, h⟩ := gd_of h
    refine ia_ X I 5 (by decide) shC_5 (in_of g_2) (v0 := (rd_ σ 5 x2.toNatClampNeg)) rfl dX1_become_17 ?_
    obtain ⟨g_5, h⟩ := gd_of h
    refine is_ (σ2 := wr_ σ 4 x2.toNatClampNeg (rd_ σ 5 x2.toNatClampNeg)) X I 4 (by decide) shC_4 (in_of g_5) shC_st_4 dX1_become_18 (fun σ_3 H locs e_4 I => ?_)
    have h := lt_at h e_4
    obtain ⟨y_6, e_7⟩ : ∃ q : Int32, q = x2 + (1 : Int32) := ⟨_, rfl⟩
    have h := lt_at h e_7
    refine lv_iinc (v := y_6) (lv' := [(2, .int y_6), (0, .ref (a 1)), (1, .ref (a 2))]) hx hb dX1_become_19 hl (k := 2) rfl (by rw [e_7]; rfl) (by decide) rfl (fun ls hl => ?_)
    refine lv_goto (tgt := 2) hx hb dX1_become_22 (by decide) ?_
    exact hk2 σ_3 y_6 H locs ls h I (lv_sub hl [1, 2, 0] rfl)
set_option maxRecDepth 100000 in
theorem kC1_become_1_2_2L {p : Program} {l : Launch} {e : Env} {s : State} {m : MethodId} {args : Array Value} {below : List Frame} {meth : Method} {c : Code} {D : va_G} {cy : Nat → ClassId} {a gs : Nat → Nat} (X : cx_ cX1_become RX1 wsX1_become 3 none 59 a D cy (xfC gs) p s m args meth c)   {σ' : Sg}  : ∀ (n : Nat), ∀ (σ : Sg) (x2 : Int32) (H : Heap) (locs : List Loc) (ls : Array Slot), lp_ (C1_become_1_2_2) (fun _ _ => none) n σ x2 = some ((), σ') → iv_ 59 a D (shC cy a σ) s H locs → lv_has ls 3 [(0, .ref (a 1)), (1, .ref (a 2)), (2, .int x2)] → W p l e ({ frames := 1, cells := 0, slots := 0, locals := 21 }) s m args below meth c H locs 0 0 (MQ below (qg_ 59 a D (shC cy a σ') none s.heap.size) args s 0 0 (fr_ 59 a s.heap.size)) (F0 m 2 ls []) := by
  intro n
  induction n with
  | zero =>
    intro _ _ _ _ _ h
    exact absurd h (fun q => by cases (show (none : Option _) = some _ from q))
  | succ n ih => exact kC1_become_1_2_2 X ih

def C1_become_1_2_0  (σ : Sg)  : Option (Unit × Sg) :=
  lp_ C1_become_1_2_2 (fun _ _ => none) FU σ (0 : Int32)
set_option maxRecDepth 100000 in
theorem kC1_become_1_2_0 {p : Program} {l : Launch} {e : Env} {s : State} {m : MethodId} {args : Array Value} {below : List Frame} {meth : Method} {c : Code} {D : va_G} {cy : Nat → ClassId} {a gs : Nat → Nat} (X : cx_ cX1_become RX1 wsX1_become 3 none 59 a D cy (xfC gs) p s m args meth c)   {σ' : Sg}  : ∀ (σ : Sg)  (H : Heap) (locs : List Loc) (ls : Array Slot), C1_become_1_2_0 σ = some ((), σ') → iv_ 59 a D (shC cy a σ) s H locs → lv_has ls 3 [(0, .ref (a 1)), (1, .ref (a 2))] → W p l e ({ frames := 1, cells := 0, slots := 0, locals := 21 }) s m args below meth c H locs 0 0 (MQ below (qg_ 59 a D (shC cy a σ') none s.heap.size) args s 0 0 (fr_ 59 a s.heap.size)) (F0 m 0 ls []) := by
  obtain ⟨hx, hb, hr, hml, hown, hts, hlk, hK, hA, hXf⟩ := id X
  intro σ  H locs ls h I hl
  unfold C1_become_1_2_0 at h
  refine lv_iconst (v := 0) hx hb dX1_become_0 (by decide) ?_
  refine lv_istore_n (lv' := [(2, .int (0 : Int32)), (0, .ref (a 1)), (1, .ref (a 2))]) hx hb dX1_become_1 rfl hl (by decide) rfl (fun ls hl => ?_)
  exact kC1_become_1_2_2L X  FU σ (0 : Int32) H locs ls h I (lv_sub hl [1, 2, 0] rfl)
theorem c_C1_become_1_2 {l : Launch} {D : va_G} {cy : Nat → ClassId} {a gs : Nat → Nat} {σ : Sg}   {σ' : Sg} (h : C1_become_1_2_0 σ  = some ((), σ')) (sz : Nat) : Met l yX1_become wsX1_become ({ frames := 1, cells := 0, slots := 0, locals := 21 }) (va_Pc [.ref (a 1), .ref (a 2)] (pr_ 59 a D cy (shC cy a σ) (xfC gs) sz)) (qg_ 59 a D (shC cy a σ') none sz) 0 0 (fr_ 59 a sz) := by
  refine ent_ (by decide) rfl (Nat.le_of_ble_eq_true rfl) ?_
  intro p e s m below meth c ls hsz X I hl
  subst hsz
  exact kC1_become_1_2_0 X σ  s.heap [] ls h I hl

def C_again_0  (σ : Sg)  : Option (Int32 × Sg) :=
  if (rd_ σ 0 11) = 0 then (some ((-3 : Int32), σ))
  else (bi_ (C1_become_1_2_0 σ) fun _ σ_3 =>
  some ((rd_ σ_3 1 3), σ_3))
set_option maxRecDepth 100000 in
theorem kC_again_0 {p : Program} {l : Launch} {e : Env} {s : State} {m : MethodId} {args : Array Value} {below : List Frame} {meth : Method} {c : Code} {D : va_G} {cy : Nat → ClassId} {a gs : Nat → Nat} (X : cx_ cX11_again RX11 wsX11_again 1 (some .int) 59 a D cy (xfC gs) p s m args meth c)  {r0 : Int32} {σ' : Sg}  : ∀ (σ : Sg)  (H : Heap) (locs : List Loc) (ls : Array Slot), C_again_0 σ = some (r0, σ') → iv_ 59 a D (shC cy a σ) s H locs → lv_has ls 1 [(0, .ref (a 0))] → W p l e ({ frames := 2, cells := 0, slots := 0, locals := 43 }) s m args below meth c H locs 0 0 (MQ below (qg_ 59 a D (shC cy a σ') (some (.int r0)) s.heap.size) args s 0 0 (fr_ 59 a s.heap.size)) (F0 m 0 ls []) := by
  obtain ⟨hx, hb, hr, hml, hown, hts, hlk, hK, hA, hXf⟩ := id X
  intro σ  H locs ls h I hl
  unfold C_again_0 at h
  refine lv_aload_n hx hb dX11_again_0 rfl (lv_at hl 0 rfl) ?_
  refine ig_ (index := 368) X I (fun _ q => List.mem_cons_of_mem _ (List.mem_append_left _ (List.mem_append_left _ (List.mem_append_right _ q)))) 0 (by decide) shC_0 rfl 11 (by decide) (by decide +kernel) rfl (v := .int (rd_ σ 0 11)) rfl dX11_again_1 ?_
  refine lv_if_ne (tgt := 10) hx hb dX11_again_4 (by decide) (fun c_1 => ?_) (fun c_1 => ?_)
  · have h := if_f h c_1
    refine lv_aload_n hx hb dX11_again_10 rfl (lv_at hl 0 rfl) ?_
    refine ig_ (index := 30) X I (fun _ q => List.mem_cons_of_mem _ (List.mem_append_left _ (List.mem_append_left _ (List.mem_append_right _ q)))) 0 (by decide) shC_0 rfl 0 (by decide) (by decide +kernel) rfl (v := .ref (a 1)) rfl dX11_again_11 ?_
    refine lv_aload_n hx hb dX11_again_14 rfl (lv_at hl 0 rfl) ?_
    refine ig_ (index := 36) X I (fun _ q => List.mem_cons_of_mem _ (List.mem_append_left _ (List.mem_append_left _ (List.mem_append_right _ q)))) 0 (by decide) shC_0 rfl 1 (by decide) (by decide +kernel) rfl (v := .ref (a 2)) rfl dX11_again_15 ?_
    obtain ⟨_, σ_3, hc_2, h⟩ := bi_of h
    refine cv_ (rV_ (nn := 1) (As := [.ref (a 2)]) (rest := []) X xkC I (c_C1_become_1_2 hc_2 H.size) gX11_again_X1_become rfl ⟨rfl, rfl⟩ (by decide +kernel) ⟨Nat.le_of_ble_eq_true rfl, Nat.le_of_ble_eq_true rfl⟩ (by decide) shC_1 rfl rfl hl.1 rfl (Nat.le_of_ble_eq_true rfl) dX11_again_18) I (fun H locs I => ?_)
    refine lv_aload_n hx hb dX11_again_21 rfl (lv_at hl 0 rfl) ?_
    refine ig_ (index := 30) X I (fun _ q => List.mem_cons_of_mem _ (List.mem_append_left _ (List.mem_append_left _ (List.mem_append_right _ q)))) 0 (by decide) shC_0 rfl 0 (by decide) (by decide +kernel) rfl (v := .ref (a 1)) rfl dX11_again_22 ?_
    refine ig_ (index := 105) X I (fun _ q => List.mem_cons_of_mem _ (List.mem_append_left _ (List.mem_append_right _ q))) 1 (by decide) shC_1 rfl 3 (by decide) (by decide +kernel) rfl (v := .int (rd_ σ_3 1 3)) rfl dX11_again_25 ?_
    obtain ⟨rfl, rfl⟩ := re_s h
    exact rti_ X I dX11_again_28
  · have h := if_t h c_1
    refine lv_bipush (v := (-3)) hx hb dX11_again_7 (by decide) ?_
    obtain ⟨rfl, rfl⟩ := re_s h
    exact rti_ X I dX11_again_9
theorem c_C_again {l : Launch} {D : va_G} {cy : Nat → ClassId} {a gs : Nat → Nat} {σ : Sg}  {r0 : Int32} {σ' : Sg} (h : C_again_0 σ  = some (r0, σ')) (sz : Nat) : Met l yX11_again wsX11_again ({ frames := 2, cells := 0, slots := 0, locals := 43 }) (va_Pc [.ref (a 0)] (pr_ 59 a D cy (shC cy a σ) (xfC gs) sz)) (qg_ 59 a D (shC cy a σ') (some (.int r0)) sz) 0 0 (fr_ 59 a sz) := by
  refine ent_ (by decide) rfl (Nat.le_of_ble_eq_true rfl) ?_
  intro p e s m below meth c ls hsz X I hl
  subst hsz
  exact kC_again_0 X σ  s.heap [] ls h I hl
