def C_prove_67 (k37 : Sg → Int32 → Int32 → Option (Int32 × Sg)) (k67 : Sg → Int32 → Int32 → Int32 → Option (Int32 × Sg)) (σ : Sg) (x2 : Int32) (x4 : Int32) (x5 : Int32) : Option (Int32 × Sg) :=
  if (3 : Int32) ≤ x5 then (lt_ (x4 + (1 : Int32)) fun y_2 =>
  k37 σ x2 y_2)
  else (bi_ (C_toldOfTried_0 σ x5) fun r_6 σ_5 =>
  gd_ (in_ ((x4 * (3 : Int32)) + x5) 30) (
  lt_ (wr_ σ_5 31 ((x4 * (3 : Int32)) + x5).toNatClampNeg r_6) fun σ_7 =>
  lt_ (x5 + (1 : Int32)) fun y_10 =>
  k67 σ_7 x2 x4 y_10))
set_option maxRecDepth 100000 in
theorem kC_prove_67 {p : Program} {l : Launch} {e : Env} {s : State} {m : MethodId} {args : Array Value} {below : List Frame} {meth : Method} {c : Code} {D : va_G} {cy : Nat → ClassId} {a gs : Nat → Nat} (X : cx_ cX11_prove RX11 wsX11_prove 6 (some .int) 59 a D cy (xfC gs) p s m args meth c) {k37 : Sg → Int32 → Int32 → Option (Int32 × Sg)} {k67 : Sg → Int32 → Int32 → Int32 → Option (Int32 × Sg)} {r0 : Int32} {σ' : Sg} (hk37 : ∀ (σ : Sg) (x2 : Int32) (x4 : Int32) (H : Heap) (locs : List Loc) (ls : Array Slot), k37 σ x2 x4 = some (r0, σ') → iv_ 59 a D (shC cy a σ) s H locs → lv_has ls 6 [(0, .ref (a 0)), (2, .int x2), (4, .int x4)] → W p l e ({ frames := 4, cells := 0, slots := 0, locals := 92 }) s m args below meth c H locs 0 0 (MQ below (qg_ 59 a D (shC cy a σ') (some (.int r0)) s.heap.size) args s 0 0 (fr_ 59 a s.heap.size)) (F0 m 37 ls [])) (hk67 : ∀ (σ : Sg) (x2 : Int32) (x4 : Int32) (x5 : Int32) (H : Heap) (locs : List Loc) (ls : Array Slot), k67 σ x2 x4 x5 = some (r0, σ') → iv_ 59 a D (shC cy a σ) s H locs → lv_has ls 6 [(0, .ref (a 0)), (2, .int x2), (4, .int x4), (5, .int x5)] → W p l e ({ frames := 4, cells := 0, slots := 0, locals := 92 }) s m args below meth c H locs 0 0 (MQ below (qg_ 59 a D (shC cy a σ') (some (.int r0)) s.heap.size) args s 0 0 (fr_ 59 a s.heap.size)) (F0 m 67 ls [])) : ∀ (σ : Sg) (x2 : Int32) (x4 : Int32) (x5 : Int32) (H : Heap) (locs : List Loc) (ls : Array Slot), C_prove_67 k37 k67 σ x2 x4 x5 = some (r0, σ') → iv_ 59 a D (shC cy a σ) s H locs → lv_has ls 6 [(0, .ref (a 0)), (2, .int x2), (4, .int x4), (5, .int x5)] → W p l e ({ frames := 4, cells := 0, slots := 0, locals := 92 }) s m args below meth c H locs 0 0 (MQ below (qg_ 59 a D (shC cy a σ') (some (.int r0)) s.heap.size) args s 0 0 (fr_ 59 a s.heap.size)) (F0 m 67 ls []) := by
  obtain ⟨hx, hb, hr, hml, hown, hts, hlk, hK, hA, hXf⟩ := id X
  intro σ x2 x4 x5 H locs ls h I hl
  unfold C_prove_67 at h
  refine lv_iload hx hb dX11_prove_67 (lv_at hl 3 rfl) ?_
  refine lv_iconst (v := 3) hx hb dX11_prove_69 (by decide) ?_
  refine lv_icmp_ge (tgt := 97) hx hb dX11_prove_70 (by decide) (fun c_1 => ?_) (fun c_1 => ?_)
  · have h := if_t h c_1
    obtain ⟨y_2, e_3⟩ : ∃ q : Int32, q = x4 + (1 : Int32) := ⟨_, rfl⟩
    have h := lt_at h e_3
    refine lv_iinc (v := y_2) (lv' := [(4, .int y_2), (0, .ref (a 0)), (2, .int x2), (5, .int x5)]) hx hb dX11_prove_97 hl (k := 2) rfl (by rw [e_3]; rfl) (by decide) rfl (fun ls hl => ?_)
    refine lv_goto (tgt := 37) hx hb dX11_prove_100 (by decide) ?_
    exact hk37 σ x2 y_2 H locs ls h I (lv_sub hl [1, 2, 0] rfl)
  · have h := if_f h c_1
    refine lv_aload_n hx hb dX11_prove_73 rfl (lv_at hl 0 rfl) ?_
    refine ig_ (index := 70) X I (fun _ q => List.mem_cons_of_mem _ (List.mem_append_left _ (List.mem_append_left _ (List.mem_append_right _ q)))) 0 (by decide) shC_0 rfl 7 (by decide) (by decide +kernel) rfl (v := .ref (a 31)) rfl dX11_prove_74 ?_
    refine lv_iload hx hb dX11_prove_77 (lv_at hl 2 rfl) ?_
    refine lv_iconst (v := 3) hx hb dX11_prove_79 (by decide) ?_
    refine lv_imul hx hb dX11_prove_80 ?_
    refine lv_iload hx hb dX11_prove_81 (lv_at hl 3 rfl) ?_
    refine lv_iadd hx hb dX11_prove_83 ?_
    refine lv_aload_n hx hb dX11_prove_84 rfl (lv_at hl 0 rfl) ?_
    refine lv_iload hx hb dX11_prove_85 (lv_at hl 3 rfl) ?_
    obtain ⟨r_6, σ_5, hc_4, h⟩ := bi_of h
    refine cg_ (v := .int r_6) (rV_ (nn := 1) (As := [.int x5]) (rest := [.int ((x4 * (3 : Int32)) + x5), .ref (a 31)]) X xkC I (c_C_toldOfTried hc_4 H.size) gX11_prove_X11_toldOfTried rfl ⟨rfl, rfl⟩ (by decide +kernel) ⟨Nat.le_of_ble_eq_true rfl, Nat.le_of_ble_eq_true rfl⟩ (by decide) shC_0 rfl rfl hl.1 rfl (Nat.le_of_ble_eq_true rfl) dX11_prove_87) I (fun H locs I => ?_)
    obtain ⟨g_9, h⟩ := gd_of h
    refine is_ (σ2 := wr_ σ_5 31 ((x4 * (3 : Int32)) + x5).toNatClampNeg r_6) X I 31 (by decide) shC_31 (in_of g_9) shC_st_31 dX11_prove_90 (fun σ_7 H locs e_8 I => ?_)
    have h := lt_at h e_8
    obtain ⟨y_10, e_11⟩ : ∃ q : Int32, q = x5 + (1 : Int32) := ⟨_, rfl⟩
    have h := lt_at h e_11
    refine lv_iinc (v := y_10) (lv' := [(5, .int y_10), (0, .ref (a 0)), (2, .int x2), (4, .int x4)]) hx hb dX11_prove_91 hl (k := 3) rfl (by rw [e_11]; rfl) (by decide) rfl (fun ls hl => ?_)
    refine lv_goto (tgt := 67) hx hb dX11_prove_94 (by decide) ?_
    exact hk67 σ_7 x2 x4 y_10 H locs ls h I (lv_sub hl [1, 2, 3, 0] rfl)
set_option maxRecDepth 100000 in
theorem kC_prove_67L {p : Program} {l : Launch} {e : Env} {s : State} {m : MethodId} {args : Array Value} {below : List Frame} {meth : Method} {c : Code} {D : va_G} {cy : Nat → ClassId} {a gs : Nat → Nat} (X : cx_ cX11_prove RX11 wsX11_prove 6 (some .int) 59 a D cy (xfC gs) p s m args meth c) {k37 : Sg → Int32 → Int32 → Option (Int32 × Sg)} {r0 : Int32} {σ' : Sg} (hk37 : ∀ (σ : Sg) (x2 : Int32) (x4 : Int32) (H : Heap) (locs : List Loc) (ls : Array Slot), k37 σ x2 x4 = some (r0, σ') → iv_ 59 a D (shC cy a σ) s H locs → lv_has ls 6 [(0, .ref (a 0)), (2, .int x2), (4, .int x4)] → W p l e ({ frames := 4, cells := 0, slots := 0, locals := 92 }) s m args below meth c H locs 0 0 (MQ below (qg_ 59 a D (shC cy a σ') (some (.int r0)) s.heap.size) args s 0 0 (fr_ 59 a s.heap.size)) (F0 m 37 ls [])) : ∀ (n : Nat), ∀ (σ : Sg) (x2 : Int32) (x4 : Int32) (x5 : Int32) (H : Heap) (locs : List Loc) (ls : Array Slot), lp_ (C_prove_67 k37) (fun _ _ _ _ => none) n σ x2 x4 x5 = some (r0, σ') → iv_ 59 a D (shC cy a σ) s H locs → lv_has ls 6 [(0, .ref (a 0)), (2, .int x2), (4, .int x4), (5, .int x5)] → W p l e ({ frames := 4, cells := 0, slots := 0, locals := 92 }) s m args below meth c H locs 0 0 (MQ below (qg_ 59 a D (shC cy a σ') (some (.int r0)) s.heap.size) args s 0 0 (fr_ 59 a s.heap.size)) (F0 m 67 ls []) := by
  intro n
  induction n with
  | zero =>
    intro _ _ _ _ _ _ _ h
    exact absurd h (fun q => by cases (show (none : Option _) = some _ from q))
  | succ n ih => exact kC_prove_67 X hk37 ih

def C_prove_37 (k37 : Sg → Int32 → Int32 → Option (Int32 × Sg)) (σ : Sg) (x2 : Int32) (x4 : Int32) : Option (Int32 × Sg) :=
  if x2 ≤ x4 then (lt_ (wr_ σ 0 10 x2) fun σ_2 =>
  some (x2, σ_2))
  else (bi_ (C1_passYearOf_0 σ 24 ((rd_ σ 1 4) + x4)) fun _ σ_5 =>
  lp_ (C_prove_67 k37) (fun _ _ _ _ => none) FU σ_5 x2 x4 (0 : Int32))
set_option maxRecDepth 100000 in
theorem kC_prove_37 {p : Program} {l : Launch} {e : Env} {s : State} {m : MethodId} {args : Array Value} {below : List Frame} {meth : Method} {c : Code} {D : va_G} {cy : Nat → ClassId} {a gs : Nat → Nat} (X : cx_ cX11_prove RX11 wsX11_prove 6 (some .int) 59 a D cy (xfC gs) p s m args meth c) {k37 : Sg → Int32 → Int32 → Option (Int32 × Sg)} {r0 : Int32} {σ' : Sg} (hk37 : ∀ (σ : Sg) (x2 : Int32) (x4 : Int32) (H : Heap) (locs : List Loc) (ls : Array Slot), k37 σ x2 x4 = some (r0, σ') → iv_ 59 a D (shC cy a σ) s H locs → lv_has ls 6 [(0, .ref (a 0)), (2, .int x2), (4, .int x4)] → W p l e ({ frames := 4, cells := 0, slots := 0, locals := 92 }) s m args below meth c H locs 0 0 (MQ below (qg_ 59 a D (shC cy a σ') (some (.int r0)) s.heap.size) args s 0 0 (fr_ 59 a s.heap.size)) (F0 m 37 ls [])) : ∀ (σ : Sg) (x2 : Int32) (x4 : Int32) (H : Heap) (locs : List Loc) (ls : Array Slot), C_prove_37 k37 σ x2 x4 = some (r0, σ') → iv_ 59 a D (shC cy a σ) s H locs → lv_has ls 6 [(0, .ref (a 0)), (2, .int x2), (4, .int x4)] → W p l e ({ frames := 4, cells := 0, slots := 0, locals := 92 }) s m args below meth c H locs 0 0 (MQ below (qg_ 59 a D (shC cy a σ') (some (.int r0)) s.heap.size) args s 0 0 (fr_ 59 a s.heap.size)) (F0 m 37 ls []) := by
  obtain ⟨hx, hb, hr, hml, hown, hts, hlk, hK, hA, hXf⟩ := id X
  intro σ x2 x4 H locs ls h I hl
  unfold C_prove_37 at h
  refine lv_iload hx hb dX11_prove_37 (lv_at hl 2 rfl) ?_
  refine lv_iload_n hx hb dX11_prove_39 rfl (lv_at hl 1 rfl) ?_
  refine lv_icmp_ge (tgt := 103) hx hb dX11_prove_40 (by decide) (fun c_1 => ?_) (fun c_1 => ?_)
  · have h := if_t h c_1
    refine lv_aload_n hx hb dX11_prove_103 rfl (lv_at hl 0 rfl) ?_
    refine lv_iload_n hx hb dX11_prove_104 rfl (lv_at hl 1 rfl) ?_
    refine ip_ (index := 102) (ty := .int) X I (fun _ q => List.mem_cons_of_mem _ (List.mem_append_left _ (List.mem_append_left _ (List.mem_append_right _ q)))) tyX11 tyX11_ok nmX11 0 (by decide) shC_0 rfl 10 (by decide) (by decide +kernel) rfl rfl (by decide +kernel) rfl rfl (Nat.le_of_ble_eq_true rfl) shC_pt_0_10 dX11_prove_105 (fun σ_2 H locs e_3 I => ?_)
    have h := lt_at h e_3
    refine lv_iload_n hx hb dX11_prove_108 rfl (lv_at hl 1 rfl) ?_
    obtain ⟨rfl, rfl⟩ := re_s h
    exact rti_ X I dX11_prove_109
  · have h := if_f h c_1
    refine lv_aload_n hx hb dX11_prove_43 rfl (lv_at hl 0 rfl) ?_
    refine ig_ (index := 30) X I (fun _ q => List.mem_cons_of_mem _ (List.mem_append_left _ (List.mem_append_left _ (List.mem_append_right _ q)))) 0 (by decide) shC_0 rfl 0 (by decide) (by decide +kernel) rfl (v := .ref (a 1)) rfl dX11_prove_44 ?_
    refine lv_aload_n hx hb dX11_prove_47 rfl (lv_at hl 0 rfl) ?_
    refine ig_ (index := 45) X I (fun _ q => List.mem_cons_of_mem _ (List.mem_append_left _ (List.mem_append_left _ (List.mem_append_right _ q)))) 0 (by decide) shC_0 rfl 3 (by decide) (by decide +kernel) rfl (v := .ref (a (34 + 24))) rfl dX11_prove_48 ?_
    refine lv_aload_n hx hb dX11_prove_51 rfl (lv_at hl 0 rfl) ?_
    refine ig_ (index := 30) X I (fun _ q => List.mem_cons_of_mem _ (List.mem_append_left _ (List.mem_append_left _ (List.mem_append_right _ q)))) 0 (by decide) shC_0 rfl 0 (by decide) (by decide +kernel) rfl (v := .ref (a 1)) rfl dX11_prove_52 ?_
    refine ig_ (index := 188) X I (fun _ q => List.mem_cons_of_mem _ (List.mem_append_left _ (List.mem_append_right _ q))) 1 (by decide) shC_1 rfl 4 (by decide) (by decide +kernel) rfl (v := .int (rd_ σ 1 4)) rfl dX11_prove_55 ?_
    refine lv_iload hx hb dX11_prove_58 (lv_at hl 2 rfl) ?_
    refine lv_iadd hx hb dX11_prove_60 ?_
    obtain ⟨_, σ_5, hc_4, h⟩ := bi_of h
    refine cv_ (rV_ (nn := 2) (As := [.ref (a (34 + 24)), .int ((rd_ σ 1 4) + x4)]) (rest := []) X xkC I (c_C1_passYearOf hc_4 H.size) gX11_prove_X1_passYearOf rfl ⟨rfl, rfl⟩ (by decide +kernel) ⟨Nat.le_of_ble_eq_true rfl, Nat.le_of_ble_eq_true rfl⟩ (by decide) shC_1 rfl rfl hl.1 rfl (Nat.le_of_ble_eq_true rfl) dX11_prove_61) I (fun H locs I => ?_)
    refine lv_iconst (v := 0) hx hb dX11_prove_64 (by decide) ?_
    refine lv_istore (lv' := [(5, .int (0 : Int32)), (0, .ref (a 0)), (2, .int x2), (4, .int x4)]) hx hb dX11_prove_65 hl (by decide) rfl (fun ls hl => ?_)
    exact kC_prove_67L X hk37 FU σ_5 x2 x4 (0 : Int32) H locs ls h I (lv_sub hl [1, 2, 3, 0] rfl)
set_option maxRecDepth 100000 in
theorem kC_prove_37L {p : Program} {l : Launch} {e : Env} {s : State} {m : MethodId} {args : Array Value} {below : List Frame} {meth : Method} {c : Code} {D : va_G} {cy : Nat → ClassId} {a gs : Nat → Nat} (X : cx_ cX11_prove RX11 wsX11_prove 6 (some .int) 59 a D cy (xfC gs) p s m args meth c)  {r0 : Int32} {σ' : Sg}  : ∀ (n : Nat), ∀ (σ : Sg) (x2 : Int32) (x4 : Int32) (H : Heap) (locs : List Loc) (ls : Array Slot), lp_ (C_prove_37) (fun _ _ _ => none) n σ x2 x4 = some (r0, σ') → iv_ 59 a D (shC cy a σ) s H locs → lv_has ls 6 [(0, .ref (a 0)), (2, .int x2), (4, .int x4)] → W p l e ({ frames := 4, cells := 0, slots := 0, locals := 92 }) s m args below meth c H locs 0 0 (MQ below (qg_ 59 a D (shC cy a σ') (some (.int r0)) s.heap.size) args s 0 0 (fr_ 59 a s.heap.size)) (F0 m 37 ls []) := by
  intro n
  induction n with
  | zero =>
    intro _ _ _ _ _ _ h
    exact absurd h (fun q => by cases (show (none : Option _) = some _ from q))
  | succ n ih => exact kC_prove_37 X ih

def C_prove_0  (σ : Sg) (x1 : Int32) (x2 : Int32) : Option (Int32 × Sg) :=
  bi_ (C1_life_0 σ x1) fun r_3 σ_2 =>
  on_ r_3 (some ((-1 : Int32), σ_2)) fun j_4 =>
  if x2 < (1 : Int32) then (some ((-1 : Int32), σ_2))
  else (if x2 ≤ (10 : Int32) then (bi_ (C6_become_0 σ_2 24 j_4) fun _ σ_8 =>
  lp_ C_prove_37 (fun _ _ _ => none) FU σ_8 x2 (0 : Int32))
  else (some ((-1 : Int32), σ_2)))
set_option maxRecDepth 100000 in
theorem kC_prove_0 {p : Program} {l : Launch} {e : Env} {s : State} {m : MethodId} {args : Array Value} {below : List Frame} {meth : Method} {c : Code} {D : va_G} {cy : Nat → ClassId} {a gs : Nat → Nat} (X : cx_ cX11_prove RX11 wsX11_prove 6 (some .int) 59 a D cy (xfC gs) p s m args meth c)  {r0 : Int32} {σ' : Sg}  : ∀ (σ : Sg) (x1 : Int32) (x2 : Int32) (H : Heap) (locs : List Loc) (ls : Array Slot), C_prove_0 σ x1 x2 = some (r0, σ') → iv_ 59 a D (shC cy a σ) s H locs → lv_has ls 6 [(0, .ref (a 0)), (1, .int x1), (2, .int x2)] → W p l e ({ frames := 4, cells := 0, slots := 0, locals := 92 }) s m args below meth c H locs 0 0 (MQ below (qg_ 59 a D (shC cy a σ') (some (.int r0)) s.heap.size) args s 0 0 (fr_ 59 a s.heap.size)) (F0 m 0 ls []) := by
  obtain ⟨hx, hb, hr, hml, hown, hts, hlk, hK, hA, hXf⟩ := id X
  intro σ x1 x2 H locs ls h I hl
  unfold C_prove_0 at h
  refine lv_aload_n hx hb dX11_prove_0 rfl (lv_at hl 0 rfl) ?_
  refine ig_ (index := 30) X I (fun _ q => List.mem_cons_of_mem _ (List.mem_append_left _ (List.mem_append_left _ (List.mem_append_right _ q)))) 0 (by decide) shC_0 rfl 0 (by decide) (by decide +kernel) rfl (v := .ref (a 1)) rfl dX11_prove_1 ?_
  refine lv_iload_n hx hb dX11_prove_4 rfl (lv_at hl 1 rfl) ?_
  obtain ⟨r_3, σ_2, hc_1, h⟩ := bi_of h
  refine cg_ (v := va_re (fun j => a (34 + j)) r_3) (rV_ (nn := 1) (As := [.int x1]) (rest := []) X xkC I (c_C1_life hc_1 H.size) gX11_prove_X1_life rfl ⟨rfl, rfl⟩ (by decide +kernel) ⟨Nat.le_of_ble_eq_true rfl, Nat.le_of_ble_eq_true rfl⟩ (by decide) shC_1 rfl rfl hl.1 rfl (Nat.le_of_ble_eq_true rfl) dX11_prove_5) I (fun H locs I => ?_)
  rcases r_3 with _ | j_4
  · have h := on_n h
    refine W.eq (g2 := F0 m 8 ls [.null]) rfl ?_
    refine lv_astore_nN (lv' := [(3, .null), (0, .ref (a 0)), (1, .int x1), (2, .int x2)]) hx hb dX11_prove_8 rfl hl (by decide) rfl (fun ls hl => ?_)
    refine lv_aload_nN hx hb dX11_prove_9 rfl (lv_at hl 0 rfl) ?_
    refine lv_ifnullN (tgt := 24) hx hb dX11_prove_10 (by decide) ?_
    refine lv_iconst (v := (-1)) hx hb dX11_prove_24 (by decide) ?_
    obtain ⟨rfl, rfl⟩ := re_s h
    exact rti_ X I dX11_prove_25
  · have h := on_s h
    refine W.eq (g2 := F0 m 8 ls [.ref (a (34 + j_4))]) rfl ?_
    refine lv_astore_n (lv' := [(3, .ref (a (34 + j_4))), (0, .ref (a 0)), (1, .int x1), (2, .int x2)]) hx hb dX11_prove_8 rfl hl (by decide) rfl (fun ls hl => ?_)
    refine lv_aload_n hx hb dX11_prove_9 rfl (lv_at hl 0 rfl) ?_
    refine lv_ifnull hx hb dX11_prove_10 ?_
    refine lv_iload_n hx hb dX11_prove_13 rfl (lv_at hl 3 rfl) ?_
    refine lv_iconst (v := 1) hx hb dX11_prove_14 (by decide) ?_
    refine lv_icmp_lt (tgt := 24) hx hb dX11_prove_15 (by decide) (fun c_5 => ?_) (fun c_5 => ?_)
    · have h := if_t h c_5
      refine lv_iconst (v := (-1)) hx hb dX11_prove_24 (by decide) ?_
      obtain ⟨rfl, rfl⟩ := re_s h
      exact rti_ X I dX11_prove_25
    · have h := if_f h c_5
      refine lv_iload_n hx hb dX11_prove_18 rfl (lv_at hl 3 rfl) ?_
      refine lv_bipush (v := 10) hx hb dX11_prove_19 (by decide) ?_
      refine lv_icmp_le (tgt := 26) hx hb dX11_prove_21 (by decide) (fun c_6 => ?_) (fun c_6 => ?_)
      · have h := if_t h c_6
        refine lv_aload_n hx hb dX11_prove_26 rfl (lv_at hl 1 rfl) ?_
        refine ig_ (index := 45) X I (fun _ q => List.mem_cons_of_mem _ (List.mem_append_left _ (List.mem_append_left _ (List.mem_append_right _ q)))) 0 (by decide) shC_0 rfl 3 (by decide) (by decide +kernel) rfl (v := .ref (a (34 + 24))) rfl dX11_prove_27 ?_
        refine lv_aload_n hx hb dX11_prove_30 rfl (lv_at hl 0 rfl) ?_
        obtain ⟨_, σ_8, hc_7, h⟩ := bi_of h
        refine cv_ (rV_ (nn := 1) (As := [.ref (a (34 + j_4))]) (rest := []) X xkC I (c_C6_become hc_7 H.size) gX11_prove_X6_become rfl ⟨rfl, rfl⟩ (by decide +kernel) ⟨Nat.le_of_ble_eq_true rfl, Nat.le_of_ble_eq_true rfl⟩ (by decide) shC_L rfl rfl hl.1 rfl (Nat.le_of_ble_eq_true rfl) dX11_prove_31) I (fun H locs I => ?_)
        refine lv_iconst (v := 0) hx hb dX11_prove_34 (by decide) ?_
        refine lv_istore (lv' := [(4, .int (0 : Int32)), (3, .ref (a (34 + j_4))), (0, .ref (a 0)), (1, .int x1), (2, .int x2)]) hx hb dX11_prove_35 hl (by decide) rfl (fun ls hl => ?_)
        exact kC_prove_37L X  FU σ_8 x2 (0 : Int32) H locs ls h I (lv_sub hl [2, 4, 0] rfl)
      · have h := if_f h c_6
        refine lv_iconst (v := (-1)) hx hb dX11_prove_24 (by decide) ?_
        obtain ⟨rfl, rfl⟩ := re_s h
        exact rti_ X I dX11_prove_25
theorem c_C_prove {l : Launch} {D : va_G} {cy : Nat → ClassId} {a gs : Nat → Nat} {σ : Sg} {x1 : Int32} {x2 : Int32} {r0 : Int32} {σ' : Sg} (h : C_prove_0 σ x1 x2 = some (r0, σ')) (sz : Nat) : Met l yX11_prove wsX11_prove ({ frames := 4, cells := 0, slots := 0, locals := 92 }) (va_Pc [.ref (a 0), .int x1, .int x2] (pr_ 59 a D cy (shC cy a σ) (xfC gs) sz)) (qg_ 59 a D (shC cy a σ') (some (.int r0)) sz) 0 0 (fr_ 59 a sz) := by
  refine ent_ (by decide) rfl (Nat.le_of_ble_eq_true rfl) ?_
  intro p e s m below meth c ls hsz X I hl
  subst hsz
  exact kC_prove_0 X σ x1 x2 s.heap [] ls h I hl

def C_isInRows_0  (σ : Sg) (x1 : Int32) (x2 : Int32) : Option (Int32 × Sg) :=
  bp_ (C_within_0 x1 ((rd_ σ 0 10) - (1 : Int32))) fun r_2 =>
  if r_2 = 0 then (some ((0 : Int32), σ))
  else (bp_ (C_within_0 x2 (2 : Int32)) fun r_5 =>
  if r_5 = 0 then (some ((0 : Int32), σ))
  else (some ((1 : Int32), σ)))
set_option maxRecDepth 100000 in
theorem kC_isInRows_0 {p : Program} {l : Launch} {e : Env} {s : State} {m : MethodId} {args : Array Value} {below : List Frame} {meth : Method} {c : Code} {D : va_G} {cy : Nat → ClassId} {a gs : Nat → Nat} (X : cx_ cX11_isInRows RX11 wsX11_isInRows 3 (some .boolean) 59 a D cy (xfC gs) p s m args meth c)  {r0 : Int32} {σ' : Sg}  : ∀ (σ : Sg) (x1 : Int32) (x2 : Int32) (H : Heap) (locs : List Loc) (ls : Array Slot), C_isInRows_0 σ x1 x2 = some (r0, σ') → iv_ 59 a D (shC cy a σ) s H locs → lv_has ls 3 [(0, .ref (a 0)), (1, .int x1), (2, .int x2)] → W p l e ({ frames := 1, cells := 0, slots := 0, locals := 21 }) s m args below meth c H locs 0 0 (MQ below (qg_ 59 a D (shC cy a σ') (some (.int r0)) s.heap.size) args s 0 0 (fr_ 59 a s.heap.size)) (F0 m 0 ls []) := by
  obtain ⟨hx, hb, hr, hml, hown, hts, hlk, hK, hA, hXf⟩ := id X
  intro σ x1 x2 H locs ls h I hl
  unfold C_isInRows_0 at h
  refine lv_iload_n hx hb dX11_isInRows_0 rfl (lv_at hl 1 rfl) ?_
  refine lv_aload_n hx hb dX11_isInRows_1 rfl (lv_at hl 0 rfl) ?_
  refine ig_ (index := 102) X I (fun _ q => List.mem_cons_of_mem _ (List.mem_append_right _ q)) 0 (by decide) shC_0 rfl 10 (by decide) (by decide +kernel) rfl (v := .int (rd_ σ 0 10)) rfl dX11_isInRows_2 ?_
  refine lv_iconst (v := 1) hx hb dX11_isInRows_5 (by decide) ?_
  refine lv_isub hx hb dX11_isInRows_6 ?_
  obtain ⟨r_2, hc_1, h⟩ := bp_of h
  refine cp_ (rP_ (nn := 2) (As := [.int x1, .int ((rd_ σ 0 10) - (1 : Int32))]) (rest := []) ⟨hx, hb, hml, hown, hts⟩ (c_C_within hc_1) gX11_isInRows_X11_within rfl ⟨rfl, rfl⟩ (by decide +kernel) ⟨Nat.le_of_ble_eq_true rfl, Nat.le_of_ble_eq_true rfl⟩ rfl hl.1 rfl (Nat.le_of_ble_eq_true rfl) dX11_isInRows_7 ⟨Nat.zero_le _, Nat.zero_le _⟩) ?_
  refine lv_if_eq (tgt := 25) hx hb dX11_isInRows_10 (by decide) (fun c_3 => ?_) (fun c_3 => ?_)
  · have h := if_t h c_3
    refine lv_iconst (v := 0) hx hb dX11_isInRows_25 (by decide) ?_
    obtain ⟨rfl, rfl⟩ := re_s h
    exact rtz_ X I (by decide) dX11_isInRows_26
  · have h := if_f h c_3
    refine lv_iload_n hx hb dX11_isInRows_13 rfl (lv_at hl 2 rfl) ?_
    refine lv_iconst (v := 2) hx hb dX11_isInRows_14 (by decide) ?_
    obtain ⟨r_5, hc_4, h⟩ := bp_of h
    refine cp_ (rP_ (nn := 2) (As := [.int x2, .int (2 : Int32)]) (rest := []) ⟨hx, hb, hml, hown, hts⟩ (c_C_within hc_4) gX11_isInRows_X11_within rfl ⟨rfl, rfl⟩ (by decide +kernel) ⟨Nat.le_of_ble_eq_true rfl, Nat.le_of_ble_eq_true rfl⟩ rfl hl.1 rfl (Nat.le_of_ble_eq_true rfl) dX11_isInRows_15 ⟨Nat.zero_le _, Nat.zero_le _⟩) ?_
    refine lv_if_eq (tgt := 25) hx hb dX11_isInRows_18 (by decide) (fun c_6 => ?_) (fun c_6 => ?_)
    · have h := if_t h c_6
      refine lv_iconst (v := 0) hx hb dX11_isInRows_25 (by decide) ?_
      obtain ⟨rfl, rfl⟩ := re_s h
      exact rtz_ X I (by decide) dX11_isInRows_26
    · have h := if_f h c_6
      refine lv_iconst (v := 1) hx hb dX11_isInRows_21 (by decide) ?_
      refine lv_goto (tgt := 26) hx hb dX11_isInRows_22 (by decide) ?_
      obtain ⟨rfl, rfl⟩ := re_s h
      exact rtz_ X I (by decide) dX11_isInRows_26
theorem c_C_isInRows {l : Launch} {D : va_G} {cy : Nat → ClassId} {a gs : Nat → Nat} {σ : Sg} {x1 : Int32} {x2 : Int32} {r0 : Int32} {σ' : Sg} (h : C_isInRows_0 σ x1 x2 = some (r0, σ')) (sz : Nat) : Met l yX11_isInRows wsX11_isInRows ({ frames := 1, cells := 0, slots := 0, locals := 21 }) (va_Pc [.ref (a 0), .int x1, .int x2] (pr_ 59 a D cy (shC cy a σ) (xfC gs) sz)) (qg_ 59 a D (shC cy a σ') (some (.int r0)) sz) 0 0 (fr_ 59 a sz) := by
  refine ent_ (by decide) rfl (Nat.le_of_ble_eq_true rfl) ?_
  intro p e s m below meth c ls hsz X I hl
  subst hsz
  exact kC_isInRows_0 X σ x1 x2 s.heap [] ls h I hl

def C_row_0  (σ : Sg) (x1 : Int32) (x2 : Int32) : Option (Int32 × Sg) :=
  bi_ (C_isInRows_0 σ x1 x2) fun r_3 σ_2 =>
  if r_3 = 0 then (some ((-9 : Int32), σ_2))
  else (lt_ (((x1 * (3 : Int32)) + x2)) fun y_5 =>
  gd_ (in_ y_5 30) (
  some ((rd_ σ_2 31 y_5.toNatClampNeg), σ_2)))
set_option maxRecDepth 100000 in
theorem kC_row_0 {p : Program} {l : Launch} {e : Env} {s : State} {m : MethodId} {args : Array Value} {below : List Frame} {meth : Method} {c : Code} {D : va_G} {cy : Nat → ClassId} {a gs : Nat → Nat} (X : cx_ cX11_row RX11 wsX11_row 3 (some .int) 59 a D cy (xfC gs) p s m args meth c)  {r0 : Int32} {σ' : Sg}  : ∀ (σ : Sg) (x1 : Int32) (x2 : Int32) (H : Heap) (locs : List Loc) (ls : Array Slot), C_row_0 σ x1 x2 = some (r0, σ') → iv_ 59 a D (shC cy a σ) s H locs → lv_has ls 3 [(0, .ref (a 0)), (1, .int x1), (2, .int x2)] → W p l e ({ frames := 2, cells := 0, slots := 0, locals := 43 }) s m args below meth c H locs 0 0 (MQ below (qg_ 59 a D (shC cy a σ') (some (.int r0)) s.heap.size) args s 0 0 (fr_ 59 a s.heap.size)) (F0 m 0 ls []) := by
  obtain ⟨hx, hb, hr, hml, hown, hts, hlk, hK, hA, hXf⟩ := id X
  intro σ x1 x2 H locs ls h I hl
  unfold C_row_0 at h
  refine lv_aload_n hx hb dX11_row_0 rfl (lv_at hl 0 rfl) ?_
  refine lv_iload_n hx hb dX11_row_1 rfl (lv_at hl 1 rfl) ?_
  refine lv_iload_n hx hb dX11_row_2 rfl (lv_at hl 2 rfl) ?_
  obtain ⟨r_3, σ_2, hc_1, h⟩ := bi_of h
  refine cg_ (v := .int r_3) (rV_ (nn := 2) (As := [.int x1, .int x2]) (rest := []) X xkC I (c_C_isInRows hc_1 H.size) gX11_row_X11_isInRows rfl ⟨rfl, rfl⟩ (by decide +kernel) ⟨Nat.le_of_ble_eq_true rfl, Nat.le_of_ble_eq_true rfl⟩ (by decide) shC_0 rfl rfl hl.1 rfl (Nat.le_of_ble_eq_true rfl) dX11_row_3) I (fun H locs I => ?_)
  refine lv_if_eq (tgt := 22) hx hb dX11_row_6 (by decide) (fun c_4 => ?_) (fun c_4 => ?_)
  · have h := if_t h c_4
    refine lv_bipush (v := (-9)) hx hb dX11_row_22 (by decide) ?_
    obtain ⟨rfl, rfl⟩ := re_s h
    exact rti_ X I dX11_row_24
  · have h := if_f h c_4
    refine lv_aload_n hx hb dX11_row_9 rfl (lv_at hl 0 rfl) ?_
    refine ig_ (index := 70) X I (fun _ q => List.mem_cons_of_mem _ (List.mem_append_right _ q)) 0 (by decide) shC_0 rfl 7 (by decide) (by decide +kernel) rfl (v := .ref (a 31)) rfl dX11_row_10 ?_
    refine lv_iload_n hx hb dX11_row_13 rfl (lv_at hl 1 rfl) ?_
    refine lv_iconst (v := 3) hx hb dX11_row_14 (by decide) ?_
    refine lv_imul hx hb dX11_row_15 ?_
    refine lv_iload_n hx hb dX11_row_16 rfl (lv_at hl 2 rfl) ?_
    refine lv_iadd hx hb dX11_row_17 ?_
    refine lv_topi (fun y_5 e_6 => ?_)
    have h := lt_at h e_6
    obtain ⟨g_7, h⟩ := gd_of h
    refine ia_ X I 31 (by decide) shC_31 (in_of g_7) (v0 := (rd_ σ_2 31 y_5.toNatClampNeg)) rfl dX11_row_18 ?_
    refine lv_goto (tgt := 24) hx hb dX11_row_19 (by decide) ?_
    obtain ⟨rfl, rfl⟩ := re_s h
    exact rti_ X I dX11_row_24
theorem c_C_row {l : Launch} {D : va_G} {cy : Nat → ClassId} {a gs : Nat → Nat} {σ : Sg} {x1 : Int32} {x2 : Int32} {r0 : Int32} {σ' : Sg} (h : C_row_0 σ x1 x2 = some (r0, σ')) (sz : Nat) : Met l yX11_row wsX11_row ({ frames := 2, cells := 0, slots := 0, locals := 43 }) (va_Pc [.ref (a 0), .int x1, .int x2] (pr_ 59 a D cy (shC cy a σ) (xfC gs) sz)) (qg_ 59 a D (shC cy a σ') (some (.int r0)) sz) 0 0 (fr_ 59 a sz) := by
  refine ent_ (by decide) rfl (Nat.le_of_ble_eq_true rfl) ?_
  intro p e s m below meth c ls hsz X I hl
  subst hsz
  exact kC_row_0 X σ x1 x2 s.heap [] ls h I hl

def C_alterRow_0  (σ : Sg) (x1 : Int32) (x2 : Int32) (x3 : Int32) : Option (Int32 × Sg) :=
  bi_ (C_isInRows_0 σ x1 x2) fun r_3 σ_2 =>
  if r_3 = 0 then (some ((-9 : Int32), σ_2))
  else (lt_ (((x1 * (3 : Int32)) + x2)) fun y_5 =>
  gd_ (in_ y_5 30) (
  lt_ ((rd_ σ_2 31 y_5.toNatClampNeg)) fun y_8 =>
  gd_ (in_ ((x1 * (3 : Int32)) + x2) 30) (
  lt_ (wr_ σ_2 31 ((x1 * (3 : Int32)) + x2).toNatClampNeg x3) fun σ_10 =>
  some (y_8, σ_10))))
set_option maxRecDepth 100000 in
theorem kC_alterRow_0 {p : Program} {l : Launch} {e : Env} {s : State} {m : MethodId} {args : Array Value} {below : List Frame} {meth : Method} {c : Code} {D : va_G} {cy : Nat → ClassId} {a gs : Nat → Nat} (X : cx_ cX11_alterRow RX11 wsX11_alterRow 5 (some .int) 59 a D cy (xfC gs) p s m args meth c)  {r0 : Int32} {σ' : Sg}  : ∀ (σ : Sg) (x1 : Int32) (x2 : Int32) (x3 : Int32) (H : Heap) (locs : List Loc) (ls : Array Slot), C_alterRow_0 σ x1 x2 x3 = some (r0, σ') → iv_ 59 a D (shC cy a σ) s H locs → lv_has ls 5 [(0, .ref (a 0)), (1, .int x1), (2, .int x2), (3, .int x3)] → W p l e ({ frames := 2, cells := 0, slots := 0, locals := 43 }) s m args below meth c H locs 0 0 (MQ below (qg_ 59 a D (shC cy a σ') (some (.int r0)) s.heap.size) args s 0 0 (fr_ 59 a s.heap.size)) (F0 m 0 ls []) := by
  obtain ⟨hx, hb, hr, hml, hown, hts, hlk, hK, hA, hXf⟩ := id X
  intro σ x1 x2 x3 H locs ls h I hl
  unfold C_alterRow_0 at h
  refine lv_aload_n hx hb dX11_alterRow_0 rfl (lv_at hl 0 rfl) ?_
  refine lv_iload_n hx hb dX11_alterRow_1 rfl (lv_at hl 1 rfl) ?_
  refine lv_iload_n hx hb dX11_alterRow_2 rfl (lv_at hl 2 rfl) ?_
  obtain ⟨r_3, σ_2, hc_1, h⟩ := bi_of h
  refine cg_ (v := .int r_3) (rV_ (nn := 2) (As := [.int x1, .int x2]) (rest := []) X xkC I (c_C_isInRows hc_1 H.size) gX11_alterRow_X11_isInRows rfl ⟨rfl, rfl⟩ (by decide +kernel) ⟨Nat.le_of_ble_eq_true rfl, Nat.le_of_ble_eq_true rfl⟩ (by decide) shC_0 rfl rfl hl.1 rfl (Nat.le_of_ble_eq_true rfl) dX11_alterRow_3) I (fun H locs I => ?_)
  refine lv_if_ne (tgt := 12) hx hb dX11_alterRow_6 (by decide) (fun c_4 => ?_) (fun c_4 => ?_)
  · have h := if_f h c_4
    refine lv_aload_n hx hb dX11_alterRow_12 rfl (lv_at hl 0 rfl) ?_
    refine ig_ (index := 70) X I (fun _ q => List.mem_cons_of_mem _ (List.mem_append_right _ q)) 0 (by decide) shC_0 rfl 7 (by decide) (by decide +kernel) rfl (v := .ref (a 31)) rfl dX11_alterRow_13 ?_
    refine lv_iload_n hx hb dX11_alterRow_16 rfl (lv_at hl 1 rfl) ?_
    refine lv_iconst (v := 3) hx hb dX11_alterRow_17 (by decide) ?_
    refine lv_imul hx hb dX11_alterRow_18 ?_
    refine lv_iload_n hx hb dX11_alterRow_19 rfl (lv_at hl 2 rfl) ?_
    refine lv_iadd hx hb dX11_alterRow_20 ?_
    refine lv_topi (fun y_5 e_6 => ?_)
    have h := lt_at h e_6
    obtain ⟨g_7, h⟩ := gd_of h
    refine ia_ X I 31 (by decide) shC_31 (in_of g_7) (v0 := (rd_ σ_2 31 y_5.toNatClampNeg)) rfl dX11_alterRow_21 ?_
    refine lv_topi (fun y_8 e_9 => ?_)
    have h := lt_at h e_9
    refine lv_istore (lv' := [(4, .int y_8), (0, .ref (a 0)), (1, .int x1), (2, .int x2), (3, .int x3)]) hx hb dX11_alterRow_22 hl (by decide) rfl (fun ls hl => ?_)
    refine lv_aload_n hx hb dX11_alterRow_24 rfl (lv_at hl 1 rfl) ?_
    refine ig_ (index := 70) X I (fun _ q => List.mem_cons_of_mem _ (List.mem_append_right _ q)) 0 (by decide) shC_0 rfl 7 (by decide) (by decide +kernel) rfl (v := .ref (a 31)) rfl dX11_alterRow_25 ?_
    refine lv_iload_n hx hb dX11_alterRow_28 rfl (lv_at hl 2 rfl) ?_
    refine lv_iconst (v := 3) hx hb dX11_alterRow_29 (by decide) ?_
    refine lv_imul hx hb dX11_alterRow_30 ?_
    refine lv_iload_n hx hb dX11_alterRow_31 rfl (lv_at hl 3 rfl) ?_
    refine lv_iadd hx hb dX11_alterRow_32 ?_
    refine lv_iload_n hx hb dX11_alterRow_33 rfl (lv_at hl 4 rfl) ?_
    obtain ⟨g_12, h⟩ := gd_of h
    refine is_ (σ2 := wr_ σ_2 31 ((x1 * (3 : Int32)) + x2).toNatClampNeg x3) X I 31 (by decide) shC_31 (in_of g_12) shC_st_31 dX11_alterRow_34 (fun σ_10 H locs e_11 I => ?_)
    have h := lt_at h e_11
    refine lv_iload hx hb dX11_alterRow_35 (lv_at hl 0 rfl) ?_
    obtain ⟨rfl, rfl⟩ := re_s h
    exact rti_ X I dX11_alterRow_37
  · have h := if_t h c_4
    refine lv_bipush (v := (-9)) hx hb dX11_alterRow_9 (by decide) ?_
    obtain ⟨rfl, rfl⟩ := re_s h
    exact rti_ X I dX11_alterRow_11
theorem c_C_alterRow {l : Launch} {D : va_G} {cy : Nat → ClassId} {a gs : Nat → Nat} {σ : Sg} {x1 : Int32} {x2 : Int32} {x3 : Int32} {r0 : Int32} {σ' : Sg} (h : C_alterRow_0 σ x1 x2 x3 = some (r0, σ')) (sz : Nat) : Met l yX11_alterRow wsX11_alterRow ({ frames := 2, cells := 0, slots := 0, locals := 43 }) (va_Pc [.ref (a 0), .int x1, .int x2, .int x3] (pr_ 59 a D cy (shC cy a σ) (xfC gs) sz)) (qg_ 59 a D (shC cy a σ') (some (.int r0)) sz) 0 0 (fr_ 59 a sz) := by
  refine ent_ (by decide) rfl (Nat.le_of_ble_eq_true rfl) ?_
  intro p e s m below meth c ls hsz X I hl
  subst hsz
  exact kC_alterRow_0 X σ x1 x2 x3 s.heap [] ls h I hl

def C_judge_56 (k25 : Sg → Int32 → Option (Int32 × Sg)) (k56 : Sg → Int32 → Int32 → Option (Int32 × Sg)) (σ : Sg) (x3 : Int32) (x4 : Int32) : Option (Int32 × Sg) :=
  if (3 : Int32) ≤ x4 then (lt_ (x3 + (1 : Int32)) fun y_2 =>
  k25 σ y_2)
  else (lt_ (((x3 * (3 : Int32)) + x4)) fun y_4 =>
  gd_ (in_ y_4 30) (
  bi_ (C_toldOfTried_0 σ x4) fun r_9 σ_8 =>
  if (rd_ σ 31 y_4.toNatClampNeg) = r_9 then (lt_ (x4 + (1 : Int32)) fun y_11 =>
  k56 σ_8 x3 y_11)
  else (some ((x3 + (1 : Int32)), σ_8))))
set_option maxRecDepth 100000 in
theorem kC_judge_56 {p : Program} {l : Launch} {e : Env} {s : State} {m : MethodId} {args : Array Value} {below : List Frame} {meth : Method} {c : Code} {D : va_G} {cy : Nat → ClassId} {a gs : Nat → Nat} (X : cx_ cX11_judge RX11 wsX11_judge 5 (some .int) 59 a D cy (xfC gs) p s m args meth c) {k25 : Sg → Int32 → Option (Int32 × Sg)} {k56 : Sg → Int32 → Int32 → Option (Int32 × Sg)} {r0 : Int32} {σ' : Sg} (hk25 : ∀ (σ : Sg) (x3 : Int32) (H : Heap) (locs : List Loc) (ls : Array Slot), k25 σ x3 = some (r0, σ') → iv_ 59 a D (shC cy a σ) s H locs → lv_has ls 5 [(0, .ref (a 0)), (3, .int x3)] → W p l e ({ frames := 4, cells := 0, slots := 0, locals := 92 }) s m args below meth c H locs 0 0 (MQ below (qg_ 59 a D (shC cy a σ') (some (.int r0)) s.heap.size) args s 0 0 (fr_ 59 a s.heap.size)) (F0 m 25 ls [])) (hk56 : ∀ (σ : Sg) (x3 : Int32) (x4 : Int32) (H : Heap) (locs : List Loc) (ls : Array Slot), k56 σ x3 x4 = some (r0, σ') → iv_ 59 a D (shC cy a σ) s H locs → lv_has ls 5 [(0, .ref (a 0)), (3, .int x3), (4, .int x4)] → W p l e ({ frames := 4, cells := 0, slots := 0, locals := 92 }) s m args below meth c H locs 0 0 (MQ below (qg_ 59 a D (shC cy a σ') (some (.int r0)) s.heap.size) args s 0 0 (fr_ 59 a s.heap.size)) (F0 m 56 ls [])) : ∀ (σ : Sg) (x3 : Int32) (x4 : Int32) (H : Heap) (locs : List Loc) (ls : Array Slot), C_judge_56 k25 k56 σ x3 x4 = some (r0, σ') → iv_ 59 a D (shC cy a σ) s H locs → lv_has ls 5 [(0, .ref (a 0)), (3, .int x3), (4, .int x4)] → W p l e ({ frames := 4, cells := 0, slots := 0, locals := 92 }) s m args below meth c H locs 0 0 (MQ below (qg_ 59 a D (shC cy a σ') (some (.int r0)) s.heap.size) args s 0 0 (fr_ 59 a s.heap.size)) (F0 m 56 ls []) := by
  obtain ⟨hx, hb, hr, hml, hown, hts, hlk, hK, hA, hXf⟩ := id X
  intro σ x3 x4 H locs ls h I hl
  unfold C_judge_56 at h
  refine lv_iload hx hb dX11_judge_56 (lv_at hl 2 rfl) ?_
  refine lv_iconst (v := 3) hx hb dX11_judge_58 (by decide) ?_
  refine lv_icmp_ge (tgt := 92) hx hb dX11_judge_59 (by decide) (fun c_1 => ?_) (fun c_1 => ?_)
  · have h := if_t h c_1
    obtain ⟨y_2, e_3⟩ : ∃ q : Int32, q = x3 + (1 : Int32) := ⟨_, rfl⟩
    have h := lt_at h e_3
    refine lv_iinc (v := y_2) (lv' := [(3, .int y_2), (0, .ref (a 0)), (4, .int x4)]) hx hb dX11_judge_92 hl (k := 1) rfl (by rw [e_3]; rfl) (by decide) rfl (fun ls hl => ?_)
    refine lv_goto (tgt := 25) hx hb dX11_judge_95 (by decide) ?_
    exact hk25 σ y_2 H locs ls h I (lv_sub hl [1, 0] rfl)
  · have h := if_f h c_1
    refine lv_aload_n hx hb dX11_judge_62 rfl (lv_at hl 0 rfl) ?_
    refine ig_ (index := 70) X I (fun _ q => List.mem_cons_of_mem _ (List.mem_append_left _ (List.mem_append_left _ (List.mem_append_right _ q)))) 0 (by decide) shC_0 rfl 7 (by decide) (by decide +kernel) rfl (v := .ref (a 31)) rfl dX11_judge_63 ?_
    refine lv_iload_n hx hb dX11_judge_66 rfl (lv_at hl 1 rfl) ?_
    refine lv_iconst (v := 3) hx hb dX11_judge_67 (by decide) ?_
    refine lv_imul hx hb dX11_judge_68 ?_
    refine lv_iload hx hb dX11_judge_69 (lv_at hl 2 rfl) ?_
    refine lv_iadd hx hb dX11_judge_71 ?_
    refine lv_topi (fun y_4 e_5 => ?_)
    have h := lt_at h e_5
    obtain ⟨g_6, h⟩ := gd_of h
    refine ia_ X I 31 (by decide) shC_31 (in_of g_6) (v0 := (rd_ σ 31 y_4.toNatClampNeg)) rfl dX11_judge_72 ?_
    refine lv_aload_n hx hb dX11_judge_73 rfl (lv_at hl 0 rfl) ?_
    refine lv_iload hx hb dX11_judge_74 (lv_at hl 2 rfl) ?_
    obtain ⟨r_9, σ_8, hc_7, h⟩ := bi_of h
    refine cg_ (v := .int r_9) (rV_ (nn := 1) (As := [.int x4]) (rest := [.int (rd_ σ 31 y_4.toNatClampNeg)]) X xkC I (c_C_toldOfTried hc_7 H.size) gX11_judge_X11_toldOfTried rfl ⟨rfl, rfl⟩ (by decide +kernel) ⟨Nat.le_of_ble_eq_true rfl, Nat.le_of_ble_eq_true rfl⟩ (by decide) shC_0 rfl rfl hl.1 rfl (Nat.le_of_ble_eq_true rfl) dX11_judge_76) I (fun H locs I => ?_)
    refine lv_icmp_eq (tgt := 86) hx hb dX11_judge_79 (by decide) (fun c_10 => ?_) (fun c_10 => ?_)
    · have h := if_t h c_10
      obtain ⟨y_11, e_12⟩ : ∃ q : Int32, q = x4 + (1 : Int32) := ⟨_, rfl⟩
      have h := lt_at h e_12
      refine lv_iinc (v := y_11) (lv' := [(4, .int y_11), (0, .ref (a 0)), (3, .int x3)]) hx hb dX11_judge_86 hl (k := 2) rfl (by rw [e_12]; rfl) (by decide) rfl (fun ls hl => ?_)
      refine lv_goto (tgt := 56) hx hb dX11_judge_89 (by decide) ?_
      exact hk56 σ_8 x3 y_11 H locs ls h I (lv_sub hl [1, 2, 0] rfl)
    · have h := if_f h c_10
      refine lv_iload_n hx hb dX11_judge_82 rfl (lv_at hl 1 rfl) ?_
      refine lv_iconst (v := 1) hx hb dX11_judge_83 (by decide) ?_
      refine lv_iadd hx hb dX11_judge_84 ?_
      obtain ⟨rfl, rfl⟩ := re_s h
      exact rti_ X I dX11_judge_85
set_option maxRecDepth 100000 in
theorem kC_judge_56L {p : Program} {l : Launch} {e : Env} {s : State} {m : MethodId} {args : Array Value} {below : List Frame} {meth : Method} {c : Code} {D : va_G} {cy : Nat → ClassId} {a gs : Nat → Nat} (X : cx_ cX11_judge RX11 wsX11_judge 5 (some .int) 59 a D cy (xfC gs) p s m args meth c) {k25 : Sg → Int32 → Option (Int32 × Sg)} {r0 : Int32} {σ' : Sg} (hk25 : ∀ (σ : Sg) (x3 : Int32) (H : Heap) (locs : List Loc) (ls : Array Slot), k25 σ x3 = some (r0, σ') → iv_ 59 a D (shC cy a σ) s H locs → lv_has ls 5 [(0, .ref (a 0)), (3, .int x3)] → W p l e ({ frames := 4, cells := 0, slots := 0, locals := 92 }) s m args below meth c H locs 0 0 (MQ below (qg_ 59 a D (shC cy a σ') (some (.int r0)) s.heap.size) args s 0 0 (fr_ 59 a s.heap.size)) (F0 m 25 ls [])) : ∀ (n : Nat), ∀ (σ : Sg) (x3 : Int32) (x4 : Int32) (H : Heap) (locs : List Loc) (ls : Array Slot), lp_ (C_judge_56 k25) (fun _ _ _ => none) n σ x3 x4 = some (r0, σ') → iv_ 59 a D (shC cy a σ) s H locs → lv_has ls 5 [(0, .ref (a 0)), (3, .int x3), (4, .int x4)] → W p l e ({ frames := 4, cells := 0, slots := 0, locals := 92 }) s m args below meth c H locs 0 0 (MQ below (qg_ 59 a D (shC cy a σ') (some (.int r0)) s.heap.size) args s 0 0 (fr_ 59 a s.heap.size)) (F0 m 56 ls []) := by
  intro n
  induction n with
  | zero =>
    intro _ _ _ _ _ _ h
    exact absurd h (fun q => by cases (show (none : Option _) = some _ from q))
  | succ n ih => exact kC_judge_56 X hk25 ih

def C_judge_25 (k25 : Sg → Int32 → Option (Int32 × Sg)) (σ : Sg) (x3 : Int32) : Option (Int32 × Sg) :=
  if (rd_ σ 0 10) ≤ x3 then (some ((0 : Int32), σ))
  else (bi_ (C1_passYearOf_0 σ 24 ((rd_ σ 1 4) + x3)) fun _ σ_3 =>
  lp_ (C_judge_56 k25) (fun _ _ _ => none) FU σ_3 x3 (0 : Int32))
set_option maxRecDepth 100000 in
theorem kC_judge_25 {p : Program} {l : Launch} {e : Env} {s : State} {m : MethodId} {args : Array Value} {below : List Frame} {meth : Method} {c : Code} {D : va_G} {cy : Nat → ClassId} {a gs : Nat → Nat} (X : cx_ cX11_judge RX11 wsX11_judge 5 (some .int) 59 a D cy (xfC gs) p s m args meth c) {k25 : Sg → Int32 → Option (Int32 × Sg)} {r0 : Int32} {σ' : Sg} (hk25 : ∀ (σ : Sg) (x3 : Int32) (H : Heap) (locs : List Loc) (ls : Array Slot), k25 σ x3 = some (r0, σ') → iv_ 59 a D (shC cy a σ) s H locs → lv_has ls 5 [(0, .ref (a 0)), (3, .int x3)] → W p l e ({ frames := 4, cells := 0, slots := 0, locals := 92 }) s m args below meth c H locs 0 0 (MQ below (qg_ 59 a D (shC cy a σ') (some (.int r0)) s.heap.size) args s 0 0 (fr_ 59 a s.heap.size)) (F0 m 25 ls [])) : ∀ (σ : Sg) (x3 : Int32) (H : Heap) (locs : List Loc) (ls : Array Slot), C_judge_25 k25 σ x3 = some (r0, σ') → iv_ 59 a D (shC cy a σ) s H locs → lv_has ls 5 [(0, .ref (a 0)), (3, .int x3)] → W p l e ({ frames := 4, cells := 0, slots := 0, locals := 92 }) s m args below meth c H locs 0 0 (MQ below (qg_ 59 a D (shC cy a σ') (some (.int r0)) s.heap.size) args s 0 0 (fr_ 59 a s.heap.size)) (F0 m 25 ls []) := by
  obtain ⟨hx, hb, hr, hml, hown, hts, hlk, hK, hA, hXf⟩ := id X
  intro σ x3 H locs ls h I hl
  unfold C_judge_25 at h
  refine lv_iload_n hx hb dX11_judge_25 rfl (lv_at hl 1 rfl) ?_
  refine lv_aload_n hx hb dX11_judge_26 rfl (lv_at hl 0 rfl) ?_
  refine ig_ (index := 102) X I (fun _ q => List.mem_cons_of_mem _ (List.mem_append_left _ (List.mem_append_left _ (List.mem_append_right _ q)))) 0 (by decide) shC_0 rfl 10 (by decide) (by decide +kernel) rfl (v := .int (rd_ σ 0 10)) rfl dX11_judge_27 ?_
  refine lv_icmp_ge (tgt := 98) hx hb dX11_judge_30 (by decide) (fun c_1 => ?_) (fun c_1 => ?_)
  · have h := if_t h c_1
    refine lv_iconst (v := 0) hx hb dX11_judge_98 (by decide) ?_
    obtain ⟨rfl, rfl⟩ := re_s h
    exact rti_ X I dX11_judge_99
  · have h := if_f h c_1
    refine lv_aload_n hx hb dX11_judge_33 rfl (lv_at hl 0 rfl) ?_
    refine ig_ (index := 30) X I (fun _ q => List.mem_cons_of_mem _ (List.mem_append_left _ (List.mem_append_left _ (List.mem_append_right _ q)))) 0 (by decide) shC_0 rfl 0 (by decide) (by decide +kernel) rfl (v := .ref (a 1)) rfl dX11_judge_34 ?_
    refine lv_aload_n hx hb dX11_judge_37 rfl (lv_at hl 0 rfl) ?_
    refine ig_ (index := 45) X I (fun _ q => List.mem_cons_of_mem _ (List.mem_append_left _ (List.mem_append_left _ (List.mem_append_right _ q)))) 0 (by decide) shC_0 rfl 3 (by decide) (by decide +kernel) rfl (v := .ref (a (34 + 24))) rfl dX11_judge_38 ?_
    refine lv_aload_n hx hb dX11_judge_41 rfl (lv_at hl 0 rfl) ?_
    refine ig_ (index := 30) X I (fun _ q => List.mem_cons_of_mem _ (List.mem_append_left _ (List.mem_append_left _ (List.mem_append_right _ q)))) 0 (by decide) shC_0 rfl 0 (by decide) (by decide +kernel) rfl (v := .ref (a 1)) rfl dX11_judge_42 ?_
    refine ig_ (index := 188) X I (fun _ q => List.mem_cons_of_mem _ (List.mem_append_left _ (List.mem_append_right _ q))) 1 (by decide) shC_1 rfl 4 (by decide) (by decide +kernel) rfl (v := .int (rd_ σ 1 4)) rfl dX11_judge_45 ?_
    refine lv_iload_n hx hb dX11_judge_48 rfl (lv_at hl 1 rfl) ?_
    refine lv_iadd hx hb dX11_judge_49 ?_
    obtain ⟨_, σ_3, hc_2, h⟩ := bi_of h
    refine cv_ (rV_ (nn := 2) (As := [.ref (a (34 + 24)), .int ((rd_ σ 1 4) + x3)]) (rest := []) X xkC I (c_C1_passYearOf hc_2 H.size) gX11_judge_X1_passYearOf rfl ⟨rfl, rfl⟩ (by decide +kernel) ⟨Nat.le_of_ble_eq_true rfl, Nat.le_of_ble_eq_true rfl⟩ (by decide) shC_1 rfl rfl hl.1 rfl (Nat.le_of_ble_eq_true rfl) dX11_judge_50) I (fun H locs I => ?_)
    refine lv_iconst (v := 0) hx hb dX11_judge_53 (by decide) ?_
    refine lv_istore (lv' := [(4, .int (0 : Int32)), (0, .ref (a 0)), (3, .int x3)]) hx hb dX11_judge_54 hl (by decide) rfl (fun ls hl => ?_)
    exact kC_judge_56L X hk25 FU σ_3 x3 (0 : Int32) H locs ls h I (lv_sub hl [1, 2, 0] rfl)
set_option maxRecDepth 100000 in
theorem kC_judge_25L {p : Program} {l : Launch} {e : Env} {s : State} {m : MethodId} {args : Array Value} {below : List Frame} {meth : Method} {c : Code} {D : va_G} {cy : Nat → ClassId} {a gs : Nat → Nat} (X : cx_ cX11_judge RX11 wsX11_judge 5 (some .int) 59 a D cy (xfC gs) p s m args meth c)  {r0 : Int32} {σ' : Sg}  : ∀ (n : Nat), ∀ (σ : Sg) (x3 : Int32) (H : Heap) (locs : List Loc) (ls : Array Slot), lp_ (C_judge_25) (fun _ _ => none) n σ x3 = some (r0, σ') → iv_ 59 a D (shC cy a σ) s H locs → lv_has ls 5 [(0, .ref (a 0)), (3, .int x3)] → W p l e ({ frames := 4, cells := 0, slots := 0, locals := 92 }) s m args below meth c H locs 0 0 (MQ below (qg_ 59 a D (shC cy a σ') (some (.int r0)) s.heap.size) args s 0 0 (fr_ 59 a s.heap.size)) (F0 m 25 ls []) := by
  intro n
  induction n with
  | zero =>
    intro _ _ _ _ _ h
    exact absurd h (fun q => by cases (show (none : Option _) = some _ from q))
  | succ n ih => exact kC_judge_25 X ih

def C_judge_0  (σ : Sg) (x1 : Int32) : Option (Int32 × Sg) :=
  bi_ (C1_life_0 σ x1) fun r_3 σ_2 =>
  on_ r_3 (some ((-1 : Int32), σ_2)) fun j_4 =>
  bi_ (C6_become_0 σ_2 24 j_4) fun _ σ_6 =>
  lp_ C_judge_25 (fun _ _ => none) FU σ_6 (0 : Int32)
set_option maxRecDepth 100000 in
theorem kC_judge_0 {p : Program} {l : Launch} {e : Env} {s : State} {m : MethodId} {args : Array Value} {below : List Frame} {meth : Method} {c : Code} {D : va_G} {cy : Nat → ClassId} {a gs : Nat → Nat} (X : cx_ cX11_judge RX11 wsX11_judge 5 (some .int) 59 a D cy (xfC gs) p s m args meth c)  {r0 : Int32} {σ' : Sg}  : ∀ (σ : Sg) (x1 : Int32) (H : Heap) (locs : List Loc) (ls : Array Slot), C_judge_0 σ x1 = some (r0, σ') → iv_ 59 a D (shC cy a σ) s H locs → lv_has ls 5 [(0, .ref (a 0)), (1, .int x1)] → W p l e ({ frames := 4, cells := 0, slots := 0, locals := 92 }) s m args below meth c H locs 0 0 (MQ below (qg_ 59 a D (shC cy a σ') (some (.int r0)) s.heap.size) args s 0 0 (fr_ 59 a s.heap.size)) (F0 m 0 ls []) := by
  obtain ⟨hx, hb, hr, hml, hown, hts, hlk, hK, hA, hXf⟩ := id X
  intro σ x1 H locs ls h I hl
  unfold C_judge_0 at h
  refine lv_aload_n hx hb dX11_judge_0 rfl (lv_at hl 0 rfl) ?_
  refine ig_ (index := 30) X I (fun _ q => List.mem_cons_of_mem _ (List.mem_append_left _ (List.mem_append_left _ (List.mem_append_right _ q)))) 0 (by decide) shC_0 rfl 0 (by decide) (by decide +kernel) rfl (v := .ref (a 1)) rfl dX11_judge_1 ?_
  refine lv_iload_n hx hb dX11_judge_4 rfl (lv_at hl 1 rfl) ?_
  obtain ⟨r_3, σ_2, hc_1, h⟩ := bi_of h
  refine cg_ (v := va_re (fun j => a (34 + j)) r_3) (rV_ (nn := 1) (As := [.int x1]) (rest := []) X xkC I (c_C1_life hc_1 H.size) gX11_judge_X1_life rfl ⟨rfl, rfl⟩ (by decide +kernel) ⟨Nat.le_of_ble_eq_true rfl, Nat.le_of_ble_eq_true rfl⟩ (by decide) shC_1 rfl rfl hl.1 rfl (Nat.le_of_ble_eq_true rfl) dX11_judge_5) I (fun H locs I => ?_)
  rcases r_3 with _ | j_4
  · have h := on_n h
    refine W.eq (g2 := F0 m 8 ls [.null]) rfl ?_
    refine lv_astore_nN (lv' := [(2, .null), (0, .ref (a 0)), (1, .int x1)]) hx hb dX11_judge_8 rfl hl (by decide) rfl (fun ls hl => ?_)
    refine lv_aload_nN hx hb dX11_judge_9 rfl (lv_at hl 0 rfl) ?_
    refine lv_ifnonnullN hx hb dX11_judge_10 ?_
    refine lv_iconst (v := (-1)) hx hb dX11_judge_13 (by decide) ?_
    obtain ⟨rfl, rfl⟩ := re_s h
    exact rti_ X I dX11_judge_14
  · have h := on_s h
    refine W.eq (g2 := F0 m 8 ls [.ref (a (34 + j_4))]) rfl ?_
    refine lv_astore_n (lv' := [(2, .ref (a (34 + j_4))), (0, .ref (a 0)), (1, .int x1)]) hx hb dX11_judge_8 rfl hl (by decide) rfl (fun ls hl => ?_)
    refine lv_aload_n hx hb dX11_judge_9 rfl (lv_at hl 0 rfl) ?_
    refine lv_ifnonnull (tgt := 15) hx hb dX11_judge_10 (by decide) ?_
    refine lv_aload_n hx hb dX11_judge_15 rfl (lv_at hl 1 rfl) ?_
    refine ig_ (index := 45) X I (fun _ q => List.mem_cons_of_mem _ (List.mem_append_left _ (List.mem_append_left _ (List.mem_append_right _ q)))) 0 (by decide) shC_0 rfl 3 (by decide) (by decide +kernel) rfl (v := .ref (a (34 + 24))) rfl dX11_judge_16 ?_
    refine lv_aload_n hx hb dX11_judge_19 rfl (lv_at hl 0 rfl) ?_
    obtain ⟨_, σ_6, hc_5, h⟩ := bi_of h
    refine cv_ (rV_ (nn := 1) (As := [.ref (a (34 + j_4))]) (rest := []) X xkC I (c_C6_become hc_5 H.size) gX11_judge_X6_become rfl ⟨rfl, rfl⟩ (by decide +kernel) ⟨Nat.le_of_ble_eq_true rfl, Nat.le_of_ble_eq_true rfl⟩ (by decide) shC_L rfl rfl hl.1 rfl (Nat.le_of_ble_eq_true rfl) dX11_judge_20) I (fun H locs I => ?_)
    refine lv_iconst (v := 0) hx hb dX11_judge_23 (by decide) ?_
    refine lv_istore_n (lv' := [(3, .int (0 : Int32)), (2, .ref (a (34 + j_4))), (0, .ref (a 0)), (1, .int x1)]) hx hb dX11_judge_24 rfl hl (by decide) rfl (fun ls hl => ?_)
    exact kC_judge_25L X  FU σ_6 (0 : Int32) H locs ls h I (lv_sub hl [2, 0] rfl)
theorem c_C_judge {l : Launch} {D : va_G} {cy : Nat → ClassId} {a gs : Nat → Nat} {σ : Sg} {x1 : Int32} {r0 : Int32} {σ' : Sg} (h : C_judge_0 σ x1 = some (r0, σ')) (sz : Nat) : Met l yX11_judge wsX11_judge ({ frames := 4, cells := 0, slots := 0, locals := 92 }) (va_Pc [.ref (a 0), .int x1] (pr_ 59 a D cy (shC cy a σ) (xfC gs) sz)) (qg_ 59 a D (shC cy a σ') (some (.int r0)) sz) 0 0 (fr_ 59 a sz) := by
  refine ent_ (by decide) rfl (Nat.le_of_ble_eq_true rfl) ?_
  intro p e s m below meth c ls hsz X I hl
  subst hsz
  exact kC_judge_0 X σ x1 s.heap [] ls h I hl

def C_minds_158 (k112 : Sg → Int32 → Int32 → Int32 → Int32 → Int32 → Option (Int32 × Sg)) (σ : Sg) (x1 : Int32) (x2 : Int32) (x3 : Int32) (x4 : Int32) (x6 : Int32) : Option (Int32 × Sg) :=
  lt_ (x6 + (1 : Int32)) fun y_1 =>
  k112 σ x1 x2 x3 x4 y_1
set_option maxRecDepth 100000 in
theorem kC_minds_158 {p : Program} {l : Launch} {e : Env} {s : State} {m : MethodId} {args : Array Value} {below : List Frame} {meth : Method} {c : Code} {D : va_G} {cy : Nat → ClassId} {a gs : Nat → Nat} (X : cx_ cX11_minds RX11 wsX11_minds 8 (some .int) 59 a D cy (xfC gs) p s m args meth c) {k112 : Sg → Int32 → Int32 → Int32 → Int32 → Int32 → Option (Int32 × Sg)} {r0 : Int32} {σ' : Sg} (hk112 : ∀ (σ : Sg) (x1 : Int32) (x2 : Int32) (x3 : Int32) (x4 : Int32) (x6 : Int32) (H : Heap) (locs : List Loc) (ls : Array Slot), k112 σ x1 x2 x3 x4 x6 = some (r0, σ') → iv_ 59 a D (shC cy a σ) s H locs → lv_has ls 8 [(0, .ref (a 0)), (1, .int x1), (2, .int x2), (3, .int x3), (4, .int x4), (6, .int x6)] → W p l e ({ frames := 4, cells := 0, slots := 0, locals := 86 }) s m args below meth c H locs 0 0 (MQ below (qg_ 59 a D (shC cy a σ') (some (.int r0)) s.heap.size) args s 0 0 (fr_ 59 a s.heap.size)) (F0 m 112 ls [])) : ∀ (σ : Sg) (x1 : Int32) (x2 : Int32) (x3 : Int32) (x4 : Int32) (x6 : Int32) (H : Heap) (locs : List Loc) (ls : Array Slot), C_minds_158 k112 σ x1 x2 x3 x4 x6 = some (r0, σ') → iv_ 59 a D (shC cy a σ) s H locs → lv_has ls 8 [(0, .ref (a 0)), (1, .int x1), (2, .int x2), (3, .int x3), (4, .int x4), (6, .int x6)] → W p l e ({ frames := 4, cells := 0, slots := 0, locals := 86 }) s m args below meth c H locs 0 0 (MQ below (qg_ 59 a D (shC cy a σ') (some (.int r0)) s.heap.size) args s 0 0 (fr_ 59 a s.heap.size)) (F0 m 158 ls []) := by
  obtain ⟨hx, hb, hr, hml, hown, hts, hlk, hK, hA, hXf⟩ := id X
  intro σ x1 x2 x3 x4 x6 H locs ls h I hl
  unfold C_minds_158 at h
  obtain ⟨y_1, e_2⟩ : ∃ q : Int32, q = x6 + (1 : Int32) := ⟨_, rfl⟩
  have h := lt_at h e_2
  refine lv_iinc (v := y_1) (lv' := [(6, .int y_1), (0, .ref (a 0)), (1, .int x1), (2, .int x2), (3, .int x3), (4, .int x4)]) hx hb dX11_minds_158 hl (k := 5) rfl (by rw [e_2]; rfl) (by decide) rfl (fun ls hl => ?_)
  refine lv_goto (tgt := 112) hx hb dX11_minds_161 (by decide) ?_
  exact hk112 σ x1 x2 x3 x4 y_1 H locs ls h I (lv_sub hl [1, 2, 3, 4, 5, 0] rfl)
def C_minds_112 (k112 : Sg → Int32 → Int32 → Int32 → Int32 → Int32 → Option (Int32 × Sg)) (σ : Sg) (x1 : Int32) (x2 : Int32) (x3 : Int32) (x4 : Int32) (x6 : Int32) : Option (Int32 × Sg) :=
  if x4 ≤ x6 then (some (x4, σ))
  else (bi_ (C1_life_0 σ (x3 + x6)) fun r_4 σ_3 =>
  on_ r_4 (C_minds_158 k112 σ_3 x1 x2 x3 x4 x6) fun j_5 =>
  bi_ (C2_itemAt_0 σ_3 x1 (x2 + x6)) fun r_8 σ_7 =>
  bp_ (C_held_0 r_8.toInt32) fun r_10 =>
  gd_ (lf_ j_5 25) (
  lt_ (wr_ σ_7 (34 + j_5) 1 r_10) fun σ_12 =>
  C_minds_158 k112 σ_12 x1 x2 x3 x4 x6))
set_option maxRecDepth 100000 in
theorem kC_minds_112 {p : Program} {l : Launch} {e : Env} {s : State} {m : MethodId} {args : Array Value} {below : List Frame} {meth : Method} {c : Code} {D : va_G} {cy : Nat → ClassId} {a gs : Nat → Nat} (X : cx_ cX11_minds RX11 wsX11_minds 8 (some .int) 59 a D cy (xfC gs) p s m args meth c) {k112 : Sg → Int32 → Int32 → Int32 → Int32 → Int32 → Option (Int32 × Sg)} {r0 : Int32} {σ' : Sg} (hk112 : ∀ (σ : Sg) (x1 : Int32) (x2 : Int32) (x3 : Int32) (x4 : Int32) (x6 : Int32) (H : Heap) (locs : List Loc) (ls : Array Slot), k112 σ x1 x2 x3 x4 x6 = some (r0, σ') → iv_ 59 a D (shC cy a σ) s H locs → lv_has ls 8 [(0, .ref (a 0)), (1, .int x1), (2, .int x2), (3, .int x3), (4, .int x4), (6, .int x6)] → W p l e ({ frames := 4, cells := 0, slots := 0, locals := 86 }) s m args below meth c H locs 0 0 (MQ below (qg_ 59 a D (shC cy a σ') (some (.int r0)) s.heap.size) args s 0 0 (fr_ 59 a s.heap.size)) (F0 m 112 ls [])) : ∀ (σ : Sg) (x1 : Int32) (x2 : Int32) (x3 : Int32) (x4 : Int32) (x6 : Int32) (H : Heap) (locs : List Loc) (ls : Array Slot), C_minds_112 k112 σ x1 x2 x3 x4 x6 = some (r0, σ') → iv_ 59 a D (shC cy a σ) s H locs → lv_has ls 8 [(0, .ref (a 0)), (1, .int x1), (2, .int x2), (3, .int x3), (4, .int x4), (6, .int x6)] → W p l e ({ frames := 4, cells := 0, slots := 0, locals := 86 }) s m args below meth c H locs 0 0 (MQ below (qg_ 59 a D (shC cy a σ') (some (.int r0)) s.heap.size) args s 0 0 (fr_ 59 a s.heap.size)) (F0 m 112 ls []) := by
  obtain ⟨hx, hb, hr, hml, hown, hts, hlk, hK, hA, hXf⟩ := id X
  intro σ x1 x2 x3 x4 x6 H locs ls h I hl
  unfold C_minds_112 at h
  refine lv_iload hx hb dX11_minds_112 (lv_at hl 5 rfl) ?_
  refine lv_iload hx hb dX11_minds_114 (lv_at hl 4 rfl) ?_
  refine lv_icmp_ge (tgt := 164) hx hb dX11_minds_116 (by decide) (fun c_1 => ?_) (fun c_1 => ?_)
  · have h := if_t h c_1
    refine lv_iload hx hb dX11_minds_164 (lv_at hl 4 rfl) ?_
    obtain ⟨rfl, rfl⟩ := re_s h
    exact rti_ X I dX11_minds_166
  · have h := if_f h c_1
    refine lv_aload_n hx hb dX11_minds_119 rfl (lv_at hl 0 rfl) ?_
    refine ig_ (index := 30) X I (fun _ q => List.mem_cons_of_mem _ (List.mem_append_left _ (List.mem_append_left _ (List.mem_append_left _ (List.mem_append_right _ q))))) 0 (by decide) shC_0 rfl 0 (by decide) (by decide +kernel) rfl (v := .ref (a 1)) rfl dX11_minds_120 ?_
    refine lv_iload_n hx hb dX11_minds_123 rfl (lv_at hl 3 rfl) ?_
    refine lv_iload hx hb dX11_minds_124 (lv_at hl 5 rfl) ?_
    refine lv_iadd hx hb dX11_minds_126 ?_
    obtain ⟨r_4, σ_3, hc_2, h⟩ := bi_of h
    refine cg_ (v := va_re (fun j => a (34 + j)) r_4) (rV_ (nn := 1) (As := [.int (x3 + x6)]) (rest := []) X xkC I (c_C1_life hc_2 H.size) gX11_minds_X1_life rfl ⟨rfl, rfl⟩ (by decide +kernel) ⟨Nat.le_of_ble_eq_true rfl, Nat.le_of_ble_eq_true rfl⟩ (by decide) shC_1 rfl rfl hl.1 rfl (Nat.le_of_ble_eq_true rfl) dX11_minds_127) I (fun H locs I => ?_)
    rcases r_4 with _ | j_5
    · have h := on_n h
      refine W.eq (g2 := F0 m 130 ls [.null]) rfl ?_
      refine lv_astoreN (lv' := [(7, .null), (0, .ref (a 0)), (1, .int x1), (2, .int x2), (3, .int x3), (4, .int x4), (6, .int x6)]) hx hb dX11_minds_130 hl (by decide) rfl (fun ls hl => ?_)
      refine lv_aloadN hx hb dX11_minds_132 (lv_at hl 0 rfl) ?_
      refine lv_ifnullN (tgt := 158) hx hb dX11_minds_134 (by decide) ?_
      exact kC_minds_158 X hk112 σ_3 x1 x2 x3 x4 x6 H locs ls h I (lv_sub hl [1, 2, 3, 4, 5, 6] rfl)
    · have h := on_s h
      refine W.eq (g2 := F0 m 130 ls [.ref (a (34 + j_5))]) rfl ?_
      refine lv_astore (lv' := [(7, .ref (a (34 + j_5))), (0, .ref (a 0)), (1, .int x1), (2, .int x2), (3, .int x3), (4, .int x4), (6, .int x6)]) hx hb dX11_minds_130 hl (by decide) rfl (fun ls hl => ?_)
      refine lv_aload hx hb dX11_minds_132 (lv_at hl 0 rfl) ?_
      refine lv_ifnull hx hb dX11_minds_134 ?_
      refine lv_aload hx hb dX11_minds_137 (lv_at hl 0 rfl) ?_
      refine lv_aload_n hx hb dX11_minds_139 rfl (lv_at hl 1 rfl) ?_
      refine ig_ (index := 59) X I (fun _ q => List.mem_cons_of_mem _ (List.mem_append_left _ (List.mem_append_left _ (List.mem_append_left _ (List.mem_append_right _ q))))) 0 (by decide) shC_0 rfl 5 (by decide) (by decide +kernel) rfl (v := .ref (a 22)) rfl dX11_minds_140 ?_
      refine lv_iload_n hx hb dX11_minds_143 rfl (lv_at hl 2 rfl) ?_
      refine lv_iload_n hx hb dX11_minds_144 rfl (lv_at hl 3 rfl) ?_
      refine lv_iload hx hb dX11_minds_145 (lv_at hl 6 rfl) ?_
      refine lv_iadd hx hb dX11_minds_147 ?_
      obtain ⟨r_8, σ_7, hc_6, h⟩ := bi_of h
      refine cg_ (v := .long r_8) (rV_ (nn := 2) (As := [.int x1, .int (x2 + x6)]) (rest := [.ref (a (34 + j_5))]) X xkC I (c_C2_itemAt hc_6 H.size) gX11_minds_X2_itemAt rfl ⟨rfl, rfl⟩ (by decide +kernel) ⟨Nat.le_of_ble_eq_true rfl, Nat.le_of_ble_eq_true rfl⟩ (by decide) shC_22 rfl rfl hl.1 rfl (Nat.le_of_ble_eq_true rfl) dX11_minds_148) I (fun H locs I => ?_)
      refine lv_l2i hx hb dX11_minds_151 rfl ?_
      obtain ⟨r_10, hc_9, h⟩ := bp_of h
      refine cp_ (rP_ (nn := 1) (As := [.int r_8.toInt32]) (rest := [.ref (a (34 + j_5))]) ⟨hx, hb, hml, hown, hts⟩ (c_C_held hc_9) gX11_minds_X11_held rfl ⟨rfl, rfl⟩ (by decide +kernel) ⟨Nat.le_of_ble_eq_true rfl, Nat.le_of_ble_eq_true rfl⟩ rfl hl.1 rfl (Nat.le_of_ble_eq_true rfl) dX11_minds_152 ⟨Nat.zero_le _, Nat.zero_le _⟩) ?_
      obtain ⟨g_11, h⟩ := gd_of h
      refine ip_ (index := 200) (ty := .int) X I (fun _ q => List.mem_cons_of_mem _ (List.mem_append_left _ (List.mem_append_right _ q))) tyX6 tyX6_ok nmX6 (34 + j_5) (lf59 g_11) shC_L rfl 1 (by decide) (by decide +kernel) rfl rfl (by decide +kernel) rfl rfl (Nat.le_of_ble_eq_true rfl) shC_pl_1 dX11_minds_155 (fun σ_12 H locs e_13 I => ?_)
      have h := lt_at h e_13
      exact kC_minds_158 X hk112 σ_12 x1 x2 x3 x4 x6 H locs ls h I (lv_sub hl [1, 2, 3, 4, 5, 6] rfl)
set_option maxRecDepth 100000 in
theorem kC_minds_112L {p : Program} {l : Launch} {e : Env} {s : State} {m : MethodId} {args : Array Value} {below : List Frame} {meth : Method} {c : Code} {D : va_G} {cy : Nat → ClassId} {a gs : Nat → Nat} (X : cx_ cX11_minds RX11 wsX11_minds 8 (some .int) 59 a D cy (xfC gs) p s m args meth c)  {r0 : Int32} {σ' : Sg}  : ∀ (n : Nat), ∀ (σ : Sg) (x1 : Int32) (x2 : Int32) (x3 : Int32) (x4 : Int32) (x6 : Int32) (H : Heap) (locs : List Loc) (ls : Array Slot), lp_ (C_minds_112) (fun _ _ _ _ _ _ => none) n σ x1 x2 x3 x4 x6 = some (r0, σ') → iv_ 59 a D (shC cy a σ) s H locs → lv_has ls 8 [(0, .ref (a 0)), (1, .int x1), (2, .int x2), (3, .int x3), (4, .int x4), (6, .int x6)] → W p l e ({ frames := 4, cells := 0, slots := 0, locals := 86 }) s m args below meth c H locs 0 0 (MQ below (qg_ 59 a D (shC cy a σ') (some (.int r0)) s.heap.size) args s 0 0 (fr_ 59 a s.heap.size)) (F0 m 112 ls []) := by
  intro n
  induction n with
  | zero =>
    intro _ _ _ _ _ _ _ _ _ h
    exact absurd h (fun q => by cases (show (none : Option _) = some _ from q))
  | succ n ih => exact kC_minds_112 X ih

def C_minds_0  (σ : Sg) (x1 : Int32) (x2 : Int32) (x3 : Int32) (x4 : Int32) : Option (Int32 × Sg) :=
  bi_ (C2_isSheet_0 σ x1) fun r_3 σ_2 =>
  if r_3 = 0 then (some ((-1 : Int32), σ_2))
  else (bi_ (C1_life_0 σ_2 x3) fun r_7 σ_6 =>
  on_ r_7 (some ((-1 : Int32), σ_6)) fun j_8 =>
  bp_ (C_within_0 x4 (8 : Int32)) fun r_10 =>
  if r_10 = 0 then (some ((-1 : Int32), σ_6))
  else (if (x3 + x4) ≤ (rd_ σ_6 1 3) then (bi_ (C2_isMissing_0 σ_6 x1) fun r_15 σ_14 =>
  if r_15 = 0 then (bi_ (C2_sortOf_0 σ_14 x1) fun r_19 σ_18 =>
  if r_19 = 0 then (bi_ (C2_sizeOf_0 σ_18 x1) fun r_23 σ_22 =>
  bp_ (C_within_0 x2 r_23) fun r_25 =>
  if r_25 = 0 then (some ((-12 : Int32), σ_22))
  else (if x4 ≤ (r_23 - x2) then (lp_ C_minds_112 (fun _ _ _ _ _ _ => none) FU σ_22 x1 x2 x3 x4 (0 : Int32))
  else (some ((-12 : Int32), σ_22))))
  else (some ((-13 : Int32), σ_18)))
  else (some ((-11 : Int32), σ_14)))
  else (some ((-1 : Int32), σ_6))))
set_option maxRecDepth 100000 in
theorem kC_minds_0 {p : Program} {l : Launch} {e : Env} {s : State} {m : MethodId} {args : Array Value} {below : List Frame} {meth : Method} {c : Code} {D : va_G} {cy : Nat → ClassId} {a gs : Nat → Nat} (X : cx_ cX11_minds RX11 wsX11_minds 8 (some .int) 59 a D cy (xfC gs) p s m args meth c)  {r0 : Int32} {σ' : Sg}  : ∀ (σ : Sg) (x1 : Int32) (x2 : Int32) (x3 : Int32) (x4 : Int32) (H : Heap) (locs : List Loc) (ls : Array Slot), C_minds_0 σ x1 x2 x3 x4 = some (r0, σ') → iv_ 59 a D (shC cy a σ) s H locs → lv_has ls 8 [(0, .ref (a 0)), (1, .int x1), (2, .int x2), (3, .int x3), (4, .int x4)] → W p l e ({ frames := 4, cells := 0, slots := 0, locals := 86 }) s m args below meth c H locs 0 0 (MQ below (qg_ 59 a D (shC cy a σ') (some (.int r0)) s.heap.size) args s 0 0 (fr_ 59 a s.heap.size)) (F0 m 0 ls []) := by
  obtain ⟨hx, hb, hr, hml, hown, hts, hlk, hK, hA, hXf⟩ := id X
  intro σ x1 x2 x3 x4 H locs ls h I hl
  unfold C_minds_0 at h
  refine lv_aload_n hx hb dX11_minds_0 rfl (lv_at hl 0 rfl) ?_
  refine ig_ (index := 59) X I (fun _ q => List.mem_cons_of_mem _ (List.mem_append_left _ (List.mem_append_left _ (List.mem_append_left _ (List.mem_append_right _ q))))) 0 (by decide) shC_0 rfl 5 (by decide) (by decide +kernel) rfl (v := .ref (a 22)) rfl dX11_minds_1 ?_
  refine lv_iload_n hx hb dX11_minds_4 rfl (lv_at hl 1 rfl) ?_
  obtain ⟨r_3, σ_2, hc_1, h⟩ := bi_of h
  refine cg_ (v := .int r_3) (rV_ (nn := 1) (As := [.int x1]) (rest := []) X xkC I (c_C2_isSheet hc_1 H.size) gX11_minds_X2_isSheet rfl ⟨rfl, rfl⟩ (by decide +kernel) ⟨Nat.le_of_ble_eq_true rfl, Nat.le_of_ble_eq_true rfl⟩ (by decide) shC_22 rfl rfl hl.1 rfl (Nat.le_of_ble_eq_true rfl) dX11_minds_5) I (fun H locs I => ?_)
  refine lv_if_eq (tgt := 32) hx hb dX11_minds_8 (by decide) (fun c_4 => ?_) (fun c_4 => ?_)
  · have h := if_t h c_4
    refine lv_iconst (v := (-1)) hx hb dX11_minds_32 (by decide) ?_
    obtain ⟨rfl, rfl⟩ := re_s h
    exact rti_ X I dX11_minds_33
  · have h := if_f h c_4
    refine lv_aload_n hx hb dX11_minds_11 rfl (lv_at hl 0 rfl) ?_
    refine ig_ (index := 30) X I (fun _ q => List.mem_cons_of_mem _ (List.mem_append_left _ (List.mem_append_left _ (List.mem_append_left _ (List.mem_append_right _ q))))) 0 (by decide) shC_0 rfl 0 (by decide) (by decide +kernel) rfl (v := .ref (a 1)) rfl dX11_minds_12 ?_
    refine lv_iload_n hx hb dX11_minds_15 rfl (lv_at hl 3 rfl) ?_
    obtain ⟨r_7, σ_6, hc_5, h⟩ := bi_of h
    refine cg_ (v := va_re (fun j => a (34 + j)) r_7) (rV_ (nn := 1) (As := [.int x3]) (rest := []) X xkC I (c_C1_life hc_5 H.size) gX11_minds_X1_life rfl ⟨rfl, rfl⟩ (by decide +kernel) ⟨Nat.le_of_ble_eq_true rfl, Nat.le_of_ble_eq_true rfl⟩ (by decide) shC_1 rfl rfl hl.1 rfl (Nat.le_of_ble_eq_true rfl) dX11_minds_16) I (fun H locs I => ?_)
    rcases r_7 with _ | j_8
    · have h := on_n h
      refine W.eq (g2 := F0 m 19 ls [.null]) rfl ?_
      refine lv_ifnullN (tgt := 32) hx hb dX11_minds_19 (by decide) ?_
      refine lv_iconst (v := (-1)) hx hb dX11_minds_32 (by decide) ?_
      obtain ⟨rfl, rfl⟩ := re_s h
      exact rti_ X I dX11_minds_33
    · have h := on_s h
      refine W.eq (g2 := F0 m 19 ls [.ref (a (34 + j_8))]) rfl ?_
      refine lv_ifnull hx hb dX11_minds_19 ?_
      refine lv_iload hx hb dX11_minds_22 (lv_at hl 4 rfl) ?_
      refine lv_bipush (v := 8) hx hb dX11_minds_24 (by decide) ?_
      obtain ⟨r_10, hc_9, h⟩ := bp_of h
      refine cp_ (rP_ (nn := 2) (As := [.int x4, .int (8 : Int32)]) (rest := []) ⟨hx, hb, hml, hown, hts⟩ (c_C_within hc_9) gX11_minds_X11_within rfl ⟨rfl, rfl⟩ (by decide +kernel) ⟨Nat.le_of_ble_eq_true rfl, Nat.le_of_ble_eq_true rfl⟩ rfl hl.1 rfl (Nat.le_of_ble_eq_true rfl) dX11_minds_26 ⟨Nat.zero_le _, Nat.zero_le _⟩) ?_
      refine lv_if_ne (tgt := 34) hx hb dX11_minds_29 (by decide) (fun c_11 => ?_) (fun c_11 => ?_)
      · have h := if_f h c_11
        refine lv_iload_n hx hb dX11_minds_34 rfl (lv_at hl 3 rfl) ?_
        refine lv_iload hx hb dX11_minds_35 (lv_at hl 4 rfl) ?_
        refine lv_iadd hx hb dX11_minds_37 ?_
        refine lv_aload_n hx hb dX11_minds_38 rfl (lv_at hl 0 rfl) ?_
        refine ig_ (index := 30) X I (fun _ q => List.mem_cons_of_mem _ (List.mem_append_left _ (List.mem_append_left _ (List.mem_append_left _ (List.mem_append_right _ q))))) 0 (by decide) shC_0 rfl 0 (by decide) (by decide +kernel) rfl (v := .ref (a 1)) rfl dX11_minds_39 ?_
        refine ig_ (index := 105) X I (fun _ q => List.mem_cons_of_mem _ (List.mem_append_left _ (List.mem_append_left _ (List.mem_append_right _ q)))) 1 (by decide) shC_1 rfl 3 (by decide) (by decide +kernel) rfl (v := .int (rd_ σ_6 1 3)) rfl dX11_minds_42 ?_
        refine lv_icmp_le (tgt := 50) hx hb dX11_minds_45 (by decide) (fun c_12 => ?_) (fun c_12 => ?_)
        · have h := if_t h c_12
          refine lv_aload_n hx hb dX11_minds_50 rfl (lv_at hl 0 rfl) ?_
          refine ig_ (index := 59) X I (fun _ q => List.mem_cons_of_mem _ (List.mem_append_left _ (List.mem_append_left _ (List.mem_append_left _ (List.mem_append_right _ q))))) 0 (by decide) shC_0 rfl 5 (by decide) (by decide +kernel) rfl (v := .ref (a 22)) rfl dX11_minds_51 ?_
          refine lv_iload_n hx hb dX11_minds_54 rfl (lv_at hl 1 rfl) ?_
          obtain ⟨r_15, σ_14, hc_13, h⟩ := bi_of h
          refine cg_ (v := .int r_15) (rV_ (nn := 1) (As := [.int x1]) (rest := []) X xkC I (c_C2_isMissing hc_13 H.size) gX11_minds_X2_isMissing rfl ⟨rfl, rfl⟩ (by decide +kernel) ⟨Nat.le_of_ble_eq_true rfl, Nat.le_of_ble_eq_true rfl⟩ (by decide) shC_22 rfl rfl hl.1 rfl (Nat.le_of_ble_eq_true rfl) dX11_minds_55) I (fun H locs I => ?_)
          refine lv_if_eq (tgt := 64) hx hb dX11_minds_58 (by decide) (fun c_16 => ?_) (fun c_16 => ?_)
          · have h := if_t h c_16
            refine lv_aload_n hx hb dX11_minds_64 rfl (lv_at hl 0 rfl) ?_
            refine ig_ (index := 59) X I (fun _ q => List.mem_cons_of_mem _ (List.mem_append_left _ (List.mem_append_left _ (List.mem_append_left _ (List.mem_append_right _ q))))) 0 (by decide) shC_0 rfl 5 (by decide) (by decide +kernel) rfl (v := .ref (a 22)) rfl dX11_minds_65 ?_
            refine lv_iload_n hx hb dX11_minds_68 rfl (lv_at hl 1 rfl) ?_
            obtain ⟨r_19, σ_18, hc_17, h⟩ := bi_of h
            refine cg_ (v := .int r_19) (rV_ (nn := 1) (As := [.int x1]) (rest := []) X xkC I (c_C2_sortOf hc_17 H.size) gX11_minds_X2_sortOf rfl ⟨rfl, rfl⟩ (by decide +kernel) ⟨Nat.le_of_ble_eq_true rfl, Nat.le_of_ble_eq_true rfl⟩ (by decide) shC_22 rfl rfl hl.1 rfl (Nat.le_of_ble_eq_true rfl) dX11_minds_69) I (fun H locs I => ?_)
            refine lv_if_eq (tgt := 78) hx hb dX11_minds_72 (by decide) (fun c_20 => ?_) (fun c_20 => ?_)
            · have h := if_t h c_20
              refine lv_aload_n hx hb dX11_minds_78 rfl (lv_at hl 0 rfl) ?_
              refine ig_ (index := 59) X I (fun _ q => List.mem_cons_of_mem _ (List.mem_append_left _ (List.mem_append_left _ (List.mem_append_left _ (List.mem_append_right _ q))))) 0 (by decide) shC_0 rfl 5 (by decide) (by decide +kernel) rfl (v := .ref (a 22)) rfl dX11_minds_79 ?_
              refine lv_iload_n hx hb dX11_minds_82 rfl (lv_at hl 1 rfl) ?_
              obtain ⟨r_23, σ_22, hc_21, h⟩ := bi_of h
              refine cg_ (v := .int r_23) (rV_ (nn := 1) (As := [.int x1]) (rest := []) X xkC I (c_C2_sizeOf hc_21 H.size) gX11_minds_X2_sizeOf rfl ⟨rfl, rfl⟩ (by decide +kernel) ⟨Nat.le_of_ble_eq_true rfl, Nat.le_of_ble_eq_true rfl⟩ (by decide) shC_22 rfl rfl hl.1 rfl (Nat.le_of_ble_eq_true rfl) dX11_minds_83) I (fun H locs I => ?_)
              refine lv_istore (lv' := [(5, .int r_23), (0, .ref (a 0)), (1, .int x1), (2, .int x2), (3, .int x3), (4, .int x4)]) hx hb dX11_minds_86 hl (by decide) rfl (fun ls hl => ?_)
              refine lv_iload_n hx hb dX11_minds_88 rfl (lv_at hl 3 rfl) ?_
              refine lv_iload hx hb dX11_minds_89 (lv_at hl 0 rfl) ?_
              obtain ⟨r_25, hc_24, h⟩ := bp_of h
              refine cp_ (rP_ (nn := 2) (As := [.int x2, .int r_23]) (rest := []) ⟨hx, hb, hml, hown, hts⟩ (c_C_within hc_24) gX11_minds_X11_within rfl ⟨rfl, rfl⟩ (by decide +kernel) ⟨Nat.le_of_ble_eq_true rfl, Nat.le_of_ble_eq_true rfl⟩ rfl hl.1 rfl (Nat.le_of_ble_eq_true rfl) dX11_minds_91 ⟨Nat.zero_le _, Nat.zero_le _⟩) ?_
              refine lv_if_eq (tgt := 106) hx hb dX11_minds_94 (by decide) (fun c_26 => ?_) (fun c_26 => ?_)
              · have h := if_t h c_26
                refine lv_bipush (v := (-12)) hx hb dX11_minds_106 (by decide) ?_
                obtain ⟨rfl, rfl⟩ := re_s h
                exact rti_ X I dX11_minds_108
              · have h := if_f h c_26
                refine lv_iload hx hb dX11_minds_97 (lv_at hl 5 rfl) ?_
                refine lv_iload hx hb dX11_minds_99 (lv_at hl 0 rfl) ?_
                refine lv_iload_n hx hb dX11_minds_101 rfl (lv_at hl 3 rfl) ?_
                refine lv_isub hx hb dX11_minds_102 ?_
                refine lv_icmp_le (tgt := 109) hx hb dX11_minds_103 (by decide) (fun c_27 => ?_) (fun c_27 => ?_)
                · have h := if_t h c_27
                  refine lv_iconst (v := 0) hx hb dX11_minds_109 (by decide) ?_
                  refine lv_istore (lv' := [(6, .int (0 : Int32)), (5, .int r_23), (0, .ref (a 0)), (1, .int x1), (2, .int x2), (3, .int x3), (4, .int x4)]) hx hb dX11_minds_110 hl (by decide) rfl (fun ls hl => ?_)
                  exact kC_minds_112L X  FU σ_22 x1 x2 x3 x4 (0 : Int32) H locs ls h I (lv_sub hl [2, 3, 4, 5, 6, 0] rfl)
                · have h := if_f h c_27
                  refine lv_bipush (v := (-12)) hx hb dX11_minds_106 (by decide) ?_
                  obtain ⟨rfl, rfl⟩ := re_s h
                  exact rti_ X I dX11_minds_108
            · have h := if_f h c_20
              refine lv_bipush (v := (-13)) hx hb dX11_minds_75 (by decide) ?_
              obtain ⟨rfl, rfl⟩ := re_s h
              exact rti_ X I dX11_minds_77
          · have h := if_f h c_16
            refine lv_bipush (v := (-11)) hx hb dX11_minds_61 (by decide) ?_
            obtain ⟨rfl, rfl⟩ := re_s h
            exact rti_ X I dX11_minds_63
        · have h := if_f h c_12
          refine lv_iconst (v := (-1)) hx hb dX11_minds_48 (by decide) ?_
          obtain ⟨rfl, rfl⟩ := re_s h
          exact rti_ X I dX11_minds_49
      · have h := if_t h c_11
        refine lv_iconst (v := (-1)) hx hb dX11_minds_32 (by decide) ?_
        obtain ⟨rfl, rfl⟩ := re_s h
        exact rti_ X I dX11_minds_33
theorem c_C_minds {l : Launch} {D : va_G} {cy : Nat → ClassId} {a gs : Nat → Nat} {σ : Sg} {x1 : Int32} {x2 : Int32} {x3 : Int32} {x4 : Int32} {r0 : Int32} {σ' : Sg} (h : C_minds_0 σ x1 x2 x3 x4 = some (r0, σ')) (sz : Nat) : Met l yX11_minds wsX11_minds ({ frames := 4, cells := 0, slots := 0, locals := 86 }) (va_Pc [.ref (a 0), .int x1, .int x2, .int x3, .int x4] (pr_ 59 a D cy (shC cy a σ) (xfC gs) sz)) (qg_ 59 a D (shC cy a σ') (some (.int r0)) sz) 0 0 (fr_ 59 a sz) := by
  refine ent_ (by decide) rfl (Nat.le_of_ble_eq_true rfl) ?_
  intro p e s m below meth c ls hsz X I hl
  subst hsz
  exact kC_minds_0 X σ x1 x2 x3 x4 s.heap [] ls h I hl

def C2_lay_35 (k35 : Sg → Int32 → Int32 → Int32 → Option (Unit × Sg)) (σ : Sg) (x1 : Int32) (x3 : Int32) (x4 : Int32) : Option (Unit × Sg) :=
  if x3 ≤ x4 then (some ((), σ))
  else (gd_ (in_ ((x1 * (40 : Int32)) + x4) 160) (
  lt_ (wl_ σ ((x1 * (40 : Int32)) + x4).toNatClampNeg (0 : Int64)) fun σ_2 =>
  lt_ (x4 + (1 : Int32)) fun y_5 =>
  k35 σ_2 x1 x3 y_5))
set_option maxRecDepth 100000 in
theorem kC2_lay_35 {p : Program} {l : Launch} {e : Env} {s : State} {m : MethodId} {args : Array Value} {below : List Frame} {meth : Method} {c : Code} {D : va_G} {cy : Nat → ClassId} {a gs : Nat → Nat} (X : cx_ cX2_lay RX2 wsX2_lay 5 none 59 a D cy (xfC gs) p s m args meth c) {k35 : Sg → Int32 → Int32 → Int32 → Option (Unit × Sg)}  {σ' : Sg} (hk35 : ∀ (σ : Sg) (x1 : Int32) (x3 : Int32) (x4 : Int32) (H : Heap) (locs : List Loc) (ls : Array Slot), k35 σ x1 x3 x4 = some ((), σ') → iv_ 59 a D (shC cy a σ) s H locs → lv_has ls 5 [(0, .ref (a 22)), (1, .int x1), (3, .int x3), (4, .int x4)] → W p l e ({ frames := 2, cells := 0, slots := 0, locals := 42 }) s m args below meth c H locs 0 0 (MQ below (qg_ 59 a D (shC cy a σ') none s.heap.size) args s 0 0 (fr_ 59 a s.heap.size)) (F0 m 35 ls [])) : ∀ (σ : Sg) (x1 : Int32) (x3 : Int32) (x4 : Int32) (H : Heap) (locs : List Loc) (ls : Array Slot), C2_lay_35 k35 σ x1 x3 x4 = some ((), σ') → iv_ 59 a D (shC cy a σ) s H locs → lv_has ls 5 [(0, .ref (a 22)), (1, .int x1), (3, .int x3), (4, .int x4)] → W p l e ({ frames := 2, cells := 0, slots := 0, locals := 42 }) s m args below meth c H locs 0 0 (MQ below (qg_ 59 a D (shC cy a σ') none s.heap.size) args s 0 0 (fr_ 59 a s.heap.size)) (F0 m 35 ls []) := by
  obtain ⟨hx, hb, hr, hml, hown, hts, hlk, hK, hA, hXf⟩ := id X
  intro σ x1 x3 x4 H locs ls h I hl
  unfold C2_lay_35 at h
  refine lv_iload hx hb dX2_lay_35 (lv_at hl 3 rfl) ?_
  refine lv_iload_n hx hb dX2_lay_37 rfl (lv_at hl 2 rfl) ?_
  refine lv_icmp_ge (tgt := 60) hx hb dX2_lay_38 (by decide) (fun c_1 => ?_) (fun c_1 => ?_)
  · have h := if_t h c_1
    obtain rfl := re_v h
    exact rtv_ X I dX2_lay_60
  · have h := if_f h c_1
    refine lv_aload_n hx hb dX2_lay_41 rfl (lv_at hl 0 rfl) ?_
    refine ig_ (index := 25) X I (fun _ q => List.mem_cons_of_mem _ (List.mem_append_right _ q)) 22 (by decide) shC_22 rfl 5 (by decide) (by decide +kernel) rfl (v := .ref (a 28)) rfl dX2_lay_42 ?_
    refine lv_iload_n hx hb dX2_lay_45 rfl (lv_at hl 1 rfl) ?_
    refine lv_bipush (v := 40) hx hb dX2_lay_46 (by decide) ?_
    refine lv_imul hx hb dX2_lay_48 ?_
    refine lv_iload hx hb dX2_lay_49 (lv_at hl 3 rfl) ?_
    refine lv_iadd hx hb dX2_lay_51 ?_
    refine lv_lconst (v := 0) hx hb dX2_lay_52 (by decide) ?_
    obtain ⟨g_4, h⟩ := gd_of h
    refine sl_ (σ2 := wl_ σ ((x1 * (40 : Int32)) + x4).toNatClampNeg (0 : Int64)) X I 28 (by decide) shC_28 (in_of g_4) shC_st_28 dX2_lay_53 (fun σ_2 H locs e_3 I => ?_)
    have h := lt_at h e_3
    obtain ⟨y_5, e_6⟩ : ∃ q : Int32, q = x4 + (1 : Int32) := ⟨_, rfl⟩
    have h := lt_at h e_6
    refine lv_iinc (v := y_5) (lv' := [(4, .int y_5), (0, .ref (a 22)), (1, .int x1), (3, .int x3)]) hx hb dX2_lay_54 hl (k := 3) rfl (by rw [e_6]; rfl) (by decide) rfl (fun ls hl => ?_)
    refine lv_goto (tgt := 35) hx hb dX2_lay_57 (by decide) ?_
    exact hk35 σ_2 x1 x3 y_5 H locs ls h I (lv_sub hl [1, 2, 3, 0] rfl)
set_option maxRecDepth 100000 in
theorem kC2_lay_35L {p : Program} {l : Launch} {e : Env} {s : State} {m : MethodId} {args : Array Value} {below : List Frame} {meth : Method} {c : Code} {D : va_G} {cy : Nat → ClassId} {a gs : Nat → Nat} (X : cx_ cX2_lay RX2 wsX2_lay 5 none 59 a D cy (xfC gs) p s m args meth c)   {σ' : Sg}  : ∀ (n : Nat), ∀ (σ : Sg) (x1 : Int32) (x3 : Int32) (x4 : Int32) (H : Heap) (locs : List Loc) (ls : Array Slot), lp_ (C2_lay_35) (fun _ _ _ _ => none) n σ x1 x3 x4 = some ((), σ') → iv_ 59 a D (shC cy a σ) s H locs → lv_has ls 5 [(0, .ref (a 22)), (1, .int x1), (3, .int x3), (4, .int x4)] → W p l e ({ frames := 2, cells := 0, slots := 0, locals := 42 }) s m args below meth c H locs 0 0 (MQ below (qg_ 59 a D (shC cy a σ') none s.heap.size) args s 0 0 (fr_ 59 a s.heap.size)) (F0 m 35 ls []) := by
  intro n
  induction n with
  | zero =>
    intro _ _ _ _ _ _ _ h
    exact absurd h (fun q => by cases (show (none : Option _) = some _ from q))
  | succ n ih => exact kC2_lay_35 X ih

def C2_lay_0  (σ : Sg) (x1 : Int32) (x2 : Int32) (x3 : Int32) : Option (Unit × Sg) :=
  bi_ (C2_isSheet_0 σ x1) fun r_3 σ_2 =>
  if r_3 = 0 then (some ((), σ_2))
  else (bp_ (C_within_0 x3 (40 : Int32)) fun r_6 =>
  if r_6 = 0 then (some ((), σ_2))
  else (gd_ (in_ x1 4) (
  lt_ (wr_ σ_2 23 x1.toNatClampNeg x2) fun σ_8 =>
  gd_ (in_ x1 4) (
  lt_ (wr_ σ_8 24 x1.toNatClampNeg x3) fun σ_11 =>
  lp_ C2_lay_35 (fun _ _ _ _ => none) FU σ_11 x1 x3 (0 : Int32)))))
set_option maxRecDepth 100000 in
theorem kC2_lay_0 {p : Program} {l : Launch} {e : Env} {s : State} {m : MethodId} {args : Array Value} {below : List Frame} {meth : Method} {c : Code} {D : va_G} {cy : Nat → ClassId} {a gs : Nat → Nat} (X : cx_ cX2_lay RX2 wsX2_lay 5 none 59 a D cy (xfC gs) p s m args meth c)   {σ' : Sg}  : ∀ (σ : Sg) (x1 : Int32) (x2 : Int32) (x3 : Int32) (H : Heap) (locs : List Loc) (ls : Array Slot), C2_lay_0 σ x1 x2 x3 = some ((), σ') → iv_ 59 a D (shC cy a σ) s H locs → lv_has ls 5 [(0, .ref (a 22)), (1, .int x1), (2, .int x2), (3, .int x3)] → W p l e ({ frames := 2, cells := 0, slots := 0, locals := 42 }) s m args below meth c H locs 0 0 (MQ below (qg_ 59 a D (shC cy a σ') none s.heap.size) args s 0 0 (fr_ 59 a s.heap.size)) (F0 m 0 ls []) := by
  obtain ⟨hx, hb, hr, hml, hown, hts, hlk, hK, hA, hXf⟩ := id X
  intro σ x1 x2 x3 H locs ls h I hl
  unfold C2_lay_0 at h
  refine lv_aload_n hx hb dX2_lay_0 rfl (lv_at hl 0 rfl) ?_
  refine lv_iload_n hx hb dX2_lay_1 rfl (lv_at hl 1 rfl) ?_
  obtain ⟨r_3, σ_2, hc_1, h⟩ := bi_of h
  refine cg_ (v := .int r_3) (rV_ (nn := 1) (As := [.int x1]) (rest := []) X xkC I (c_C2_isSheet hc_1 H.size) gX2_lay_X2_isSheet rfl ⟨rfl, rfl⟩ (by decide +kernel) ⟨Nat.le_of_ble_eq_true rfl, Nat.le_of_ble_eq_true rfl⟩ (by decide) shC_22 rfl rfl hl.1 rfl (Nat.le_of_ble_eq_true rfl) dX2_lay_2) I (fun H locs I => ?_)
  refine lv_if_eq (tgt := 17) hx hb dX2_lay_5 (by decide) (fun c_4 => ?_) (fun c_4 => ?_)
  · have h := if_t h c_4
    obtain rfl := re_v h
    exact rtv_ X I dX2_lay_17
  · have h := if_f h c_4
    refine lv_iload_n hx hb dX2_lay_8 rfl (lv_at hl 3 rfl) ?_
    refine lv_bipush (v := 40) hx hb dX2_lay_9 (by decide) ?_
    obtain ⟨r_6, hc_5, h⟩ := bp_of h
    refine cp_ (rN_ (host := "BoundGodmothers") (nn := 2) (As := [.int x3, .int (40 : Int32)]) (rest := []) ⟨hx, hb, hml, hown, hts⟩ (c_C_within hc_5) gX2_lay_X11_within_n29 (xC_nw2 hXf) (by decide +kernel) (by decide +kernel) rfl ⟨rfl, rfl⟩ (by decide +kernel) ⟨Nat.le_of_ble_eq_true rfl, Nat.le_of_ble_eq_true rfl⟩ rfl hl.1 rfl (Nat.le_of_ble_eq_true rfl) dX2_lay_11 ⟨Nat.zero_le _, Nat.zero_le _⟩) ?_
    refine lv_if_ne (tgt := 18) hx hb dX2_lay_14 (by decide) (fun c_7 => ?_) (fun c_7 => ?_)
    · have h := if_f h c_7
      refine lv_aload_n hx hb dX2_lay_18 rfl (lv_at hl 0 rfl) ?_
      refine ig_ (index := 9) X I (fun _ q => List.mem_cons_of_mem _ (List.mem_append_right _ q)) 22 (by decide) shC_22 rfl 0 (by decide) (by decide +kernel) rfl (v := .ref (a 23)) rfl dX2_lay_19 ?_
      refine lv_iload_n hx hb dX2_lay_22 rfl (lv_at hl 1 rfl) ?_
      refine lv_iload_n hx hb dX2_lay_23 rfl (lv_at hl 2 rfl) ?_
      obtain ⟨g_10, h⟩ := gd_of h
      refine is_ (σ2 := wr_ σ_2 23 x1.toNatClampNeg x2) X I 23 (by decide) shC_23 (in_of g_10) shC_st_23 dX2_lay_24 (fun σ_8 H locs e_9 I => ?_)
      have h := lt_at h e_9
      refine lv_aload_n hx hb dX2_lay_25 rfl (lv_at hl 0 rfl) ?_
      refine ig_ (index := 13) X I (fun _ q => List.mem_cons_of_mem _ (List.mem_append_right _ q)) 22 (by decide) shC_22 rfl 1 (by decide) (by decide +kernel) rfl (v := .ref (a 24)) rfl dX2_lay_26 ?_
      refine lv_iload_n hx hb dX2_lay_29 rfl (lv_at hl 1 rfl) ?_
      refine lv_iload_n hx hb dX2_lay_30 rfl (lv_at hl 3 rfl) ?_
      obtain ⟨g_13, h⟩ := gd_of h
      refine is_ (σ2 := wr_ σ_8 24 x1.toNatClampNeg x3) X I 24 (by decide) shC_24 (in_of g_13) shC_st_24 dX2_lay_31 (fun σ_11 H locs e_12 I => ?_)
      have h := lt_at h e_12
      refine lv_iconst (v := 0) hx hb dX2_lay_32 (by decide) ?_
      refine lv_istore (lv' := [(4, .int (0 : Int32)), (0, .ref (a 22)), (1, .int x1), (2, .int x2), (3, .int x3)]) hx hb dX2_lay_33 hl (by decide) rfl (fun ls hl => ?_)
      exact kC2_lay_35L X  FU σ_11 x1 x3 (0 : Int32) H locs ls h I (lv_sub hl [1, 2, 4, 0] rfl)
    · have h := if_t h c_7
      obtain rfl := re_v h
      exact rtv_ X I dX2_lay_17
theorem c_C2_lay {l : Launch} {D : va_G} {cy : Nat → ClassId} {a gs : Nat → Nat} {σ : Sg} {x1 : Int32} {x2 : Int32} {x3 : Int32}  {σ' : Sg} (h : C2_lay_0 σ x1 x2 x3 = some ((), σ')) (sz : Nat) : Met l yX2_lay wsX2_lay ({ frames := 2, cells := 0, slots := 0, locals := 42 }) (va_Pc [.ref (a 22), .int x1, .int x2, .int x3] (pr_ 59 a D cy (shC cy a σ) (xfC gs) sz)) (qg_ 59 a D (shC cy a σ') none sz) 0 0 (fr_ 59 a sz) := by
  refine ent_ (by decide) rfl (Nat.le_of_ble_eq_true rfl) ?_
  intro p e s m below meth c ls hsz X I hl
  subst hsz
  exact kC2_lay_0 X σ x1 x2 x3 s.heap [] ls h I hl

def C_sheet_0  (σ : Sg) (x1 : Int32) (x2 : Int32) (x3 : Int32) : Option (Int32 × Sg) :=
  bi_ (C2_isSheet_0 σ x1) fun r_3 σ_2 =>
  if r_3 = 0 then (some ((-1 : Int32), σ_2))
  else (if x2 < (-1 : Int32) then (some ((-1 : Int32), σ_2))
  else (if x2 ≤ (3 : Int32) then (if x2 = (-1 : Int32) then (bi_ (C2_lay_0 σ_2 x1 x2 (0 : Int32)) fun _ σ_13 =>
  some ((1 : Int32), σ_13))
  else (if x3 ≤ (40 : Int32) then (if 0 ≤ x3 then (bi_ (C2_lay_0 σ_2 x1 x2 x3) fun _ σ_11 =>
  some ((1 : Int32), σ_11))
  else (some ((-14 : Int32), σ_2)))
  else (some ((-1 : Int32), σ_2))))
  else (some ((-1 : Int32), σ_2))))
set_option maxRecDepth 100000 in
theorem kC_sheet_0 {p : Program} {l : Launch} {e : Env} {s : State} {m : MethodId} {args : Array Value} {below : List Frame} {meth : Method} {c : Code} {D : va_G} {cy : Nat → ClassId} {a gs : Nat → Nat} (X : cx_ cX11_sheet RX11 wsX11_sheet 4 (some .int) 59 a D cy (xfC gs) p s m args meth c)  {r0 : Int32} {σ' : Sg}  : ∀ (σ : Sg) (x1 : Int32) (x2 : Int32) (x3 : Int32) (H : Heap) (locs : List Loc) (ls : Array Slot), C_sheet_0 σ x1 x2 x3 = some (r0, σ') → iv_ 59 a D (shC cy a σ) s H locs → lv_has ls 4 [(0, .ref (a 0)), (1, .int x1), (2, .int x2), (3, .int x3)] → W p l e ({ frames := 3, cells := 0, slots := 0, locals := 66 }) s m args below meth c H locs 0 0 (MQ below (qg_ 59 a D (shC cy a σ') (some (.int r0)) s.heap.size) args s 0 0 (fr_ 59 a s.heap.size)) (F0 m 0 ls []) := by
  obtain ⟨hx, hb, hr, hml, hown, hts, hlk, hK, hA, hXf⟩ := id X
  intro σ x1 x2 x3 H locs ls h I hl
  unfold C_sheet_0 at h
  refine lv_aload_n hx hb dX11_sheet_0 rfl (lv_at hl 0 rfl) ?_
  refine ig_ (index := 59) X I (fun _ q => List.mem_cons_of_mem _ (List.mem_append_left _ (List.mem_append_right _ q))) 0 (by decide) shC_0 rfl 5 (by decide) (by decide +kernel) rfl (v := .ref (a 22)) rfl dX11_sheet_1 ?_
  refine lv_iload_n hx hb dX11_sheet_4 rfl (lv_at hl 1 rfl) ?_
  obtain ⟨r_3, σ_2, hc_1, h⟩ := bi_of h
  refine cg_ (v := .int r_3) (rV_ (nn := 1) (As := [.int x1]) (rest := []) X xkC I (c_C2_isSheet hc_1 H.size) gX11_sheet_X2_isSheet rfl ⟨rfl, rfl⟩ (by decide +kernel) ⟨Nat.le_of_ble_eq_true rfl, Nat.le_of_ble_eq_true rfl⟩ (by decide) shC_22 rfl rfl hl.1 rfl (Nat.le_of_ble_eq_true rfl) dX11_sheet_5) I (fun H locs I => ?_)
  refine lv_if_eq (tgt := 21) hx hb dX11_sheet_8 (by decide) (fun c_4 => ?_) (fun c_4 => ?_)
  · have h := if_t h c_4
    refine lv_iconst (v := (-1)) hx hb dX11_sheet_21 (by decide) ?_
    obtain ⟨rfl, rfl⟩ := re_s h
    exact rti_ X I dX11_sheet_22
  · have h := if_f h c_4
    refine lv_iload_n hx hb dX11_sheet_11 rfl (lv_at hl 2 rfl) ?_
    refine lv_iconst (v := (-1)) hx hb dX11_sheet_12 (by decide) ?_
    refine lv_icmp_lt (tgt := 21) hx hb dX11_sheet_13 (by decide) (fun c_5 => ?_) (fun c_5 => ?_)
    · have h := if_t h c_5
      refine lv_iconst (v := (-1)) hx hb dX11_sheet_21 (by decide) ?_
      obtain ⟨rfl, rfl⟩ := re_s h
      exact rti_ X I dX11_sheet_22
    · have h := if_f h c_5
      refine lv_iload_n hx hb dX11_sheet_16 rfl (lv_at hl 2 rfl) ?_
      refine lv_iconst (v := 3) hx hb dX11_sheet_17 (by decide) ?_
      refine lv_icmp_le (tgt := 23) hx hb dX11_sheet_18 (by decide) (fun c_6 => ?_) (fun c_6 => ?_)
      · have h := if_t h c_6
        refine lv_iload_n hx hb dX11_sheet_23 rfl (lv_at hl 2 rfl) ?_
        refine lv_iconst (v := (-1)) hx hb dX11_sheet_24 (by decide) ?_
        refine lv_icmp_ne (tgt := 40) hx hb dX11_sheet_25 (by decide) (fun c_7 => ?_) (fun c_7 => ?_)
        · have h := if_f h c_7
          refine lv_iload_n hx hb dX11_sheet_40 rfl (lv_at hl 3 rfl) ?_
          refine lv_bipush (v := 40) hx hb dX11_sheet_41 (by decide) ?_
          refine lv_icmp_le (tgt := 48) hx hb dX11_sheet_43 (by decide) (fun c_8 => ?_) (fun c_8 => ?_)
          · have h := if_t h c_8
            refine lv_iload_n hx hb dX11_sheet_48 rfl (lv_at hl 3 rfl) ?_
            refine lv_if_ge (tgt := 55) hx hb dX11_sheet_49 (by decide) (fun c_9 => ?_) (fun c_9 => ?_)
            · have h := if_t h c_9
              refine lv_aload_n hx hb dX11_sheet_55 rfl (lv_at hl 0 rfl) ?_
              refine ig_ (index := 59) X I (fun _ q => List.mem_cons_of_mem _ (List.mem_append_left _ (List.mem_append_right _ q))) 0 (by decide) shC_0 rfl 5 (by decide) (by decide +kernel) rfl (v := .ref (a 22)) rfl dX11_sheet_56 ?_
              refine lv_iload_n hx hb dX11_sheet_59 rfl (lv_at hl 1 rfl) ?_
              refine lv_iload_n hx hb dX11_sheet_60 rfl (lv_at hl 2 rfl) ?_
              refine lv_iload_n hx hb dX11_sheet_61 rfl (lv_at hl 3 rfl) ?_
              obtain ⟨_, σ_11, hc_10, h⟩ := bi_of h
              refine cv_ (rV_ (nn := 3) (As := [.int x1, .int x2, .int x3]) (rest := []) X xkC I (c_C2_lay hc_10 H.size) gX11_sheet_X2_lay rfl ⟨rfl, rfl⟩ (by decide +kernel) ⟨Nat.le_of_ble_eq_true rfl, Nat.le_of_ble_eq_true rfl⟩ (by decide) shC_22 rfl rfl hl.1 rfl (Nat.le_of_ble_eq_true rfl) dX11_sheet_62) I (fun H locs I => ?_)
              refine lv_iconst (v := 1) hx hb dX11_sheet_65 (by decide) ?_
              obtain ⟨rfl, rfl⟩ := re_s h
              exact rti_ X I dX11_sheet_66
            · have h := if_f h c_9
              refine lv_bipush (v := (-14)) hx hb dX11_sheet_52 (by decide) ?_
              obtain ⟨rfl, rfl⟩ := re_s h
              exact rti_ X I dX11_sheet_54
          · have h := if_f h c_8
            refine lv_iconst (v := (-1)) hx hb dX11_sheet_46 (by decide) ?_
            obtain ⟨rfl, rfl⟩ := re_s h
            exact rti_ X I dX11_sheet_47
        · have h := if_t h c_7
          refine lv_aload_n hx hb dX11_sheet_28 rfl (lv_at hl 0 rfl) ?_
          refine ig_ (index := 59) X I (fun _ q => List.mem_cons_of_mem _ (List.mem_append_left _ (List.mem_append_right _ q))) 0 (by decide) shC_0 rfl 5 (by decide) (by decide +kernel) rfl (v := .ref (a 22)) rfl dX11_sheet_29 ?_
          refine lv_iload_n hx hb dX11_sheet_32 rfl (lv_at hl 1 rfl) ?_
          refine lv_iload_n hx hb dX11_sheet_33 rfl (lv_at hl 2 rfl) ?_
          refine lv_iconst (v := 0) hx hb dX11_sheet_34 (by decide) ?_
          obtain ⟨_, σ_13, hc_12, h⟩ := bi_of h
          refine cv_ (rV_ (nn := 3) (As := [.int x1, .int x2, .int (0 : Int32)]) (rest := []) X xkC I (c_C2_lay hc_12 H.size) gX11_sheet_X2_lay rfl ⟨rfl, rfl⟩ (by decide +kernel) ⟨Nat.le_of_ble_eq_true rfl, Nat.le_of_ble_eq_true rfl⟩ (by decide) shC_22 rfl rfl hl.1 rfl (Nat.le_of_ble_eq_true rfl) dX11_sheet_35) I (fun H locs I => ?_)
          refine lv_iconst (v := 1) hx hb dX11_sheet_38 (by decide) ?_
          obtain ⟨rfl, rfl⟩ := re_s h
          exact rti_ X I dX11_sheet_39
      · have h := if_f h c_6
        refine lv_iconst (v := (-1)) hx hb dX11_sheet_21 (by decide) ?_
        obtain ⟨rfl, rfl⟩ := re_s h
        exact rti_ X I dX11_sheet_22
theorem c_C_sheet {l : Launch} {D : va_G} {cy : Nat → ClassId} {a gs : Nat → Nat} {σ : Sg} {x1 : Int32} {x2 : Int32} {x3 : Int32} {r0 : Int32} {σ' : Sg} (h : C_sheet_0 σ x1 x2 x3 = some (r0, σ')) (sz : Nat) : Met l yX11_sheet wsX11_sheet ({ frames := 3, cells := 0, slots := 0, locals := 66 }) (va_Pc [.ref (a 0), .int x1, .int x2, .int x3] (pr_ 59 a D cy (shC cy a σ) (xfC gs) sz)) (qg_ 59 a D (shC cy a σ') (some (.int r0)) sz) 0 0 (fr_ 59 a sz) := by
  refine ent_ (by decide) rfl (Nat.le_of_ble_eq_true rfl) ?_
  intro p e s m below meth c ls hsz X I hl
  subst hsz
  exact kC_sheet_0 X σ x1 x2 x3 s.heap [] ls h I hl

def C2_narrowed_0  (x0 : Int32) (x1 : Int32) : Option Int32 :=
  if x1 = 0 then (some (x0.toInt8.toInt32))
  else (if x1 = 1 then (some (x0.toInt16.toInt32))
  else (some (x0)))
set_option maxRecDepth 100000 in
theorem kC2_narrowed_0 {p : Program} {l : Launch} {e : Env} {s : State} {m : MethodId} {args : Array Value} {below : List Frame} {meth : Method} {c : Code} (X : px_ cX2_narrowed RX2 wsX2_narrowed 2 (some .int) p s m args meth c)  {r0 : Int32}  : ∀ (x0 : Int32) (x1 : Int32) (ls : Array Slot), C2_narrowed_0 x0 x1 = some r0 → lv_has ls 2 [(0, .int x0), (1, .int x1)] → W p l e ({ frames := 0, cells := 0, slots := 0, locals := 0 }) s m args below meth c s.heap [] 0 0 (MQ below (qp_ (some (.int r0))) args s 0 0 (fun _ => False)) (F0 m 0 ls []) := by
  obtain ⟨hx, hb, hr, hml, hown, hts, hlk⟩ := id X
  intro x0 x1 ls h hl
  unfold C2_narrowed_0 at h
  refine lv_iload_n hx hb dX2_narrowed_0 rfl (lv_at hl 1 rfl) ?_
  by_cases c_1 : x1 = 0
  · have h := if_t h c_1
    refine lv_lookup (tgt := 28) (off := 27) hx hb dX2_narrowed_1 (by decide) (by rw [c_1]; decide) (by decide) ?_
    refine lv_iload_n hx hb dX2_narrowed_28 rfl (lv_at hl 0 rfl) ?_
    refine lv_i2b hx hb dX2_narrowed_29 rfl ?_
    obtain rfl := re_p h
    exact rpi_ X dX2_narrowed_30
  · have h := if_f h c_1
    by_cases c_2 : x1 = 1
    · have h := if_t h c_2
      refine lv_lookup (tgt := 31) (off := 30) hx hb dX2_narrowed_1 (by decide) (by rw [c_2]; decide) (by decide) ?_
      refine lv_iload_n hx hb dX2_narrowed_31 rfl (lv_at hl 0 rfl) ?_
      refine lv_i2s hx hb dX2_narrowed_32 rfl ?_
      obtain rfl := re_p h
      exact rpi_ X dX2_narrowed_33
    · have h := if_f h c_2
      refine lv_lookup (tgt := 34) (off := 33) hx hb dX2_narrowed_1 (by decide) (by rw [lv_osw (a := 0) c_1 rfl, lv_osw (a := 1) c_2 rfl]; rfl) (by decide) ?_
      refine lv_iload_n hx hb dX2_narrowed_34 rfl (lv_at hl 0 rfl) ?_
      obtain rfl := re_p h
      exact rpi_ X dX2_narrowed_35
theorem c_C2_narrowed {l : Launch} {x0 : Int32} {x1 : Int32} {r0 : Int32} (h : C2_narrowed_0 x0 x1 = some r0) : Met l yX2_narrowed wsX2_narrowed ({ frames := 0, cells := 0, slots := 0, locals := 0 }) (pp_ [.int x0, .int x1]) (qp_ (some (.int r0))) 0 0 (fun _ => False) := by
  refine enp_ (by decide) rfl (Nat.le_of_ble_eq_true rfl) ?_
  intro p e s m below meth c ls X hl
  exact kC2_narrowed_0 X x0 x1 ls h hl

def C2_write_0  (σ : Sg) (x1 : Int32) (x2 : Int32) (x3 : Int32) : Option (Int32 × Sg) :=
  bi_ (C2_isItem_0 σ x1 x2) fun r_3 σ_2 =>
  if r_3 = 0 then (some ((0 : Int32), σ_2))
  else (gd_ (in_ x1 4) (
  bp_ (C2_narrowed_0 x3 (rd_ σ_2 23 x1.toNatClampNeg)) fun r_7 =>
  gd_ (in_ ((x1 * (40 : Int32)) + x2) 160) (
  lt_ (wl_ σ_2 ((x1 * (40 : Int32)) + x2).toNatClampNeg (r_7).toInt64) fun σ_8 =>
  some ((1 : Int32), σ_8))))
set_option maxRecDepth 100000 in
theorem kC2_write_0 {p : Program} {l : Launch} {e : Env} {s : State} {m : MethodId} {args : Array Value} {below : List Frame} {meth : Method} {c : Code} {D : va_G} {cy : Nat → ClassId} {a gs : Nat → Nat} (X : cx_ cX2_write RX2 wsX2_write 4 (some .boolean) 59 a D cy (xfC gs) p s m args meth c)  {r0 : Int32} {σ' : Sg}  : ∀ (σ : Sg) (x1 : Int32) (x2 : Int32) (x3 : Int32) (H : Heap) (locs : List Loc) (ls : Array Slot), C2_write_0 σ x1 x2 x3 = some (r0, σ') → iv_ 59 a D (shC cy a σ) s H locs → lv_has ls 4 [(0, .ref (a 22)), (1, .int x1), (2, .int x2), (3, .int x3)] → W p l e ({ frames := 3, cells := 0, slots := 0, locals := 64 }) s m args below meth c H locs 0 0 (MQ below (qg_ 59 a D (shC cy a σ') (some (.int r0)) s.heap.size) args s 0 0 (fr_ 59 a s.heap.size)) (F0 m 0 ls []) := by
  obtain ⟨hx, hb, hr, hml, hown, hts, hlk, hK, hA, hXf⟩ := id X
  intro σ x1 x2 x3 H locs ls h I hl
  unfold C2_write_0 at h
  refine lv_aload_n hx hb dX2_write_0 rfl (lv_at hl 0 rfl) ?_
  refine lv_iload_n hx hb dX2_write_1 rfl (lv_at hl 1 rfl) ?_
  refine lv_iload_n hx hb dX2_write_2 rfl (lv_at hl 2 rfl) ?_
  obtain ⟨r_3, σ_2, hc_1, h⟩ := bi_of h
  refine cg_ (v := .int r_3) (rV_ (nn := 2) (As := [.int x1, .int x2]) (rest := []) X xkC I (c_C2_isItem hc_1 H.size) gX2_write_X2_isItem rfl ⟨rfl, rfl⟩ (by decide +kernel) ⟨Nat.le_of_ble_eq_true rfl, Nat.le_of_ble_eq_true rfl⟩ (by decide) shC_22 rfl rfl hl.1 rfl (Nat.le_of_ble_eq_true rfl) dX2_write_3) I (fun H locs I => ?_)
  refine lv_if_ne (tgt := 11) hx hb dX2_write_6 (by decide) (fun c_4 => ?_) (fun c_4 => ?_)
  · have h := if_f h c_4
    refine lv_aload_n hx hb dX2_write_11 rfl (lv_at hl 0 rfl) ?_
    refine ig_ (index := 25) X I (fun _ q => List.mem_cons_of_mem _ (List.mem_append_right _ q)) 22 (by decide) shC_22 rfl 5 (by decide) (by decide +kernel) rfl (v := .ref (a 28)) rfl dX2_write_12 ?_
    refine lv_iload_n hx hb dX2_write_15 rfl (lv_at hl 1 rfl) ?_
    refine lv_bipush (v := 40) hx hb dX2_write_16 (by decide) ?_
    refine lv_imul hx hb dX2_write_18 ?_
    refine lv_iload_n hx hb dX2_write_19 rfl (lv_at hl 2 rfl) ?_
    refine lv_iadd hx hb dX2_write_20 ?_
    refine lv_iload_n hx hb dX2_write_21 rfl (lv_at hl 3 rfl) ?_
    refine lv_aload_n hx hb dX2_write_22 rfl (lv_at hl 0 rfl) ?_
    refine ig_ (index := 9) X I (fun _ q => List.mem_cons_of_mem _ (List.mem_append_right _ q)) 22 (by decide) shC_22 rfl 0 (by decide) (by decide +kernel) rfl (v := .ref (a 23)) rfl dX2_write_23 ?_
    refine lv_iload_n hx hb dX2_write_26 rfl (lv_at hl 1 rfl) ?_
    obtain ⟨g_5, h⟩ := gd_of h
    refine ia_ X I 23 (by decide) shC_23 (in_of g_5) (v0 := (rd_ σ_2 23 x1.toNatClampNeg)) rfl dX2_write_27 ?_
    obtain ⟨r_7, hc_6, h⟩ := bp_of h
    refine cp_ (rP_ (nn := 2) (As := [.int x3, .int (rd_ σ_2 23 x1.toNatClampNeg)]) (rest := [.int ((x1 * (40 : Int32)) + x2), .ref (a 28)]) ⟨hx, hb, hml, hown, hts⟩ (c_C2_narrowed hc_6) gX2_write_X2_narrowed rfl ⟨rfl, rfl⟩ (by decide +kernel) ⟨Nat.le_of_ble_eq_true rfl, Nat.le_of_ble_eq_true rfl⟩ rfl hl.1 rfl (Nat.le_of_ble_eq_true rfl) dX2_write_28 ⟨Nat.zero_le _, Nat.zero_le _⟩) ?_
    refine lv_i2l hx hb dX2_write_31 rfl ?_
    obtain ⟨g_10, h⟩ := gd_of h
    refine sl_ (σ2 := wl_ σ_2 ((x1 * (40 : Int32)) + x2).toNatClampNeg (r_7).toInt64) X I 28 (by decide) shC_28 (in_of g_10) shC_st_28 dX2_write_32 (fun σ_8 H locs e_9 I => ?_)
    have h := lt_at h e_9
    refine lv_iconst (v := 1) hx hb dX2_write_33 (by decide) ?_
    obtain ⟨rfl, rfl⟩ := re_s h
    exact rtz_ X I (by decide) dX2_write_34
  · have h := if_t h c_4
    refine lv_iconst (v := 0) hx hb dX2_write_9 (by decide) ?_
    obtain ⟨rfl, rfl⟩ := re_s h
    exact rtz_ X I (by decide) dX2_write_10
theorem c_C2_write {l : Launch} {D : va_G} {cy : Nat → ClassId} {a gs : Nat → Nat} {σ : Sg} {x1 : Int32} {x2 : Int32} {x3 : Int32} {r0 : Int32} {σ' : Sg} (h : C2_write_0 σ x1 x2 x3 = some (r0, σ')) (sz : Nat) : Met l yX2_write wsX2_write ({ frames := 3, cells := 0, slots := 0, locals := 64 }) (va_Pc [.ref (a 22), .int x1, .int x2, .int x3] (pr_ 59 a D cy (shC cy a σ) (xfC gs) sz)) (qg_ 59 a D (shC cy a σ') (some (.int r0)) sz) 0 0 (fr_ 59 a sz) := by
  refine ent_ (by decide) rfl (Nat.le_of_ble_eq_true rfl) ?_
  intro p e s m below meth c ls hsz X I hl
  subst hsz
  exact kC2_write_0 X σ x1 x2 x3 s.heap [] ls h I hl

def C_put_0  (σ : Sg) (x1 : Int32) (x2 : Int32) (x3 : Int32) : Option (Int32 × Sg) :=
  bi_ (C2_isSheet_0 σ x1) fun r_3 σ_2 =>
  if r_3 = 0 then (some ((-1 : Int32), σ_2))
  else (bi_ (C2_isMissing_0 σ_2 x1) fun r_7 σ_6 =>
  if r_7 = 0 then (bi_ (C2_write_0 σ_6 x1 x2 x3) fun r_11 σ_10 =>
  if r_11 = 0 then (some ((-12 : Int32), σ_10))
  else (some ((1 : Int32), σ_10)))
  else (some ((-11 : Int32), σ_6)))
set_option maxRecDepth 100000 in
theorem kC_put_0 {p : Program} {l : Launch} {e : Env} {s : State} {m : MethodId} {args : Array Value} {below : List Frame} {meth : Method} {c : Code} {D : va_G} {cy : Nat → ClassId} {a gs : Nat → Nat} (X : cx_ cX11_put RX11 wsX11_put 4 (some .int) 59 a D cy (xfC gs) p s m args meth c)  {r0 : Int32} {σ' : Sg}  : ∀ (σ : Sg) (x1 : Int32) (x2 : Int32) (x3 : Int32) (H : Heap) (locs : List Loc) (ls : Array Slot), C_put_0 σ x1 x2 x3 = some (r0, σ') → iv_ 59 a D (shC cy a σ) s H locs → lv_has ls 4 [(0, .ref (a 0)), (1, .int x1), (2, .int x2), (3, .int x3)] → W p l e ({ frames := 4, cells := 0, slots := 0, locals := 87 }) s m args below meth c H locs 0 0 (MQ below (qg_ 59 a D (shC cy a σ') (some (.int r0)) s.heap.size) args s 0 0 (fr_ 59 a s.heap.size)) (F0 m 0 ls []) := by
  obtain ⟨hx, hb, hr, hml, hown, hts, hlk, hK, hA, hXf⟩ := id X
  intro σ x1 x2 x3 H locs ls h I hl
  unfold C_put_0 at h
  refine lv_aload_n hx hb dX11_put_0 rfl (lv_at hl 0 rfl) ?_
  refine ig_ (index := 59) X I (fun _ q => List.mem_cons_of_mem _ (List.mem_append_left _ (List.mem_append_right _ q))) 0 (by decide) shC_0 rfl 5 (by decide) (by decide +kernel) rfl (v := .ref (a 22)) rfl dX11_put_1 ?_
  refine lv_iload_n hx hb dX11_put_4 rfl (lv_at hl 1 rfl) ?_
  obtain ⟨r_3, σ_2, hc_1, h⟩ := bi_of h
  refine cg_ (v := .int r_3) (rV_ (nn := 1) (As := [.int x1]) (rest := []) X xkC I (c_C2_isSheet hc_1 H.size) gX11_put_X2_isSheet rfl ⟨rfl, rfl⟩ (by decide +kernel) ⟨Nat.le_of_ble_eq_true rfl, Nat.le_of_ble_eq_true rfl⟩ (by decide) shC_22 rfl rfl hl.1 rfl (Nat.le_of_ble_eq_true rfl) dX11_put_5) I (fun H locs I => ?_)
  refine lv_if_ne (tgt := 13) hx hb dX11_put_8 (by decide) (fun c_4 => ?_) (fun c_4 => ?_)
  · have h := if_f h c_4
    refine lv_aload_n hx hb dX11_put_13 rfl (lv_at hl 0 rfl) ?_
    refine ig_ (index := 59) X I (fun _ q => List.mem_cons_of_mem _ (List.mem_append_left _ (List.mem_append_right _ q))) 0 (by decide) shC_0 rfl 5 (by decide) (by decide +kernel) rfl (v := .ref (a 22)) rfl dX11_put_14 ?_
    refine lv_iload_n hx hb dX11_put_17 rfl (lv_at hl 1 rfl) ?_
    obtain ⟨r_7, σ_6, hc_5, h⟩ := bi_of h
    refine cg_ (v := .int r_7) (rV_ (nn := 1) (As := [.int x1]) (rest := []) X xkC I (c_C2_isMissing hc_5 H.size) gX11_put_X2_isMissing rfl ⟨rfl, rfl⟩ (by decide +kernel) ⟨Nat.le_of_ble_eq_true rfl, Nat.le_of_ble_eq_true rfl⟩ (by decide) shC_22 rfl rfl hl.1 rfl (Nat.le_of_ble_eq_true rfl) dX11_put_18) I (fun H locs I => ?_)
    refine lv_if_eq (tgt := 27) hx hb dX11_put_21 (by decide) (fun c_8 => ?_) (fun c_8 => ?_)
    · have h := if_t h c_8
      refine lv_aload_n hx hb dX11_put_27 rfl (lv_at hl 0 rfl) ?_
      refine ig_ (index := 59) X I (fun _ q => List.mem_cons_of_mem _ (List.mem_append_left _ (List.mem_append_right _ q))) 0 (by decide) shC_0 rfl 5 (by decide) (by decide +kernel) rfl (v := .ref (a 22)) rfl dX11_put_28 ?_
      refine lv_iload_n hx hb dX11_put_31 rfl (lv_at hl 1 rfl) ?_
      refine lv_iload_n hx hb dX11_put_32 rfl (lv_at hl 2 rfl) ?_
      refine lv_iload_n hx hb dX11_put_33 rfl (lv_at hl 3 rfl) ?_
      obtain ⟨r_11, σ_10, hc_9, h⟩ := bi_of h
      refine cg_ (v := .int r_11) (rV_ (nn := 3) (As := [.int x1, .int x2, .int x3]) (rest := []) X xkC I (c_C2_write hc_9 H.size) gX11_put_X2_write rfl ⟨rfl, rfl⟩ (by decide +kernel) ⟨Nat.le_of_ble_eq_true rfl, Nat.le_of_ble_eq_true rfl⟩ (by decide) shC_22 rfl rfl hl.1 rfl (Nat.le_of_ble_eq_true rfl) dX11_put_34) I (fun H locs I => ?_)
      refine lv_if_eq (tgt := 44) hx hb dX11_put_37 (by decide) (fun c_12 => ?_) (fun c_12 => ?_)
      · have h := if_t h c_12
        refine lv_bipush (v := (-12)) hx hb dX11_put_44 (by decide) ?_
        obtain ⟨rfl, rfl⟩ := re_s h
        exact rti_ X I dX11_put_46
      · have h := if_f h c_12
        refine lv_iconst (v := 1) hx hb dX11_put_40 (by decide) ?_
        refine lv_goto (tgt := 46) hx hb dX11_put_41 (by decide) ?_
        obtain ⟨rfl, rfl⟩ := re_s h
        exact rti_ X I dX11_put_46
    · have h := if_f h c_8
      refine lv_bipush (v := (-11)) hx hb dX11_put_24 (by decide) ?_
      obtain ⟨rfl, rfl⟩ := re_s h
      exact rti_ X I dX11_put_26
  · have h := if_t h c_4
    refine lv_iconst (v := (-1)) hx hb dX11_put_11 (by decide) ?_
    obtain ⟨rfl, rfl⟩ := re_s h
    exact rti_ X I dX11_put_12
theorem c_C_put {l : Launch} {D : va_G} {cy : Nat → ClassId} {a gs : Nat → Nat} {σ : Sg} {x1 : Int32} {x2 : Int32} {x3 : Int32} {r0 : Int32} {σ' : Sg} (h : C_put_0 σ x1 x2 x3 = some (r0, σ')) (sz : Nat) : Met l yX11_put wsX11_put ({ frames := 4, cells := 0, slots := 0, locals := 87 }) (va_Pc [.ref (a 0), .int x1, .int x2, .int x3] (pr_ 59 a D cy (shC cy a σ) (xfC gs) sz)) (qg_ 59 a D (shC cy a σ') (some (.int r0)) sz) 0 0 (fr_ 59 a sz) := by
  refine ent_ (by decide) rfl (Nat.le_of_ble_eq_true rfl) ?_
  intro p e s m below meth c ls hsz X I hl
  subst hsz
  exact kC_put_0 X σ x1 x2 x3 s.heap [] ls h I hl

def C_item_0  (σ : Sg) (x1 : Int32) (x2 : Int32) (x3 : Int32) : Option (Int32 × Sg) :=
  bi_ (C2_isSheet_0 σ x1) fun r_3 σ_2 =>
  if r_3 = 0 then (some ((-1 : Int32), σ_2))
  else (bp_ (C_within_0 x2 (3 : Int32)) fun r_6 =>
  if r_6 = 0 then (some ((-1 : Int32), σ_2))
  else (bi_ (C2_isMissing_0 σ_2 x1) fun r_10 σ_9 =>
  if r_10 = 0 then (bi_ (C2_sortOf_0 σ_9 x1) fun r_14 σ_13 =>
  if r_14 = x2 then (bi_ (C2_sizeOf_0 σ_13 x1) fun r_18 σ_17 =>
  bp_ (C_within_0 x3 (r_18 - (1 : Int32))) fun r_20 =>
  if r_20 = 0 then (some ((-12 : Int32), σ_17))
  else (bi_ (C2_itemAt_0 σ_17 x1 x3) fun r_24 σ_23 =>
  some (r_24.toInt32, σ_23)))
  else (some ((-13 : Int32), σ_13)))
  else (some ((-11 : Int32), σ_9))))
set_option maxRecDepth 100000 in
theorem kC_item_0 {p : Program} {l : Launch} {e : Env} {s : State} {m : MethodId} {args : Array Value} {below : List Frame} {meth : Method} {c : Code} {D : va_G} {cy : Nat → ClassId} {a gs : Nat → Nat} (X : cx_ cX11_item RX11 wsX11_item 4 (some .int) 59 a D cy (xfC gs) p s m args meth c)  {r0 : Int32} {σ' : Sg}  : ∀ (σ : Sg) (x1 : Int32) (x2 : Int32) (x3 : Int32) (H : Heap) (locs : List Loc) (ls : Array Slot), C_item_0 σ x1 x2 x3 = some (r0, σ') → iv_ 59 a D (shC cy a σ) s H locs → lv_has ls 4 [(0, .ref (a 0)), (1, .int x1), (2, .int x2), (3, .int x3)] → W p l e ({ frames := 4, cells := 0, slots := 0, locals := 86 }) s m args below meth c H locs 0 0 (MQ below (qg_ 59 a D (shC cy a σ') (some (.int r0)) s.heap.size) args s 0 0 (fr_ 59 a s.heap.size)) (F0 m 0 ls []) := by
  obtain ⟨hx, hb, hr, hml, hown, hts, hlk, hK, hA, hXf⟩ := id X
  intro σ x1 x2 x3 H locs ls h I hl
  unfold C_item_0 at h
  refine lv_aload_n hx hb dX11_item_0 rfl (lv_at hl 0 rfl) ?_
  refine ig_ (index := 59) X I (fun _ q => List.mem_cons_of_mem _ (List.mem_append_left _ (List.mem_append_right _ q))) 0 (by decide) shC_0 rfl 5 (by decide) (by decide +kernel) rfl (v := .ref (a 22)) rfl dX11_item_1 ?_
  refine lv_iload_n hx hb dX11_item_4 rfl (lv_at hl 1 rfl) ?_
  obtain ⟨r_3, σ_2, hc_1, h⟩ := bi_of h
  refine cg_ (v := .int r_3) (rV_ (nn := 1) (As := [.int x1]) (rest := []) X xkC I (c_C2_isSheet hc_1 H.size) gX11_item_X2_isSheet rfl ⟨rfl, rfl⟩ (by decide +kernel) ⟨Nat.le_of_ble_eq_true rfl, Nat.le_of_ble_eq_true rfl⟩ (by decide) shC_22 rfl rfl hl.1 rfl (Nat.le_of_ble_eq_true rfl) dX11_item_5) I (fun H locs I => ?_)
  refine lv_if_eq (tgt := 19) hx hb dX11_item_8 (by decide) (fun c_4 => ?_) (fun c_4 => ?_)
  · have h := if_t h c_4
    refine lv_iconst (v := (-1)) hx hb dX11_item_19 (by decide) ?_
    obtain ⟨rfl, rfl⟩ := re_s h
    exact rti_ X I dX11_item_20
  · have h := if_f h c_4
    refine lv_iload_n hx hb dX11_item_11 rfl (lv_at hl 2 rfl) ?_
    refine lv_iconst (v := 3) hx hb dX11_item_12 (by decide) ?_
    obtain ⟨r_6, hc_5, h⟩ := bp_of h
    refine cp_ (rP_ (nn := 2) (As := [.int x2, .int (3 : Int32)]) (rest := []) ⟨hx, hb, hml, hown, hts⟩ (c_C_within hc_5) gX11_item_X11_within rfl ⟨rfl, rfl⟩ (by decide +kernel) ⟨Nat.le_of_ble_eq_true rfl, Nat.le_of_ble_eq_true rfl⟩ rfl hl.1 rfl (Nat.le_of_ble_eq_true rfl) dX11_item_13 ⟨Nat.zero_le _, Nat.zero_le _⟩) ?_
    refine lv_if_ne (tgt := 21) hx hb dX11_item_16 (by decide) (fun c_7 => ?_) (fun c_7 => ?_)
    · have h := if_f h c_7
      refine lv_aload_n hx hb dX11_item_21 rfl (lv_at hl 0 rfl) ?_
      refine ig_ (index := 59) X I (fun _ q => List.mem_cons_of_mem _ (List.mem_append_left _ (List.mem_append_right _ q))) 0 (by decide) shC_0 rfl 5 (by decide) (by decide +kernel) rfl (v := .ref (a 22)) rfl dX11_item_22 ?_
      refine lv_iload_n hx hb dX11_item_25 rfl (lv_at hl 1 rfl) ?_
      obtain ⟨r_10, σ_9, hc_8, h⟩ := bi_of h
      refine cg_ (v := .int r_10) (rV_ (nn := 1) (As := [.int x1]) (rest := []) X xkC I (c_C2_isMissing hc_8 H.size) gX11_item_X2_isMissing rfl ⟨rfl, rfl⟩ (by decide +kernel) ⟨Nat.le_of_ble_eq_true rfl, Nat.le_of_ble_eq_true rfl⟩ (by decide) shC_22 rfl rfl hl.1 rfl (Nat.le_of_ble_eq_true rfl) dX11_item_26) I (fun H locs I => ?_)
      refine lv_if_eq (tgt := 35) hx hb dX11_item_29 (by decide) (fun c_11 => ?_) (fun c_11 => ?_)
      · have h := if_t h c_11
        refine lv_aload_n hx hb dX11_item_35 rfl (lv_at hl 0 rfl) ?_
        refine ig_ (index := 59) X I (fun _ q => List.mem_cons_of_mem _ (List.mem_append_left _ (List.mem_append_right _ q))) 0 (by decide) shC_0 rfl 5 (by decide) (by decide +kernel) rfl (v := .ref (a 22)) rfl dX11_item_36 ?_
        refine lv_iload_n hx hb dX11_item_39 rfl (lv_at hl 1 rfl) ?_
        obtain ⟨r_14, σ_13, hc_12, h⟩ := bi_of h
        refine cg_ (v := .int r_14) (rV_ (nn := 1) (As := [.int x1]) (rest := []) X xkC I (c_C2_sortOf hc_12 H.size) gX11_item_X2_sortOf rfl ⟨rfl, rfl⟩ (by decide +kernel) ⟨Nat.le_of_ble_eq_true rfl, Nat.le_of_ble_eq_true rfl⟩ (by decide) shC_22 rfl rfl hl.1 rfl (Nat.le_of_ble_eq_true rfl) dX11_item_40) I (fun H locs I => ?_)
        refine lv_iload_n hx hb dX11_item_43 rfl (lv_at hl 2 rfl) ?_
        refine lv_icmp_eq (tgt := 50) hx hb dX11_item_44 (by decide) (fun c_15 => ?_) (fun c_15 => ?_)
        · have h := if_t h c_15
          refine lv_iload_n hx hb dX11_item_50 rfl (lv_at hl 3 rfl) ?_
          refine lv_aload_n hx hb dX11_item_51 rfl (lv_at hl 0 rfl) ?_
          refine ig_ (index := 59) X I (fun _ q => List.mem_cons_of_mem _ (List.mem_append_left _ (List.mem_append_right _ q))) 0 (by decide) shC_0 rfl 5 (by decide) (by decide +kernel) rfl (v := .ref (a 22)) rfl dX11_item_52 ?_
          refine lv_iload_n hx hb dX11_item_55 rfl (lv_at hl 1 rfl) ?_
          obtain ⟨r_18, σ_17, hc_16, h⟩ := bi_of h
          refine cg_ (v := .int r_18) (rV_ (nn := 1) (As := [.int x1]) (rest := [.int x3]) X xkC I (c_C2_sizeOf hc_16 H.size) gX11_item_X2_sizeOf rfl ⟨rfl, rfl⟩ (by decide +kernel) ⟨Nat.le_of_ble_eq_true rfl, Nat.le_of_ble_eq_true rfl⟩ (by decide) shC_22 rfl rfl hl.1 rfl (Nat.le_of_ble_eq_true rfl) dX11_item_56) I (fun H locs I => ?_)
          refine lv_iconst (v := 1) hx hb dX11_item_59 (by decide) ?_
          refine lv_isub hx hb dX11_item_60 ?_
          obtain ⟨r_20, hc_19, h⟩ := bp_of h
          refine cp_ (rP_ (nn := 2) (As := [.int x3, .int (r_18 - (1 : Int32))]) (rest := []) ⟨hx, hb, hml, hown, hts⟩ (c_C_within hc_19) gX11_item_X11_within rfl ⟨rfl, rfl⟩ (by decide +kernel) ⟨Nat.le_of_ble_eq_true rfl, Nat.le_of_ble_eq_true rfl⟩ rfl hl.1 rfl (Nat.le_of_ble_eq_true rfl) dX11_item_61 ⟨Nat.zero_le _, Nat.zero_le _⟩) ?_
          refine lv_if_eq (tgt := 80) hx hb dX11_item_64 (by decide) (fun c_21 => ?_) (fun c_21 => ?_)
          · have h := if_t h c_21
            refine lv_bipush (v := (-12)) hx hb dX11_item_80 (by decide) ?_
            obtain ⟨rfl, rfl⟩ := re_s h
            exact rti_ X I dX11_item_82
          · have h := if_f h c_21
            refine lv_aload_n hx hb dX11_item_67 rfl (lv_at hl 0 rfl) ?_
            refine ig_ (index := 59) X I (fun _ q => List.mem_cons_of_mem _ (List.mem_append_left _ (List.mem_append_right _ q))) 0 (by decide) shC_0 rfl 5 (by decide) (by decide +kernel) rfl (v := .ref (a 22)) rfl dX11_item_68 ?_
            refine lv_iload_n hx hb dX11_item_71 rfl (lv_at hl 1 rfl) ?_
            refine lv_iload_n hx hb dX11_item_72 rfl (lv_at hl 3 rfl) ?_
            obtain ⟨r_24, σ_23, hc_22, h⟩ := bi_of h
            refine cg_ (v := .long r_24) (rV_ (nn := 2) (As := [.int x1, .int x3]) (rest := []) X xkC I (c_C2_itemAt hc_22 H.size) gX11_item_X2_itemAt rfl ⟨rfl, rfl⟩ (by decide +kernel) ⟨Nat.le_of_ble_eq_true rfl, Nat.le_of_ble_eq_true rfl⟩ (by decide) shC_22 rfl rfl hl.1 rfl (Nat.le_of_ble_eq_true rfl) dX11_item_73) I (fun H locs I => ?_)
            refine lv_l2i hx hb dX11_item_76 rfl ?_
            refine lv_goto (tgt := 82) hx hb dX11_item_77 (by decide) ?_
            obtain ⟨rfl, rfl⟩ := re_s h
            exact rti_ X I dX11_item_82
        · have h := if_f h c_15
          refine lv_bipush (v := (-13)) hx hb dX11_item_47 (by decide) ?_
          obtain ⟨rfl, rfl⟩ := re_s h
          exact rti_ X I dX11_item_49
      · have h := if_f h c_11
        refine lv_bipush (v := (-11)) hx hb dX11_item_32 (by decide) ?_
        obtain ⟨rfl, rfl⟩ := re_s h
        exact rti_ X I dX11_item_34
    · have h := if_t h c_7
      refine lv_iconst (v := (-1)) hx hb dX11_item_19 (by decide) ?_
      obtain ⟨rfl, rfl⟩ := re_s h
      exact rti_ X I dX11_item_20
theorem c_C_item {l : Launch} {D : va_G} {cy : Nat → ClassId} {a gs : Nat → Nat} {σ : Sg} {x1 : Int32} {x2 : Int32} {x3 : Int32} {r0 : Int32} {σ' : Sg} (h : C_item_0 σ x1 x2 x3 = some (r0, σ')) (sz : Nat) : Met l yX11_item wsX11_item ({ frames := 4, cells := 0, slots := 0, locals := 86 }) (va_Pc [.ref (a 0), .int x1, .int x2, .int x3] (pr_ 59 a D cy (shC cy a σ) (xfC gs) sz)) (qg_ 59 a D (shC cy a σ') (some (.int r0)) sz) 0 0 (fr_ 59 a sz) := by
  refine ent_ (by decide) rfl (Nat.le_of_ble_eq_true rfl) ?_
  intro p e s m below meth c ls hsz X I hl
  subst hsz
  exact kC_item_0 X σ x1 x2 x3 s.heap [] ls h I hl

def C2_isShelf_0  (σ : Sg) (x1 : Int32) : Option (Int32 × Sg) :=
  bp_ (C_within_0 x1 (3 : Int32)) fun r_2 =>
  gd_ (bo_ r_2) (some (r_2, σ))
set_option maxRecDepth 100000 in
theorem kC2_isShelf_0 {p : Program} {l : Launch} {e : Env} {s : State} {m : MethodId} {args : Array Value} {below : List Frame} {meth : Method} {c : Code} {D : va_G} {cy : Nat → ClassId} {a gs : Nat → Nat} (X : cx_ cX2_isShelf RX2 wsX2_isShelf 2 (some .boolean) 59 a D cy (xfC gs) p s m args meth c)  {r0 : Int32} {σ' : Sg}  : ∀ (σ : Sg) (x1 : Int32) (H : Heap) (locs : List Loc) (ls : Array Slot), C2_isShelf_0 σ x1 = some (r0, σ') → iv_ 59 a D (shC cy a σ) s H locs → lv_has ls 2 [(0, .ref (a 22)), (1, .int x1)] → W p l e ({ frames := 1, cells := 0, slots := 0, locals := 21 }) s m args below meth c H locs 0 0 (MQ below (qg_ 59 a D (shC cy a σ') (some (.int r0)) s.heap.size) args s 0 0 (fr_ 59 a s.heap.size)) (F0 m 0 ls []) := by
  obtain ⟨hx, hb, hr, hml, hown, hts, hlk, hK, hA, hXf⟩ := id X
  intro σ x1 H locs ls h I hl
  unfold C2_isShelf_0 at h
  refine lv_iload_n hx hb dX2_isShelf_0 rfl (lv_at hl 1 rfl) ?_
  refine lv_iconst (v := 3) hx hb dX2_isShelf_1 (by decide) ?_
  obtain ⟨r_2, hc_1, h⟩ := bp_of h
  refine cp_ (rN_ (host := "BoundGodmothers") (nn := 2) (As := [.int x1, .int (3 : Int32)]) (rest := []) ⟨hx, hb, hml, hown, hts⟩ (c_C_within hc_1) gX2_isShelf_X11_within_n29 (xC_nw2 hXf) (by decide +kernel) (by decide +kernel) rfl ⟨rfl, rfl⟩ (by decide +kernel) ⟨Nat.le_of_ble_eq_true rfl, Nat.le_of_ble_eq_true rfl⟩ rfl hl.1 rfl (Nat.le_of_ble_eq_true rfl) dX2_isShelf_2 ⟨Nat.zero_le _, Nat.zero_le _⟩) ?_
  obtain ⟨g_3, h⟩ := gd_of h
  obtain ⟨rfl, rfl⟩ := re_s h
  exact rtz_ X I (bo_of g_3).1 dX2_isShelf_5
theorem c_C2_isShelf {l : Launch} {D : va_G} {cy : Nat → ClassId} {a gs : Nat → Nat} {σ : Sg} {x1 : Int32} {r0 : Int32} {σ' : Sg} (h : C2_isShelf_0 σ x1 = some (r0, σ')) (sz : Nat) : Met l yX2_isShelf wsX2_isShelf ({ frames := 1, cells := 0, slots := 0, locals := 21 }) (va_Pc [.ref (a 22), .int x1] (pr_ 59 a D cy (shC cy a σ) (xfC gs) sz)) (qg_ 59 a D (shC cy a σ') (some (.int r0)) sz) 0 0 (fr_ 59 a sz) := by
  refine ent_ (by decide) rfl (Nat.le_of_ble_eq_true rfl) ?_
  intro p e s m below meth c ls hsz X I hl
  subst hsz
  exact kC2_isShelf_0 X σ x1 s.heap [] ls h I hl
