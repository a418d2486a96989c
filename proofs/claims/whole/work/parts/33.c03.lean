def C_godmother_0  (σ : Sg) (x1 : Int32) (x2 : Int32) : Option (Int32 × Sg) :=
  bp_ (C_isGodmother_0 x1) fun r_2 =>
  if r_2 = 0 then (some ((-1 : Int32), σ))
  else (if x2 = 0 then (gd_ (in_ x1 8) (
  some ((rd_ σ 7 x1.toNatClampNeg), σ)))
  else (if x2 = 1 then (bi_ (C1_isEasy_0 σ x1) fun r_9 σ_8 =>
  if r_9 = 0 then (some ((0 : Int32), σ_8))
  else (some ((1 : Int32), σ_8)))
  else (if x2 = 2 then (bi_ (C1_swornTo_0 σ x1) fun r_14 σ_13 =>
  some (r_14, σ_13))
  else (some ((-1 : Int32), σ)))))
set_option maxRecDepth 100000 in
theorem kC_godmother_0 {p : Program} {l : Launch} {e : Env} {s : State} {m : MethodId} {args : Array Value} {below : List Frame} {meth : Method} {c : Code} {D : va_G} {cy : Nat → ClassId} {a gs : Nat → Nat} (X : cx_ cX11_godmother RX11 wsX11_godmother 3 (some .int) 59 a D cy (xfC gs) p s m args meth c)  {r0 : Int32} {σ' : Sg}  : ∀ (σ : Sg) (x1 : Int32) (x2 : Int32) (H : Heap) (locs : List Loc) (ls : Array Slot), C_godmother_0 σ x1 x2 = some (r0, σ') → iv_ 59 a D (shC cy a σ) s H locs → lv_has ls 3 [(0, .ref (a 0)), (1, .int x1), (2, .int x2)] → W p l e ({ frames := 3, cells := 0, slots := 0, locals := 66 }) s m args below meth c H locs 0 0 (MQ below (qg_ 59 a D (shC cy a σ') (some (.int r0)) s.heap.size) args s 0 0 (fr_ 59 a s.heap.size)) (F0 m 0 ls []) := by
  obtain ⟨hx, hb, hr, hml, hown, hts, hlk, hK, hA, hXf⟩ := id X
  intro σ x1 x2 H locs ls h I hl
  unfold C_godmother_0 at h
  refine lv_iload_n hx hb dX11_godmother_0 rfl (lv_at hl 1 rfl) ?_
  obtain ⟨r_2, hc_1, h⟩ := bp_of h
  refine cp_ (rP_ (nn := 1) (As := [.int x1]) (rest := []) ⟨hx, hb, hml, hown, hts⟩ (c_C_isGodmother hc_1) gX11_godmother_X11_isGodmother rfl ⟨rfl, rfl⟩ (by decide +kernel) ⟨Nat.le_of_ble_eq_true rfl, Nat.le_of_ble_eq_true rfl⟩ rfl hl.1 rfl (Nat.le_of_ble_eq_true rfl) dX11_godmother_1 ⟨Nat.zero_le _, Nat.zero_le _⟩) ?_
  refine lv_if_ne (tgt := 9) hx hb dX11_godmother_4 (by decide) (fun c_3 => ?_) (fun c_3 => ?_)
  · have h := if_f h c_3
    refine lv_iload_n hx hb dX11_godmother_9 rfl (lv_at hl 2 rfl) ?_
    by_cases c_4 : x2 = 0
    · have h := if_t h c_4
      refine lv_tableIn (tgt := 36) (off := 26) hx hb dX11_godmother_10 (by rw [c_4]; decide) (by rw [c_4]; decide) (by rw [c_4]; decide) (by decide) ?_
      refine lv_aload_n hx hb dX11_godmother_36 rfl (lv_at hl 0 rfl) ?_
      refine ig_ (index := 30) X I (fun _ q => List.mem_cons_of_mem _ (List.mem_append_left _ (List.mem_append_left _ (List.mem_append_right _ q)))) 0 (by decide) shC_0 rfl 0 (by decide) (by decide +kernel) rfl (v := .ref (a 1)) rfl dX11_godmother_37 ?_
      refine ig_ (index := 159) X I (fun _ q => List.mem_cons_of_mem _ (List.mem_append_left _ (List.mem_append_right _ q))) 1 (by decide) shC_1 rfl 1 (by decide) (by decide +kernel) rfl (v := .ref (a 7)) rfl dX11_godmother_40 ?_
      refine lv_iload_n hx hb dX11_godmother_43 rfl (lv_at hl 1 rfl) ?_
      obtain ⟨g_5, h⟩ := gd_of h
      refine ia_ X I 7 (by decide) shC_7 (in_of g_5) (v0 := (rd_ σ 7 x1.toNatClampNeg)) rfl dX11_godmother_44 ?_
      obtain ⟨rfl, rfl⟩ := re_s h
      exact rti_ X I dX11_godmother_45
    · have h := if_f h c_4
      by_cases c_6 : x2 = 1
      · have h := if_t h c_6
        refine lv_tableIn (tgt := 46) (off := 36) hx hb dX11_godmother_10 (by rw [c_6]; decide) (by rw [c_6]; decide) (by rw [c_6]; decide) (by decide) ?_
        refine lv_aload_n hx hb dX11_godmother_46 rfl (lv_at hl 0 rfl) ?_
        refine ig_ (index := 30) X I (fun _ q => List.mem_cons_of_mem _ (List.mem_append_left _ (List.mem_append_left _ (List.mem_append_right _ q)))) 0 (by decide) shC_0 rfl 0 (by decide) (by decide +kernel) rfl (v := .ref (a 1)) rfl dX11_godmother_47 ?_
        refine lv_iload_n hx hb dX11_godmother_50 rfl (lv_at hl 1 rfl) ?_
        obtain ⟨r_9, σ_8, hc_7, h⟩ := bi_of h
        refine cg_ (v := .int r_9) (rV_ (nn := 1) (As := [.int x1]) (rest := []) X xkC I (c_C1_isEasy hc_7 H.size) gX11_godmother_X1_isEasy rfl ⟨rfl, rfl⟩ (by decide +kernel) ⟨Nat.le_of_ble_eq_true rfl, Nat.le_of_ble_eq_true rfl⟩ (by decide) shC_1 rfl rfl hl.1 rfl (Nat.le_of_ble_eq_true rfl) dX11_godmother_51) I (fun H locs I => ?_)
        refine lv_if_eq (tgt := 61) hx hb dX11_godmother_54 (by decide) (fun c_10 => ?_) (fun c_10 => ?_)
        · have h := if_t h c_10
          refine lv_iconst (v := 0) hx hb dX11_godmother_61 (by decide) ?_
          obtain ⟨rfl, rfl⟩ := re_s h
          exact rti_ X I dX11_godmother_62
        · have h := if_f h c_10
          refine lv_iconst (v := 1) hx hb dX11_godmother_57 (by decide) ?_
          refine lv_goto (tgt := 62) hx hb dX11_godmother_58 (by decide) ?_
          obtain ⟨rfl, rfl⟩ := re_s h
          exact rti_ X I dX11_godmother_62
      · have h := if_f h c_6
        by_cases c_11 : x2 = 2
        · have h := if_t h c_11
          refine lv_tableIn (tgt := 63) (off := 53) hx hb dX11_godmother_10 (by rw [c_11]; decide) (by rw [c_11]; decide) (by rw [c_11]; decide) (by decide) ?_
          refine lv_aload_n hx hb dX11_godmother_63 rfl (lv_at hl 0 rfl) ?_
          refine ig_ (index := 30) X I (fun _ q => List.mem_cons_of_mem _ (List.mem_append_left _ (List.mem_append_left _ (List.mem_append_right _ q)))) 0 (by decide) shC_0 rfl 0 (by decide) (by decide +kernel) rfl (v := .ref (a 1)) rfl dX11_godmother_64 ?_
          refine lv_iload_n hx hb dX11_godmother_67 rfl (lv_at hl 1 rfl) ?_
          obtain ⟨r_14, σ_13, hc_12, h⟩ := bi_of h
          refine cg_ (v := .int r_14) (rV_ (nn := 1) (As := [.int x1]) (rest := []) X xkC I (c_C1_swornTo hc_12 H.size) gX11_godmother_X1_swornTo rfl ⟨rfl, rfl⟩ (by decide +kernel) ⟨Nat.le_of_ble_eq_true rfl, Nat.le_of_ble_eq_true rfl⟩ (by decide) shC_1 rfl rfl hl.1 rfl (Nat.le_of_ble_eq_true rfl) dX11_godmother_68) I (fun H locs I => ?_)
          obtain ⟨rfl, rfl⟩ := re_s h
          exact rti_ X I dX11_godmother_71
        · have h := if_f h c_11
          refine lv_tableOut (tgt := 72) hx hb dX11_godmother_10 (by have q0 := lv_neT (a := 0) c_4 rfl; have q1 := lv_neT (a := 1) c_6 rfl; have q2 := lv_neT (a := 2) c_11 rfl; omega) (by decide) ?_
          refine lv_iconst (v := (-1)) hx hb dX11_godmother_72 (by decide) ?_
          obtain ⟨rfl, rfl⟩ := re_s h
          exact rti_ X I dX11_godmother_73
  · have h := if_t h c_3
    refine lv_iconst (v := (-1)) hx hb dX11_godmother_7 (by decide) ?_
    obtain ⟨rfl, rfl⟩ := re_s h
    exact rti_ X I dX11_godmother_8
theorem c_C_godmother {l : Launch} {D : va_G} {cy : Nat → ClassId} {a gs : Nat → Nat} {σ : Sg} {x1 : Int32} {x2 : Int32} {r0 : Int32} {σ' : Sg} (h : C_godmother_0 σ x1 x2 = some (r0, σ')) (sz : Nat) : Met l yX11_godmother wsX11_godmother ({ frames := 3, cells := 0, slots := 0, locals := 66 }) (va_Pc [.ref (a 0), .int x1, .int x2] (pr_ 59 a D cy (shC cy a σ) (xfC gs) sz)) (qg_ 59 a D (shC cy a σ') (some (.int r0)) sz) 0 0 (fr_ 59 a sz) := by
  refine ent_ (by decide) rfl (Nat.le_of_ble_eq_true rfl) ?_
  intro p e s m below meth c ls hsz X I hl
  subst hsz
  exact kC_godmother_0 X σ x1 x2 s.heap [] ls h I hl

def C1_traitsTogether_29 (k4 : Sg → Int32 → Int32 → Option (Int32 × Sg)) (σ : Sg) (x1 : Int32) (x2 : Int32) : Option (Int32 × Sg) :=
  lt_ (x2 + (1 : Int32)) fun y_1 =>
  k4 σ x1 y_1
set_option maxRecDepth 100000 in
theorem kC1_traitsTogether_29 {p : Program} {l : Launch} {e : Env} {s : State} {m : MethodId} {args : Array Value} {below : List Frame} {meth : Method} {c : Code} {D : va_G} {cy : Nat → ClassId} {a gs : Nat → Nat} (X : cx_ cX1_traitsTogether RX1 wsX1_traitsTogether 4 (some .int) 59 a D cy (xfC gs) p s m args meth c) {k4 : Sg → Int32 → Int32 → Option (Int32 × Sg)} {r0 : Int32} {σ' : Sg} (hk4 : ∀ (σ : Sg) (x1 : Int32) (x2 : Int32) (H : Heap) (locs : List Loc) (ls : Array Slot), k4 σ x1 x2 = some (r0, σ') → iv_ 59 a D (shC cy a σ) s H locs → lv_has ls 4 [(0, .ref (a 1)), (1, .int x1), (2, .int x2)] → W p l e ({ frames := 2, cells := 0, slots := 0, locals := 42 }) s m args below meth c H locs 0 0 (MQ below (qg_ 59 a D (shC cy a σ') (some (.int r0)) s.heap.size) args s 0 0 (fr_ 59 a s.heap.size)) (F0 m 4 ls [])) : ∀ (σ : Sg) (x1 : Int32) (x2 : Int32) (H : Heap) (locs : List Loc) (ls : Array Slot), C1_traitsTogether_29 k4 σ x1 x2 = some (r0, σ') → iv_ 59 a D (shC cy a σ) s H locs → lv_has ls 4 [(0, .ref (a 1)), (1, .int x1), (2, .int x2)] → W p l e ({ frames := 2, cells := 0, slots := 0, locals := 42 }) s m args below meth c H locs 0 0 (MQ below (qg_ 59 a D (shC cy a σ') (some (.int r0)) s.heap.size) args s 0 0 (fr_ 59 a s.heap.size)) (F0 m 29 ls []) := by
  obtain ⟨hx, hb, hr, hml, hown, hts, hlk, hK, hA, hXf⟩ := id X
  intro σ x1 x2 H locs ls h I hl
  unfold C1_traitsTogether_29 at h
  obtain ⟨y_1, e_2⟩ : ∃ q : Int32, q = x2 + (1 : Int32) := ⟨_, rfl⟩
  have h := lt_at h e_2
  refine lv_iinc (v := y_1) (lv' := [(2, .int y_1), (0, .ref (a 1)), (1, .int x1)]) hx hb dX1_traitsTogether_29 hl (k := 2) rfl (by rw [e_2]; rfl) (by decide) rfl (fun ls hl => ?_)
  refine lv_goto (tgt := 4) hx hb dX1_traitsTogether_32 (by decide) ?_
  exact hk4 σ x1 y_1 H locs ls h I (lv_sub hl [1, 2, 0] rfl)
def C1_traitsTogether_4 (k4 : Sg → Int32 → Int32 → Option (Int32 × Sg)) (σ : Sg) (x1 : Int32) (x2 : Int32) : Option (Int32 × Sg) :=
  if (rd_ σ 1 3) ≤ x2 then (some (x1, σ))
  else (bi_ (C1_life_0 σ x2) fun r_4 σ_3 =>
  on_ r_4 (C1_traitsTogether_29 k4 σ_3 x1 x2) fun j_5 =>
  gd_ (lf_ j_5 25) (
  lt_ ((x1 + (rd_ σ_3 (34 + j_5) 1))) fun y_7 =>
  C1_traitsTogether_29 k4 σ_3 y_7 x2))
set_option maxRecDepth 100000 in
theorem kC1_traitsTogether_4 {p : Program} {l : Launch} {e : Env} {s : State} {m : MethodId} {args : Array Value} {below : List Frame} {meth : Method} {c : Code} {D : va_G} {cy : Nat → ClassId} {a gs : Nat → Nat} (X : cx_ cX1_traitsTogether RX1 wsX1_traitsTogether 4 (some .int) 59 a D cy (xfC gs) p s m args meth c) {k4 : Sg → Int32 → Int32 → Option (Int32 × Sg)} {r0 : Int32} {σ' : Sg} (hk4 : ∀ (σ : Sg) (x1 : Int32) (x2 : Int32) (H : Heap) (locs : List Loc) (ls : Array Slot), k4 σ x1 x2 = some (r0, σ') → iv_ 59 a D (shC cy a σ) s H locs → lv_has ls 4 [(0, .ref (a 1)), (1, .int x1), (2, .int x2)] → W p l e ({ frames := 2, cells := 0, slots := 0, locals := 42 }) s m args below meth c H locs 0 0 (MQ below (qg_ 59 a D (shC cy a σ') (some (.int r0)) s.heap.size) args s 0 0 (fr_ 59 a s.heap.size)) (F0 m 4 ls [])) : ∀ (σ : Sg) (x1 : Int32) (x2 : Int32) (H : Heap) (locs : List Loc) (ls : Array Slot), C1_traitsTogether_4 k4 σ x1 x2 = some (r0, σ') → iv_ 59 a D (shC cy a σ) s H locs → lv_has ls 4 [(0, .ref (a 1)), (1, .int x1), (2, .int x2)] → W p l e ({ frames := 2, cells := 0, slots := 0, locals := 42 }) s m args below meth c H locs 0 0 (MQ below (qg_ 59 a D (shC cy a σ') (some (.int r0)) s.heap.size) args s 0 0 (fr_ 59 a s.heap.size)) (F0 m 4 ls []) := by
  obtain ⟨hx, hb, hr, hml, hown, hts, hlk, hK, hA, hXf⟩ := id X
  intro σ x1 x2 H locs ls h I hl
  unfold C1_traitsTogether_4 at h
  refine lv_iload_n hx hb dX1_traitsTogether_4 rfl (lv_at hl 2 rfl) ?_
  refine lv_aload_n hx hb dX1_traitsTogether_5 rfl (lv_at hl 0 rfl) ?_
  refine ig_ (index := 42) X I (fun _ q => List.mem_cons_of_mem _ (List.mem_append_left _ (List.mem_append_right _ q))) 1 (by decide) shC_1 rfl 3 (by decide) (by decide +kernel) rfl (v := .int (rd_ σ 1 3)) rfl dX1_traitsTogether_6 ?_
  refine lv_icmp_ge (tgt := 35) hx hb dX1_traitsTogether_9 (by decide) (fun c_1 => ?_) (fun c_1 => ?_)
  · have h := if_t h c_1
    refine lv_iload_n hx hb dX1_traitsTogether_35 rfl (lv_at hl 1 rfl) ?_
    obtain ⟨rfl, rfl⟩ := re_s h
    exact rti_ X I dX1_traitsTogether_36
  · have h := if_f h c_1
    refine lv_aload_n hx hb dX1_traitsTogether_12 rfl (lv_at hl 0 rfl) ?_
    refine lv_iload_n hx hb dX1_traitsTogether_13 rfl (lv_at hl 2 rfl) ?_
    obtain ⟨r_4, σ_3, hc_2, h⟩ := bi_of h
    refine cg_ (v := va_re (fun j => a (34 + j)) r_4) (rV_ (nn := 1) (As := [.int x2]) (rest := []) X xkC I (c_C1_life hc_2 H.size) gX1_traitsTogether_X1_life rfl ⟨rfl, rfl⟩ (by decide +kernel) ⟨Nat.le_of_ble_eq_true rfl, Nat.le_of_ble_eq_true rfl⟩ (by decide) shC_1 rfl rfl hl.1 rfl (Nat.le_of_ble_eq_true rfl) dX1_traitsTogether_14) I (fun H locs I => ?_)
    rcases r_4 with _ | j_5
    · have h := on_n h
      refine W.eq (g2 := F0 m 17 ls [.null]) rfl ?_
      refine lv_astore_nN (lv' := [(3, .null), (0, .ref (a 1)), (1, .int x1), (2, .int x2)]) hx hb dX1_traitsTogether_17 rfl hl (by decide) rfl (fun ls hl => ?_)
      refine lv_aload_nN hx hb dX1_traitsTogether_18 rfl (lv_at hl 0 rfl) ?_
      refine lv_ifnullN (tgt := 29) hx hb dX1_traitsTogether_19 (by decide) ?_
      exact kC1_traitsTogether_29 X hk4 σ_3 x1 x2 H locs ls h I (lv_sub hl [1, 2, 3] rfl)
    · have h := on_s h
      refine W.eq (g2 := F0 m 17 ls [.ref (a (34 + j_5))]) rfl ?_
      refine lv_astore_n (lv' := [(3, .ref (a (34 + j_5))), (0, .ref (a 1)), (1, .int x1), (2, .int x2)]) hx hb dX1_traitsTogether_17 rfl hl (by decide) rfl (fun ls hl => ?_)
      refine lv_aload_n hx hb dX1_traitsTogether_18 rfl (lv_at hl 0 rfl) ?_
      refine lv_ifnull hx hb dX1_traitsTogether_19 ?_
      refine lv_iload_n hx hb dX1_traitsTogether_22 rfl (lv_at hl 2 rfl) ?_
      refine lv_aload_n hx hb dX1_traitsTogether_23 rfl (lv_at hl 0 rfl) ?_
      obtain ⟨g_6, h⟩ := gd_of h
      refine ig_ (index := 119) X I (fun _ q => List.mem_cons_of_mem _ (List.mem_append_right _ q)) (34 + j_5) (lf59 g_6) shC_L rfl 1 (by decide) (by decide +kernel) rfl (v := .int (rd_ σ_3 (34 + j_5) 1)) rfl dX1_traitsTogether_24 ?_
      refine lv_iadd hx hb dX1_traitsTogether_27 ?_
      refine lv_topi (fun y_7 e_8 => ?_)
      have h := lt_at h e_8
      refine lv_istore_n (lv' := [(1, .int y_7), (3, .ref (a (34 + j_5))), (0, .ref (a 1)), (2, .int x2)]) hx hb dX1_traitsTogether_28 rfl hl (by decide) rfl (fun ls hl => ?_)
      exact kC1_traitsTogether_29 X hk4 σ_3 y_7 x2 H locs ls h I (lv_sub hl [2, 0, 3] rfl)
set_option maxRecDepth 100000 in
theorem kC1_traitsTogether_4L {p : Program} {l : Launch} {e : Env} {s : State} {m : MethodId} {args : Array Value} {below : List Frame} {meth : Method} {c : Code} {D : va_G} {cy : Nat → ClassId} {a gs : Nat → Nat} (X : cx_ cX1_traitsTogether RX1 wsX1_traitsTogether 4 (some .int) 59 a D cy (xfC gs) p s m args meth c)  {r0 : Int32} {σ' : Sg}  : ∀ (n : Nat), ∀ (σ : Sg) (x1 : Int32) (x2 : Int32) (H : Heap) (locs : List Loc) (ls : Array Slot), lp_ (C1_traitsTogether_4) (fun _ _ _ => none) n σ x1 x2 = some (r0, σ') → iv_ 59 a D (shC cy a σ) s H locs → lv_has ls 4 [(0, .ref (a 1)), (1, .int x1), (2, .int x2)] → W p l e ({ frames := 2, cells := 0, slots := 0, locals := 42 }) s m args below meth c H locs 0 0 (MQ below (qg_ 59 a D (shC cy a σ') (some (.int r0)) s.heap.size) args s 0 0 (fr_ 59 a s.heap.size)) (F0 m 4 ls []) := by
  intro n
  induction n with
  | zero =>
    intro _ _ _ _ _ _ h
    exact absurd h (fun q => by cases (show (none : Option _) = some _ from q))
  | succ n ih => exact kC1_traitsTogether_4 X ih

def C1_traitsTogether_0  (σ : Sg)  : Option (Int32 × Sg) :=
  lp_ C1_traitsTogether_4 (fun _ _ _ => none) FU σ (0 : Int32) (0 : Int32)
set_option maxRecDepth 100000 in
theorem kC1_traitsTogether_0 {p : Program} {l : Launch} {e : Env} {s : State} {m : MethodId} {args : Array Value} {below : List Frame} {meth : Method} {c : Code} {D : va_G} {cy : Nat → ClassId} {a gs : Nat → Nat} (X : cx_ cX1_traitsTogether RX1 wsX1_traitsTogether 4 (some .int) 59 a D cy (xfC gs) p s m args meth c)  {r0 : Int32} {σ' : Sg}  : ∀ (σ : Sg)  (H : Heap) (locs : List Loc) (ls : Array Slot), C1_traitsTogether_0 σ = some (r0, σ') → iv_ 59 a D (shC cy a σ) s H locs → lv_has ls 4 [(0, .ref (a 1))] → W p l e ({ frames := 2, cells := 0, slots := 0, locals := 42 }) s m args below meth c H locs 0 0 (MQ below (qg_ 59 a D (shC cy a σ') (some (.int r0)) s.heap.size) args s 0 0 (fr_ 59 a s.heap.size)) (F0 m 0 ls []) := by
  obtain ⟨hx, hb, hr, hml, hown, hts, hlk, hK, hA, hXf⟩ := id X
  intro σ  H locs ls h I hl
  unfold C1_traitsTogether_0 at h
  refine lv_iconst (v := 0) hx hb dX1_traitsTogether_0 (by decide) ?_
  refine lv_istore_n (lv' := [(1, .int (0 : Int32)), (0, .ref (a 1))]) hx hb dX1_traitsTogether_1 rfl hl (by decide) rfl (fun ls hl => ?_)
  refine lv_iconst (v := 0) hx hb dX1_traitsTogether_2 (by decide) ?_
  refine lv_istore_n (lv' := [(2, .int (0 : Int32)), (1, .int (0 : Int32)), (0, .ref (a 1))]) hx hb dX1_traitsTogether_3 rfl hl (by decide) rfl (fun ls hl => ?_)
  exact kC1_traitsTogether_4L X  FU σ (0 : Int32) (0 : Int32) H locs ls h I (lv_sub hl [2, 1, 0] rfl)
theorem c_C1_traitsTogether {l : Launch} {D : va_G} {cy : Nat → ClassId} {a gs : Nat → Nat} {σ : Sg}  {r0 : Int32} {σ' : Sg} (h : C1_traitsTogether_0 σ  = some (r0, σ')) (sz : Nat) : Met l yX1_traitsTogether wsX1_traitsTogether ({ frames := 2, cells := 0, slots := 0, locals := 42 }) (va_Pc [.ref (a 1)] (pr_ 59 a D cy (shC cy a σ) (xfC gs) sz)) (qg_ 59 a D (shC cy a σ') (some (.int r0)) sz) 0 0 (fr_ 59 a sz) := by
  refine ent_ (by decide) rfl (Nat.le_of_ble_eq_true rfl) ?_
  intro p e s m below meth c ls hsz X I hl
  subst hsz
  exact kC1_traitsTogether_0 X σ  s.heap [] ls h I hl

def C_held_0  (x0 : Int32) : Option Int32 :=
  some ((if (0 : Int32) < (if x0 < (99 : Int32) then x0 else (99 : Int32)) then (if x0 < (99 : Int32) then x0 else (99 : Int32)) else (0 : Int32)))
set_option maxRecDepth 100000 in
theorem kC_held_0 {p : Program} {l : Launch} {e : Env} {s : State} {m : MethodId} {args : Array Value} {below : List Frame} {meth : Method} {c : Code} (X : px_ cX11_held RX11 wsX11_held 1 (some .int) p s m args meth c)  {r0 : Int32}  : ∀ (x0 : Int32) (ls : Array Slot), C_held_0 x0 = some r0 → lv_has ls 1 [(0, .int x0)] → W p l e ({ frames := 1, cells := 0, slots := 0, locals := 21 }) s m args below meth c s.heap [] 0 0 (MQ below (qp_ (some (.int r0))) args s 0 0 (fun _ => False)) (F0 m 0 ls []) := by
  obtain ⟨hx, hb, hr, hml, hown, hts, hlk⟩ := id X
  intro x0 ls h hl
  unfold C_held_0 at h
  refine lv_iconst (v := 0) hx hb dX11_held_0 (by decide) ?_
  refine lv_bipush (v := 99) hx hb dX11_held_1 (by decide) ?_
  refine lv_iload_n hx hb dX11_held_3 rfl (lv_at hl 0 rfl) ?_
  refine va_mmin hx hb (by rw [hml]; exact hl.1.symm) hown (hts (.methodLink RX11 242 Lib.Math.min.name) (by decide +kernel)) (hts (.static Lib.Math.min.name) (by decide +kernel)) (hts (.initialized "java/lang/Math") (by decide +kernel)) (hts (.code Lib.Math.min.name Lib.Math.min.code 2 (some .int)) (by decide +kernel)) (Nat.le_of_ble_eq_true rfl) (Nat.le_of_ble_eq_true rfl) (Nat.zero_le _) (Nat.zero_le _) dX11_held_4 ?_
  refine va_mmax hx hb (by rw [hml]; exact hl.1.symm) hown (hts (.methodLink RX11 216 Lib.Math.max.name) (by decide +kernel)) (hts (.static Lib.Math.max.name) (by decide +kernel)) (hts (.initialized "java/lang/Math") (by decide +kernel)) (hts (.code Lib.Math.max.name Lib.Math.max.code 2 (some .int)) (by decide +kernel)) (Nat.le_of_ble_eq_true rfl) (Nat.le_of_ble_eq_true rfl) (Nat.zero_le _) (Nat.zero_le _) dX11_held_7 ?_
  obtain rfl := re_p h
  exact rpi_ X dX11_held_10
theorem c_C_held {l : Launch} {x0 : Int32} {r0 : Int32} (h : C_held_0 x0 = some r0) : Met l yX11_held wsX11_held ({ frames := 1, cells := 0, slots := 0, locals := 21 }) (pp_ [.int x0]) (qp_ (some (.int r0))) 0 0 (fun _ => False) := by
  refine enp_ (by decide) rfl (Nat.le_of_ble_eq_true rfl) ?_
  intro p e s m below meth c ls X hl
  exact kC_held_0 X x0 ls h hl

def C6_move_28  (σ : Sg) (t1 : Int32) (t0 : Nat) : Option (Unit × Sg) :=
  bp_ (C_held_0 t1) fun r_2 =>
  gd_ (lf_ t0 25) (
  lt_ (wr_ σ (34 + t0) 1 r_2) fun σ_4 =>
  some ((), σ_4))
set_option maxRecDepth 100000 in
theorem kC6_move_28 {p : Program} {l : Launch} {e : Env} {s : State} {m : MethodId} {args : Array Value} {below : List Frame} {meth : Method} {c : Code} {D : va_G} {cy : Nat → ClassId} {a gs : Nat → Nat} (X : cx_ cX6_move RX6 wsX6_move 4 none 59 a D cy (xfC gs) p s m args meth c)   {σ' : Sg}  : ∀ (σ : Sg) (t1 : Int32) (t0 : Nat) (H : Heap) (locs : List Loc) (ls : Array Slot), C6_move_28 σ t1 t0 = some ((), σ') → iv_ 59 a D (shC cy a σ) s H locs → lv_has ls 4 [] → W p l e ({ frames := 2, cells := 0, slots := 0, locals := 41 }) s m args below meth c H locs 0 0 (MQ below (qg_ 59 a D (shC cy a σ') none s.heap.size) args s 0 0 (fr_ 59 a s.heap.size)) (F0 m 28 ls [.int t1, .ref (a (34 + t0))]) := by
  obtain ⟨hx, hb, hr, hml, hown, hts, hlk, hK, hA, hXf⟩ := id X
  intro σ t1 t0 H locs ls h I hl
  unfold C6_move_28 at h
  obtain ⟨r_2, hc_1, h⟩ := bp_of h
  refine cp_ (rN_ (host := "BoundGodmothers") (nn := 1) (As := [.int t1]) (rest := [.ref (a (34 + t0))]) ⟨hx, hb, hml, hown, hts⟩ (c_C_held hc_1) gX6_move_X11_held_n36 (xC_nh6 hXf) (by decide +kernel) (by decide +kernel) rfl ⟨rfl, rfl⟩ (by decide +kernel) ⟨Nat.le_of_ble_eq_true rfl, Nat.le_of_ble_eq_true rfl⟩ rfl hl.1 rfl (Nat.le_of_ble_eq_true rfl) dX6_move_28 ⟨Nat.zero_le _, Nat.zero_le _⟩) ?_
  obtain ⟨g_3, h⟩ := gd_of h
  refine ip_ (index := 15) (ty := .int) X I (fun _ q => List.mem_cons_of_mem _ (List.mem_append_right _ q)) tyX6 tyX6_ok nmX6 (34 + t0) (lf59 g_3) shC_L rfl 1 (by decide) (by decide +kernel) rfl rfl (by decide +kernel) rfl rfl (Nat.le_of_ble_eq_true rfl) shC_pl_1 dX6_move_31 (fun σ_4 H locs e_5 I => ?_)
  have h := lt_at h e_5
  refine lv_goto (tgt := 76) hx hb dX6_move_34 (by decide) ?_
  obtain rfl := re_v h
  exact rtv_ X I dX6_move_76
def C6_move_0  (σ : Sg) (x0 : Nat) (x1 : Int32) (x2 : Int32) (x3 : Int32) : Option (Unit × Sg) :=
  if x3 = 0 then (gd_ (lf_ x0 25) (
  if (rd_ σ (34 + x0) 1) < x2 then (C6_move_28 σ ((rd_ σ (34 + x0) 1) - x1) x0)
  else (C6_move_28 σ ((rd_ σ (34 + x0) 1) + x1) x0)))
  else (gd_ (lf_ x0 25) (
  if x2 ≤ (rd_ σ (34 + x0) 1) then (lt_ (wr_ σ (34 + x0) 1 (if x2 < ((rd_ σ (34 + x0) 1) - x1) then ((rd_ σ (34 + x0) 1) - x1) else x2)) fun σ_4 =>
  some ((), σ_4))
  else (lt_ (wr_ σ (34 + x0) 1 (if ((rd_ σ (34 + x0) 1) + x1) < x2 then ((rd_ σ (34 + x0) 1) + x1) else x2)) fun σ_6 =>
  some ((), σ_6))))
set_option maxRecDepth 100000 in
theorem kC6_move_0 {p : Program} {l : Launch} {e : Env} {s : State} {m : MethodId} {args : Array Value} {below : List Frame} {meth : Method} {c : Code} {D : va_G} {cy : Nat → ClassId} {a gs : Nat → Nat} (X : cx_ cX6_move RX6 wsX6_move 4 none 59 a D cy (xfC gs) p s m args meth c)   {σ' : Sg}  : ∀ (σ : Sg) (x0 : Nat) (x1 : Int32) (x2 : Int32) (x3 : Int32) (H : Heap) (locs : List Loc) (ls : Array Slot), C6_move_0 σ x0 x1 x2 x3 = some ((), σ') → iv_ 59 a D (shC cy a σ) s H locs → lv_has ls 4 [(0, .ref (a (34 + x0))), (1, .int x1), (2, .int x2), (3, .int x3)] → W p l e ({ frames := 2, cells := 0, slots := 0, locals := 41 }) s m args below meth c H locs 0 0 (MQ below (qg_ 59 a D (shC cy a σ') none s.heap.size) args s 0 0 (fr_ 59 a s.heap.size)) (F0 m 0 ls []) := by
  obtain ⟨hx, hb, hr, hml, hown, hts, hlk, hK, hA, hXf⟩ := id X
  intro σ x0 x1 x2 x3 H locs ls h I hl
  unfold C6_move_0 at h
  refine lv_iload_n hx hb dX6_move_0 rfl (lv_at hl 3 rfl) ?_
  refine lv_if_ne (tgt := 37) hx hb dX6_move_1 (by decide) (fun c_1 => ?_) (fun c_1 => ?_)
  · have h := if_f h c_1
    refine lv_aload_n hx hb dX6_move_37 rfl (lv_at hl 0 rfl) ?_
    obtain ⟨g_2, h⟩ := gd_of h
    refine ig_ (index := 15) X I (fun _ q => List.mem_cons_of_mem _ (List.mem_append_right _ q)) (34 + x0) (lf59 g_2) shC_L rfl 1 (by decide) (by decide +kernel) rfl (v := .int (rd_ σ (34 + x0) 1)) rfl dX6_move_38 ?_
    refine lv_iload_n hx hb dX6_move_41 rfl (lv_at hl 2 rfl) ?_
    refine lv_icmp_ge (tgt := 62) hx hb dX6_move_42 (by decide) (fun c_3 => ?_) (fun c_3 => ?_)
    · have h := if_t h c_3
      refine lv_aload_n hx hb dX6_move_62 rfl (lv_at hl 0 rfl) ?_
      refine lv_iload_n hx hb dX6_move_63 rfl (lv_at hl 2 rfl) ?_
      refine lv_aload_n hx hb dX6_move_64 rfl (lv_at hl 0 rfl) ?_
      refine ig_ (index := 15) X I (fun _ q => List.mem_cons_of_mem _ (List.mem_append_right _ q)) (34 + x0) (lf59 g_2) shC_L rfl 1 (by decide) (by decide +kernel) rfl (v := .int (rd_ σ (34 + x0) 1)) rfl dX6_move_65 ?_
      refine lv_iload_n hx hb dX6_move_68 rfl (lv_at hl 1 rfl) ?_
      refine lv_isub hx hb dX6_move_69 ?_
      refine va_mmax hx hb (by rw [hml]; exact hl.1.symm) hown (hts (.methodLink RX6 43 Lib.Math.max.name) (by decide +kernel)) (hts (.static Lib.Math.max.name) (by decide +kernel)) (hts (.initialized "java/lang/Math") (by decide +kernel)) (hts (.code Lib.Math.max.name Lib.Math.max.code 2 (some .int)) (by decide +kernel)) (Nat.le_of_ble_eq_true rfl) (Nat.le_of_ble_eq_true rfl) (Nat.zero_le _) (Nat.zero_le _) dX6_move_70 ?_
      refine ip_ (index := 15) (ty := .int) X I (fun _ q => List.mem_cons_of_mem _ (List.mem_append_right _ q)) tyX6 tyX6_ok nmX6 (34 + x0) (lf59 g_2) shC_L rfl 1 (by decide) (by decide +kernel) rfl rfl (by decide +kernel) rfl rfl (Nat.le_of_ble_eq_true rfl) shC_pl_1 dX6_move_73 (fun σ_4 H locs e_5 I => ?_)
      have h := lt_at h e_5
      obtain rfl := re_v h
      exact rtv_ X I dX6_move_76
    · have h := if_f h c_3
      refine lv_aload_n hx hb dX6_move_45 rfl (lv_at hl 0 rfl) ?_
      refine lv_iload_n hx hb dX6_move_46 rfl (lv_at hl 2 rfl) ?_
      refine lv_aload_n hx hb dX6_move_47 rfl (lv_at hl 0 rfl) ?_
      refine ig_ (index := 15) X I (fun _ q => List.mem_cons_of_mem _ (List.mem_append_right _ q)) (34 + x0) (lf59 g_2) shC_L rfl 1 (by decide) (by decide +kernel) rfl (v := .int (rd_ σ (34 + x0) 1)) rfl dX6_move_48 ?_
      refine lv_iload_n hx hb dX6_move_51 rfl (lv_at hl 1 rfl) ?_
      refine lv_iadd hx hb dX6_move_52 ?_
      refine va_mmin hx hb (by rw [hml]; exact hl.1.symm) hown (hts (.methodLink RX6 39 Lib.Math.min.name) (by decide +kernel)) (hts (.static Lib.Math.min.name) (by decide +kernel)) (hts (.initialized "java/lang/Math") (by decide +kernel)) (hts (.code Lib.Math.min.name Lib.Math.min.code 2 (some .int)) (by decide +kernel)) (Nat.le_of_ble_eq_true rfl) (Nat.le_of_ble_eq_true rfl) (Nat.zero_le _) (Nat.zero_le _) dX6_move_53 ?_
      refine ip_ (index := 15) (ty := .int) X I (fun _ q => List.mem_cons_of_mem _ (List.mem_append_right _ q)) tyX6 tyX6_ok nmX6 (34 + x0) (lf59 g_2) shC_L rfl 1 (by decide) (by decide +kernel) rfl rfl (by decide +kernel) rfl rfl (Nat.le_of_ble_eq_true rfl) shC_pl_1 dX6_move_56 (fun σ_6 H locs e_7 I => ?_)
      have h := lt_at h e_7
      refine lv_goto (tgt := 76) hx hb dX6_move_59 (by decide) ?_
      obtain rfl := re_v h
      exact rtv_ X I dX6_move_76
  · have h := if_t h c_1
    refine lv_aload_n hx hb dX6_move_4 rfl (lv_at hl 0 rfl) ?_
    refine lv_aload_n hx hb dX6_move_5 rfl (lv_at hl 0 rfl) ?_
    obtain ⟨g_8, h⟩ := gd_of h
    refine ig_ (index := 15) X I (fun _ q => List.mem_cons_of_mem _ (List.mem_append_right _ q)) (34 + x0) (lf59 g_8) shC_L rfl 1 (by decide) (by decide +kernel) rfl (v := .int (rd_ σ (34 + x0) 1)) rfl dX6_move_6 ?_
    refine lv_iload_n hx hb dX6_move_9 rfl (lv_at hl 2 rfl) ?_
    refine lv_icmp_lt (tgt := 22) hx hb dX6_move_10 (by decide) (fun c_9 => ?_) (fun c_9 => ?_)
    · have h := if_t h c_9
      refine lv_aload_n hx hb dX6_move_22 rfl (lv_at hl 0 rfl) ?_
      refine ig_ (index := 15) X I (fun _ q => List.mem_cons_of_mem _ (List.mem_append_right _ q)) (34 + x0) (lf59 g_8) shC_L rfl 1 (by decide) (by decide +kernel) rfl (v := .int (rd_ σ (34 + x0) 1)) rfl dX6_move_23 ?_
      refine lv_iload_n hx hb dX6_move_26 rfl (lv_at hl 1 rfl) ?_
      refine lv_isub hx hb dX6_move_27 ?_
      exact kC6_move_28 X  σ ((rd_ σ (34 + x0) 1) - x1) x0 H locs ls h I (lv_sub hl [] rfl)
    · have h := if_f h c_9
      refine lv_aload_n hx hb dX6_move_13 rfl (lv_at hl 0 rfl) ?_
      refine ig_ (index := 15) X I (fun _ q => List.mem_cons_of_mem _ (List.mem_append_right _ q)) (34 + x0) (lf59 g_8) shC_L rfl 1 (by decide) (by decide +kernel) rfl (v := .int (rd_ σ (34 + x0) 1)) rfl dX6_move_14 ?_
      refine lv_iload_n hx hb dX6_move_17 rfl (lv_at hl 1 rfl) ?_
      refine lv_iadd hx hb dX6_move_18 ?_
      refine lv_goto (tgt := 28) hx hb dX6_move_19 (by decide) ?_
      exact kC6_move_28 X  σ ((rd_ σ (34 + x0) 1) + x1) x0 H locs ls h I (lv_sub hl [] rfl)
theorem c_C6_move {l : Launch} {D : va_G} {cy : Nat → ClassId} {a gs : Nat → Nat} {σ : Sg} {x0 : Nat} {x1 : Int32} {x2 : Int32} {x3 : Int32}  {σ' : Sg} (h : C6_move_0 σ x0 x1 x2 x3 = some ((), σ')) (sz : Nat) : Met l yX6_move wsX6_move ({ frames := 2, cells := 0, slots := 0, locals := 41 }) (va_Pc [.ref (a (34 + x0)), .int x1, .int x2, .int x3] (pr_ 59 a D cy (shC cy a σ) (xfC gs) sz)) (qg_ 59 a D (shC cy a σ') none sz) 0 0 (fr_ 59 a sz) := by
  refine ent_ (by decide) rfl (Nat.le_of_ble_eq_true rfl) ?_
  intro p e s m below meth c ls hsz X I hl
  subst hsz
  exact kC6_move_0 X σ x0 x1 x2 x3 s.heap [] ls h I hl

def C1_passYearOf_63  (σ : Sg) (x1 : Nat) : Option (Unit × Sg) :=
  gd_ (lf_ x1 25) (
  lt_ (wr_ σ (34 + x1) 4 (if ((rd_ σ (34 + x1) 4) + (1 : Int32)) < (99 : Int32) then ((rd_ σ (34 + x1) 4) + (1 : Int32)) else (99 : Int32))) fun σ_2 =>
  some ((), σ_2))
set_option maxRecDepth 100000 in
theorem kC1_passYearOf_63 {p : Program} {l : Launch} {e : Env} {s : State} {m : MethodId} {args : Array Value} {below : List Frame} {meth : Method} {c : Code} {D : va_G} {cy : Nat → ClassId} {a gs : Nat → Nat} (X : cx_ cX1_passYearOf RX1 wsX1_passYearOf 4 none 59 a D cy (xfC gs) p s m args meth c)   {σ' : Sg}  : ∀ (σ : Sg) (x1 : Nat) (H : Heap) (locs : List Loc) (ls : Array Slot), C1_passYearOf_63 σ x1 = some ((), σ') → iv_ 59 a D (shC cy a σ) s H locs → lv_has ls 4 [(1, .ref (a (34 + x1)))] → W p l e ({ frames := 3, cells := 0, slots := 0, locals := 69 }) s m args below meth c H locs 0 0 (MQ below (qg_ 59 a D (shC cy a σ') none s.heap.size) args s 0 0 (fr_ 59 a s.heap.size)) (F0 m 63 ls []) := by
  obtain ⟨hx, hb, hr, hml, hown, hts, hlk, hK, hA, hXf⟩ := id X
  intro σ x1 H locs ls h I hl
  unfold C1_passYearOf_63 at h
  refine lv_aload_n hx hb dX1_passYearOf_63 rfl (lv_at hl 0 rfl) ?_
  refine lv_bipush (v := 99) hx hb dX1_passYearOf_64 (by decide) ?_
  refine lv_aload_n hx hb dX1_passYearOf_66 rfl (lv_at hl 0 rfl) ?_
  obtain ⟨g_1, h⟩ := gd_of h
  refine ig_ (index := 90) X I (fun _ q => List.mem_cons_of_mem _ (List.mem_append_left _ (List.mem_append_right _ q))) (34 + x1) (lf59 g_1) shC_L rfl 4 (by decide) (by decide +kernel) rfl (v := .int (rd_ σ (34 + x1) 4)) rfl dX1_passYearOf_67 ?_
  refine lv_iconst (v := 1) hx hb dX1_passYearOf_70 (by decide) ?_
  refine lv_iadd hx hb dX1_passYearOf_71 ?_
  refine va_mmin hx hb (by rw [hml]; exact hl.1.symm) hown (hts (.methodLink RX1 52 Lib.Math.min.name) (by decide +kernel)) (hts (.static Lib.Math.min.name) (by decide +kernel)) (hts (.initialized "java/lang/Math") (by decide +kernel)) (hts (.code Lib.Math.min.name Lib.Math.min.code 2 (some .int)) (by decide +kernel)) (Nat.le_of_ble_eq_true rfl) (Nat.le_of_ble_eq_true rfl) (Nat.zero_le _) (Nat.zero_le _) dX1_passYearOf_72 ?_
  refine ip_ (index := 90) (ty := .int) X I (fun _ q => List.mem_cons_of_mem _ (List.mem_append_left _ (List.mem_append_right _ q))) tyX6 tyX6_ok nmX6 (34 + x1) (lf59 g_1) shC_L rfl 4 (by decide) (by decide +kernel) rfl rfl (by decide +kernel) rfl rfl (Nat.le_of_ble_eq_true rfl) shC_pl_4 dX1_passYearOf_75 (fun σ_2 H locs e_3 I => ?_)
  have h := lt_at h e_3
  obtain rfl := re_v h
  exact rtv_ X I dX1_passYearOf_78
def C1_passYearOf_0  (σ : Sg) (x1 : Nat) (x2 : Int32) : Option (Unit × Sg) :=
  bi_ (C1_kindOf_0 σ x1) fun r_3 σ_2 =>
  gd_ (lf_ x1 25) (
  bi_ (if r_3 = 0 then C0_ends_k0_0 σ_2 (rd_ σ_2 (34 + x1) 2) else if r_3 = 1 then C5_ends_k1_0 σ_2 (rd_ σ_2 (34 + x1) 2) else if r_3 = 2 then C10_ends_k2_0 σ_2 (rd_ σ_2 (34 + x1) 2) else if r_3 = 3 then C3_ends_k3_0 σ_2 (rd_ σ_2 (34 + x1) 2) else if r_3 = 4 then C7_ends_k4_0 σ_2 (rd_ σ_2 (34 + x1) 2) else if r_3 = 5 then C0_ends_k5_0 σ_2 (rd_ σ_2 (34 + x1) 2) else none) fun r_7 σ_6 =>
  if r_7 ≤ (rd_ σ_2 (34 + x1) 4) then (C1_passYearOf_63 σ_6 x1)
  else (bp_ (C_isGodmother_0 (rd_ σ_6 (34 + x1) 5)) fun r_16 =>
  if r_16 = 0 then (C1_passYearOf_63 σ_6 x1)
  else (bi_ (if r_3 = 0 then C0_moves_k0_0 σ_6 (rd_ σ_6 (34 + x1) 2) x2 else if r_3 = 1 then C5_moves_k1_0 σ_6 (rd_ σ_6 (34 + x1) 2) x2 else if r_3 = 2 then C10_moves_k2_0 σ_6 (rd_ σ_6 (34 + x1) 2) x2 else if r_3 = 3 then C3_moves_k3_0 σ_6 (rd_ σ_6 (34 + x1) 2) x2 else if r_3 = 4 then C7_moves_k4_0 σ_6 (rd_ σ_6 (34 + x1) 2) x2 else if r_3 = 5 then C9_moves_k5_0 σ_6 (rd_ σ_6 (34 + x1) 2) x2 else none) fun r_20 σ_19 =>
  lt_ ((rd_ σ_19 (34 + x1) 5)) fun y_27 =>
  gd_ (in_ y_27 8) (
  bi_ (C1_isEasy_0 σ_19 (rd_ σ_19 (34 + x1) 5)) fun r_32 σ_31 =>
  bi_ (C6_move_0 σ_31 x1 r_20 (rd_ σ_19 7 y_27.toNatClampNeg) r_32) fun _ σ_34 =>
  C1_passYearOf_63 σ_34 x1))))
set_option maxRecDepth 100000 in
theorem kC1_passYearOf_0 {p : Program} {l : Launch} {e : Env} {s : State} {m : MethodId} {args : Array Value} {below : List Frame} {meth : Method} {c : Code} {D : va_G} {cy : Nat → ClassId} {a gs : Nat → Nat} (X : cx_ cX1_passYearOf RX1 wsX1_passYearOf 4 none 59 a D cy (xfC gs) p s m args meth c)   {σ' : Sg}  : ∀ (σ : Sg) (x1 : Nat) (x2 : Int32) (H : Heap) (locs : List Loc) (ls : Array Slot), C1_passYearOf_0 σ x1 x2 = some ((), σ') → iv_ 59 a D (shC cy a σ) s H locs → lv_has ls 4 [(0, .ref (a 1)), (1, .ref (a (34 + x1))), (2, .int x2)] → W p l e ({ frames := 3, cells := 0, slots := 0, locals := 69 }) s m args below meth c H locs 0 0 (MQ below (qg_ 59 a D (shC cy a σ') none s.heap.size) args s 0 0 (fr_ 59 a s.heap.size)) (F0 m 0 ls []) := by
  obtain ⟨hx, hb, hr, hml, hown, hts, hlk, hK, hA, hXf⟩ := id X
  intro σ x1 x2 H locs ls h I hl
  unfold C1_passYearOf_0 at h
  refine lv_aload_n hx hb dX1_passYearOf_0 rfl (lv_at hl 0 rfl) ?_
  refine lv_aload_n hx hb dX1_passYearOf_1 rfl (lv_at hl 1 rfl) ?_
  obtain ⟨r_3, σ_2, hc_1, h⟩ := bi_of h
  refine cg_ (v := .ref (a (14 + r_3))) (rV_ (nn := 1) (As := [.ref (a (34 + x1))]) (rest := []) X xkC I (c_C1_kindOf hc_1 H.size) gX1_passYearOf_X1_kindOf rfl ⟨rfl, rfl⟩ (by decide +kernel) ⟨Nat.le_of_ble_eq_true rfl, Nat.le_of_ble_eq_true rfl⟩ (by decide) shC_1 rfl rfl hl.1 rfl (Nat.le_of_ble_eq_true rfl) dX1_passYearOf_2) I (fun H locs I => ?_)
  refine lv_astore_n (lv' := [(3, .ref (a (14 + r_3))), (0, .ref (a 1)), (1, .ref (a (34 + x1))), (2, .int x2)]) hx hb dX1_passYearOf_5 rfl hl (by decide) rfl (fun ls hl => ?_)
  refine lv_aload_n hx hb dX1_passYearOf_6 rfl (lv_at hl 2 rfl) ?_
  obtain ⟨g_4, h⟩ := gd_of h
  refine ig_ (index := 90) X I (fun _ q => List.mem_cons_of_mem _ (List.mem_append_left _ (List.mem_append_right _ q))) (34 + x1) (lf59 g_4) shC_L rfl 4 (by decide) (by decide +kernel) rfl (v := .int (rd_ σ_2 (34 + x1) 4)) rfl dX1_passYearOf_7 ?_
  refine lv_aload_n hx hb dX1_passYearOf_10 rfl (lv_at hl 0 rfl) ?_
  refine lv_aload_n hx hb dX1_passYearOf_11 rfl (lv_at hl 2 rfl) ?_
  refine ig_ (index := 73) X I (fun _ q => List.mem_cons_of_mem _ (List.mem_append_left _ (List.mem_append_right _ q))) (34 + x1) (lf59 g_4) shC_L rfl 2 (by decide) (by decide +kernel) rfl (v := .int (rd_ σ_2 (34 + x1) 2)) rfl dX1_passYearOf_12 ?_
  refine lv_aload_n hx hb dX1_passYearOf_15 rfl (lv_at hl 1 rfl) ?_
  obtain ⟨r_7, σ_6, hc_5, h⟩ := bi_of h
  refine cg_ (v := .int r_7) (w1 := shC cy a σ_6) (rest := [.int (rd_ σ_2 (34 + x1) 4)]) (av := #[]) ?_ I (fun H locs I => ?_)
  · by_cases q_8 : r_3 = 0
    · subst q_8
      have hc_5 := if_t hc_5 rfl
      exact rV_ (nn := 2) (As := [.int (rd_ σ_2 (34 + x1) 2), .ref (a 1)]) (rest := [.int (rd_ σ_2 (34 + x1) 4)]) X xkC I (c_C0_ends_k0 hc_5 H.size) gX1_passYearOf_X0_ends rfl ⟨rfl, rfl⟩ (by decide +kernel) ⟨Nat.le_of_ble_eq_true rfl, Nat.le_of_ble_eq_true rfl⟩ (by decide) shC_14 rfl rfl hl.1 rfl (Nat.le_of_ble_eq_true rfl) dX1_passYearOf_16
    · have hc_5 := if_f hc_5 q_8
      by_cases q_9 : r_3 = 1
      · subst q_9
        have hc_5 := if_t hc_5 rfl
        exact rO_ (nn := 2) (As := [.int (rd_ σ_2 (34 + x1) 2), .ref (a 1)]) (rest := [.int (rd_ σ_2 (34 + x1) 4)]) (b0 := cX0_ends) (m0 := 3) (r0 := (some .int)) X xkC I (c_C5_ends_k1 hc_5 H.size) gX1_passYearOf_X5_ends_u82X5 rfl ⟨rfl, rfl⟩ (by decide +kernel) (by decide +kernel) ⟨Nat.le_of_ble_eq_true rfl, Nat.le_of_ble_eq_true rfl⟩ (by decide) shC_15 rfl rfl hl.1 rfl (Nat.le_of_ble_eq_true rfl) dX1_passYearOf_16
      · have hc_5 := if_f hc_5 q_9
        by_cases q_10 : r_3 = 2
        · subst q_10
          have hc_5 := if_t hc_5 rfl
          exact rO_ (nn := 2) (As := [.int (rd_ σ_2 (34 + x1) 2), .ref (a 1)]) (rest := [.int (rd_ σ_2 (34 + x1) 4)]) (b0 := cX0_ends) (m0 := 3) (r0 := (some .int)) X xkC I (c_C10_ends_k2 hc_5 H.size) gX1_passYearOf_X10_ends_u82X10 rfl ⟨rfl, rfl⟩ (by decide +kernel) (by decide +kernel) ⟨Nat.le_of_ble_eq_true rfl, Nat.le_of_ble_eq_true rfl⟩ (by decide) shC_16 rfl rfl hl.1 rfl (Nat.le_of_ble_eq_true rfl) dX1_passYearOf_16
        · have hc_5 := if_f hc_5 q_10
          by_cases q_11 : r_3 = 3
          · subst q_11
            have hc_5 := if_t hc_5 rfl
            exact rO_ (nn := 2) (As := [.int (rd_ σ_2 (34 + x1) 2), .ref (a 1)]) (rest := [.int (rd_ σ_2 (34 + x1) 4)]) (b0 := cX0_ends) (m0 := 3) (r0 := (some .int)) X xkC I (c_C3_ends_k3 hc_5 H.size) gX1_passYearOf_X3_ends_u82X3 rfl ⟨rfl, rfl⟩ (by decide +kernel) (by decide +kernel) ⟨Nat.le_of_ble_eq_true rfl, Nat.le_of_ble_eq_true rfl⟩ (by decide) shC_17 rfl rfl hl.1 rfl (Nat.le_of_ble_eq_true rfl) dX1_passYearOf_16
          · have hc_5 := if_f hc_5 q_11
            by_cases q_12 : r_3 = 4
            · subst q_12
              have hc_5 := if_t hc_5 rfl
              exact rO_ (nn := 2) (As := [.int (rd_ σ_2 (34 + x1) 2), .ref (a 1)]) (rest := [.int (rd_ σ_2 (34 + x1) 4)]) (b0 := cX0_ends) (m0 := 3) (r0 := (some .int)) X xkC I (c_C7_ends_k4 hc_5 H.size) gX1_passYearOf_X7_ends_u82X7 rfl ⟨rfl, rfl⟩ (by decide +kernel) (by decide +kernel) ⟨Nat.le_of_ble_eq_true rfl, Nat.le_of_ble_eq_true rfl⟩ (by decide) shC_18 rfl rfl hl.1 rfl (Nat.le_of_ble_eq_true rfl) dX1_passYearOf_16
            · have hc_5 := if_f hc_5 q_12
              by_cases q_13 : r_3 = 5
              · subst q_13
                have hc_5 := if_t hc_5 rfl
                exact rU_ (nn := 2) (As := [.int (rd_ σ_2 (34 + x1) 2), .ref (a 1)]) (rest := [.int (rd_ σ_2 (34 + x1) 4)]) X xkC I (c_C0_ends_k5 hc_5 H.size) gX1_passYearOf_X0_ends_u82X9 rfl ⟨rfl, rfl⟩ rfl (by decide +kernel) ⟨Nat.le_of_ble_eq_true rfl, Nat.le_of_ble_eq_true rfl⟩ (by decide) shC_19 rfl rfl hl.1 rfl (Nat.le_of_ble_eq_true rfl) dX1_passYearOf_16
              · have hc_5 := if_f hc_5 q_13
                exact absurd hc_5 (fun q => by cases (show (none : Option _) = some _ from q))
  refine lv_icmp_ge (tgt := 63) hx hb dX1_passYearOf_19 (by decide) (fun c_14 => ?_) (fun c_14 => ?_)
  · have h := if_t h c_14
    exact kC1_passYearOf_63 X  σ_6 x1 H locs ls h I (lv_sub hl [2] rfl)
  · have h := if_f h c_14
    refine lv_aload_n hx hb dX1_passYearOf_22 rfl (lv_at hl 2 rfl) ?_
    refine ig_ (index := 96) X I (fun _ q => List.mem_cons_of_mem _ (List.mem_append_left _ (List.mem_append_right _ q))) (34 + x1) (lf59 g_4) shC_L rfl 5 (by decide) (by decide +kernel) rfl (v := .int (rd_ σ_6 (34 + x1) 5)) rfl dX1_passYearOf_23 ?_
    obtain ⟨r_16, hc_15, h⟩ := bp_of h
    refine cp_ (rN_ (host := "BoundGodmothers") (nn := 1) (As := [.int (rd_ σ_6 (34 + x1) 5)]) (rest := []) ⟨hx, hb, hml, hown, hts⟩ (c_C_isGodmother hc_15) gX1_passYearOf_X11_isGodmother_n99 (xC_ng1 hXf) (by decide +kernel) (by decide +kernel) rfl ⟨rfl, rfl⟩ (by decide +kernel) ⟨Nat.le_of_ble_eq_true rfl, Nat.le_of_ble_eq_true rfl⟩ rfl hl.1 rfl (Nat.le_of_ble_eq_true rfl) dX1_passYearOf_26 ⟨Nat.zero_le _, Nat.zero_le _⟩) ?_
    refine lv_if_eq (tgt := 63) hx hb dX1_passYearOf_29 (by decide) (fun c_17 => ?_) (fun c_17 => ?_)
    · have h := if_t h c_17
      exact kC1_passYearOf_63 X  σ_6 x1 H locs ls h I (lv_sub hl [2] rfl)
    · have h := if_f h c_17
      refine lv_aload_n hx hb dX1_passYearOf_32 rfl (lv_at hl 2 rfl) ?_
      refine lv_aload_n hx hb dX1_passYearOf_33 rfl (lv_at hl 0 rfl) ?_
      refine lv_aload_n hx hb dX1_passYearOf_34 rfl (lv_at hl 2 rfl) ?_
      refine ig_ (index := 73) X I (fun _ q => List.mem_cons_of_mem _ (List.mem_append_left _ (List.mem_append_right _ q))) (34 + x1) (lf59 g_4) shC_L rfl 2 (by decide) (by decide +kernel) rfl (v := .int (rd_ σ_6 (34 + x1) 2)) rfl dX1_passYearOf_35 ?_
      refine lv_aload_n hx hb dX1_passYearOf_38 rfl (lv_at hl 1 rfl) ?_
      refine lv_iload_n hx hb dX1_passYearOf_39 rfl (lv_at hl 3 rfl) ?_
      obtain ⟨r_20, σ_19, hc_18, h⟩ := bi_of h
      refine cg_ (v := .int r_20) (w1 := shC cy a σ_19) (rest := [.ref (a (34 + x1))]) (av := #[]) ?_ I (fun H locs I => ?_)
      · by_cases q_21 : r_3 = 0
        · subst q_21
          have hc_18 := if_t hc_18 rfl
          exact rV_ (nn := 3) (As := [.int (rd_ σ_6 (34 + x1) 2), .ref (a 1), .int x2]) (rest := [.ref (a (34 + x1))]) X xkC I (c_C0_moves_k0 hc_18 H.size) gX1_passYearOf_X0_moves rfl ⟨rfl, rfl⟩ (by decide +kernel) ⟨Nat.le_of_ble_eq_true rfl, Nat.le_of_ble_eq_true rfl⟩ (by decide) shC_14 rfl rfl hl.1 rfl (Nat.le_of_ble_eq_true rfl) dX1_passYearOf_40
        · have hc_18 := if_f hc_18 q_21
          by_cases q_22 : r_3 = 1
          · subst q_22
            have hc_18 := if_t hc_18 rfl
            exact rO_ (nn := 3) (As := [.int (rd_ σ_6 (34 + x1) 2), .ref (a 1), .int x2]) (rest := [.ref (a (34 + x1))]) (b0 := cX0_moves) (m0 := 4) (r0 := (some .int)) X xkC I (c_C5_moves_k1 hc_18 H.size) gX1_passYearOf_X5_moves_u76X5 rfl ⟨rfl, rfl⟩ (by decide +kernel) (by decide +kernel) ⟨Nat.le_of_ble_eq_true rfl, Nat.le_of_ble_eq_true rfl⟩ (by decide) shC_15 rfl rfl hl.1 rfl (Nat.le_of_ble_eq_true rfl) dX1_passYearOf_40
          · have hc_18 := if_f hc_18 q_22
            by_cases q_23 : r_3 = 2
            · subst q_23
              have hc_18 := if_t hc_18 rfl
              exact rO_ (nn := 3) (As := [.int (rd_ σ_6 (34 + x1) 2), .ref (a 1), .int x2]) (rest := [.ref (a (34 + x1))]) (b0 := cX0_moves) (m0 := 4) (r0 := (some .int)) X xkC I (c_C10_moves_k2 hc_18 H.size) gX1_passYearOf_X10_moves_u76X10 rfl ⟨rfl, rfl⟩ (by decide +kernel) (by decide +kernel) ⟨Nat.le_of_ble_eq_true rfl, Nat.le_of_ble_eq_true rfl⟩ (by decide) shC_16 rfl rfl hl.1 rfl (Nat.le_of_ble_eq_true rfl) dX1_passYearOf_40
            · have hc_18 := if_f hc_18 q_23
              by_cases q_24 : r_3 = 3
              · subst q_24
                have hc_18 := if_t hc_18 rfl
                exact rO_ (nn := 3) (As := [.int (rd_ σ_6 (34 + x1) 2), .ref (a 1), .int x2]) (rest := [.ref (a (34 + x1))]) (b0 := cX0_moves) (m0 := 4) (r0 := (some .int)) X xkC I (c_C3_moves_k3 hc_18 H.size) gX1_passYearOf_X3_moves_u76X3 rfl ⟨rfl, rfl⟩ (by decide +kernel) (by decide +kernel) ⟨Nat.le_of_ble_eq_true rfl, Nat.le_of_ble_eq_true rfl⟩ (by decide) shC_17 rfl rfl hl.1 rfl (Nat.le_of_ble_eq_true rfl) dX1_passYearOf_40
              · have hc_18 := if_f hc_18 q_24
                by_cases q_25 : r_3 = 4
                · subst q_25
                  have hc_18 := if_t hc_18 rfl
                  exact rO_ (nn := 3) (As := [.int (rd_ σ_6 (34 + x1) 2), .ref (a 1), .int x2]) (rest := [.ref (a (34 + x1))]) (b0 := cX0_moves) (m0 := 4) (r0 := (some .int)) X xkC I (c_C7_moves_k4 hc_18 H.size) gX1_passYearOf_X7_moves_u76X7 rfl ⟨rfl, rfl⟩ (by decide +kernel) (by decide +kernel) ⟨Nat.le_of_ble_eq_true rfl, Nat.le_of_ble_eq_true rfl⟩ (by decide) shC_18 rfl rfl hl.1 rfl (Nat.le_of_ble_eq_true rfl) dX1_passYearOf_40
                · have hc_18 := if_f hc_18 q_25
                  by_cases q_26 : r_3 = 5
                  · subst q_26
                    have hc_18 := if_t hc_18 rfl
                    exact rO_ (nn := 3) (As := [.int (rd_ σ_6 (34 + x1) 2), .ref (a 1), .int x2]) (rest := [.ref (a (34 + x1))]) (b0 := cX0_moves) (m0 := 4) (r0 := (some .int)) X xkC I (c_C9_moves_k5 hc_18 H.size) gX1_passYearOf_X9_moves_u76X9 rfl ⟨rfl, rfl⟩ (by decide +kernel) (by decide +kernel) ⟨Nat.le_of_ble_eq_true rfl, Nat.le_of_ble_eq_true rfl⟩ (by decide) shC_19 rfl rfl hl.1 rfl (Nat.le_of_ble_eq_true rfl) dX1_passYearOf_40
                  · have hc_18 := if_f hc_18 q_26
                    exact absurd hc_18 (fun q => by cases (show (none : Option _) = some _ from q))
      refine lv_aload_n hx hb dX1_passYearOf_43 rfl (lv_at hl 1 rfl) ?_
      refine ig_ (index := 19) X I (fun _ q => List.mem_cons_of_mem _ (List.mem_append_right _ q)) 1 (by decide) shC_1 rfl 1 (by decide) (by decide +kernel) rfl (v := .ref (a 7)) rfl dX1_passYearOf_44 ?_
      refine lv_aload_n hx hb dX1_passYearOf_47 rfl (lv_at hl 2 rfl) ?_
      refine ig_ (index := 96) X I (fun _ q => List.mem_cons_of_mem _ (List.mem_append_left _ (List.mem_append_right _ q))) (34 + x1) (lf59 g_4) shC_L rfl 5 (by decide) (by decide +kernel) rfl (v := .int (rd_ σ_19 (34 + x1) 5)) rfl dX1_passYearOf_48 ?_
      refine lv_topi (fun y_27 e_28 => ?_)
      have h := lt_at h e_28
      obtain ⟨g_29, h⟩ := gd_of h
      refine ia_ X I 7 (by decide) shC_7 (in_of g_29) (v0 := (rd_ σ_19 7 y_27.toNatClampNeg)) rfl dX1_passYearOf_51 ?_
      refine lv_aload_n hx hb dX1_passYearOf_52 rfl (lv_at hl 1 rfl) ?_
      refine lv_aload_n hx hb dX1_passYearOf_53 rfl (lv_at hl 2 rfl) ?_
      refine ig_ (index := 96) X I (fun _ q => List.mem_cons_of_mem _ (List.mem_append_left _ (List.mem_append_right _ q))) (34 + x1) (lf59 g_4) shC_L rfl 5 (by decide) (by decide +kernel) rfl (v := .int (rd_ σ_19 (34 + x1) 5)) rfl dX1_passYearOf_54 ?_
      obtain ⟨r_32, σ_31, hc_30, h⟩ := bi_of h
      refine cg_ (v := .int r_32) (rV_ (nn := 1) (As := [.int (rd_ σ_19 (34 + x1) 5)]) (rest := [.int (rd_ σ_19 7 y_27.toNatClampNeg), .int r_20, .ref (a (34 + x1))]) X xkC I (c_C1_isEasy hc_30 H.size) gX1_passYearOf_X1_isEasy rfl ⟨rfl, rfl⟩ (by decide +kernel) ⟨Nat.le_of_ble_eq_true rfl, Nat.le_of_ble_eq_true rfl⟩ (by decide) shC_1 rfl rfl hl.1 rfl (Nat.le_of_ble_eq_true rfl) dX1_passYearOf_57) I (fun H locs I => ?_)
      obtain ⟨_, σ_34, hc_33, h⟩ := bi_of h
      refine cv_ (rV_ (nn := 3) (As := [.int r_20, .int (rd_ σ_19 7 y_27.toNatClampNeg), .int r_32]) (rest := []) X xkC I (c_C6_move hc_33 H.size) gX1_passYearOf_X6_move rfl ⟨rfl, rfl⟩ (by decide +kernel) ⟨Nat.le_of_ble_eq_true rfl, Nat.le_of_ble_eq_true rfl⟩ (lf59 g_4) shC_L rfl rfl hl.1 rfl (Nat.le_of_ble_eq_true rfl) dX1_passYearOf_60) I (fun H locs I => ?_)
      exact kC1_passYearOf_63 X  σ_34 x1 H locs ls h I (lv_sub hl [2] rfl)
theorem c_C1_passYearOf {l : Launch} {D : va_G} {cy : Nat → ClassId} {a gs : Nat → Nat} {σ : Sg} {x1 : Nat} {x2 : Int32}  {σ' : Sg} (h : C1_passYearOf_0 σ x1 x2 = some ((), σ')) (sz : Nat) : Met l yX1_passYearOf wsX1_passYearOf ({ frames := 3, cells := 0, slots := 0, locals := 69 }) (va_Pc [.ref (a 1), .ref (a (34 + x1)), .int x2] (pr_ 59 a D cy (shC cy a σ) (xfC gs) sz)) (qg_ 59 a D (shC cy a σ') none sz) 0 0 (fr_ 59 a sz) := by
  refine ent_ (by decide) rfl (Nat.le_of_ble_eq_true rfl) ?_
  intro p e s m below meth c ls hsz X I hl
  subst hsz
  exact kC1_passYearOf_0 X σ x1 x2 s.heap [] ls h I hl

def C1_passYear_29 (k2 : Sg → Int32 → Option (Unit × Sg)) (σ : Sg) (x1 : Int32) : Option (Unit × Sg) :=
  lt_ (x1 + (1 : Int32)) fun y_1 =>
  k2 σ y_1
set_option maxRecDepth 100000 in
theorem kC1_passYear_29 {p : Program} {l : Launch} {e : Env} {s : State} {m : MethodId} {args : Array Value} {below : List Frame} {meth : Method} {c : Code} {D : va_G} {cy : Nat → ClassId} {a gs : Nat → Nat} (X : cx_ cX1_passYear RX1 wsX1_passYear 3 none 59 a D cy (xfC gs) p s m args meth c) {k2 : Sg → Int32 → Option (Unit × Sg)}  {σ' : Sg} (hk2 : ∀ (σ : Sg) (x1 : Int32) (H : Heap) (locs : List Loc) (ls : Array Slot), k2 σ x1 = some ((), σ') → iv_ 59 a D (shC cy a σ) s H locs → lv_has ls 3 [(0, .ref (a 1)), (1, .int x1)] → W p l e ({ frames := 4, cells := 0, slots := 0, locals := 92 }) s m args below meth c H locs 0 0 (MQ below (qg_ 59 a D (shC cy a σ') none s.heap.size) args s 0 0 (fr_ 59 a s.heap.size)) (F0 m 2 ls [])) : ∀ (σ : Sg) (x1 : Int32) (H : Heap) (locs : List Loc) (ls : Array Slot), C1_passYear_29 k2 σ x1 = some ((), σ') → iv_ 59 a D (shC cy a σ) s H locs → lv_has ls 3 [(0, .ref (a 1)), (1, .int x1)] → W p l e ({ frames := 4, cells := 0, slots := 0, locals := 92 }) s m args below meth c H locs 0 0 (MQ below (qg_ 59 a D (shC cy a σ') none s.heap.size) args s 0 0 (fr_ 59 a s.heap.size)) (F0 m 29 ls []) := by
  obtain ⟨hx, hb, hr, hml, hown, hts, hlk, hK, hA, hXf⟩ := id X
  intro σ x1 H locs ls h I hl
  unfold C1_passYear_29 at h
  obtain ⟨y_1, e_2⟩ : ∃ q : Int32, q = x1 + (1 : Int32) := ⟨_, rfl⟩
  have h := lt_at h e_2
  refine lv_iinc (v := y_1) (lv' := [(1, .int y_1), (0, .ref (a 1))]) hx hb dX1_passYear_29 hl (k := 1) rfl (by rw [e_2]; rfl) (by decide) rfl (fun ls hl => ?_)
  refine lv_goto (tgt := 2) hx hb dX1_passYear_32 (by decide) ?_
  exact hk2 σ y_1 H locs ls h I (lv_sub hl [1, 0] rfl)
def C1_passYear_2 (k2 : Sg → Int32 → Option (Unit × Sg)) (σ : Sg) (x1 : Int32) : Option (Unit × Sg) :=
  if (rd_ σ 1 3) ≤ x1 then (lt_ (wr_ σ 1 4 ((rd_ σ 1 4) + (1 : Int32))) fun σ_2 =>
  some ((), σ_2))
  else (bi_ (C1_life_0 σ x1) fun r_6 σ_5 =>
  on_ r_6 (C1_passYear_29 k2 σ_5 x1) fun j_7 =>
  bi_ (C1_passYearOf_0 σ_5 j_7 (rd_ σ_5 1 4)) fun _ σ_9 =>
  C1_passYear_29 k2 σ_9 x1)
set_option maxRecDepth 100000 in
theorem kC1_passYear_2 {p : Program} {l : Launch} {e : Env} {s : State} {m : MethodId} {args : Array Value} {below : List Frame} {meth : Method} {c : Code} {D : va_G} {cy : Nat → ClassId} {a gs : Nat → Nat} (X : cx_ cX1_passYear RX1 wsX1_passYear 3 none 59 a D cy (xfC gs) p s m args meth c) {k2 : Sg → Int32 → Option (Unit × Sg)}  {σ' : Sg} (hk2 : ∀ (σ : Sg) (x1 : Int32) (H : Heap) (locs : List Loc) (ls : Array Slot), k2 σ x1 = some ((), σ') → iv_ 59 a D (shC cy a σ) s H locs → lv_has ls 3 [(0, .ref (a 1)), (1, .int x1)] → W p l e ({ frames := 4, cells := 0, slots := 0, locals := 92 }) s m args below meth c H locs 0 0 (MQ below (qg_ 59 a D (shC cy a σ') none s.heap.size) args s 0 0 (fr_ 59 a s.heap.size)) (F0 m 2 ls [])) : ∀ (σ : Sg) (x1 : Int32) (H : Heap) (locs : List Loc) (ls : Array Slot), C1_passYear_2 k2 σ x1 = some ((), σ') → iv_ 59 a D (shC cy a σ) s H locs → lv_has ls 3 [(0, .ref (a 1)), (1, .int x1)] → W p l e ({ frames := 4, cells := 0, slots := 0, locals := 92 }) s m args below meth c H locs 0 0 (MQ below (qg_ 59 a D (shC cy a σ') none s.heap.size) args s 0 0 (fr_ 59 a s.heap.size)) (F0 m 2 ls []) := by
  obtain ⟨hx, hb, hr, hml, hown, hts, hlk, hK, hA, hXf⟩ := id X
  intro σ x1 H locs ls h I hl
  unfold C1_passYear_2 at h
  refine lv_iload_n hx hb dX1_passYear_2 rfl (lv_at hl 1 rfl) ?_
  refine lv_aload_n hx hb dX1_passYear_3 rfl (lv_at hl 0 rfl) ?_
  refine ig_ (index := 42) X I (fun _ q => List.mem_cons_of_mem _ (List.mem_append_left _ (List.mem_append_right _ q))) 1 (by decide) shC_1 rfl 3 (by decide) (by decide +kernel) rfl (v := .int (rd_ σ 1 3)) rfl dX1_passYear_4 ?_
  refine lv_icmp_ge (tgt := 35) hx hb dX1_passYear_7 (by decide) (fun c_1 => ?_) (fun c_1 => ?_)
  · have h := if_t h c_1
    refine lv_aload_n hx hb dX1_passYear_35 rfl (lv_at hl 0 rfl) ?_
    refine lv_dup hx hb dX1_passYear_36 rfl ?_
    refine ig_ (index := 45) X I (fun _ q => List.mem_cons_of_mem _ (List.mem_append_left _ (List.mem_append_right _ q))) 1 (by decide) shC_1 rfl 4 (by decide) (by decide +kernel) rfl (v := .int (rd_ σ 1 4)) rfl dX1_passYear_37 ?_
    refine lv_iconst (v := 1) hx hb dX1_passYear_40 (by decide) ?_
    refine lv_iadd hx hb dX1_passYear_41 ?_
    refine ip_ (index := 45) (ty := .int) X I (fun _ q => List.mem_cons_of_mem _ (List.mem_append_left _ (List.mem_append_right _ q))) tyX1 tyX1_ok nmX1 1 (by decide) shC_1 rfl 4 (by decide) (by decide +kernel) rfl rfl (by decide +kernel) rfl rfl (Nat.le_of_ble_eq_true rfl) shC_pt_1_4 dX1_passYear_42 (fun σ_2 H locs e_3 I => ?_)
    have h := lt_at h e_3
    obtain rfl := re_v h
    exact rtv_ X I dX1_passYear_45
  · have h := if_f h c_1
    refine lv_aload_n hx hb dX1_passYear_10 rfl (lv_at hl 0 rfl) ?_
    refine lv_iload_n hx hb dX1_passYear_11 rfl (lv_at hl 1 rfl) ?_
    obtain ⟨r_6, σ_5, hc_4, h⟩ := bi_of h
    refine cg_ (v := va_re (fun j => a (34 + j)) r_6) (rV_ (nn := 1) (As := [.int x1]) (rest := []) X xkC I (c_C1_life hc_4 H.size) gX1_passYear_X1_life rfl ⟨rfl, rfl⟩ (by decide +kernel) ⟨Nat.le_of_ble_eq_true rfl, Nat.le_of_ble_eq_true rfl⟩ (by decide) shC_1 rfl rfl hl.1 rfl (Nat.le_of_ble_eq_true rfl) dX1_passYear_12) I (fun H locs I => ?_)
    rcases r_6 with _ | j_7
    · have h := on_n h
      refine W.eq (g2 := F0 m 15 ls [.null]) rfl ?_
      refine lv_astore_nN (lv' := [(2, .null), (0, .ref (a 1)), (1, .int x1)]) hx hb dX1_passYear_15 rfl hl (by decide) rfl (fun ls hl => ?_)
      refine lv_aload_nN hx hb dX1_passYear_16 rfl (lv_at hl 0 rfl) ?_
      refine lv_ifnullN (tgt := 29) hx hb dX1_passYear_17 (by decide) ?_
      exact kC1_passYear_29 X hk2 σ_5 x1 H locs ls h I (lv_sub hl [1, 2] rfl)
    · have h := on_s h
      refine W.eq (g2 := F0 m 15 ls [.ref (a (34 + j_7))]) rfl ?_
      refine lv_astore_n (lv' := [(2, .ref (a (34 + j_7))), (0, .ref (a 1)), (1, .int x1)]) hx hb dX1_passYear_15 rfl hl (by decide) rfl (fun ls hl => ?_)
      refine lv_aload_n hx hb dX1_passYear_16 rfl (lv_at hl 0 rfl) ?_
      refine lv_ifnull hx hb dX1_passYear_17 ?_
      refine lv_aload_n hx hb dX1_passYear_20 rfl (lv_at hl 1 rfl) ?_
      refine lv_aload_n hx hb dX1_passYear_21 rfl (lv_at hl 0 rfl) ?_
      refine lv_aload_n hx hb dX1_passYear_22 rfl (lv_at hl 1 rfl) ?_
      refine ig_ (index := 45) X I (fun _ q => List.mem_cons_of_mem _ (List.mem_append_left _ (List.mem_append_right _ q))) 1 (by decide) shC_1 rfl 4 (by decide) (by decide +kernel) rfl (v := .int (rd_ σ_5 1 4)) rfl dX1_passYear_23 ?_
      obtain ⟨_, σ_9, hc_8, h⟩ := bi_of h
      refine cv_ (rV_ (nn := 2) (As := [.ref (a (34 + j_7)), .int (rd_ σ_5 1 4)]) (rest := []) X xkC I (c_C1_passYearOf hc_8 H.size) gX1_passYear_X1_passYearOf rfl ⟨rfl, rfl⟩ (by decide +kernel) ⟨Nat.le_of_ble_eq_true rfl, Nat.le_of_ble_eq_true rfl⟩ (by decide) shC_1 rfl rfl hl.1 rfl (Nat.le_of_ble_eq_true rfl) dX1_passYear_26) I (fun H locs I => ?_)
      exact kC1_passYear_29 X hk2 σ_9 x1 H locs ls h I (lv_sub hl [1, 2] rfl)
set_option maxRecDepth 100000 in
theorem kC1_passYear_2L {p : Program} {l : Launch} {e : Env} {s : State} {m : MethodId} {args : Array Value} {below : List Frame} {meth : Method} {c : Code} {D : va_G} {cy : Nat → ClassId} {a gs : Nat → Nat} (X : cx_ cX1_passYear RX1 wsX1_passYear 3 none 59 a D cy (xfC gs) p s m args meth c)   {σ' : Sg}  : ∀ (n : Nat), ∀ (σ : Sg) (x1 : Int32) (H : Heap) (locs : List Loc) (ls : Array Slot), lp_ (C1_passYear_2) (fun _ _ => none) n σ x1 = some ((), σ') → iv_ 59 a D (shC cy a σ) s H locs → lv_has ls 3 [(0, .ref (a 1)), (1, .int x1)] → W p l e ({ frames := 4, cells := 0, slots := 0, locals := 92 }) s m args below meth c H locs 0 0 (MQ below (qg_ 59 a D (shC cy a σ') none s.heap.size) args s 0 0 (fr_ 59 a s.heap.size)) (F0 m 2 ls []) := by
  intro n
  induction n with
  | zero =>
    intro _ _ _ _ _ h
    exact absurd h (fun q => by cases (show (none : Option _) = some _ from q))
  | succ n ih => exact kC1_passYear_2 X ih

def C1_passYear_0  (σ : Sg)  : Option (Unit × Sg) :=
  lp_ C1_passYear_2 (fun _ _ => none) FU σ (0 : Int32)
set_option maxRecDepth 100000 in
theorem kC1_passYear_0 {p : Program} {l : Launch} {e : Env} {s : State} {m : MethodId} {args : Array Value} {below : List Frame} {meth : Method} {c : Code} {D : va_G} {cy : Nat → ClassId} {a gs : Nat → Nat} (X : cx_ cX1_passYear RX1 wsX1_passYear 3 none 59 a D cy (xfC gs) p s m args meth c)   {σ' : Sg}  : ∀ (σ : Sg)  (H : Heap) (locs : List Loc) (ls : Array Slot), C1_passYear_0 σ = some ((), σ') → iv_ 59 a D (shC cy a σ) s H locs → lv_has ls 3 [(0, .ref (a 1))] → W p l e ({ frames := 4, cells := 0, slots := 0, locals := 92 }) s m args below meth c H locs 0 0 (MQ below (qg_ 59 a D (shC cy a σ') none s.heap.size) args s 0 0 (fr_ 59 a s.heap.size)) (F0 m 0 ls []) := by
  obtain ⟨hx, hb, hr, hml, hown, hts, hlk, hK, hA, hXf⟩ := id X
  intro σ  H locs ls h I hl
  unfold C1_passYear_0 at h
  refine lv_iconst (v := 0) hx hb dX1_passYear_0 (by decide) ?_
  refine lv_istore_n (lv' := [(1, .int (0 : Int32)), (0, .ref (a 1))]) hx hb dX1_passYear_1 rfl hl (by decide) rfl (fun ls hl => ?_)
  exact kC1_passYear_2L X  FU σ (0 : Int32) H locs ls h I (lv_sub hl [1, 0] rfl)
theorem c_C1_passYear {l : Launch} {D : va_G} {cy : Nat → ClassId} {a gs : Nat → Nat} {σ : Sg}   {σ' : Sg} (h : C1_passYear_0 σ  = some ((), σ')) (sz : Nat) : Met l yX1_passYear wsX1_passYear ({ frames := 4, cells := 0, slots := 0, locals := 92 }) (va_Pc [.ref (a 1)] (pr_ 59 a D cy (shC cy a σ) (xfC gs) sz)) (qg_ 59 a D (shC cy a σ') none sz) 0 0 (fr_ 59 a sz) := by
  refine ent_ (by decide) rfl (Nat.le_of_ble_eq_true rfl) ?_
  intro p e s m below meth c ls hsz X I hl
  subst hsz
  exact kC1_passYear_0 X σ  s.heap [] ls h I hl

def C_years_15 (k15 : Sg → Int32 → Int32 → Option (Int32 × Sg)) (σ : Sg) (x1 : Int32) (x2 : Int32) : Option (Int32 × Sg) :=
  if x1 ≤ x2 then (bi_ (C1_traitsTogether_0 σ) fun r_4 σ_3 =>
  some (r_4, σ_3))
  else (bi_ (C1_passYear_0 σ) fun _ σ_6 =>
  lt_ (x2 + (1 : Int32)) fun y_7 =>
  k15 σ_6 x1 y_7)
set_option maxRecDepth 100000 in
theorem kC_years_15 {p : Program} {l : Launch} {e : Env} {s : State} {m : MethodId} {args : Array Value} {below : List Frame} {meth : Method} {c : Code} {D : va_G} {cy : Nat → ClassId} {a gs : Nat → Nat} (X : cx_ cX11_years RX11 wsX11_years 3 (some .int) 59 a D cy (xfC gs) p s m args meth c) {k15 : Sg → Int32 → Int32 → Option (Int32 × Sg)} {r0 : Int32} {σ' : Sg} (hk15 : ∀ (σ : Sg) (x1 : Int32) (x2 : Int32) (H : Heap) (locs : List Loc) (ls : Array Slot), k15 σ x1 x2 = some (r0, σ') → iv_ 59 a D (shC cy a σ) s H locs → lv_has ls 3 [(0, .ref (a 0)), (1, .int x1), (2, .int x2)] → W p l e ({ frames := 5, cells := 0, slots := 0, locals := 114 }) s m args below meth c H locs 0 0 (MQ below (qg_ 59 a D (shC cy a σ') (some (.int r0)) s.heap.size) args s 0 0 (fr_ 59 a s.heap.size)) (F0 m 15 ls [])) : ∀ (σ : Sg) (x1 : Int32) (x2 : Int32) (H : Heap) (locs : List Loc) (ls : Array Slot), C_years_15 k15 σ x1 x2 = some (r0, σ') → iv_ 59 a D (shC cy a σ) s H locs → lv_has ls 3 [(0, .ref (a 0)), (1, .int x1), (2, .int x2)] → W p l e ({ frames := 5, cells := 0, slots := 0, locals := 114 }) s m args below meth c H locs 0 0 (MQ below (qg_ 59 a D (shC cy a σ') (some (.int r0)) s.heap.size) args s 0 0 (fr_ 59 a s.heap.size)) (F0 m 15 ls []) := by
  obtain ⟨hx, hb, hr, hml, hown, hts, hlk, hK, hA, hXf⟩ := id X
  intro σ x1 x2 H locs ls h I hl
  unfold C_years_15 at h
  refine lv_iload_n hx hb dX11_years_15 rfl (lv_at hl 2 rfl) ?_
  refine lv_iload_n hx hb dX11_years_16 rfl (lv_at hl 1 rfl) ?_
  refine lv_icmp_ge (tgt := 33) hx hb dX11_years_17 (by decide) (fun c_1 => ?_) (fun c_1 => ?_)
  · have h := if_t h c_1
    refine lv_aload_n hx hb dX11_years_33 rfl (lv_at hl 0 rfl) ?_
    refine ig_ (index := 30) X I (fun _ q => List.mem_cons_of_mem _ (List.mem_append_left _ (List.mem_append_left _ (List.mem_append_right _ q)))) 0 (by decide) shC_0 rfl 0 (by decide) (by decide +kernel) rfl (v := .ref (a 1)) rfl dX11_years_34 ?_
    obtain ⟨r_4, σ_3, hc_2, h⟩ := bi_of h
    refine cg_ (v := .int r_4) (rV_ (nn := 0) (As := []) (rest := []) X xkC I (c_C1_traitsTogether hc_2 H.size) gX11_years_X1_traitsTogether rfl ⟨rfl, rfl⟩ (by decide +kernel) ⟨Nat.le_of_ble_eq_true rfl, Nat.le_of_ble_eq_true rfl⟩ (by decide) shC_1 rfl rfl hl.1 rfl (Nat.le_of_ble_eq_true rfl) dX11_years_37) I (fun H locs I => ?_)
    obtain ⟨rfl, rfl⟩ := re_s h
    exact rti_ X I dX11_years_40
  · have h := if_f h c_1
    refine lv_aload_n hx hb dX11_years_20 rfl (lv_at hl 0 rfl) ?_
    refine ig_ (index := 30) X I (fun _ q => List.mem_cons_of_mem _ (List.mem_append_left _ (List.mem_append_left _ (List.mem_append_right _ q)))) 0 (by decide) shC_0 rfl 0 (by decide) (by decide +kernel) rfl (v := .ref (a 1)) rfl dX11_years_21 ?_
    obtain ⟨_, σ_6, hc_5, h⟩ := bi_of h
    refine cv_ (rV_ (nn := 0) (As := []) (rest := []) X xkC I (c_C1_passYear hc_5 H.size) gX11_years_X1_passYear rfl ⟨rfl, rfl⟩ (by decide +kernel) ⟨Nat.le_of_ble_eq_true rfl, Nat.le_of_ble_eq_true rfl⟩ (by decide) shC_1 rfl rfl hl.1 rfl (Nat.le_of_ble_eq_true rfl) dX11_years_24) I (fun H locs I => ?_)
    obtain ⟨y_7, e_8⟩ : ∃ q : Int32, q = x2 + (1 : Int32) := ⟨_, rfl⟩
    have h := lt_at h e_8
    refine lv_iinc (v := y_7) (lv' := [(2, .int y_7), (0, .ref (a 0)), (1, .int x1)]) hx hb dX11_years_27 hl (k := 2) rfl (by rw [e_8]; rfl) (by decide) rfl (fun ls hl => ?_)
    refine lv_goto (tgt := 15) hx hb dX11_years_30 (by decide) ?_
    exact hk15 σ_6 x1 y_7 H locs ls h I (lv_sub hl [1, 2, 0] rfl)
set_option maxRecDepth 100000 in
theorem kC_years_15L {p : Program} {l : Launch} {e : Env} {s : State} {m : MethodId} {args : Array Value} {below : List Frame} {meth : Method} {c : Code} {D : va_G} {cy : Nat → ClassId} {a gs : Nat → Nat} (X : cx_ cX11_years RX11 wsX11_years 3 (some .int) 59 a D cy (xfC gs) p s m args meth c)  {r0 : Int32} {σ' : Sg}  : ∀ (n : Nat), ∀ (σ : Sg) (x1 : Int32) (x2 : Int32) (H : Heap) (locs : List Loc) (ls : Array Slot), lp_ (C_years_15) (fun _ _ _ => none) n σ x1 x2 = some (r0, σ') → iv_ 59 a D (shC cy a σ) s H locs → lv_has ls 3 [(0, .ref (a 0)), (1, .int x1), (2, .int x2)] → W p l e ({ frames := 5, cells := 0, slots := 0, locals := 114 }) s m args below meth c H locs 0 0 (MQ below (qg_ 59 a D (shC cy a σ') (some (.int r0)) s.heap.size) args s 0 0 (fr_ 59 a s.heap.size)) (F0 m 15 ls []) := by
  intro n
  induction n with
  | zero =>
    intro _ _ _ _ _ _ h
    exact absurd h (fun q => by cases (show (none : Option _) = some _ from q))
  | succ n ih => exact kC_years_15 X ih

def C_years_0  (σ : Sg) (x1 : Int32) : Option (Int32 × Sg) :=
  if x1 < (1 : Int32) then (some ((-1 : Int32), σ))
  else (if x1 ≤ (60 : Int32) then (lp_ C_years_15 (fun _ _ _ => none) FU σ x1 (0 : Int32))
  else (some ((-1 : Int32), σ)))
set_option maxRecDepth 100000 in
theorem kC_years_0 {p : Program} {l : Launch} {e : Env} {s : State} {m : MethodId} {args : Array Value} {below : List Frame} {meth : Method} {c : Code} {D : va_G} {cy : Nat → ClassId} {a gs : Nat → Nat} (X : cx_ cX11_years RX11 wsX11_years 3 (some .int) 59 a D cy (xfC gs) p s m args meth c)  {r0 : Int32} {σ' : Sg}  : ∀ (σ : Sg) (x1 : Int32) (H : Heap) (locs : List Loc) (ls : Array Slot), C_years_0 σ x1 = some (r0, σ') → iv_ 59 a D (shC cy a σ) s H locs → lv_has ls 3 [(0, .ref (a 0)), (1, .int x1)] → W p l e ({ frames := 5, cells := 0, slots := 0, locals := 114 }) s m args below meth c H locs 0 0 (MQ below (qg_ 59 a D (shC cy a σ') (some (.int r0)) s.heap.size) args s 0 0 (fr_ 59 a s.heap.size)) (F0 m 0 ls []) := by
  obtain ⟨hx, hb, hr, hml, hown, hts, hlk, hK, hA, hXf⟩ := id X
  intro σ x1 H locs ls h I hl
  unfold C_years_0 at h
  refine lv_iload_n hx hb dX11_years_0 rfl (lv_at hl 1 rfl) ?_
  refine lv_iconst (v := 1) hx hb dX11_years_1 (by decide) ?_
  refine lv_icmp_lt (tgt := 11) hx hb dX11_years_2 (by decide) (fun c_1 => ?_) (fun c_1 => ?_)
  · have h := if_t h c_1
    refine lv_iconst (v := (-1)) hx hb dX11_years_11 (by decide) ?_
    obtain ⟨rfl, rfl⟩ := re_s h
    exact rti_ X I dX11_years_12
  · have h := if_f h c_1
    refine lv_iload_n hx hb dX11_years_5 rfl (lv_at hl 1 rfl) ?_
    refine lv_bipush (v := 60) hx hb dX11_years_6 (by decide) ?_
    refine lv_icmp_le (tgt := 13) hx hb dX11_years_8 (by decide) (fun c_2 => ?_) (fun c_2 => ?_)
    · have h := if_t h c_2
      refine lv_iconst (v := 0) hx hb dX11_years_13 (by decide) ?_
      refine lv_istore_n (lv' := [(2, .int (0 : Int32)), (0, .ref (a 0)), (1, .int x1)]) hx hb dX11_years_14 rfl hl (by decide) rfl (fun ls hl => ?_)
      exact kC_years_15L X  FU σ x1 (0 : Int32) H locs ls h I (lv_sub hl [1, 2, 0] rfl)
    · have h := if_f h c_2
      refine lv_iconst (v := (-1)) hx hb dX11_years_11 (by decide) ?_
      obtain ⟨rfl, rfl⟩ := re_s h
      exact rti_ X I dX11_years_12
theorem c_C_years {l : Launch} {D : va_G} {cy : Nat → ClassId} {a gs : Nat → Nat} {σ : Sg} {x1 : Int32} {r0 : Int32} {σ' : Sg} (h : C_years_0 σ x1 = some (r0, σ')) (sz : Nat) : Met l yX11_years wsX11_years ({ frames := 5, cells := 0, slots := 0, locals := 114 }) (va_Pc [.ref (a 0), .int x1] (pr_ 59 a D cy (shC cy a σ) (xfC gs) sz)) (qg_ 59 a D (shC cy a σ') (some (.int r0)) sz) 0 0 (fr_ 59 a sz) := by
  refine ent_ (by decide) rfl (Nat.le_of_ble_eq_true rfl) ?_
  intro p e s m below meth c ls hsz X I hl
  subst hsz
  exact kC_years_0 X σ x1 s.heap [] ls h I hl

def C_seed_0  (σ : Sg) (x1 : Int32) : Option (Int32 × Sg) :=
  lt_ ((rd_ σ 1 5)) fun y_1 =>
  lt_ (wr_ σ 1 5 x1) fun σ_3 =>
  some (y_1, σ_3)
set_option maxRecDepth 100000 in
theorem kC_seed_0 {p : Program} {l : Launch} {e : Env} {s : State} {m : MethodId} {args : Array Value} {below : List Frame} {meth : Method} {c : Code} {D : va_G} {cy : Nat → ClassId} {a gs : Nat → Nat} (X : cx_ cX11_seed RX11 wsX11_seed 3 (some .int) 59 a D cy (xfC gs) p s m args meth c)  {r0 : Int32} {σ' : Sg}  : ∀ (σ : Sg) (x1 : Int32) (H : Heap) (locs : List Loc) (ls : Array Slot), C_seed_0 σ x1 = some (r0, σ') → iv_ 59 a D (shC cy a σ) s H locs → lv_has ls 3 [(0, .ref (a 0)), (1, .int x1)] → W p l e ({ frames := 0, cells := 0, slots := 0, locals := 0 }) s m args below meth c H locs 0 0 (MQ below (qg_ 59 a D (shC cy a σ') (some (.int r0)) s.heap.size) args s 0 0 (fr_ 59 a s.heap.size)) (F0 m 0 ls []) := by
  obtain ⟨hx, hb, hr, hml, hown, hts, hlk, hK, hA, hXf⟩ := id X
  intro σ x1 H locs ls h I hl
  unfold C_seed_0 at h
  refine lv_aload_n hx hb dX11_seed_0 rfl (lv_at hl 0 rfl) ?_
  refine ig_ (index := 30) X I (fun _ q => List.mem_cons_of_mem _ (List.mem_append_left _ (List.mem_append_right _ q))) 0 (by decide) shC_0 rfl 0 (by decide) (by decide +kernel) rfl (v := .ref (a 1)) rfl dX11_seed_1 ?_
  refine ig_ (index := 91) X I (fun _ q => List.mem_cons_of_mem _ (List.mem_append_right _ q)) 1 (by decide) shC_1 rfl 5 (by decide) (by decide +kernel) rfl (v := .int (rd_ σ 1 5)) rfl dX11_seed_4 ?_
  refine lv_topi (fun y_1 e_2 => ?_)
  have h := lt_at h e_2
  refine lv_istore_n (lv' := [(2, .int y_1), (0, .ref (a 0)), (1, .int x1)]) hx hb dX11_seed_7 rfl hl (by decide) rfl (fun ls hl => ?_)
  refine lv_aload_n hx hb dX11_seed_8 rfl (lv_at hl 1 rfl) ?_
  refine ig_ (index := 30) X I (fun _ q => List.mem_cons_of_mem _ (List.mem_append_left _ (List.mem_append_right _ q))) 0 (by decide) shC_0 rfl 0 (by decide) (by decide +kernel) rfl (v := .ref (a 1)) rfl dX11_seed_9 ?_
  refine lv_iload_n hx hb dX11_seed_12 rfl (lv_at hl 2 rfl) ?_
  refine ip_ (index := 91) (ty := .int) X I (fun _ q => List.mem_cons_of_mem _ (List.mem_append_right _ q)) tyX1 tyX1_ok nmX1 1 (by decide) shC_1 rfl 5 (by decide) (by decide +kernel) rfl rfl (by decide +kernel) rfl rfl (Nat.le_of_ble_eq_true rfl) shC_pt_1_5 dX11_seed_13 (fun σ_3 H locs e_4 I => ?_)
  have h := lt_at h e_4
  refine lv_iload_n hx hb dX11_seed_16 rfl (lv_at hl 0 rfl) ?_
  obtain ⟨rfl, rfl⟩ := re_s h
  exact rti_ X I dX11_seed_17
theorem c_C_seed {l : Launch} {D : va_G} {cy : Nat → ClassId} {a gs : Nat → Nat} {σ : Sg} {x1 : Int32} {r0 : Int32} {σ' : Sg} (h : C_seed_0 σ x1 = some (r0, σ')) (sz : Nat) : Met l yX11_seed wsX11_seed ({ frames := 0, cells := 0, slots := 0, locals := 0 }) (va_Pc [.ref (a 0), .int x1] (pr_ 59 a D cy (shC cy a σ) (xfC gs) sz)) (qg_ 59 a D (shC cy a σ') (some (.int r0)) sz) 0 0 (fr_ 59 a sz) := by
  refine ent_ (by decide) rfl (Nat.le_of_ble_eq_true rfl) ?_
  intro p e s m below meth c ls hsz X I hl
  subst hsz
  exact kC_seed_0 X σ x1 s.heap [] ls h I hl

def C1_draw_0  (σ : Sg)  : Option (Int32 × Sg) :=
  lt_ (wr_ σ 1 5 (((rd_ σ 1 5) * (1103515245 : Int32)) + (12345 : Int32))) fun σ_1 =>
  some ((((rd_ σ_1 1 5).toUInt32 >>> ((16 : Int32).toUInt32 &&& Int32.toUInt32 31)).toInt32), σ_1)
set_option maxRecDepth 100000 in
theorem kC1_draw_0 {p : Program} {l : Launch} {e : Env} {s : State} {m : MethodId} {args : Array Value} {below : List Frame} {meth : Method} {c : Code} {D : va_G} {cy : Nat → ClassId} {a gs : Nat → Nat} (X : cx_ cX1_draw RX1 wsX1_draw 1 (some .int) 59 a D cy (xfC gs) p s m args meth c)  {r0 : Int32} {σ' : Sg}  : ∀ (σ : Sg)  (H : Heap) (locs : List Loc) (ls : Array Slot), C1_draw_0 σ = some (r0, σ') → iv_ 59 a D (shC cy a σ) s H locs → lv_has ls 1 [(0, .ref (a 1))] → W p l e ({ frames := 0, cells := 0, slots := 0, locals := 0 }) s m args below meth c H locs 0 0 (MQ below (qg_ 59 a D (shC cy a σ') (some (.int r0)) s.heap.size) args s 0 0 (fr_ 59 a s.heap.size)) (F0 m 0 ls []) := by
  obtain ⟨hx, hb, hr, hml, hown, hts, hlk, hK, hA, hXf⟩ := id X
  intro σ  H locs ls h I hl
  unfold C1_draw_0 at h
  refine lv_aload_n hx hb dX1_draw_0 rfl (lv_at hl 0 rfl) ?_
  refine lv_aload_n hx hb dX1_draw_1 rfl (lv_at hl 0 rfl) ?_
  refine ig_ (index := 32) X I (fun _ q => List.mem_cons_of_mem _ (List.mem_append_right _ q)) 1 (by decide) shC_1 rfl 5 (by decide) (by decide +kernel) rfl (v := .int (rd_ σ 1 5)) rfl dX1_draw_2 ?_
  refine lv_ldc (v := 1103515245) hx hb hown (hts (.constant RX1 114 (1103515245)) (by decide +kernel)) dX1_draw_5 ?_
  refine lv_imul hx hb dX1_draw_7 ?_
  refine lv_sipush (v := 12345) hx hb dX1_draw_8 (by decide) ?_
  refine lv_iadd hx hb dX1_draw_11 ?_
  refine ip_ (index := 32) (ty := .int) X I (fun _ q => List.mem_cons_of_mem _ (List.mem_append_right _ q)) tyX1 tyX1_ok nmX1 1 (by decide) shC_1 rfl 5 (by decide) (by decide +kernel) rfl rfl (by decide +kernel) rfl rfl (Nat.le_of_ble_eq_true rfl) shC_pt_1_5 dX1_draw_12 (fun σ_1 H locs e_2 I => ?_)
  have h := lt_at h e_2
  refine lv_aload_n hx hb dX1_draw_15 rfl (lv_at hl 0 rfl) ?_
  refine ig_ (index := 32) X I (fun _ q => List.mem_cons_of_mem _ (List.mem_append_right _ q)) 1 (by decide) shC_1 rfl 5 (by decide) (by decide +kernel) rfl (v := .int (rd_ σ_1 1 5)) rfl dX1_draw_16 ?_
  refine lv_bipush (v := 16) hx hb dX1_draw_19 (by decide) ?_
  refine lv_iushr hx hb dX1_draw_21 rfl ?_
  obtain ⟨rfl, rfl⟩ := re_s h
  exact rti_ X I dX1_draw_22
theorem c_C1_draw {l : Launch} {D : va_G} {cy : Nat → ClassId} {a gs : Nat → Nat} {σ : Sg}  {r0 : Int32} {σ' : Sg} (h : C1_draw_0 σ  = some (r0, σ')) (sz : Nat) : Met l yX1_draw wsX1_draw ({ frames := 0, cells := 0, slots := 0, locals := 0 }) (va_Pc [.ref (a 1)] (pr_ 59 a D cy (shC cy a σ) (xfC gs) sz)) (qg_ 59 a D (shC cy a σ') (some (.int r0)) sz) 0 0 (fr_ 59 a sz) := by
  refine ent_ (by decide) rfl (Nat.le_of_ble_eq_true rfl) ?_
  intro p e s m below meth c ls hsz X I hl
  subst hsz
  exact kC1_draw_0 X σ  s.heap [] ls h I hl

def C1_drawSlip_0  (σ : Sg)  : Option (Int32 × Sg) :=
  if 0 < (rd_ σ 1 3) then (bi_ (C1_draw_0 σ) fun r_4 σ_3 =>
  gd_ (nz_ (rd_ σ_3 1 3)) (
  lt_ ((r_4 - r_4 / (rd_ σ_3 1 3) * (rd_ σ_3 1 3))) fun y_6 =>
  bi_ (C1_draw_0 σ_3) fun r_10 σ_9 =>
  if (r_10 - r_10 / (100 : Int32) * (100 : Int32)) < (rd_ σ_9 4 3) then (bi_ (C1_draw_0 σ_9) fun r_14 σ_13 =>
  some (((y_6 * (8 : Int32)) + (r_14 - r_14 / (8 : Int32) * (8 : Int32))), σ_13))
  else (some ((-3 : Int32), σ_9))))
  else (some ((-3 : Int32), σ))
set_option maxRecDepth 100000 in
theorem kC1_drawSlip_0 {p : Program} {l : Launch} {e : Env} {s : State} {m : MethodId} {args : Array Value} {below : List Frame} {meth : Method} {c : Code} {D : va_G} {cy : Nat → ClassId} {a gs : Nat → Nat} (X : cx_ cX1_drawSlip RX1 wsX1_drawSlip 2 (some .int) 59 a D cy (xfC gs) p s m args meth c)  {r0 : Int32} {σ' : Sg}  : ∀ (σ : Sg)  (H : Heap) (locs : List Loc) (ls : Array Slot), C1_drawSlip_0 σ = some (r0, σ') → iv_ 59 a D (shC cy a σ) s H locs → lv_has ls 2 [(0, .ref (a 1))] → W p l e ({ frames := 1, cells := 0, slots := 0, locals := 20 }) s m args below meth c H locs 0 0 (MQ below (qg_ 59 a D (shC cy a σ') (some (.int r0)) s.heap.size) args s 0 0 (fr_ 59 a s.heap.size)) (F0 m 0 ls []) := by
  obtain ⟨hx, hb, hr, hml, hown, hts, hlk, hK, hA, hXf⟩ := id X
  intro σ  H locs ls h I hl
  unfold C1_drawSlip_0 at h
  refine lv_aload_n hx hb dX1_drawSlip_0 rfl (lv_at hl 0 rfl) ?_
  refine ig_ (index := 42) X I (fun _ q => List.mem_cons_of_mem _ (List.mem_append_right _ q)) 1 (by decide) shC_1 rfl 3 (by decide) (by decide +kernel) rfl (v := .int (rd_ σ 1 3)) rfl dX1_drawSlip_1 ?_
  refine lv_if_gt (tgt := 10) hx hb dX1_drawSlip_4 (by decide) (fun c_1 => ?_) (fun c_1 => ?_)
  · have h := if_t h c_1
    refine lv_aload_n hx hb dX1_drawSlip_10 rfl (lv_at hl 0 rfl) ?_
    obtain ⟨r_4, σ_3, hc_2, h⟩ := bi_of h
    refine cg_ (v := .int r_4) (rV_ (nn := 0) (As := []) (rest := []) X xkC I (c_C1_draw hc_2 H.size) gX1_drawSlip_X1_draw rfl ⟨rfl, rfl⟩ (by decide +kernel) ⟨Nat.le_of_ble_eq_true rfl, Nat.le_of_ble_eq_true rfl⟩ (by decide) shC_1 rfl rfl hl.1 rfl (Nat.le_of_ble_eq_true rfl) dX1_drawSlip_11) I (fun H locs I => ?_)
    refine lv_aload_n hx hb dX1_drawSlip_14 rfl (lv_at hl 0 rfl) ?_
    refine ig_ (index := 42) X I (fun _ q => List.mem_cons_of_mem _ (List.mem_append_right _ q)) 1 (by decide) shC_1 rfl 3 (by decide) (by decide +kernel) rfl (v := .int (rd_ σ_3 1 3)) rfl dX1_drawSlip_15 ?_
    obtain ⟨g_5, h⟩ := gd_of h
    refine lv_irem hx hb dX1_drawSlip_18 (nz_of g_5) ?_
    refine lv_topi (fun y_6 e_7 => ?_)
    have h := lt_at h e_7
    refine lv_istore_n (lv' := [(1, .int y_6), (0, .ref (a 1))]) hx hb dX1_drawSlip_19 rfl hl (by decide) rfl (fun ls hl => ?_)
    refine lv_aload_n hx hb dX1_drawSlip_20 rfl (lv_at hl 1 rfl) ?_
    obtain ⟨r_10, σ_9, hc_8, h⟩ := bi_of h
    refine cg_ (v := .int r_10) (rV_ (nn := 0) (As := []) (rest := []) X xkC I (c_C1_draw hc_8 H.size) gX1_drawSlip_X1_draw rfl ⟨rfl, rfl⟩ (by decide +kernel) ⟨Nat.le_of_ble_eq_true rfl, Nat.le_of_ble_eq_true rfl⟩ (by decide) shC_1 rfl rfl hl.1 rfl (Nat.le_of_ble_eq_true rfl) dX1_drawSlip_21) I (fun H locs I => ?_)
    refine lv_bipush (v := 100) hx hb dX1_drawSlip_24 (by decide) ?_
    refine lv_irem hx hb dX1_drawSlip_26 (by decide) ?_
    refine lv_aload_n hx hb dX1_drawSlip_27 rfl (lv_at hl 1 rfl) ?_
    refine ig_ (index := 15) X I (fun _ q => List.mem_cons_of_mem _ (List.mem_append_right _ q)) 1 (by decide) shC_1 rfl 0 (by decide) (by decide +kernel) rfl (v := .ref (a 4)) rfl dX1_drawSlip_28 ?_
    refine lv_iconst (v := 3) hx hb dX1_drawSlip_31 (by decide) ?_
    refine ia_ X I 4 (by decide) shC_4 (in_of (by decide)) (v0 := (rd_ σ_9 4 3)) rfl dX1_drawSlip_32 ?_
    refine lv_icmp_lt (tgt := 39) hx hb dX1_drawSlip_33 (by decide) (fun c_11 => ?_) (fun c_11 => ?_)
    · have h := if_t h c_11
      refine lv_iload_n hx hb dX1_drawSlip_39 rfl (lv_at hl 0 rfl) ?_
      refine lv_bipush (v := 8) hx hb dX1_drawSlip_40 (by decide) ?_
      refine lv_imul hx hb dX1_drawSlip_42 ?_
      refine lv_aload_n hx hb dX1_drawSlip_43 rfl (lv_at hl 1 rfl) ?_
      obtain ⟨r_14, σ_13, hc_12, h⟩ := bi_of h
      refine cg_ (v := .int r_14) (rV_ (nn := 0) (As := []) (rest := [.int (y_6 * (8 : Int32))]) X xkC I (c_C1_draw hc_12 H.size) gX1_drawSlip_X1_draw rfl ⟨rfl, rfl⟩ (by decide +kernel) ⟨Nat.le_of_ble_eq_true rfl, Nat.le_of_ble_eq_true rfl⟩ (by decide) shC_1 rfl rfl hl.1 rfl (Nat.le_of_ble_eq_true rfl) dX1_drawSlip_44) I (fun H locs I => ?_)
      refine lv_bipush (v := 8) hx hb dX1_drawSlip_47 (by decide) ?_
      refine lv_irem hx hb dX1_drawSlip_49 (by decide) ?_
      refine lv_iadd hx hb dX1_drawSlip_50 ?_
      obtain ⟨rfl, rfl⟩ := re_s h
      exact rti_ X I dX1_drawSlip_51
    · have h := if_f h c_11
      refine lv_bipush (v := (-3)) hx hb dX1_drawSlip_36 (by decide) ?_
      obtain ⟨rfl, rfl⟩ := re_s h
      exact rti_ X I dX1_drawSlip_38
  · have h := if_f h c_1
    refine lv_bipush (v := (-3)) hx hb dX1_drawSlip_7 (by decide) ?_
    obtain ⟨rfl, rfl⟩ := re_s h
    exact rti_ X I dX1_drawSlip_9
theorem c_C1_drawSlip {l : Launch} {D : va_G} {cy : Nat → ClassId} {a gs : Nat → Nat} {σ : Sg}  {r0 : Int32} {σ' : Sg} (h : C1_drawSlip_0 σ  = some (r0, σ')) (sz : Nat) : Met l yX1_drawSlip wsX1_drawSlip ({ frames := 1, cells := 0, slots := 0, locals := 20 }) (va_Pc [.ref (a 1)] (pr_ 59 a D cy (shC cy a σ) (xfC gs) sz)) (qg_ 59 a D (shC cy a σ') (some (.int r0)) sz) 0 0 (fr_ 59 a sz) := by
  refine ent_ (by decide) rfl (Nat.le_of_ble_eq_true rfl) ?_
  intro p e s m below meth c ls hsz X I hl
  subst hsz
  exact kC1_drawSlip_0 X σ  s.heap [] ls h I hl

def C_year_36  (σ : Sg)  : Option (Int32 × Sg) :=
  bi_ (C1_passYear_0 σ) fun _ σ_2 =>
  bi_ (C1_traitsTogether_0 σ_2) fun r_5 σ_4 =>
  some (r_5, σ_4)
set_option maxRecDepth 100000 in
theorem kC_year_36 {p : Program} {l : Launch} {e : Env} {s : State} {m : MethodId} {args : Array Value} {below : List Frame} {meth : Method} {c : Code} {D : va_G} {cy : Nat → ClassId} {a gs : Nat → Nat} (X : cx_ cX11_year RX11 wsX11_year 3 (some .int) 59 a D cy (xfC gs) p s m args meth c)  {r0 : Int32} {σ' : Sg}  : ∀ (σ : Sg)  (H : Heap) (locs : List Loc) (ls : Array Slot), C_year_36 σ = some (r0, σ') → iv_ 59 a D (shC cy a σ) s H locs → lv_has ls 3 [(0, .ref (a 0))] → W p l e ({ frames := 5, cells := 0, slots := 0, locals := 114 }) s m args below meth c H locs 0 0 (MQ below (qg_ 59 a D (shC cy a σ') (some (.int r0)) s.heap.size) args s 0 0 (fr_ 59 a s.heap.size)) (F0 m 36 ls []) := by
  obtain ⟨hx, hb, hr, hml, hown, hts, hlk, hK, hA, hXf⟩ := id X
  intro σ  H locs ls h I hl
  unfold C_year_36 at h
  refine lv_aload_n hx hb dX11_year_36 rfl (lv_at hl 0 rfl) ?_
  refine ig_ (index := 30) X I (fun _ q => List.mem_cons_of_mem _ (List.mem_append_left _ (List.mem_append_left _ (List.mem_append_right _ q)))) 0 (by decide) shC_0 rfl 0 (by decide) (by decide +kernel) rfl (v := .ref (a 1)) rfl dX11_year_37 ?_
  obtain ⟨_, σ_2, hc_1, h⟩ := bi_of h
  refine cv_ (rV_ (nn := 0) (As := []) (rest := []) X xkC I (c_C1_passYear hc_1 H.size) gX11_year_X1_passYear rfl ⟨rfl, rfl⟩ (by decide +kernel) ⟨Nat.le_of_ble_eq_true rfl, Nat.le_of_ble_eq_true rfl⟩ (by decide) shC_1 rfl rfl hl.1 rfl (Nat.le_of_ble_eq_true rfl) dX11_year_40) I (fun H locs I => ?_)
  refine lv_aload_n hx hb dX11_year_43 rfl (lv_at hl 0 rfl) ?_
  refine ig_ (index := 30) X I (fun _ q => List.mem_cons_of_mem _ (List.mem_append_left _ (List.mem_append_left _ (List.mem_append_right _ q)))) 0 (by decide) shC_0 rfl 0 (by decide) (by decide +kernel) rfl (v := .ref (a 1)) rfl dX11_year_44 ?_
  obtain ⟨r_5, σ_4, hc_3, h⟩ := bi_of h
  refine cg_ (v := .int r_5) (rV_ (nn := 0) (As := []) (rest := []) X xkC I (c_C1_traitsTogether hc_3 H.size) gX11_year_X1_traitsTogether rfl ⟨rfl, rfl⟩ (by decide +kernel) ⟨Nat.le_of_ble_eq_true rfl, Nat.le_of_ble_eq_true rfl⟩ (by decide) shC_1 rfl rfl hl.1 rfl (Nat.le_of_ble_eq_true rfl) dX11_year_47) I (fun H locs I => ?_)
  obtain ⟨rfl, rfl⟩ := re_s h
  exact rti_ X I dX11_year_50
def C_year_0  (σ : Sg)  : Option (Int32 × Sg) :=
  bi_ (C1_drawSlip_0 σ) fun r_3 σ_2 =>
  if r_3 < 0 then (C_year_36 σ_2)
  else (bi_ (C1_life_0 σ_2 (r_3 / (8 : Int32))) fun r_7 σ_6 =>
  on_ r_7 (C_year_36 σ_6) fun j_8 =>
  gd_ (lf_ j_8 25) (
  lt_ (wr_ σ_6 (34 + j_8) 5 (r_3 - r_3 / (8 : Int32) * (8 : Int32))) fun σ_10 =>
  C_year_36 σ_10))
set_option maxRecDepth 100000 in
theorem kC_year_0 {p : Program} {l : Launch} {e : Env} {s : State} {m : MethodId} {args : Array Value} {below : List Frame} {meth : Method} {c : Code} {D : va_G} {cy : Nat → ClassId} {a gs : Nat → Nat} (X : cx_ cX11_year RX11 wsX11_year 3 (some .int) 59 a D cy (xfC gs) p s m args meth c)  {r0 : Int32} {σ' : Sg}  : ∀ (σ : Sg)  (H : Heap) (locs : List Loc) (ls : Array Slot), C_year_0 σ = some (r0, σ') → iv_ 59 a D (shC cy a σ) s H locs → lv_has ls 3 [(0, .ref (a 0))] → W p l e ({ frames := 5, cells := 0, slots := 0, locals := 114 }) s m args below meth c H locs 0 0 (MQ below (qg_ 59 a D (shC cy a σ') (some (.int r0)) s.heap.size) args s 0 0 (fr_ 59 a s.heap.size)) (F0 m 0 ls []) := by
  obtain ⟨hx, hb, hr, hml, hown, hts, hlk, hK, hA, hXf⟩ := id X
  intro σ  H locs ls h I hl
  unfold C_year_0 at h
  refine lv_aload_n hx hb dX11_year_0 rfl (lv_at hl 0 rfl) ?_
  refine ig_ (index := 30) X I (fun _ q => List.mem_cons_of_mem _ (List.mem_append_left _ (List.mem_append_left _ (List.mem_append_right _ q)))) 0 (by decide) shC_0 rfl 0 (by decide) (by decide +kernel) rfl (v := .ref (a 1)) rfl dX11_year_1 ?_
  obtain ⟨r_3, σ_2, hc_1, h⟩ := bi_of h
  refine cg_ (v := .int r_3) (rV_ (nn := 0) (As := []) (rest := []) X xkC I (c_C1_drawSlip hc_1 H.size) gX11_year_X1_drawSlip rfl ⟨rfl, rfl⟩ (by decide +kernel) ⟨Nat.le_of_ble_eq_true rfl, Nat.le_of_ble_eq_true rfl⟩ (by decide) shC_1 rfl rfl hl.1 rfl (Nat.le_of_ble_eq_true rfl) dX11_year_4) I (fun H locs I => ?_)
  refine lv_istore_n (lv' := [(1, .int r_3), (0, .ref (a 0))]) hx hb dX11_year_7 rfl hl (by decide) rfl (fun ls hl => ?_)
  refine lv_iload_n hx hb dX11_year_8 rfl (lv_at hl 0 rfl) ?_
  refine lv_if_lt (tgt := 36) hx hb dX11_year_9 (by decide) (fun c_4 => ?_) (fun c_4 => ?_)
  · have h := if_t h c_4
    exact kC_year_36 X  σ_2 H locs ls h I (lv_sub hl [1] rfl)
  · have h := if_f h c_4
    refine lv_aload_n hx hb dX11_year_12 rfl (lv_at hl 1 rfl) ?_
    refine ig_ (index := 30) X I (fun _ q => List.mem_cons_of_mem _ (List.mem_append_left _ (List.mem_append_left _ (List.mem_append_right _ q)))) 0 (by decide) shC_0 rfl 0 (by decide) (by decide +kernel) rfl (v := .ref (a 1)) rfl dX11_year_13 ?_
    refine lv_iload_n hx hb dX11_year_16 rfl (lv_at hl 0 rfl) ?_
    refine lv_bipush (v := 8) hx hb dX11_year_17 (by decide) ?_
    refine lv_idiv hx hb dX11_year_19 (by decide) ?_
    obtain ⟨r_7, σ_6, hc_5, h⟩ := bi_of h
    refine cg_ (v := va_re (fun j => a (34 + j)) r_7) (rV_ (nn := 1) (As := [.int (r_3 / (8 : Int32))]) (rest := []) X xkC I (c_C1_life hc_5 H.size) gX11_year_X1_life rfl ⟨rfl, rfl⟩ (by decide +kernel) ⟨Nat.le_of_ble_eq_true rfl, Nat.le_of_ble_eq_true rfl⟩ (by decide) shC_1 rfl rfl hl.1 rfl (Nat.le_of_ble_eq_true rfl) dX11_year_20) I (fun H locs I => ?_)
    rcases r_7 with _ | j_8
    · have h := on_n h
      refine W.eq (g2 := F0 m 23 ls [.null]) rfl ?_
      refine lv_astore_nN (lv' := [(2, .null), (1, .int r_3), (0, .ref (a 0))]) hx hb dX11_year_23 rfl hl (by decide) rfl (fun ls hl => ?_)
      refine lv_aload_nN hx hb dX11_year_24 rfl (lv_at hl 0 rfl) ?_
      refine lv_ifnullN (tgt := 36) hx hb dX11_year_25 (by decide) ?_
      exact kC_year_36 X  σ_6 H locs ls h I (lv_sub hl [2] rfl)
    · have h := on_s h
      refine W.eq (g2 := F0 m 23 ls [.ref (a (34 + j_8))]) rfl ?_
      refine lv_astore_n (lv' := [(2, .ref (a (34 + j_8))), (1, .int r_3), (0, .ref (a 0))]) hx hb dX11_year_23 rfl hl (by decide) rfl (fun ls hl => ?_)
      refine lv_aload_n hx hb dX11_year_24 rfl (lv_at hl 0 rfl) ?_
      refine lv_ifnull hx hb dX11_year_25 ?_
      refine lv_aload_n hx hb dX11_year_28 rfl (lv_at hl 0 rfl) ?_
      refine lv_iload_n hx hb dX11_year_29 rfl (lv_at hl 1 rfl) ?_
      refine lv_bipush (v := 8) hx hb dX11_year_30 (by decide) ?_
      refine lv_irem hx hb dX11_year_32 (by decide) ?_
      obtain ⟨g_9, h⟩ := gd_of h
      refine ip_ (index := 156) (ty := .int) X I (fun _ q => List.mem_cons_of_mem _ (List.mem_append_left _ (List.mem_append_right _ q))) tyX6 tyX6_ok nmX6 (34 + j_8) (lf59 g_9) shC_L rfl 5 (by decide) (by decide +kernel) rfl rfl (by decide +kernel) rfl rfl (Nat.le_of_ble_eq_true rfl) shC_pl_5 dX11_year_33 (fun σ_10 H locs e_11 I => ?_)
      have h := lt_at h e_11
      exact kC_year_36 X  σ_10 H locs ls h I (lv_sub hl [2] rfl)
theorem c_C_year {l : Launch} {D : va_G} {cy : Nat → ClassId} {a gs : Nat → Nat} {σ : Sg}  {r0 : Int32} {σ' : Sg} (h : C_year_0 σ  = some (r0, σ')) (sz : Nat) : Met l yX11_year wsX11_year ({ frames := 5, cells := 0, slots := 0, locals := 114 }) (va_Pc [.ref (a 0)] (pr_ 59 a D cy (shC cy a σ) (xfC gs) sz)) (qg_ 59 a D (shC cy a σ') (some (.int r0)) sz) 0 0 (fr_ 59 a sz) := by
  refine ent_ (by decide) rfl (Nat.le_of_ble_eq_true rfl) ?_
  intro p e s m below meth c ls hsz X I hl
  subst hsz
  exact kC_year_0 X σ  s.heap [] ls h I hl

def C6_distance_0  (σ : Sg) (x0 : Nat) : Option (Int32 × Sg) :=
  gd_ (lf_ x0 25) (
  some ((if 0 ≤ ((rd_ σ (34 + x0) 1) - (rd_ σ (34 + x0) 3)) then ((rd_ σ (34 + x0) 1) - (rd_ σ (34 + x0) 3)) else 0 - ((rd_ σ (34 + x0) 1) - (rd_ σ (34 + x0) 3))), σ))
set_option maxRecDepth 100000 in
theorem kC6_distance_0 {p : Program} {l : Launch} {e : Env} {s : State} {m : MethodId} {args : Array Value} {below : List Frame} {meth : Method} {c : Code} {D : va_G} {cy : Nat → ClassId} {a gs : Nat → Nat} (X : cx_ cX6_distance RX6 wsX6_distance 1 (some .int) 59 a D cy (xfC gs) p s m args meth c)  {r0 : Int32} {σ' : Sg}  : ∀ (σ : Sg) (x0 : Nat) (H : Heap) (locs : List Loc) (ls : Array Slot), C6_distance_0 σ x0 = some (r0, σ') → iv_ 59 a D (shC cy a σ) s H locs → lv_has ls 1 [(0, .ref (a (34 + x0)))] → W p l e ({ frames := 1, cells := 0, slots := 0, locals := 21 }) s m args below meth c H locs 0 0 (MQ below (qg_ 59 a D (shC cy a σ') (some (.int r0)) s.heap.size) args s 0 0 (fr_ 59 a s.heap.size)) (F0 m 0 ls []) := by
  obtain ⟨hx, hb, hr, hml, hown, hts, hlk, hK, hA, hXf⟩ := id X
  intro σ x0 H locs ls h I hl
  unfold C6_distance_0 at h
  refine lv_aload_n hx hb dX6_distance_0 rfl (lv_at hl 0 rfl) ?_
  obtain ⟨g_1, h⟩ := gd_of h
  refine ig_ (index := 15) X I (fun _ q => List.mem_cons_of_mem _ (List.mem_append_right _ q)) (34 + x0) (lf59 g_1) shC_L rfl 1 (by decide) (by decide +kernel) rfl (v := .int (rd_ σ (34 + x0) 1)) rfl dX6_distance_1 ?_
  refine lv_aload_n hx hb dX6_distance_4 rfl (lv_at hl 0 rfl) ?_
  refine ig_ (index := 21) X I (fun _ q => List.mem_cons_of_mem _ (List.mem_append_right _ q)) (34 + x0) (lf59 g_1) shC_L rfl 3 (by decide) (by decide +kernel) rfl (v := .int (rd_ σ (34 + x0) 3)) rfl dX6_distance_5 ?_
  refine lv_isub hx hb dX6_distance_8 ?_
  refine va_mabs hx hb (by rw [hml]; exact hl.1.symm) hown (hts (.methodLink RX6 30 Lib.Math.abs.name) (by decide +kernel)) (hts (.static Lib.Math.abs.name) (by decide +kernel)) (hts (.initialized "java/lang/Math") (by decide +kernel)) (hts (.code Lib.Math.abs.name Lib.Math.abs.code 1 (some .int)) (by decide +kernel)) (Nat.le_of_ble_eq_true rfl) (Nat.le_of_ble_eq_true rfl) (Nat.zero_le _) (Nat.zero_le _) dX6_distance_9 ?_
  obtain ⟨rfl, rfl⟩ := re_s h
  exact rti_ X I dX6_distance_12
theorem c_C6_distance {l : Launch} {D : va_G} {cy : Nat → ClassId} {a gs : Nat → Nat} {σ : Sg} {x0 : Nat} {r0 : Int32} {σ' : Sg} (h : C6_distance_0 σ x0 = some (r0, σ')) (sz : Nat) : Met l yX6_distance wsX6_distance ({ frames := 1, cells := 0, slots := 0, locals := 21 }) (va_Pc [.ref (a (34 + x0))] (pr_ 59 a D cy (shC cy a σ) (xfC gs) sz)) (qg_ 59 a D (shC cy a σ') (some (.int r0)) sz) 0 0 (fr_ 59 a sz) := by
  refine ent_ (by decide) rfl (Nat.le_of_ble_eq_true rfl) ?_
  intro p e s m below meth c ls hsz X I hl
  subst hsz
  exact kC6_distance_0 X σ x0 s.heap [] ls h I hl

def C_farWith_20 (k20 : Sg → Int32 → Int32 → Option (Int32 × Sg)) (σ : Sg) (x4 : Int32) (x5 : Int32) : Option (Int32 × Sg) :=
  if x4 ≤ x5 then (bi_ (C6_distance_0 σ 24) fun r_4 σ_3 =>
  some (r_4, σ_3))
  else (bi_ (C1_passYearOf_0 σ 24 ((rd_ σ 1 4) + x5)) fun _ σ_6 =>
  lt_ (x5 + (1 : Int32)) fun y_7 =>
  k20 σ_6 x4 y_7)
set_option maxRecDepth 100000 in
theorem kC_farWith_20 {p : Program} {l : Launch} {e : Env} {s : State} {m : MethodId} {args : Array Value} {below : List Frame} {meth : Method} {c : Code} {D : va_G} {cy : Nat → ClassId} {a gs : Nat → Nat} (X : cx_ cX11_farWith RX11 wsX11_farWith 6 (some .int) 59 a D cy (xfC gs) p s m args meth c) {k20 : Sg → Int32 → Int32 → Option (Int32 × Sg)} {r0 : Int32} {σ' : Sg} (hk20 : ∀ (σ : Sg) (x4 : Int32) (x5 : Int32) (H : Heap) (locs : List Loc) (ls : Array Slot), k20 σ x4 x5 = some (r0, σ') → iv_ 59 a D (shC cy a σ) s H locs → lv_has ls 6 [(0, .ref (a 0)), (4, .int x4), (5, .int x5)] → W p l e ({ frames := 4, cells := 0, slots := 0, locals := 92 }) s m args below meth c H locs 0 0 (MQ below (qg_ 59 a D (shC cy a σ') (some (.int r0)) s.heap.size) args s 0 0 (fr_ 59 a s.heap.size)) (F0 m 20 ls [])) : ∀ (σ : Sg) (x4 : Int32) (x5 : Int32) (H : Heap) (locs : List Loc) (ls : Array Slot), C_farWith_20 k20 σ x4 x5 = some (r0, σ') → iv_ 59 a D (shC cy a σ) s H locs → lv_has ls 6 [(0, .ref (a 0)), (4, .int x4), (5, .int x5)] → W p l e ({ frames := 4, cells := 0, slots := 0, locals := 92 }) s m args below meth c H locs 0 0 (MQ below (qg_ 59 a D (shC cy a σ') (some (.int r0)) s.heap.size) args s 0 0 (fr_ 59 a s.heap.size)) (F0 m 20 ls []) := by
  obtain ⟨hx, hb, hr, hml, hown, hts, hlk, hK, hA, hXf⟩ := id X
  intro σ x4 x5 H locs ls h I hl
  unfold C_farWith_20 at h
  refine lv_iload hx hb dX11_farWith_20 (lv_at hl 2 rfl) ?_
  refine lv_iload hx hb dX11_farWith_22 (lv_at hl 1 rfl) ?_
  refine lv_icmp_ge (tgt := 54) hx hb dX11_farWith_24 (by decide) (fun c_1 => ?_) (fun c_1 => ?_)
  · have h := if_t h c_1
    refine lv_aload_n hx hb dX11_farWith_54 rfl (lv_at hl 0 rfl) ?_
    refine ig_ (index := 45) X I (fun _ q => List.mem_cons_of_mem _ (List.mem_append_left _ (List.mem_append_left _ (List.mem_append_right _ q)))) 0 (by decide) shC_0 rfl 3 (by decide) (by decide +kernel) rfl (v := .ref (a (34 + 24))) rfl dX11_farWith_55 ?_
    obtain ⟨r_4, σ_3, hc_2, h⟩ := bi_of h
    refine cg_ (v := .int r_4) (rV_ (nn := 0) (As := []) (rest := []) X xkC I (c_C6_distance hc_2 H.size) gX11_farWith_X6_distance rfl ⟨rfl, rfl⟩ (by decide +kernel) ⟨Nat.le_of_ble_eq_true rfl, Nat.le_of_ble_eq_true rfl⟩ (by decide) shC_L rfl rfl hl.1 rfl (Nat.le_of_ble_eq_true rfl) dX11_farWith_58) I (fun H locs I => ?_)
    obtain ⟨rfl, rfl⟩ := re_s h
    exact rti_ X I dX11_farWith_61
  · have h := if_f h c_1
    refine lv_aload_n hx hb dX11_farWith_27 rfl (lv_at hl 0 rfl) ?_
    refine ig_ (index := 30) X I (fun _ q => List.mem_cons_of_mem _ (List.mem_append_left _ (List.mem_append_left _ (List.mem_append_right _ q)))) 0 (by decide) shC_0 rfl 0 (by decide) (by decide +kernel) rfl (v := .ref (a 1)) rfl dX11_farWith_28 ?_
    refine lv_aload_n hx hb dX11_farWith_31 rfl (lv_at hl 0 rfl) ?_
    refine ig_ (index := 45) X I (fun _ q => List.mem_cons_of_mem _ (List.mem_append_left _ (List.mem_append_left _ (List.mem_append_right _ q)))) 0 (by decide) shC_0 rfl 3 (by decide) (by decide +kernel) rfl (v := .ref (a (34 + 24))) rfl dX11_farWith_32 ?_
    refine lv_aload_n hx hb dX11_farWith_35 rfl (lv_at hl 0 rfl) ?_
    refine ig_ (index := 30) X I (fun _ q => List.mem_cons_of_mem _ (List.mem_append_left _ (List.mem_append_left _ (List.mem_append_right _ q)))) 0 (by decide) shC_0 rfl 0 (by decide) (by decide +kernel) rfl (v := .ref (a 1)) rfl dX11_farWith_36 ?_
    refine ig_ (index := 188) X I (fun _ q => List.mem_cons_of_mem _ (List.mem_append_left _ (List.mem_append_right _ q))) 1 (by decide) shC_1 rfl 4 (by decide) (by decide +kernel) rfl (v := .int (rd_ σ 1 4)) rfl dX11_farWith_39 ?_
    refine lv_iload hx hb dX11_farWith_42 (lv_at hl 2 rfl) ?_
    refine lv_iadd hx hb dX11_farWith_44 ?_
    obtain ⟨_, σ_6, hc_5, h⟩ := bi_of h
    refine cv_ (rV_ (nn := 2) (As := [.ref (a (34 + 24)), .int ((rd_ σ 1 4) + x5)]) (rest := []) X xkC I (c_C1_passYearOf hc_5 H.size) gX11_farWith_X1_passYearOf rfl ⟨rfl, rfl⟩ (by decide +kernel) ⟨Nat.le_of_ble_eq_true rfl, Nat.le_of_ble_eq_true rfl⟩ (by decide) shC_1 rfl rfl hl.1 rfl (Nat.le_of_ble_eq_true rfl) dX11_farWith_45) I (fun H locs I => ?_)
    obtain ⟨y_7, e_8⟩ : ∃ q : Int32, q = x5 + (1 : Int32) := ⟨_, rfl⟩
    have h := lt_at h e_8
    refine lv_iinc (v := y_7) (lv' := [(5, .int y_7), (0, .ref (a 0)), (4, .int x4)]) hx hb dX11_farWith_48 hl (k := 2) rfl (by rw [e_8]; rfl) (by decide) rfl (fun ls hl => ?_)
    refine lv_goto (tgt := 20) hx hb dX11_farWith_51 (by decide) ?_
    exact hk20 σ_6 x4 y_7 H locs ls h I (lv_sub hl [1, 2, 0] rfl)
set_option maxRecDepth 100000 in
theorem kC_farWith_20L {p : Program} {l : Launch} {e : Env} {s : State} {m : MethodId} {args : Array Value} {below : List Frame} {meth : Method} {c : Code} {D : va_G} {cy : Nat → ClassId} {a gs : Nat → Nat} (X : cx_ cX11_farWith RX11 wsX11_farWith 6 (some .int) 59 a D cy (xfC gs) p s m args meth c)  {r0 : Int32} {σ' : Sg}  : ∀ (n : Nat), ∀ (σ : Sg) (x4 : Int32) (x5 : Int32) (H : Heap) (locs : List Loc) (ls : Array Slot), lp_ (C_farWith_20) (fun _ _ _ => none) n σ x4 x5 = some (r0, σ') → iv_ 59 a D (shC cy a σ) s H locs → lv_has ls 6 [(0, .ref (a 0)), (4, .int x4), (5, .int x5)] → W p l e ({ frames := 4, cells := 0, slots := 0, locals := 92 }) s m args below meth c H locs 0 0 (MQ below (qg_ 59 a D (shC cy a σ') (some (.int r0)) s.heap.size) args s 0 0 (fr_ 59 a s.heap.size)) (F0 m 20 ls []) := by
  intro n
  induction n with
  | zero =>
    intro _ _ _ _ _ _ h
    exact absurd h (fun q => by cases (show (none : Option _) = some _ from q))
  | succ n ih => exact kC_farWith_20 X ih

def C_farWith_0  (σ : Sg) (x1 : Nat) (x2 : Int32) (x3 : Int32) (x4 : Int32) : Option (Int32 × Sg) :=
  bi_ (C6_become_0 σ 24 x1) fun _ σ_2 =>
  bi_ (C6_remark_0 σ_2 24 x2 x3) fun _ σ_4 =>
  lp_ C_farWith_20 (fun _ _ _ => none) FU σ_4 x4 (0 : Int32)
set_option maxRecDepth 100000 in
theorem kC_farWith_0 {p : Program} {l : Launch} {e : Env} {s : State} {m : MethodId} {args : Array Value} {below : List Frame} {meth : Method} {c : Code} {D : va_G} {cy : Nat → ClassId} {a gs : Nat → Nat} (X : cx_ cX11_farWith RX11 wsX11_farWith 6 (some .int) 59 a D cy (xfC gs) p s m args meth c)  {r0 : Int32} {σ' : Sg}  : ∀ (σ : Sg) (x1 : Nat) (x2 : Int32) (x3 : Int32) (x4 : Int32) (H : Heap) (locs : List Loc) (ls : Array Slot), C_farWith_0 σ x1 x2 x3 x4 = some (r0, σ') → iv_ 59 a D (shC cy a σ) s H locs → lv_has ls 6 [(0, .ref (a 0)), (1, .ref (a (34 + x1))), (2, .int x2), (3, .int x3), (4, .int x4)] → W p l e ({ frames := 4, cells := 0, slots := 0, locals := 92 }) s m args below meth c H locs 0 0 (MQ below (qg_ 59 a D (shC cy a σ') (some (.int r0)) s.heap.size) args s 0 0 (fr_ 59 a s.heap.size)) (F0 m 0 ls []) := by
  obtain ⟨hx, hb, hr, hml, hown, hts, hlk, hK, hA, hXf⟩ := id X
  intro σ x1 x2 x3 x4 H locs ls h I hl
  unfold C_farWith_0 at h
  refine lv_aload_n hx hb dX11_farWith_0 rfl (lv_at hl 0 rfl) ?_
  refine ig_ (index := 45) X I (fun _ q => List.mem_cons_of_mem _ (List.mem_append_left _ (List.mem_append_left _ (List.mem_append_right _ q)))) 0 (by decide) shC_0 rfl 3 (by decide) (by decide +kernel) rfl (v := .ref (a (34 + 24))) rfl dX11_farWith_1 ?_
  refine lv_aload_n hx hb dX11_farWith_4 rfl (lv_at hl 1 rfl) ?_
  obtain ⟨_, σ_2, hc_1, h⟩ := bi_of h
  refine cv_ (rV_ (nn := 1) (As := [.ref (a (34 + x1))]) (rest := []) X xkC I (c_C6_become hc_1 H.size) gX11_farWith_X6_become rfl ⟨rfl, rfl⟩ (by decide +kernel) ⟨Nat.le_of_ble_eq_true rfl, Nat.le_of_ble_eq_true rfl⟩ (by decide) shC_L rfl rfl hl.1 rfl (Nat.le_of_ble_eq_true rfl) dX11_farWith_5) I (fun H locs I => ?_)
  refine lv_aload_n hx hb dX11_farWith_8 rfl (lv_at hl 0 rfl) ?_
  refine ig_ (index := 45) X I (fun _ q => List.mem_cons_of_mem _ (List.mem_append_left _ (List.mem_append_left _ (List.mem_append_right _ q)))) 0 (by decide) shC_0 rfl 3 (by decide) (by decide +kernel) rfl (v := .ref (a (34 + 24))) rfl dX11_farWith_9 ?_
  refine lv_iload_n hx hb dX11_farWith_12 rfl (lv_at hl 2 rfl) ?_
  refine lv_iload_n hx hb dX11_farWith_13 rfl (lv_at hl 3 rfl) ?_
  obtain ⟨_, σ_4, hc_3, h⟩ := bi_of h
  refine cv_ (rV_ (nn := 2) (As := [.int x2, .int x3]) (rest := []) X xkC I (c_C6_remark hc_3 H.size) gX11_farWith_X6_remark rfl ⟨rfl, rfl⟩ (by decide +kernel) ⟨Nat.le_of_ble_eq_true rfl, Nat.le_of_ble_eq_true rfl⟩ (by decide) shC_L rfl rfl hl.1 rfl (Nat.le_of_ble_eq_true rfl) dX11_farWith_14) I (fun H locs I => ?_)
  refine lv_iconst (v := 0) hx hb dX11_farWith_17 (by decide) ?_
  refine lv_istore (lv' := [(5, .int (0 : Int32)), (0, .ref (a 0)), (1, .ref (a (34 + x1))), (2, .int x2), (3, .int x3), (4, .int x4)]) hx hb dX11_farWith_18 hl (by decide) rfl (fun ls hl => ?_)
  exact kC_farWith_20L X  FU σ_4 x4 (0 : Int32) H locs ls h I (lv_sub hl [1, 5, 0] rfl)
theorem c_C_farWith {l : Launch} {D : va_G} {cy : Nat → ClassId} {a gs : Nat → Nat} {σ : Sg} {x1 : Nat} {x2 : Int32} {x3 : Int32} {x4 : Int32} {r0 : Int32} {σ' : Sg} (h : C_farWith_0 σ x1 x2 x3 x4 = some (r0, σ')) (sz : Nat) : Met l yX11_farWith wsX11_farWith ({ frames := 4, cells := 0, slots := 0, locals := 92 }) (va_Pc [.ref (a 0), .ref (a (34 + x1)), .int x2, .int x3, .int x4] (pr_ 59 a D cy (shC cy a σ) (xfC gs) sz)) (qg_ 59 a D (shC cy a σ') (some (.int r0)) sz) 0 0 (fr_ 59 a sz) := by
  refine ent_ (by decide) rfl (Nat.le_of_ble_eq_true rfl) ?_
  intro p e s m below meth c ls hsz X I hl
  subst hsz
  exact kC_farWith_0 X σ x1 x2 x3 x4 s.heap [] ls h I hl

def C_farSworn_0  (σ : Sg) (x1 : Nat) (x2 : Int32) (x3 : Int32) : Option (Int32 × Sg) :=
  bi_ (C_farWith_0 σ x1 (5 : Int32) x2 x3) fun r_3 σ_2 =>
  some (r_3, σ_2)
set_option maxRecDepth 100000 in
theorem kC_farSworn_0 {p : Program} {l : Launch} {e : Env} {s : State} {m : MethodId} {args : Array Value} {below : List Frame} {meth : Method} {c : Code} {D : va_G} {cy : Nat → ClassId} {a gs : Nat → Nat} (X : cx_ cX11_farSworn RX11 wsX11_farSworn 4 (some .int) 59 a D cy (xfC gs) p s m args meth c)  {r0 : Int32} {σ' : Sg}  : ∀ (σ : Sg) (x1 : Nat) (x2 : Int32) (x3 : Int32) (H : Heap) (locs : List Loc) (ls : Array Slot), C_farSworn_0 σ x1 x2 x3 = some (r0, σ') → iv_ 59 a D (shC cy a σ) s H locs → lv_has ls 4 [(0, .ref (a 0)), (1, .ref (a (34 + x1))), (2, .int x2), (3, .int x3)] → W p l e ({ frames := 5, cells := 0, slots := 0, locals := 117 }) s m args below meth c H locs 0 0 (MQ below (qg_ 59 a D (shC cy a σ') (some (.int r0)) s.heap.size) args s 0 0 (fr_ 59 a s.heap.size)) (F0 m 0 ls []) := by
  obtain ⟨hx, hb, hr, hml, hown, hts, hlk, hK, hA, hXf⟩ := id X
  intro σ x1 x2 x3 H locs ls h I hl
  unfold C_farSworn_0 at h
  refine lv_aload_n hx hb dX11_farSworn_0 rfl (lv_at hl 0 rfl) ?_
  refine lv_aload_n hx hb dX11_farSworn_1 rfl (lv_at hl 1 rfl) ?_
  refine lv_iconst (v := 5) hx hb dX11_farSworn_2 (by decide) ?_
  refine lv_iload_n hx hb dX11_farSworn_3 rfl (lv_at hl 2 rfl) ?_
  refine lv_iload_n hx hb dX11_farSworn_4 rfl (lv_at hl 3 rfl) ?_
  obtain ⟨r_3, σ_2, hc_1, h⟩ := bi_of h
  refine cg_ (v := .int r_3) (rV_ (nn := 4) (As := [.ref (a (34 + x1)), .int (5 : Int32), .int x2, .int x3]) (rest := []) X xkC I (c_C_farWith hc_1 H.size) gX11_farSworn_X11_farWith rfl ⟨rfl, rfl⟩ (by decide +kernel) ⟨Nat.le_of_ble_eq_true rfl, Nat.le_of_ble_eq_true rfl⟩ (by decide) shC_0 rfl rfl hl.1 rfl (Nat.le_of_ble_eq_true rfl) dX11_farSworn_5) I (fun H locs I => ?_)
  obtain ⟨rfl, rfl⟩ := re_s h
  exact rti_ X I dX11_farSworn_8
theorem c_C_farSworn {l : Launch} {D : va_G} {cy : Nat → ClassId} {a gs : Nat → Nat} {σ : Sg} {x1 : Nat} {x2 : Int32} {x3 : Int32} {r0 : Int32} {σ' : Sg} (h : C_farSworn_0 σ x1 x2 x3 = some (r0, σ')) (sz : Nat) : Met l yX11_farSworn wsX11_farSworn ({ frames := 5, cells := 0, slots := 0, locals := 117 }) (va_Pc [.ref (a 0), .ref (a (34 + x1)), .int x2, .int x3] (pr_ 59 a D cy (shC cy a σ) (xfC gs) sz)) (qg_ 59 a D (shC cy a σ') (some (.int r0)) sz) 0 0 (fr_ 59 a sz) := by
  refine ent_ (by decide) rfl (Nat.le_of_ble_eq_true rfl) ?_
  intro p e s m below meth c ls hsz X I hl
  subst hsz
  exact kC_farSworn_0 X σ x1 x2 x3 s.heap [] ls h I hl

def C_isLucky_0  (σ : Sg) (x1 : Int32) : Option (Int32 × Sg) :=
  if 0 ≤ x1 then (bi_ (C1_life_0 σ (x1 / (8 : Int32))) fun r_4 σ_3 =>
  on_ r_4 (some ((0 : Int32), σ_3)) fun j_5 =>
  bi_ (C_farSworn_0 σ_3 j_5 (x1 - x1 / (8 : Int32) * (8 : Int32)) (1 : Int32)) fun r_8 σ_7 =>
  gd_ (lf_ j_5 25) (
  bi_ (C_farSworn_0 σ_7 j_5 (rd_ σ_7 (34 + j_5) 5) (1 : Int32)) fun r_12 σ_11 =>
  if r_12 ≤ r_8 then (some ((0 : Int32), σ_11))
  else (some ((1 : Int32), σ_11))))
  else (some ((0 : Int32), σ))
set_option maxRecDepth 100000 in
theorem kC_isLucky_0 {p : Program} {l : Launch} {e : Env} {s : State} {m : MethodId} {args : Array Value} {below : List Frame} {meth : Method} {c : Code} {D : va_G} {cy : Nat → ClassId} {a gs : Nat → Nat} (X : cx_ cX11_isLucky RX11 wsX11_isLucky 3 (some .boolean) 59 a D cy (xfC gs) p s m args meth c)  {r0 : Int32} {σ' : Sg}  : ∀ (σ : Sg) (x1 : Int32) (H : Heap) (locs : List Loc) (ls : Array Slot), C_isLucky_0 σ x1 = some (r0, σ') → iv_ 59 a D (shC cy a σ) s H locs → lv_has ls 3 [(0, .ref (a 0)), (1, .int x1)] → W p l e ({ frames := 6, cells := 0, slots := 0, locals := 140 }) s m args below meth c H locs 0 0 (MQ below (qg_ 59 a D (shC cy a σ') (some (.int r0)) s.heap.size) args s 0 0 (fr_ 59 a s.heap.size)) (F0 m 0 ls []) := by
  obtain ⟨hx, hb, hr, hml, hown, hts, hlk, hK, hA, hXf⟩ := id X
  intro σ x1 H locs ls h I hl
  unfold C_isLucky_0 at h
  refine lv_iload_n hx hb dX11_isLucky_0 rfl (lv_at hl 1 rfl) ?_
  refine lv_if_ge (tgt := 6) hx hb dX11_isLucky_1 (by decide) (fun c_1 => ?_) (fun c_1 => ?_)
  · have h := if_t h c_1
    refine lv_aload_n hx hb dX11_isLucky_6 rfl (lv_at hl 0 rfl) ?_
    refine ig_ (index := 30) X I (fun _ q => List.mem_cons_of_mem _ (List.mem_append_left _ (List.mem_append_left _ (List.mem_append_right _ q)))) 0 (by decide) shC_0 rfl 0 (by decide) (by decide +kernel) rfl (v := .ref (a 1)) rfl dX11_isLucky_7 ?_
    refine lv_iload_n hx hb dX11_isLucky_10 rfl (lv_at hl 1 rfl) ?_
    refine lv_bipush (v := 8) hx hb dX11_isLucky_11 (by decide) ?_
    refine lv_idiv hx hb dX11_isLucky_13 (by decide) ?_
    obtain ⟨r_4, σ_3, hc_2, h⟩ := bi_of h
    refine cg_ (v := va_re (fun j => a (34 + j)) r_4) (rV_ (nn := 1) (As := [.int (x1 / (8 : Int32))]) (rest := []) X xkC I (c_C1_life hc_2 H.size) gX11_isLucky_X1_life rfl ⟨rfl, rfl⟩ (by decide +kernel) ⟨Nat.le_of_ble_eq_true rfl, Nat.le_of_ble_eq_true rfl⟩ (by decide) shC_1 rfl rfl hl.1 rfl (Nat.le_of_ble_eq_true rfl) dX11_isLucky_14) I (fun H locs I => ?_)
    rcases r_4 with _ | j_5
    · have h := on_n h
      refine W.eq (g2 := F0 m 17 ls [.null]) rfl ?_
      refine lv_astore_nN (lv' := [(2, .null), (0, .ref (a 0)), (1, .int x1)]) hx hb dX11_isLucky_17 rfl hl (by decide) rfl (fun ls hl => ?_)
      refine lv_aload_nN hx hb dX11_isLucky_18 rfl (lv_at hl 0 rfl) ?_
      refine lv_ifnullN (tgt := 49) hx hb dX11_isLucky_19 (by decide) ?_
      refine lv_iconst (v := 0) hx hb dX11_isLucky_49 (by decide) ?_
      obtain ⟨rfl, rfl⟩ := re_s h
      exact rtz_ X I (by decide) dX11_isLucky_50
    · have h := on_s h
      refine W.eq (g2 := F0 m 17 ls [.ref (a (34 + j_5))]) rfl ?_
      refine lv_astore_n (lv' := [(2, .ref (a (34 + j_5))), (0, .ref (a 0)), (1, .int x1)]) hx hb dX11_isLucky_17 rfl hl (by decide) rfl (fun ls hl => ?_)
      refine lv_aload_n hx hb dX11_isLucky_18 rfl (lv_at hl 0 rfl) ?_
      refine lv_ifnull hx hb dX11_isLucky_19 ?_
      refine lv_aload_n hx hb dX11_isLucky_22 rfl (lv_at hl 1 rfl) ?_
      refine lv_aload_n hx hb dX11_isLucky_23 rfl (lv_at hl 0 rfl) ?_
      refine lv_iload_n hx hb dX11_isLucky_24 rfl (lv_at hl 2 rfl) ?_
      refine lv_bipush (v := 8) hx hb dX11_isLucky_25 (by decide) ?_
      refine lv_irem hx hb dX11_isLucky_27 (by decide) ?_
      refine lv_iconst (v := 1) hx hb dX11_isLucky_28 (by decide) ?_
      obtain ⟨r_8, σ_7, hc_6, h⟩ := bi_of h
      refine cg_ (v := .int r_8) (rV_ (nn := 3) (As := [.ref (a (34 + j_5)), .int (x1 - x1 / (8 : Int32) * (8 : Int32)), .int (1 : Int32)]) (rest := []) X xkC I (c_C_farSworn hc_6 H.size) gX11_isLucky_X11_farSworn rfl ⟨rfl, rfl⟩ (by decide +kernel) ⟨Nat.le_of_ble_eq_true rfl, Nat.le_of_ble_eq_true rfl⟩ (by decide) shC_0 rfl rfl hl.1 rfl (Nat.le_of_ble_eq_true rfl) dX11_isLucky_29) I (fun H locs I => ?_)
      refine lv_aload_n hx hb dX11_isLucky_32 rfl (lv_at hl 1 rfl) ?_
      refine lv_aload_n hx hb dX11_isLucky_33 rfl (lv_at hl 0 rfl) ?_
      refine lv_aload_n hx hb dX11_isLucky_34 rfl (lv_at hl 0 rfl) ?_
      obtain ⟨g_9, h⟩ := gd_of h
      refine ig_ (index := 156) X I (fun _ q => List.mem_cons_of_mem _ (List.mem_append_left _ (List.mem_append_right _ q))) (34 + j_5) (lf59 g_9) shC_L rfl 5 (by decide) (by decide +kernel) rfl (v := .int (rd_ σ_7 (34 + j_5) 5)) rfl dX11_isLucky_35 ?_
      refine lv_iconst (v := 1) hx hb dX11_isLucky_38 (by decide) ?_
      obtain ⟨r_12, σ_11, hc_10, h⟩ := bi_of h
      refine cg_ (v := .int r_12) (rV_ (nn := 3) (As := [.ref (a (34 + j_5)), .int (rd_ σ_7 (34 + j_5) 5), .int (1 : Int32)]) (rest := [.int r_8]) X xkC I (c_C_farSworn hc_10 H.size) gX11_isLucky_X11_farSworn rfl ⟨rfl, rfl⟩ (by decide +kernel) ⟨Nat.le_of_ble_eq_true rfl, Nat.le_of_ble_eq_true rfl⟩ (by decide) shC_0 rfl rfl hl.1 rfl (Nat.le_of_ble_eq_true rfl) dX11_isLucky_39) I (fun H locs I => ?_)
      refine lv_icmp_ge (tgt := 49) hx hb dX11_isLucky_42 (by decide) (fun c_13 => ?_) (fun c_13 => ?_)
      · have h := if_t h c_13
        refine lv_iconst (v := 0) hx hb dX11_isLucky_49 (by decide) ?_
        obtain ⟨rfl, rfl⟩ := re_s h
        exact rtz_ X I (by decide) dX11_isLucky_50
      · have h := if_f h c_13
        refine lv_iconst (v := 1) hx hb dX11_isLucky_45 (by decide) ?_
        refine lv_goto (tgt := 50) hx hb dX11_isLucky_46 (by decide) ?_
        obtain ⟨rfl, rfl⟩ := re_s h
        exact rtz_ X I (by decide) dX11_isLucky_50
  · have h := if_f h c_1
    refine lv_iconst (v := 0) hx hb dX11_isLucky_4 (by decide) ?_
    obtain ⟨rfl, rfl⟩ := re_s h
    exact rtz_ X I (by decide) dX11_isLucky_5
theorem c_C_isLucky {l : Launch} {D : va_G} {cy : Nat → ClassId} {a gs : Nat → Nat} {σ : Sg} {x1 : Int32} {r0 : Int32} {σ' : Sg} (h : C_isLucky_0 σ x1 = some (r0, σ')) (sz : Nat) : Met l yX11_isLucky wsX11_isLucky ({ frames := 6, cells := 0, slots := 0, locals := 140 }) (va_Pc [.ref (a 0), .int x1] (pr_ 59 a D cy (shC cy a σ) (xfC gs) sz)) (qg_ 59 a D (shC cy a σ') (some (.int r0)) sz) 0 0 (fr_ 59 a sz) := by
  refine ent_ (by decide) rfl (Nat.le_of_ble_eq_true rfl) ?_
  intro p e s m below meth c ls hsz X I hl
  subst hsz
  exact kC_isLucky_0 X σ x1 s.heap [] ls h I hl

def C_luck_49 (k26 : Sg → Int32 → Int32 → Int32 → Int32 → Option (Int32 × Sg)) (σ : Sg) (x1 : Int32) (x2 : Int32) (x3 : Int32) (x4 : Int32) : Option (Int32 × Sg) :=
  lt_ (x4 + (1 : Int32)) fun y_1 =>
  k26 σ x1 x2 x3 y_1
set_option maxRecDepth 100000 in
theorem kC_luck_49 {p : Program} {l : Launch} {e : Env} {s : State} {m : MethodId} {args : Array Value} {below : List Frame} {meth : Method} {c : Code} {D : va_G} {cy : Nat → ClassId} {a gs : Nat → Nat} (X : cx_ cX11_luck RX11 wsX11_luck 5 (some .int) 59 a D cy (xfC gs) p s m args meth c) {k26 : Sg → Int32 → Int32 → Int32 → Int32 → Option (Int32 × Sg)} {r0 : Int32} {σ' : Sg} (hk26 : ∀ (σ : Sg) (x1 : Int32) (x2 : Int32) (x3 : Int32) (x4 : Int32) (H : Heap) (locs : List Loc) (ls : Array Slot), k26 σ x1 x2 x3 x4 = some (r0, σ') → iv_ 59 a D (shC cy a σ) s H locs → lv_has ls 5 [(0, .ref (a 0)), (1, .int x1), (2, .int x2), (3, .int x3), (4, .int x4)] → W p l e ({ frames := 7, cells := 0, slots := 0, locals := 162 }) s m args below meth c H locs 0 0 (MQ below (qg_ 59 a D (shC cy a σ') (some (.int r0)) s.heap.size) args s 0 0 (fr_ 59 a s.heap.size)) (F0 m 26 ls [])) : ∀ (σ : Sg) (x1 : Int32) (x2 : Int32) (x3 : Int32) (x4 : Int32) (H : Heap) (locs : List Loc) (ls : Array Slot), C_luck_49 k26 σ x1 x2 x3 x4 = some (r0, σ') → iv_ 59 a D (shC cy a σ) s H locs → lv_has ls 5 [(0, .ref (a 0)), (1, .int x1), (2, .int x2), (3, .int x3), (4, .int x4)] → W p l e ({ frames := 7, cells := 0, slots := 0, locals := 162 }) s m args below meth c H locs 0 0 (MQ below (qg_ 59 a D (shC cy a σ') (some (.int r0)) s.heap.size) args s 0 0 (fr_ 59 a s.heap.size)) (F0 m 49 ls []) := by
  obtain ⟨hx, hb, hr, hml, hown, hts, hlk, hK, hA, hXf⟩ := id X
  intro σ x1 x2 x3 x4 H locs ls h I hl
  unfold C_luck_49 at h
  obtain ⟨y_1, e_2⟩ : ∃ q : Int32, q = x4 + (1 : Int32) := ⟨_, rfl⟩
  have h := lt_at h e_2
  refine lv_iinc (v := y_1) (lv' := [(4, .int y_1), (0, .ref (a 0)), (1, .int x1), (2, .int x2), (3, .int x3)]) hx hb dX11_luck_49 hl (k := 4) rfl (by rw [e_2]; rfl) (by decide) rfl (fun ls hl => ?_)
  refine lv_goto (tgt := 26) hx hb dX11_luck_52 (by decide) ?_
  exact hk26 σ x1 x2 x3 y_1 H locs ls h I (lv_sub hl [1, 2, 3, 4, 0] rfl)
def C_luck_26 (k26 : Sg → Int32 → Int32 → Int32 → Int32 → Option (Int32 × Sg)) (σ : Sg) (x1 : Int32) (x2 : Int32) (x3 : Int32) (x4 : Int32) : Option (Int32 × Sg) :=
  if x1 ≤ x4 then (lt_ (wr_ σ 1 5 x2) fun σ_2 =>
  some (x3, σ_2))
  else (bi_ (C1_drawSlip_0 σ) fun r_6 σ_5 =>
  bi_ (C_isLucky_0 σ_5 r_6) fun r_9 σ_8 =>
  if r_9 = 0 then (C_luck_49 k26 σ_8 x1 x2 x3 x4)
  else (lt_ (x3 + (1 : Int32)) fun y_11 =>
  C_luck_49 k26 σ_8 x1 x2 y_11 x4))
set_option maxRecDepth 100000 in
theorem kC_luck_26 {p : Program} {l : Launch} {e : Env} {s : State} {m : MethodId} {args : Array Value} {below : List Frame} {meth : Method} {c : Code} {D : va_G} {cy : Nat → ClassId} {a gs : Nat → Nat} (X : cx_ cX11_luck RX11 wsX11_luck 5 (some .int) 59 a D cy (xfC gs) p s m args meth c) {k26 : Sg → Int32 → Int32 → Int32 → Int32 → Option (Int32 × Sg)} {r0 : Int32} {σ' : Sg} (hk26 : ∀ (σ : Sg) (x1 : Int32) (x2 : Int32) (x3 : Int32) (x4 : Int32) (H : Heap) (locs : List Loc) (ls : Array Slot), k26 σ x1 x2 x3 x4 = some (r0, σ') → iv_ 59 a D (shC cy a σ) s H locs → lv_has ls 5 [(0, .ref (a 0)), (1, .int x1), (2, .int x2), (3, .int x3), (4, .int x4)] → W p l e ({ frames := 7, cells := 0, slots := 0, locals := 162 }) s m args below meth c H locs 0 0 (MQ below (qg_ 59 a D (shC cy a σ') (some (.int r0)) s.heap.size) args s 0 0 (fr_ 59 a s.heap.size)) (F0 m 26 ls [])) : ∀ (σ : Sg) (x1 : Int32) (x2 : Int32) (x3 : Int32) (x4 : Int32) (H : Heap) (locs : List Loc) (ls : Array Slot), C_luck_26 k26 σ x1 x2 x3 x4 = some (r0, σ') → iv_ 59 a D (shC cy a σ) s H locs → lv_has ls 5 [(0, .ref (a 0)), (1, .int x1), (2, .int x2), (3, .int x3), (4, .int x4)] → W p l e ({ frames := 7, cells := 0, slots := 0, locals := 162 }) s m args below meth c H locs 0 0 (MQ below (qg_ 59 a D (shC cy a σ') (some (.int r0)) s.heap.size) args s 0 0 (fr_ 59 a s.heap.size)) (F0 m 26 ls []) := by
  obtain ⟨hx, hb, hr, hml, hown, hts, hlk, hK, hA, hXf⟩ := id X
  intro σ x1 x2 x3 x4 H locs ls h I hl
  unfold C_luck_26 at h
  refine lv_iload hx hb dX11_luck_26 (lv_at hl 4 rfl) ?_
  refine lv_iload_n hx hb dX11_luck_28 rfl (lv_at hl 1 rfl) ?_
  refine lv_icmp_ge (tgt := 55) hx hb dX11_luck_29 (by decide) (fun c_1 => ?_) (fun c_1 => ?_)
  · have h := if_t h c_1
    refine lv_aload_n hx hb dX11_luck_55 rfl (lv_at hl 0 rfl) ?_
    refine ig_ (index := 30) X I (fun _ q => List.mem_cons_of_mem _ (List.mem_append_left _ (List.mem_append_left _ (List.mem_append_right _ q)))) 0 (by decide) shC_0 rfl 0 (by decide) (by decide +kernel) rfl (v := .ref (a 1)) rfl dX11_luck_56 ?_
    refine lv_iload_n hx hb dX11_luck_59 rfl (lv_at hl 2 rfl) ?_
    refine ip_ (index := 91) (ty := .int) X I (fun _ q => List.mem_cons_of_mem _ (List.mem_append_left _ (List.mem_append_right _ q))) tyX1 tyX1_ok nmX1 1 (by decide) shC_1 rfl 5 (by decide) (by decide +kernel) rfl rfl (by decide +kernel) rfl rfl (Nat.le_of_ble_eq_true rfl) shC_pt_1_5 dX11_luck_60 (fun σ_2 H locs e_3 I => ?_)
    have h := lt_at h e_3
    refine lv_iload_n hx hb dX11_luck_63 rfl (lv_at hl 3 rfl) ?_
    obtain ⟨rfl, rfl⟩ := re_s h
    exact rti_ X I dX11_luck_64
  · have h := if_f h c_1
    refine lv_aload_n hx hb dX11_luck_32 rfl (lv_at hl 0 rfl) ?_
    refine lv_aload_n hx hb dX11_luck_33 rfl (lv_at hl 0 rfl) ?_
    refine ig_ (index := 30) X I (fun _ q => List.mem_cons_of_mem _ (List.mem_append_left _ (List.mem_append_left _ (List.mem_append_right _ q)))) 0 (by decide) shC_0 rfl 0 (by decide) (by decide +kernel) rfl (v := .ref (a 1)) rfl dX11_luck_34 ?_
    obtain ⟨r_6, σ_5, hc_4, h⟩ := bi_of h
    refine cg_ (v := .int r_6) (rV_ (nn := 0) (As := []) (rest := [.ref (a 0)]) X xkC I (c_C1_drawSlip hc_4 H.size) gX11_luck_X1_drawSlip rfl ⟨rfl, rfl⟩ (by decide +kernel) ⟨Nat.le_of_ble_eq_true rfl, Nat.le_of_ble_eq_true rfl⟩ (by decide) shC_1 rfl rfl hl.1 rfl (Nat.le_of_ble_eq_true rfl) dX11_luck_37) I (fun H locs I => ?_)
    obtain ⟨r_9, σ_8, hc_7, h⟩ := bi_of h
    refine cg_ (v := .int r_9) (rV_ (nn := 1) (As := [.int r_6]) (rest := []) X xkC I (c_C_isLucky hc_7 H.size) gX11_luck_X11_isLucky rfl ⟨rfl, rfl⟩ (by decide +kernel) ⟨Nat.le_of_ble_eq_true rfl, Nat.le_of_ble_eq_true rfl⟩ (by decide) shC_0 rfl rfl hl.1 rfl (Nat.le_of_ble_eq_true rfl) dX11_luck_40) I (fun H locs I => ?_)
    refine lv_if_eq (tgt := 49) hx hb dX11_luck_43 (by decide) (fun c_10 => ?_) (fun c_10 => ?_)
    · have h := if_t h c_10
      exact kC_luck_49 X hk26 σ_8 x1 x2 x3 x4 H locs ls h I (lv_sub hl [0, 1, 2, 3, 4] rfl)
    · have h := if_f h c_10
      obtain ⟨y_11, e_12⟩ : ∃ q : Int32, q = x3 + (1 : Int32) := ⟨_, rfl⟩
      have h := lt_at h e_12
      refine lv_iinc (v := y_11) (lv' := [(3, .int y_11), (0, .ref (a 0)), (1, .int x1), (2, .int x2), (4, .int x4)]) hx hb dX11_luck_46 hl (k := 3) rfl (by rw [e_12]; rfl) (by decide) rfl (fun ls hl => ?_)
      exact kC_luck_49 X hk26 σ_8 x1 x2 y_11 x4 H locs ls h I (lv_sub hl [1, 2, 3, 0, 4] rfl)
set_option maxRecDepth 100000 in
theorem kC_luck_26L {p : Program} {l : Launch} {e : Env} {s : State} {m : MethodId} {args : Array Value} {below : List Frame} {meth : Method} {c : Code} {D : va_G} {cy : Nat → ClassId} {a gs : Nat → Nat} (X : cx_ cX11_luck RX11 wsX11_luck 5 (some .int) 59 a D cy (xfC gs) p s m args meth c)  {r0 : Int32} {σ' : Sg}  : ∀ (n : Nat), ∀ (σ : Sg) (x1 : Int32) (x2 : Int32) (x3 : Int32) (x4 : Int32) (H : Heap) (locs : List Loc) (ls : Array Slot), lp_ (C_luck_26) (fun _ _ _ _ _ => none) n σ x1 x2 x3 x4 = some (r0, σ') → iv_ 59 a D (shC cy a σ) s H locs → lv_has ls 5 [(0, .ref (a 0)), (1, .int x1), (2, .int x2), (3, .int x3), (4, .int x4)] → W p l e ({ frames := 7, cells := 0, slots := 0, locals := 162 }) s m args below meth c H locs 0 0 (MQ below (qg_ 59 a D (shC cy a σ') (some (.int r0)) s.heap.size) args s 0 0 (fr_ 59 a s.heap.size)) (F0 m 26 ls []) := by
  intro n
  induction n with
  | zero =>
    intro _ _ _ _ _ _ _ _ h
    exact absurd h (fun q => by cases (show (none : Option _) = some _ from q))
  | succ n ih => exact kC_luck_26 X ih

def C_luck_0  (σ : Sg) (x1 : Int32) : Option (Int32 × Sg) :=
  if x1 < (1 : Int32) then (some ((-1 : Int32), σ))
  else (if x1 ≤ (30 : Int32) then (lt_ ((rd_ σ 1 5)) fun y_3 =>
  lp_ C_luck_26 (fun _ _ _ _ _ => none) FU σ x1 y_3 (0 : Int32) (0 : Int32))
  else (some ((-1 : Int32), σ)))
set_option maxRecDepth 100000 in
theorem kC_luck_0 {p : Program} {l : Launch} {e : Env} {s : State} {m : MethodId} {args : Array Value} {below : List Frame} {meth : Method} {c : Code} {D : va_G} {cy : Nat → ClassId} {a gs : Nat → Nat} (X : cx_ cX11_luck RX11 wsX11_luck 5 (some .int) 59 a D cy (xfC gs) p s m args meth c)  {r0 : Int32} {σ' : Sg}  : ∀ (σ : Sg) (x1 : Int32) (H : Heap) (locs : List Loc) (ls : Array Slot), C_luck_0 σ x1 = some (r0, σ') → iv_ 59 a D (shC cy a σ) s H locs → lv_has ls 5 [(0, .ref (a 0)), (1, .int x1)] → W p l e ({ frames := 7, cells := 0, slots := 0, locals := 162 }) s m args below meth c H locs 0 0 (MQ below (qg_ 59 a D (shC cy a σ') (some (.int r0)) s.heap.size) args s 0 0 (fr_ 59 a s.heap.size)) (F0 m 0 ls []) := by
  obtain ⟨hx, hb, hr, hml, hown, hts, hlk, hK, hA, hXf⟩ := id X
  intro σ x1 H locs ls h I hl
  unfold C_luck_0 at h
  refine lv_iload_n hx hb dX11_luck_0 rfl (lv_at hl 1 rfl) ?_
  refine lv_iconst (v := 1) hx hb dX11_luck_1 (by decide) ?_
  refine lv_icmp_lt (tgt := 11) hx hb dX11_luck_2 (by decide) (fun c_1 => ?_) (fun c_1 => ?_)
  · have h := if_t h c_1
    refine lv_iconst (v := (-1)) hx hb dX11_luck_11 (by decide) ?_
    obtain ⟨rfl, rfl⟩ := re_s h
    exact rti_ X I dX11_luck_12
  · have h := if_f h c_1
    refine lv_iload_n hx hb dX11_luck_5 rfl (lv_at hl 1 rfl) ?_
    refine lv_bipush (v := 30) hx hb dX11_luck_6 (by decide) ?_
    refine lv_icmp_le (tgt := 13) hx hb dX11_luck_8 (by decide) (fun c_2 => ?_) (fun c_2 => ?_)
    · have h := if_t h c_2
      refine lv_aload_n hx hb dX11_luck_13 rfl (lv_at hl 0 rfl) ?_
      refine ig_ (index := 30) X I (fun _ q => List.mem_cons_of_mem _ (List.mem_append_left _ (List.mem_append_left _ (List.mem_append_right _ q)))) 0 (by decide) shC_0 rfl 0 (by decide) (by decide +kernel) rfl (v := .ref (a 1)) rfl dX11_luck_14 ?_
      refine ig_ (index := 91) X I (fun _ q => List.mem_cons_of_mem _ (List.mem_append_left _ (List.mem_append_right _ q))) 1 (by decide) shC_1 rfl 5 (by decide) (by decide +kernel) rfl (v := .int (rd_ σ 1 5)) rfl dX11_luck_17 ?_
      refine lv_topi (fun y_3 e_4 => ?_)
      have h := lt_at h e_4
      refine lv_istore_n (lv' := [(2, .int y_3), (0, .ref (a 0)), (1, .int x1)]) hx hb dX11_luck_20 rfl hl (by decide) rfl (fun ls hl => ?_)
      refine lv_iconst (v := 0) hx hb dX11_luck_21 (by decide) ?_
      refine lv_istore_n (lv' := [(3, .int (0 : Int32)), (2, .int y_3), (0, .ref (a 0)), (1, .int x1)]) hx hb dX11_luck_22 rfl hl (by decide) rfl (fun ls hl => ?_)
      refine lv_iconst (v := 0) hx hb dX11_luck_23 (by decide) ?_
      refine lv_istore (lv' := [(4, .int (0 : Int32)), (3, .int (0 : Int32)), (2, .int y_3), (0, .ref (a 0)), (1, .int x1)]) hx hb dX11_luck_24 hl (by decide) rfl (fun ls hl => ?_)
      exact kC_luck_26L X  FU σ x1 y_3 (0 : Int32) (0 : Int32) H locs ls h I (lv_sub hl [3, 4, 2, 1, 0] rfl)
    · have h := if_f h c_2
      refine lv_iconst (v := (-1)) hx hb dX11_luck_11 (by decide) ?_
      obtain ⟨rfl, rfl⟩ := re_s h
      exact rti_ X I dX11_luck_12
theorem c_C_luck {l : Launch} {D : va_G} {cy : Nat → ClassId} {a gs : Nat → Nat} {σ : Sg} {x1 : Int32} {r0 : Int32} {σ' : Sg} (h : C_luck_0 σ x1 = some (r0, σ')) (sz : Nat) : Met l yX11_luck wsX11_luck ({ frames := 7, cells := 0, slots := 0, locals := 162 }) (va_Pc [.ref (a 0), .int x1] (pr_ 59 a D cy (shC cy a σ) (xfC gs) sz)) (qg_ 59 a D (shC cy a σ') (some (.int r0)) sz) 0 0 (fr_ 59 a sz) := by
  refine ent_ (by decide) rfl (Nat.le_of_ble_eq_true rfl) ?_
  intro p e s m below meth c ls hsz X I hl
  subst hsz
  exact kC_luck_0 X σ x1 s.heap [] ls h I hl

def C1_farTogether_29 (k4 : Sg → Int32 → Int32 → Option (Int32 × Sg)) (σ : Sg) (x1 : Int32) (x2 : Int32) : Option (Int32 × Sg) :=
  lt_ (x2 + (1 : Int32)) fun y_1 =>
  k4 σ x1 y_1
set_option maxRecDepth 100000 in
theorem kC1_farTogether_29 {p : Program} {l : Launch} {e : Env} {s : State} {m : MethodId} {args : Array Value} {below : List Frame} {meth : Method} {c : Code} {D : va_G} {cy : Nat → ClassId} {a gs : Nat → Nat} (X : cx_ cX1_farTogether RX1 wsX1_farTogether 4 (some .int) 59 a D cy (xfC gs) p s m args meth c) {k4 : Sg → Int32 → Int32 → Option (Int32 × Sg)} {r0 : Int32} {σ' : Sg} (hk4 : ∀ (σ : Sg) (x1 : Int32) (x2 : Int32) (H : Heap) (locs : List Loc) (ls : Array Slot), k4 σ x1 x2 = some (r0, σ') → iv_ 59 a D (shC cy a σ) s H locs → lv_has ls 4 [(0, .ref (a 1)), (1, .int x1), (2, .int x2)] → W p l e ({ frames := 2, cells := 0, slots := 0, locals := 42 }) s m args below meth c H locs 0 0 (MQ below (qg_ 59 a D (shC cy a σ') (some (.int r0)) s.heap.size) args s 0 0 (fr_ 59 a s.heap.size)) (F0 m 4 ls [])) : ∀ (σ : Sg) (x1 : Int32) (x2 : Int32) (H : Heap) (locs : List Loc) (ls : Array Slot), C1_farTogether_29 k4 σ x1 x2 = some (r0, σ') → iv_ 59 a D (shC cy a σ) s H locs → lv_has ls 4 [(0, .ref (a 1)), (1, .int x1), (2, .int x2)] → W p l e ({ frames := 2, cells := 0, slots := 0, locals := 42 }) s m args below meth c H locs 0 0 (MQ below (qg_ 59 a D (shC cy a σ') (some (.int r0)) s.heap.size) args s 0 0 (fr_ 59 a s.heap.size)) (F0 m 29 ls []) := by
  obtain ⟨hx, hb, hr, hml, hown, hts, hlk, hK, hA, hXf⟩ := id X
  intro σ x1 x2 H locs ls h I hl
  unfold C1_farTogether_29 at h
  obtain ⟨y_1, e_2⟩ : ∃ q : Int32, q = x2 + (1 : Int32) := ⟨_, rfl⟩
  have h := lt_at h e_2
  refine lv_iinc (v := y_1) (lv' := [(2, .int y_1), (0, .ref (a 1)), (1, .int x1)]) hx hb dX1_farTogether_29 hl (k := 2) rfl (by rw [e_2]; rfl) (by decide) rfl (fun ls hl => ?_)
  refine lv_goto (tgt := 4) hx hb dX1_farTogether_32 (by decide) ?_
  exact hk4 σ x1 y_1 H locs ls h I (lv_sub hl [1, 2, 0] rfl)
def C1_farTogether_4 (k4 : Sg → Int32 → Int32 → Option (Int32 × Sg)) (σ : Sg) (x1 : Int32) (x2 : Int32) : Option (Int32 × Sg) :=
  if (rd_ σ 1 3) ≤ x2 then (some (x1, σ))
  else (bi_ (C1_life_0 σ x2) fun r_4 σ_3 =>
  on_ r_4 (C1_farTogether_29 k4 σ_3 x1 x2) fun j_5 =>
  gd_ (lf_ j_5 25) (
  bi_ (C6_distance_0 σ_3 j_5) fun r_9 σ_7 =>
  lt_ ((x1 + r_9)) fun y_10 =>
  C1_farTogether_29 k4 σ_7 y_10 x2))
set_option maxRecDepth 100000 in
theorem kC1_farTogether_4 {p : Program} {l : Launch} {e : Env} {s : State} {m : MethodId} {args : Array Value} {below : List Frame} {meth : Method} {c : Code} {D : va_G} {cy : Nat → ClassId} {a gs : Nat → Nat} (X : cx_ cX1_farTogether RX1 wsX1_farTogether 4 (some .int) 59 a D cy (xfC gs) p s m args meth c) {k4 : Sg → Int32 → Int32 → Option (Int32 × Sg)} {r0 : Int32} {σ' : Sg} (hk4 : ∀ (σ : Sg) (x1 : Int32) (x2 : Int32) (H : Heap) (locs : List Loc) (ls : Array Slot), k4 σ x1 x2 = some (r0, σ') → iv_ 59 a D (shC cy a σ) s H locs → lv_has ls 4 [(0, .ref (a 1)), (1, .int x1), (2, .int x2)] → W p l e ({ frames := 2, cells := 0, slots := 0, locals := 42 }) s m args below meth c H locs 0 0 (MQ below (qg_ 59 a D (shC cy a σ') (some (.int r0)) s.heap.size) args s 0 0 (fr_ 59 a s.heap.size)) (F0 m 4 ls [])) : ∀ (σ : Sg) (x1 : Int32) (x2 : Int32) (H : Heap) (locs : List Loc) (ls : Array Slot), C1_farTogether_4 k4 σ x1 x2 = some (r0, σ') → iv_ 59 a D (shC cy a σ) s H locs → lv_has ls 4 [(0, .ref (a 1)), (1, .int x1), (2, .int x2)] → W p l e ({ frames := 2, cells := 0, slots := 0, locals := 42 }) s m args below meth c H locs 0 0 (MQ below (qg_ 59 a D (shC cy a σ') (some (.int r0)) s.heap.size) args s 0 0 (fr_ 59 a s.heap.size)) (F0 m 4 ls []) := by
  obtain ⟨hx, hb, hr, hml, hown, hts, hlk, hK, hA, hXf⟩ := id X
  intro σ x1 x2 H locs ls h I hl
  unfold C1_farTogether_4 at h
  refine lv_iload_n hx hb dX1_farTogether_4 rfl (lv_at hl 2 rfl) ?_
  refine lv_aload_n hx hb dX1_farTogether_5 rfl (lv_at hl 0 rfl) ?_
  refine ig_ (index := 42) X I (fun _ q => List.mem_cons_of_mem _ (List.mem_append_left _ (List.mem_append_right _ q))) 1 (by decide) shC_1 rfl 3 (by decide) (by decide +kernel) rfl (v := .int (rd_ σ 1 3)) rfl dX1_farTogether_6 ?_
  refine lv_icmp_ge (tgt := 35) hx hb dX1_farTogether_9 (by decide) (fun c_1 => ?_) (fun c_1 => ?_)
  · have h := if_t h c_1
    refine lv_iload_n hx hb dX1_farTogether_35 rfl (lv_at hl 1 rfl) ?_
    obtain ⟨rfl, rfl⟩ := re_s h
    exact rti_ X I dX1_farTogether_36
  · have h := if_f h c_1
    refine lv_aload_n hx hb dX1_farTogether_12 rfl (lv_at hl 0 rfl) ?_
    refine lv_iload_n hx hb dX1_farTogether_13 rfl (lv_at hl 2 rfl) ?_
    obtain ⟨r_4, σ_3, hc_2, h⟩ := bi_of h
    refine cg_ (v := va_re (fun j => a (34 + j)) r_4) (rV_ (nn := 1) (As := [.int x2]) (rest := []) X xkC I (c_C1_life hc_2 H.size) gX1_farTogether_X1_life rfl ⟨rfl, rfl⟩ (by decide +kernel) ⟨Nat.le_of_ble_eq_true rfl, Nat.le_of_ble_eq_true rfl⟩ (by decide) shC_1 rfl rfl hl.1 rfl (Nat.le_of_ble_eq_true rfl) dX1_farTogether_14) I (fun H locs I => ?_)
    rcases r_4 with _ | j_5
    · have h := on_n h
      refine W.eq (g2 := F0 m 17 ls [.null]) rfl ?_
      refine lv_astore_nN (lv' := [(3, .null), (0, .ref (a 1)), (1, .int x1), (2, .int x2)]) hx hb dX1_farTogether_17 rfl hl (by decide) rfl (fun ls hl => ?_)
      refine lv_aload_nN hx hb dX1_farTogether_18 rfl (lv_at hl 0 rfl) ?_
      refine lv_ifnullN (tgt := 29) hx hb dX1_farTogether_19 (by decide) ?_
      exact kC1_farTogether_29 X hk4 σ_3 x1 x2 H locs ls h I (lv_sub hl [1, 2, 3] rfl)
    · have h := on_s h
      refine W.eq (g2 := F0 m 17 ls [.ref (a (34 + j_5))]) rfl ?_
      refine lv_astore_n (lv' := [(3, .ref (a (34 + j_5))), (0, .ref (a 1)), (1, .int x1), (2, .int x2)]) hx hb dX1_farTogether_17 rfl hl (by decide) rfl (fun ls hl => ?_)
      refine lv_aload_n hx hb dX1_farTogether_18 rfl (lv_at hl 0 rfl) ?_
      refine lv_ifnull hx hb dX1_farTogether_19 ?_
      refine lv_iload_n hx hb dX1_farTogether_22 rfl (lv_at hl 2 rfl) ?_
      refine lv_aload_n hx hb dX1_farTogether_23 rfl (lv_at hl 0 rfl) ?_
      obtain ⟨g_8, h⟩ := gd_of h
      obtain ⟨r_9, σ_7, hc_6, h⟩ := bi_of h
      refine cg_ (v := .int r_9) (rV_ (nn := 0) (As := []) (rest := [.int x1]) X xkC I (c_C6_distance hc_6 H.size) gX1_farTogether_X6_distance rfl ⟨rfl, rfl⟩ (by decide +kernel) ⟨Nat.le_of_ble_eq_true rfl, Nat.le_of_ble_eq_true rfl⟩ (lf59 g_8) shC_L rfl rfl hl.1 rfl (Nat.le_of_ble_eq_true rfl) dX1_farTogether_24) I (fun H locs I => ?_)
      refine lv_iadd hx hb dX1_farTogether_27 ?_
      refine lv_topi (fun y_10 e_11 => ?_)
      have h := lt_at h e_11
      refine lv_istore_n (lv' := [(1, .int y_10), (3, .ref (a (34 + j_5))), (0, .ref (a 1)), (2, .int x2)]) hx hb dX1_farTogether_28 rfl hl (by decide) rfl (fun ls hl => ?_)
      exact kC1_farTogether_29 X hk4 σ_7 y_10 x2 H locs ls h I (lv_sub hl [2, 0, 3] rfl)
set_option maxRecDepth 100000 in
theorem kC1_farTogether_4L {p : Program} {l : Launch} {e : Env} {s : State} {m : MethodId} {args : Array Value} {below : List Frame} {meth : Method} {c : Code} {D : va_G} {cy : Nat → ClassId} {a gs : Nat → Nat} (X : cx_ cX1_farTogether RX1 wsX1_farTogether 4 (some .int) 59 a D cy (xfC gs) p s m args meth c)  {r0 : Int32} {σ' : Sg}  : ∀ (n : Nat), ∀ (σ : Sg) (x1 : Int32) (x2 : Int32) (H : Heap) (locs : List Loc) (ls : Array Slot), lp_ (C1_farTogether_4) (fun _ _ _ => none) n σ x1 x2 = some (r0, σ') → iv_ 59 a D (shC cy a σ) s H locs → lv_has ls 4 [(0, .ref (a 1)), (1, .int x1), (2, .int x2)] → W p l e ({ frames := 2, cells := 0, slots := 0, locals := 42 }) s m args below meth c H locs 0 0 (MQ below (qg_ 59 a D (shC cy a σ') (some (.int r0)) s.heap.size) args s 0 0 (fr_ 59 a s.heap.size)) (F0 m 4 ls []) := by
  intro n
  induction n with
  | zero =>
    intro _ _ _ _ _ _ h
    exact absurd h (fun q => by cases (show (none : Option _) = some _ from q))
  | succ n ih => exact kC1_farTogether_4 X ih

def C1_farTogether_0  (σ : Sg)  : Option (Int32 × Sg) :=
  lp_ C1_farTogether_4 (fun _ _ _ => none) FU σ (0 : Int32) (0 : Int32)
set_option maxRecDepth 100000 in
theorem kC1_farTogether_0 {p : Program} {l : Launch} {e : Env} {s : State} {m : MethodId} {args : Array Value} {below : List Frame} {meth : Method} {c : Code} {D : va_G} {cy : Nat → ClassId} {a gs : Nat → Nat} (X : cx_ cX1_farTogether RX1 wsX1_farTogether 4 (some .int) 59 a D cy (xfC gs) p s m args meth c)  {r0 : Int32} {σ' : Sg}  : ∀ (σ : Sg)  (H : Heap) (locs : List Loc) (ls : Array Slot), C1_farTogether_0 σ = some (r0, σ') → iv_ 59 a D (shC cy a σ) s H locs → lv_has ls 4 [(0, .ref (a 1))] → W p l e ({ frames := 2, cells := 0, slots := 0, locals := 42 }) s m args below meth c H locs 0 0 (MQ below (qg_ 59 a D (shC cy a σ') (some (.int r0)) s.heap.size) args s 0 0 (fr_ 59 a s.heap.size)) (F0 m 0 ls []) := by
  obtain ⟨hx, hb, hr, hml, hown, hts, hlk, hK, hA, hXf⟩ := id X
  intro σ  H locs ls h I hl
  unfold C1_farTogether_0 at h
  refine lv_iconst (v := 0) hx hb dX1_farTogether_0 (by decide) ?_
  refine lv_istore_n (lv' := [(1, .int (0 : Int32)), (0, .ref (a 1))]) hx hb dX1_farTogether_1 rfl hl (by decide) rfl (fun ls hl => ?_)
  refine lv_iconst (v := 0) hx hb dX1_farTogether_2 (by decide) ?_
  refine lv_istore_n (lv' := [(2, .int (0 : Int32)), (1, .int (0 : Int32)), (0, .ref (a 1))]) hx hb dX1_farTogether_3 rfl hl (by decide) rfl (fun ls hl => ?_)
  exact kC1_farTogether_4L X  FU σ (0 : Int32) (0 : Int32) H locs ls h I (lv_sub hl [2, 1, 0] rfl)
theorem c_C1_farTogether {l : Launch} {D : va_G} {cy : Nat → ClassId} {a gs : Nat → Nat} {σ : Sg}  {r0 : Int32} {σ' : Sg} (h : C1_farTogether_0 σ  = some (r0, σ')) (sz : Nat) : Met l yX1_farTogether wsX1_farTogether ({ frames := 2, cells := 0, slots := 0, locals := 42 }) (va_Pc [.ref (a 1)] (pr_ 59 a D cy (shC cy a σ) (xfC gs) sz)) (qg_ 59 a D (shC cy a σ') (some (.int r0)) sz) 0 0 (fr_ 59 a sz) := by
  refine ent_ (by decide) rfl (Nat.le_of_ble_eq_true rfl) ?_
  intro p e s m below meth c ls hsz X I hl
  subst hsz
  exact kC1_farTogether_0 X σ  s.heap [] ls h I hl

def C1_yearsLeft_0  (σ : Sg) (x1 : Int32) : Option (Int32 × Sg) :=
  bi_ (C1_life_0 σ x1) fun r_3 σ_2 =>
  on_ r_3 (some ((0 : Int32), σ_2)) fun j_4 =>
  bi_ (C1_endsOf_0 σ_2 j_4) fun r_7 σ_6 =>
  gd_ (lf_ j_4 25) (
  some ((if (0 : Int32) < (r_7 - (rd_ σ_6 (34 + j_4) 4)) then (r_7 - (rd_ σ_6 (34 + j_4) 4)) else (0 : Int32)), σ_6))
set_option maxRecDepth 100000 in
theorem kC1_yearsLeft_0 {p : Program} {l : Launch} {e : Env} {s : State} {m : MethodId} {args : Array Value} {below : List Frame} {meth : Method} {c : Code} {D : va_G} {cy : Nat → ClassId} {a gs : Nat → Nat} (X : cx_ cX1_yearsLeft RX1 wsX1_yearsLeft 3 (some .int) 59 a D cy (xfC gs) p s m args meth c)  {r0 : Int32} {σ' : Sg}  : ∀ (σ : Sg) (x1 : Int32) (H : Heap) (locs : List Loc) (ls : Array Slot), C1_yearsLeft_0 σ x1 = some (r0, σ') → iv_ 59 a D (shC cy a σ) s H locs → lv_has ls 3 [(0, .ref (a 1)), (1, .int x1)] → W p l e ({ frames := 4, cells := 0, slots := 0, locals := 87 }) s m args below meth c H locs 0 0 (MQ below (qg_ 59 a D (shC cy a σ') (some (.int r0)) s.heap.size) args s 0 0 (fr_ 59 a s.heap.size)) (F0 m 0 ls []) := by
  obtain ⟨hx, hb, hr, hml, hown, hts, hlk, hK, hA, hXf⟩ := id X
  intro σ x1 H locs ls h I hl
  unfold C1_yearsLeft_0 at h
  refine lv_aload_n hx hb dX1_yearsLeft_0 rfl (lv_at hl 0 rfl) ?_
  refine lv_iload_n hx hb dX1_yearsLeft_1 rfl (lv_at hl 1 rfl) ?_
  obtain ⟨r_3, σ_2, hc_1, h⟩ := bi_of h
  refine cg_ (v := va_re (fun j => a (34 + j)) r_3) (rV_ (nn := 1) (As := [.int x1]) (rest := []) X xkC I (c_C1_life hc_1 H.size) gX1_yearsLeft_X1_life rfl ⟨rfl, rfl⟩ (by decide +kernel) ⟨Nat.le_of_ble_eq_true rfl, Nat.le_of_ble_eq_true rfl⟩ (by decide) shC_1 rfl rfl hl.1 rfl (Nat.le_of_ble_eq_true rfl) dX1_yearsLeft_2) I (fun H locs I => ?_)
  rcases r_3 with _ | j_4
  · have h := on_n h
    refine W.eq (g2 := F0 m 5 ls [.null]) rfl ?_
    refine lv_astore_nN (lv' := [(2, .null), (0, .ref (a 1)), (1, .int x1)]) hx hb dX1_yearsLeft_5 rfl hl (by decide) rfl (fun ls hl => ?_)
    refine lv_aload_nN hx hb dX1_yearsLeft_6 rfl (lv_at hl 0 rfl) ?_
    refine lv_ifnonnullN hx hb dX1_yearsLeft_7 ?_
    refine lv_iconst (v := 0) hx hb dX1_yearsLeft_10 (by decide) ?_
    refine lv_goto (tgt := 28) hx hb dX1_yearsLeft_11 (by decide) ?_
    obtain ⟨rfl, rfl⟩ := re_s h
    exact rti_ X I dX1_yearsLeft_28
  · have h := on_s h
    refine W.eq (g2 := F0 m 5 ls [.ref (a (34 + j_4))]) rfl ?_
    refine lv_astore_n (lv' := [(2, .ref (a (34 + j_4))), (0, .ref (a 1)), (1, .int x1)]) hx hb dX1_yearsLeft_5 rfl hl (by decide) rfl (fun ls hl => ?_)
    refine lv_aload_n hx hb dX1_yearsLeft_6 rfl (lv_at hl 0 rfl) ?_
    refine lv_ifnonnull (tgt := 14) hx hb dX1_yearsLeft_7 (by decide) ?_
    refine lv_iconst (v := 0) hx hb dX1_yearsLeft_14 (by decide) ?_
    refine lv_aload_n hx hb dX1_yearsLeft_15 rfl (lv_at hl 1 rfl) ?_
    refine lv_aload_n hx hb dX1_yearsLeft_16 rfl (lv_at hl 0 rfl) ?_
    obtain ⟨r_7, σ_6, hc_5, h⟩ := bi_of h
    refine cg_ (v := .int r_7) (rV_ (nn := 1) (As := [.ref (a (34 + j_4))]) (rest := [.int (0 : Int32)]) X xkC I (c_C1_endsOf hc_5 H.size) gX1_yearsLeft_X1_endsOf rfl ⟨rfl, rfl⟩ (by decide +kernel) ⟨Nat.le_of_ble_eq_true rfl, Nat.le_of_ble_eq_true rfl⟩ (by decide) shC_1 rfl rfl hl.1 rfl (Nat.le_of_ble_eq_true rfl) dX1_yearsLeft_17) I (fun H locs I => ?_)
    refine lv_aload_n hx hb dX1_yearsLeft_20 rfl (lv_at hl 0 rfl) ?_
    obtain ⟨g_8, h⟩ := gd_of h
    refine ig_ (index := 90) X I (fun _ q => List.mem_cons_of_mem _ (List.mem_append_left _ (List.mem_append_right _ q))) (34 + j_4) (lf59 g_8) shC_L rfl 4 (by decide) (by decide +kernel) rfl (v := .int (rd_ σ_6 (34 + j_4) 4)) rfl dX1_yearsLeft_21 ?_
    refine lv_isub hx hb dX1_yearsLeft_24 ?_
    refine va_mmax hx hb (by rw [hml]; exact hl.1.symm) hown (hts (.methodLink RX1 93 Lib.Math.max.name) (by decide +kernel)) (hts (.static Lib.Math.max.name) (by decide +kernel)) (hts (.initialized "java/lang/Math") (by decide +kernel)) (hts (.code Lib.Math.max.name Lib.Math.max.code 2 (some .int)) (by decide +kernel)) (Nat.le_of_ble_eq_true rfl) (Nat.le_of_ble_eq_true rfl) (Nat.zero_le _) (Nat.zero_le _) dX1_yearsLeft_25 ?_
    obtain ⟨rfl, rfl⟩ := re_s h
    exact rti_ X I dX1_yearsLeft_28
theorem c_C1_yearsLeft {l : Launch} {D : va_G} {cy : Nat → ClassId} {a gs : Nat → Nat} {σ : Sg} {x1 : Int32} {r0 : Int32} {σ' : Sg} (h : C1_yearsLeft_0 σ x1 = some (r0, σ')) (sz : Nat) : Met l yX1_yearsLeft wsX1_yearsLeft ({ frames := 4, cells := 0, slots := 0, locals := 87 }) (va_Pc [.ref (a 1), .int x1] (pr_ 59 a D cy (shC cy a σ) (xfC gs) sz)) (qg_ 59 a D (shC cy a σ') (some (.int r0)) sz) 0 0 (fr_ 59 a sz) := by
  refine ent_ (by decide) rfl (Nat.le_of_ble_eq_true rfl) ?_
  intro p e s m below meth c ls hsz X I hl
  subst hsz
  exact kC1_yearsLeft_0 X σ x1 s.heap [] ls h I hl

def C1_ofAge_26 (k4 : Sg → Int32 → Int32 → Option (Int32 × Sg)) (σ : Sg) (x1 : Int32) (x2 : Int32) : Option (Int32 × Sg) :=
  lt_ (x2 + (1 : Int32)) fun y_1 =>
  k4 σ x1 y_1
set_option maxRecDepth 100000 in
theorem kC1_ofAge_26 {p : Program} {l : Launch} {e : Env} {s : State} {m : MethodId} {args : Array Value} {below : List Frame} {meth : Method} {c : Code} {D : va_G} {cy : Nat → ClassId} {a gs : Nat → Nat} (X : cx_ cX1_ofAge RX1 wsX1_ofAge 3 (some .int) 59 a D cy (xfC gs) p s m args meth c) {k4 : Sg → Int32 → Int32 → Option (Int32 × Sg)} {r0 : Int32} {σ' : Sg} (hk4 : ∀ (σ : Sg) (x1 : Int32) (x2 : Int32) (H : Heap) (locs : List Loc) (ls : Array Slot), k4 σ x1 x2 = some (r0, σ') → iv_ 59 a D (shC cy a σ) s H locs → lv_has ls 3 [(0, .ref (a 1)), (1, .int x1), (2, .int x2)] → W p l e ({ frames := 5, cells := 0, slots := 0, locals := 109 }) s m args below meth c H locs 0 0 (MQ below (qg_ 59 a D (shC cy a σ') (some (.int r0)) s.heap.size) args s 0 0 (fr_ 59 a s.heap.size)) (F0 m 4 ls [])) : ∀ (σ : Sg) (x1 : Int32) (x2 : Int32) (H : Heap) (locs : List Loc) (ls : Array Slot), C1_ofAge_26 k4 σ x1 x2 = some (r0, σ') → iv_ 59 a D (shC cy a σ) s H locs → lv_has ls 3 [(0, .ref (a 1)), (1, .int x1), (2, .int x2)] → W p l e ({ frames := 5, cells := 0, slots := 0, locals := 109 }) s m args below meth c H locs 0 0 (MQ below (qg_ 59 a D (shC cy a σ') (some (.int r0)) s.heap.size) args s 0 0 (fr_ 59 a s.heap.size)) (F0 m 26 ls []) := by
  obtain ⟨hx, hb, hr, hml, hown, hts, hlk, hK, hA, hXf⟩ := id X
  intro σ x1 x2 H locs ls h I hl
  unfold C1_ofAge_26 at h
  obtain ⟨y_1, e_2⟩ : ∃ q : Int32, q = x2 + (1 : Int32) := ⟨_, rfl⟩
  have h := lt_at h e_2
  refine lv_iinc (v := y_1) (lv' := [(2, .int y_1), (0, .ref (a 1)), (1, .int x1)]) hx hb dX1_ofAge_26 hl (k := 2) rfl (by rw [e_2]; rfl) (by decide) rfl (fun ls hl => ?_)
  refine lv_goto (tgt := 4) hx hb dX1_ofAge_29 (by decide) ?_
  exact hk4 σ x1 y_1 H locs ls h I (lv_sub hl [1, 2, 0] rfl)
def C1_ofAge_4 (k4 : Sg → Int32 → Int32 → Option (Int32 × Sg)) (σ : Sg) (x1 : Int32) (x2 : Int32) : Option (Int32 × Sg) :=
  if (rd_ σ 1 3) ≤ x2 then (some (x1, σ))
  else (bi_ (C1_yearsLeft_0 σ x2) fun r_4 σ_3 =>
  if r_4 = 0 then (lt_ ((x1 ||| ((1 : Int32) <<< (x2 &&& 31)))) fun y_6 =>
  C1_ofAge_26 k4 σ_3 y_6 x2)
  else (C1_ofAge_26 k4 σ_3 x1 x2))
set_option maxRecDepth 100000 in
theorem kC1_ofAge_4 {p : Program} {l : Launch} {e : Env} {s : State} {m : MethodId} {args : Array Value} {below : List Frame} {meth : Method} {c : Code} {D : va_G} {cy : Nat → ClassId} {a gs : Nat → Nat} (X : cx_ cX1_ofAge RX1 wsX1_ofAge 3 (some .int) 59 a D cy (xfC gs) p s m args meth c) {k4 : Sg → Int32 → Int32 → Option (Int32 × Sg)} {r0 : Int32} {σ' : Sg} (hk4 : ∀ (σ : Sg) (x1 : Int32) (x2 : Int32) (H : Heap) (locs : List Loc) (ls : Array Slot), k4 σ x1 x2 = some (r0, σ') → iv_ 59 a D (shC cy a σ) s H locs → lv_has ls 3 [(0, .ref (a 1)), (1, .int x1), (2, .int x2)] → W p l e ({ frames := 5, cells := 0, slots := 0, locals := 109 }) s m args below meth c H locs 0 0 (MQ below (qg_ 59 a D (shC cy a σ') (some (.int r0)) s.heap.size) args s 0 0 (fr_ 59 a s.heap.size)) (F0 m 4 ls [])) : ∀ (σ : Sg) (x1 : Int32) (x2 : Int32) (H : Heap) (locs : List Loc) (ls : Array Slot), C1_ofAge_4 k4 σ x1 x2 = some (r0, σ') → iv_ 59 a D (shC cy a σ) s H locs → lv_has ls 3 [(0, .ref (a 1)), (1, .int x1), (2, .int x2)] → W p l e ({ frames := 5, cells := 0, slots := 0, locals := 109 }) s m args below meth c H locs 0 0 (MQ below (qg_ 59 a D (shC cy a σ') (some (.int r0)) s.heap.size) args s 0 0 (fr_ 59 a s.heap.size)) (F0 m 4 ls []) := by
  obtain ⟨hx, hb, hr, hml, hown, hts, hlk, hK, hA, hXf⟩ := id X
  intro σ x1 x2 H locs ls h I hl
  unfold C1_ofAge_4 at h
  refine lv_iload_n hx hb dX1_ofAge_4 rfl (lv_at hl 2 rfl) ?_
  refine lv_aload_n hx hb dX1_ofAge_5 rfl (lv_at hl 0 rfl) ?_
  refine ig_ (index := 42) X I (fun _ q => List.mem_cons_of_mem _ (List.mem_append_left _ (List.mem_append_right _ q))) 1 (by decide) shC_1 rfl 3 (by decide) (by decide +kernel) rfl (v := .int (rd_ σ 1 3)) rfl dX1_ofAge_6 ?_
  refine lv_icmp_ge (tgt := 32) hx hb dX1_ofAge_9 (by decide) (fun c_1 => ?_) (fun c_1 => ?_)
  · have h := if_t h c_1
    refine lv_iload_n hx hb dX1_ofAge_32 rfl (lv_at hl 1 rfl) ?_
    obtain ⟨rfl, rfl⟩ := re_s h
    exact rti_ X I dX1_ofAge_33
  · have h := if_f h c_1
    refine lv_aload_n hx hb dX1_ofAge_12 rfl (lv_at hl 0 rfl) ?_
    refine lv_iload_n hx hb dX1_ofAge_13 rfl (lv_at hl 2 rfl) ?_
    obtain ⟨r_4, σ_3, hc_2, h⟩ := bi_of h
    refine cg_ (v := .int r_4) (rV_ (nn := 1) (As := [.int x2]) (rest := []) X xkC I (c_C1_yearsLeft hc_2 H.size) gX1_ofAge_X1_yearsLeft rfl ⟨rfl, rfl⟩ (by decide +kernel) ⟨Nat.le_of_ble_eq_true rfl, Nat.le_of_ble_eq_true rfl⟩ (by decide) shC_1 rfl rfl hl.1 rfl (Nat.le_of_ble_eq_true rfl) dX1_ofAge_14) I (fun H locs I => ?_)
    refine lv_if_ne (tgt := 26) hx hb dX1_ofAge_17 (by decide) (fun c_5 => ?_) (fun c_5 => ?_)
    · have h := if_f h c_5
      exact kC1_ofAge_26 X hk4 σ_3 x1 x2 H locs ls h I (lv_sub hl [0, 1, 2] rfl)
    · have h := if_t h c_5
      refine lv_iload_n hx hb dX1_ofAge_20 rfl (lv_at hl 1 rfl) ?_
      refine lv_iconst (v := 1) hx hb dX1_ofAge_21 (by decide) ?_
      refine lv_iload_n hx hb dX1_ofAge_22 rfl (lv_at hl 2 rfl) ?_
      refine lv_ishl hx hb dX1_ofAge_23 ?_
      refine lv_ior hx hb dX1_ofAge_24 ?_
      refine lv_topi (fun y_6 e_7 => ?_)
      have h := lt_at h e_7
      refine lv_istore_n (lv' := [(1, .int y_6), (0, .ref (a 1)), (2, .int x2)]) hx hb dX1_ofAge_25 rfl hl (by decide) rfl (fun ls hl => ?_)
      exact kC1_ofAge_26 X hk4 σ_3 y_6 x2 H locs ls h I (lv_sub hl [1, 0, 2] rfl)
set_option maxRecDepth 100000 in
theorem kC1_ofAge_4L {p : Program} {l : Launch} {e : Env} {s : State} {m : MethodId} {args : Array Value} {below : List Frame} {meth : Method} {c : Code} {D : va_G} {cy : Nat → ClassId} {a gs : Nat → Nat} (X : cx_ cX1_ofAge RX1 wsX1_ofAge 3 (some .int) 59 a D cy (xfC gs) p s m args meth c)  {r0 : Int32} {σ' : Sg}  : ∀ (n : Nat), ∀ (σ : Sg) (x1 : Int32) (x2 : Int32) (H : Heap) (locs : List Loc) (ls : Array Slot), lp_ (C1_ofAge_4) (fun _ _ _ => none) n σ x1 x2 = some (r0, σ') → iv_ 59 a D (shC cy a σ) s H locs → lv_has ls 3 [(0, .ref (a 1)), (1, .int x1), (2, .int x2)] → W p l e ({ frames := 5, cells := 0, slots := 0, locals := 109 }) s m args below meth c H locs 0 0 (MQ below (qg_ 59 a D (shC cy a σ') (some (.int r0)) s.heap.size) args s 0 0 (fr_ 59 a s.heap.size)) (F0 m 4 ls []) := by
  intro n
  induction n with
  | zero =>
    intro _ _ _ _ _ _ h
    exact absurd h (fun q => by cases (show (none : Option _) = some _ from q))
  | succ n ih => exact kC1_ofAge_4 X ih

def C1_ofAge_0  (σ : Sg)  : Option (Int32 × Sg) :=
  lp_ C1_ofAge_4 (fun _ _ _ => none) FU σ (0 : Int32) (0 : Int32)
set_option maxRecDepth 100000 in
theorem kC1_ofAge_0 {p : Program} {l : Launch} {e : Env} {s : State} {m : MethodId} {args : Array Value} {below : List Frame} {meth : Method} {c : Code} {D : va_G} {cy : Nat → ClassId} {a gs : Nat → Nat} (X : cx_ cX1_ofAge RX1 wsX1_ofAge 3 (some .int) 59 a D cy (xfC gs) p s m args meth c)  {r0 : Int32} {σ' : Sg}  : ∀ (σ : Sg)  (H : Heap) (locs : List Loc) (ls : Array Slot), C1_ofAge_0 σ = some (r0, σ') → iv_ 59 a D (shC cy a σ) s H locs → lv_has ls 3 [(0, .ref (a 1))] → W p l e ({ frames := 5, cells := 0, slots := 0, locals := 109 }) s m args below meth c H locs 0 0 (MQ below (qg_ 59 a D (shC cy a σ') (some (.int r0)) s.heap.size) args s 0 0 (fr_ 59 a s.heap.size)) (F0 m 0 ls []) := by
  obtain ⟨hx, hb, hr, hml, hown, hts, hlk, hK, hA, hXf⟩ := id X
  intro σ  H locs ls h I hl
  unfold C1_ofAge_0 at h
  refine lv_iconst (v := 0) hx hb dX1_ofAge_0 (by decide) ?_
  refine lv_istore_n (lv' := [(1, .int (0 : Int32)), (0, .ref (a 1))]) hx hb dX1_ofAge_1 rfl hl (by decide) rfl (fun ls hl => ?_)
  refine lv_iconst (v := 0) hx hb dX1_ofAge_2 (by decide) ?_
  refine lv_istore_n (lv' := [(2, .int (0 : Int32)), (1, .int (0 : Int32)), (0, .ref (a 1))]) hx hb dX1_ofAge_3 rfl hl (by decide) rfl (fun ls hl => ?_)
  exact kC1_ofAge_4L X  FU σ (0 : Int32) (0 : Int32) H locs ls h I (lv_sub hl [2, 1, 0] rfl)
theorem c_C1_ofAge {l : Launch} {D : va_G} {cy : Nat → ClassId} {a gs : Nat → Nat} {σ : Sg}  {r0 : Int32} {σ' : Sg} (h : C1_ofAge_0 σ  = some (r0, σ')) (sz : Nat) : Met l yX1_ofAge wsX1_ofAge ({ frames := 5, cells := 0, slots := 0, locals := 109 }) (va_Pc [.ref (a 1)] (pr_ 59 a D cy (shC cy a σ) (xfC gs) sz)) (qg_ 59 a D (shC cy a σ') (some (.int r0)) sz) 0 0 (fr_ 59 a sz) := by
  refine ent_ (by decide) rfl (Nat.le_of_ble_eq_true rfl) ?_
  intro p e s m below meth c ls hsz X I hl
  subst hsz
  exact kC1_ofAge_0 X σ  s.heap [] ls h I hl
