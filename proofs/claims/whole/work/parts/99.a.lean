/-! the law, turn by turn, and from its entry -/
theorem inlX11 : ∀ w ∈ wsX110, w ∈ wsL_law := fun _ h => List.mem_append_left _ (List.mem_append_left _ (List.mem_append_left _ (List.mem_append_left _ (List.mem_append_left _ (List.mem_append_left _ (List.mem_append_left _ (List.mem_append_left _ (List.mem_append_left _ (List.mem_append_left _ (List.mem_append_left _ (List.mem_append_left _ (List.mem_append_left _ (List.mem_append_right _ h)))))))))))))
theorem inlX12 : ∀ w ∈ wsX120, w ∈ wsL_law := fun _ h => List.mem_append_left _ (List.mem_append_left _ (List.mem_append_left _ (List.mem_append_left _ (List.mem_append_left _ (List.mem_append_left _ (List.mem_append_left _ (List.mem_append_left _ (List.mem_append_left _ (List.mem_append_left _ (List.mem_append_left _ (List.mem_append_left _ (List.mem_append_right _ h))))))))))))
theorem and63 (v : Int32) : ∃ t, t < 64 ∧ v &&& nI 63 = nI t := by
  refine ⟨v.toBitVec.toNat % 64, Nat.mod_lt _ (by omega), ?_⟩
  refine Int32.toBitVec_inj.mp (BitVec.eq_of_toNat_eq ?_)
  have h2 : (v &&& nI 63).toBitVec = v.toBitVec &&& 63#32 := rfl
  have h3 : (63#32).toNat = 2 ^ 6 - 1 := by decide
  rw [h2, BitVec.toNat_and, h3, Nat.and_two_pow_sub_one_eq_mod]
  exact (pk_tn (n := v.toBitVec.toNat % 2 ^ 6) (by omega)).symm
set_option maxHeartbeats 4000000 in
set_option maxRecDepth 100000 in
theorem law_loop {p : Program} {l : Launch} {e : Env} {s : State} {m : MethodId} {below : List Frame} {meth : Method} {c : Code} {D : va_G} {cy : Nat → ClassId} {gs aC aM : Nat → Nat} {b L : Nat} {xs : Nat → Int32} (hL : L ≤ 2560) (C0 : lw_At p s m meth c b L xs) (X : lawX gs b D cy p s m meth c) : ∀ (n i : Nat) (σc σm : Sg) (H : Heap) (locs : List Loc) (ls : Array Slot), i ≤ L → L < n + i → lawV aC aM D cy s H locs σc σm → lv_has ls 4 [(0, .ref b), (1, .ref (aC 0)), (2, .ref (aM 0)), (3, .int (nI i))] → W p l e room_1 s m #[Value.ref b] below meth c H locs 75 2073 (lw_Z below #[Value.ref b] s) (F0 m 18 ls []) := by
  obtain ⟨hx, hb, hr, hml, hown, hts, hX, hbl, hlocks, hgv⟩ := id C0
  intro n
  induction n with
  | zero => intro i σc σm H locs ls h1 h2; omega
  | succ n ih =>
    intro i σc σm H locs ls h1 h2 V hl
    have hS := V.1.2.2
    refine lv_iload_n hx hb dL_law_18 rfl (lv_at hl 3 rfl) ?_
    refine lv_aload_n hx hb dL_law_19 rfl (lv_at hl 0 rfl) ?_
    refine va_slen hx hb hX hbl (Nat.not_le.mpr hbl) hS dL_law_20 ?_
    refine lv_iconst (v := nI 5) hx hb dL_law_21 (by decide) ?_
    refine lv_isub hx hb dL_law_22 ?_
    refine lv_icmp_gt (tgt := 1681) hx hb dL_law_23 (by decide) (fun _ => ?_) (fun c1 => ?_)
    · refine lv_iconst (v := 1) hx hb dL_law_1681 (by decide) ?_
      refine va_forget hS.2.2 ?_
      refine W.widen (k := 600000) (n := 7302250) (by omega) (by omega) ?_
      exact lw_ret hx hb hr hlocks dL_law_1682
    · have h5 : i + 5 ≤ L := by
        rcases Nat.lt_or_ge L (i + 5) with q | q
        · exact absurd (show nI L - nI 5 < nI i by
            rw [Int32.lt_iff_toInt_lt, pk_sub_toInt (by omega) (by omega), nI_toInt (by omega)]; omega) c1
        · exact q
      refine lv_aload_n hx hb dL_law_26 rfl (lv_at hl 0 rfl) ?_
      refine lv_iload_n hx hb dL_law_27 rfl (lv_at hl 3 rfl) ?_
      refine va_sld hx hb hX hbl (Nat.not_le.mpr hbl) hS (nI_in (show i < L by omega) (by omega)) dL_law_28 ?_
      refine lv_bipush (v := nI 63) hx hb dL_law_29 (by decide) ?_
      refine lv_iand hx hb dL_law_31 ?_
      obtain ⟨t, ht, et⟩ := and63 (xs (nI i).toNatClampNeg)
      rw [et]
      have kk : ∀ (σc σm : Sg) (H : Heap) (locs : List Loc), lawV aC aM D cy s H locs σc σm → W p l e room_1 s m #[Value.ref b] below meth c H locs 75 2073 (lw_Z below #[Value.ref b] s) (F0 m 1675 ls []) := by
        intro σc σm H locs V
        refine lv_iinc (v := nI (i + 5)) (lv' := [(3, .int (nI (i + 5))), (0, .ref b), (1, .ref (aC 0)), (2, .ref (aM 0))]) hx hb dL_law_1675 hl (k := 3) rfl (by rw [show Int32.ofInt 5 = nI 5 by decide, nI_add]) (by decide) rfl (fun ls hl => ?_)
        refine lv_goto (tgt := 18) hx hb dL_law_1678 (by decide) ?_
        exact ih (i + 5) σc σm H locs ls (by omega) (by omega) V (lv_sub hl [1, 2, 3, 0] rfl)
      have S : lawP b L i xs s := ⟨hX, hbl, h5, hL⟩
      by_cases h44 : t ≤ 44
      · match t, h44 with
        | 0, _ => exact lv_tableIn (off := 196) (tgt := 228) hx hb dL_law_32 (by decide) (by decide) rfl (by decide) (cs_0 X V S hl kk)
        | 1, _ => exact lv_tableIn (off := 259) (tgt := 291) hx hb dL_law_32 (by decide) (by decide) rfl (by decide) (cs_1 X V S hl kk)
        | 2, _ => exact lv_tableIn (off := 272) (tgt := 304) hx hb dL_law_32 (by decide) (by decide) rfl (by decide) (cs_2 X V S hl kk)
        | 3, _ => exact lv_tableIn (off := 305) (tgt := 337) hx hb dL_law_32 (by decide) (by decide) rfl (by decide) (cs_3 X V S hl kk)
        | 4, _ => exact lv_tableIn (off := 328) (tgt := 360) hx hb dL_law_32 (by decide) (by decide) rfl (by decide) (cs_4 X V S hl kk)
        | 5, _ => exact lv_tableIn (off := 381) (tgt := 413) hx hb dL_law_32 (by decide) (by decide) rfl (by decide) (cs_5 X V S hl kk)
        | 6, _ => exact lv_tableIn (off := 414) (tgt := 446) hx hb dL_law_32 (by decide) (by decide) rfl (by decide) (cs_6 X V S hl kk)
        | 7, _ => exact lv_tableIn (off := 447) (tgt := 479) hx hb dL_law_32 (by decide) (by decide) rfl (by decide) (cs_7 X V S hl kk)
        | 8, _ => exact lv_tableIn (off := 490) (tgt := 522) hx hb dL_law_32 (by decide) (by decide) rfl (by decide) (cs_8 X V S hl kk)
        | 9, _ => exact lv_tableIn (off := 533) (tgt := 565) hx hb dL_law_32 (by decide) (by decide) rfl (by decide) (cs_9 X V S hl kk)
        | 10, _ => exact lv_tableIn (off := 566) (tgt := 598) hx hb dL_law_32 (by decide) (by decide) rfl (by decide) (cs_10 X V S hl kk)
        | 11, _ => exact lv_tableIn (off := 599) (tgt := 631) hx hb dL_law_32 (by decide) (by decide) rfl (by decide) (cs_11 X V S hl kk)
        | 12, _ => exact lv_tableIn (off := 632) (tgt := 664) hx hb dL_law_32 (by decide) (by decide) rfl (by decide) (cs_12 X V S hl kk)
        | 13, _ => exact lv_tableIn (off := 665) (tgt := 697) hx hb dL_law_32 (by decide) (by decide) rfl (by decide) (cs_13 X V S hl kk)
        | 14, _ => exact lv_tableIn (off := 688) (tgt := 720) hx hb dL_law_32 (by decide) (by decide) rfl (by decide) (cs_14 X V S hl kk)
        | 15, _ => exact lv_tableIn (off := 711) (tgt := 743) hx hb dL_law_32 (by decide) (by decide) rfl (by decide) (cs_15 X V S hl kk)
        | 16, _ => exact lv_tableIn (off := 724) (tgt := 756) hx hb dL_law_32 (by decide) (by decide) rfl (by decide) (cs_16 X V S hl kk)
        | 17, _ => exact lv_tableIn (off := 747) (tgt := 779) hx hb dL_law_32 (by decide) (by decide) rfl (by decide) (cs_17 X V S hl kk)
        | 18, _ => exact lv_tableIn (off := 770) (tgt := 802) hx hb dL_law_32 (by decide) (by decide) rfl (by decide) (cs_18 X V S hl kk)
        | 19, _ => exact lv_tableIn (off := 803) (tgt := 835) hx hb dL_law_32 (by decide) (by decide) rfl (by decide) (cs_19 X V S hl kk)
        | 20, _ => exact lv_tableIn (off := 826) (tgt := 858) hx hb dL_law_32 (by decide) (by decide) rfl (by decide) (cs_20 X V S hl kk)
        | 21, _ => exact lv_tableIn (off := 839) (tgt := 871) hx hb dL_law_32 (by decide) (by decide) rfl (by decide) (cs_21 X V S hl kk)
        | 22, _ => exact lv_tableIn (off := 872) (tgt := 904) hx hb dL_law_32 (by decide) (by decide) rfl (by decide) (cs_22 X V S hl kk)
        | 23, _ => exact lv_tableIn (off := 905) (tgt := 937) hx hb dL_law_32 (by decide) (by decide) rfl (by decide) (cs_23 X V S hl kk)
        | 24, _ => exact lv_tableIn (off := 938) (tgt := 970) hx hb dL_law_32 (by decide) (by decide) rfl (by decide) (cs_24 X V S hl kk)
        | 25, _ => exact lv_tableIn (off := 971) (tgt := 1003) hx hb dL_law_32 (by decide) (by decide) rfl (by decide) (cs_25 X V S hl kk)
        | 26, _ => exact lv_tableIn (off := 994) (tgt := 1026) hx hb dL_law_32 (by decide) (by decide) rfl (by decide) (cs_26 X V S hl kk)
        | 27, _ => exact lv_tableIn (off := 1017) (tgt := 1049) hx hb dL_law_32 (by decide) (by decide) rfl (by decide) (cs_27 X V S hl kk)
        | 28, _ => exact lv_tableIn (off := 1060) (tgt := 1092) hx hb dL_law_32 (by decide) (by decide) rfl (by decide) (cs_28 X V S hl kk)
        | 29, _ => exact lv_tableIn (off := 1104) (tgt := 1136) hx hb dL_law_32 (by decide) (by decide) rfl (by decide) (cs_29 X V S hl kk)
        | 30, _ => exact lv_tableIn (off := 1138) (tgt := 1170) hx hb dL_law_32 (by decide) (by decide) rfl (by decide) (cs_30 X V S hl kk)
        | 31, _ => exact lv_tableIn (off := 1171) (tgt := 1203) hx hb dL_law_32 (by decide) (by decide) rfl (by decide) (cs_31 X V S hl kk)
        | 32, _ => exact lv_tableIn (off := 1204) (tgt := 1236) hx hb dL_law_32 (by decide) (by decide) rfl (by decide) (cs_32 X V S hl kk)
        | 33, _ => exact lv_tableIn (off := 1247) (tgt := 1279) hx hb dL_law_32 (by decide) (by decide) rfl (by decide) (cs_33 X V S hl kk)
        | 34, _ => exact lv_tableIn (off := 1270) (tgt := 1302) hx hb dL_law_32 (by decide) (by decide) rfl (by decide) (cs_34 X V S hl kk)
        | 35, _ => exact lv_tableIn (off := 1323) (tgt := 1355) hx hb dL_law_32 (by decide) (by decide) rfl (by decide) (cs_35 X V S hl kk)
        | 36, _ => exact lv_tableIn (off := 1366) (tgt := 1398) hx hb dL_law_32 (by decide) (by decide) rfl (by decide) (cs_36 X V S hl kk)
        | 37, _ => exact lv_tableIn (off := 1409) (tgt := 1441) hx hb dL_law_32 (by decide) (by decide) rfl (by decide) (cs_37 X V S hl kk)
        | 38, _ => exact lv_tableIn (off := 1452) (tgt := 1484) hx hb dL_law_32 (by decide) (by decide) rfl (by decide) (cs_38 X V S hl kk)
        | 39, _ => exact lv_tableIn (off := 1495) (tgt := 1527) hx hb dL_law_32 (by decide) (by decide) rfl (by decide) (cs_39 X V S hl kk)
        | 40, _ => exact lv_tableIn (off := 1528) (tgt := 1560) hx hb dL_law_32 (by decide) (by decide) rfl (by decide) (cs_40 X V S hl kk)
        | 41, _ => exact lv_tableIn (off := 1571) (tgt := 1603) hx hb dL_law_32 (by decide) (by decide) rfl (by decide) (cs_41 X V S hl kk)
        | 42, _ => exact lv_tableIn (off := 1594) (tgt := 1626) hx hb dL_law_32 (by decide) (by decide) rfl (by decide) (cs_42 X V S hl kk)
        | 43, _ => exact lv_tableIn (off := 1617) (tgt := 1649) hx hb dL_law_32 (by decide) (by decide) rfl (by decide) (cs_43 X V S hl kk)
        | 44, _ => exact lv_tableIn (off := 1630) (tgt := 1662) hx hb dL_law_32 (by decide) (by decide) rfl (by decide) (cs_44 X V S hl kk)
        | t + 45, h => exact absurd h (by omega)
      · exact lv_tableOut (tgt := 1675) hx hb dL_law_32 (Or.inr (by rw [nI_toInt (by omega)]; omega)) (by decide) (kk σc σm H locs V)
theorem iW_left {A : Nat → Prop} {D : va_G} {w1 w2 : va_W} {s : State} {H : Heap} {locs : List Loc} (h : iW_ A D (w1 ++ w2) s H locs) : iW_ A D w1 s H locs := by
  have key : ∀ (k : Nat) (q : Nat × va_E), w1[k]? = some q → (w1 ++ w2)[k]? = some q := fun k q hk => by
    rw [List.getElem?_append_left (List.getElem?_eq_some_iff.mp hk).1]; exact hk
  exact ⟨fun k q hk => h.1 k q (key k q hk), ⟨fun i j x y hi hj => h.2.1.1 i j x y (key i x hi) (key j y hj), fun k q hk => h.2.1.2 k q (key k q hk)⟩, h.2.2⟩
theorem iW_last {A : Nat → Prop} {D : va_G} {w1 : va_W} {x : Nat × va_E} {s : State} {H : Heap} {locs : List Loc} (h : iW_ A D (w1 ++ [x]) s H locs) : iW_ A D [x] s H locs ∧ ∀ (k : Nat) (q : Nat × va_E), w1[k]? = some q → ¬ q.1 = x.1 := by
  have e : (w1 ++ [x])[w1.length]? = some x := by simp
  have key : ∀ (k : Nat) (q : Nat × va_E), [x][k]? = some q → k = 0 ∧ q = x := fun k q hk => by
    have hz : k < 1 := (List.getElem?_eq_some_iff.mp hk).1
    obtain rfl : k = 0 := by omega
    exact ⟨rfl, (Option.some.inj hk).symm⟩
  refine ⟨⟨fun k q hk => ?_, ⟨fun i j y z hi hj _ => ?_, fun k q hk => ?_⟩, h.2.2⟩, fun k q hk hq => ?_⟩
  · obtain ⟨rfl, rfl⟩ := key k q hk
    exact h.1 _ _ e
  · obtain ⟨rfl, -⟩ := key i y hi
    obtain ⟨rfl, -⟩ := key j z hj
    rfl
  · obtain ⟨rfl, rfl⟩ := key k q hk
    exact h.2.1.2 _ _ e
  · have hlt := (List.getElem?_eq_some_iff.mp hk).1
    have := h.2.1.1 k w1.length q x (by rw [List.getElem?_append_left hlt]; exact hk) e hq
    omega
set_option maxHeartbeats 4000000 in
set_option maxRecDepth 100000 in
theorem whole_start {p : Program} {e : Env} {s : State} {m : MethodId} {below : List Frame} {meth : Method} {c : Code} (l : Launch) {b L : Nat} {xs : Nat → Int32} (hL : L ≤ 2560) (C0 : lw_At p s m meth c b L xs) : W p l e room_1 s m #[Value.ref b] below meth c s.heap [] 0 0 (lw_Z below #[Value.ref b] s) (entryFrame m ([Value.ref b] : List Value).toArray 4) := by
  obtain ⟨hx, hb, hr, hml, hown, hts, hX, hbl, hlocks, hgv⟩ := id C0
  have hs := flat_of_before _ hgv
  obtain ⟨D, cy, hK⟩ := k_start hts
  obtain ⟨gs, hXg⟩ := xg_start hs hts
  have X : lawX gs b D cy p s m meth c := ⟨hx, hb, hml, hown, fun w h => hts w (wsLB_in w h), hK, fun _ h => h, hXg⟩
  have hl := lv_entry ([.ref b]) (n := 4) (Nat.le_of_ble_eq_true rfl)
  rw [lg_entry_eq]
  generalize (lg_sl ([.ref b]) ++ List.replicate (4 - (lg_sl ([.ref b])).length) Slot.unset).toArray = ls at hl ⊢
  have hl : lv_has ls 4 [(0, .ref b)] := hl
  have I0 : iW_ (fun q => s.heap.size ≤ q) D [] s s.heap [] := ⟨fun k q h => by simp at h, ⟨fun i j p q h => by simp at h, fun k q h => by simp at h⟩, va_S.rf⟩
  refine lnw_ (ci := 11) (fs := [.null, .null, .null, .null, .null, .null, .null, .null, .null, .null, .int 0, .int 0]) (cells1 := 1) (slots1 := 12) (ws2 := fun q => [(q, .inr (11, [.null, .null, .null, .null, .null, .null, .null, .null, .null, .null, .int 0, .int 0]))]) X I0 (fun w h => List.mem_append_left _ (inlX11 w h)) tyX11 tyX11_ok (List.mem_append_left _ (List.mem_of_getElem? (i := 0) rfl)) (List.mem_append_left _ (List.mem_of_getElem? (i := 1) rfl)) (List.mem_append_left _ (List.mem_of_getElem? (i := 2) rfl)) rfl dfX11 ⟨rfl, rfl⟩ ⟨Nat.le_of_ble_eq_true rfl, Nat.le_of_ble_eq_true rfl⟩ (fun _ => rfl) dL_law_0 (fun q0 H I => ?_)
  refine lv_dup hx hb dL_law_3 rfl ?_
  refine cJ_ (nn := 0) (cells1 := 59) (slots1 := 1029) (As := []) (rest := [.ref q0]) X xkG hXg I (ci_X11 _) (gLB gL_law_X11_init) rfl ⟨rfl, rfl⟩ (List.mem_append_left _ (List.mem_of_getElem? (i := 2) rfl)) (List.mem_append_left _ (List.mem_of_getElem? (i := 7) rfl)) (List.mem_append_left _ (List.mem_of_getElem? (i := 8) rfl)) rfl (by decide +kernel) ⟨Nat.le_of_ble_eq_true rfl, Nat.le_of_ble_eq_true rfl⟩ rfl hl.1 rfl (Nat.le_of_ble_eq_true rfl) dL_law_4 ⟨rfl, rfl⟩ ⟨Nat.le_of_ble_eq_true rfl, Nat.le_of_ble_eq_true rfl⟩ (fun u H locs I hD1 hk1 => ?_)
  obtain ⟨aC, rfl⟩ := u
  have IC : iW_ (fun q => s.heap.size ≤ q) D (gW 59 aC (shC cy aC sC0)) s H locs := ⟨convC I.1, convD I.2.1, I.2.2⟩
  refine lv_astore_n (lv' := [(1, .ref (aC 0)), (0, .ref b)]) hx hb dL_law_7 rfl hl (by decide) rfl (fun ls hl => ?_)
  refine lnw_ (ci := 12) (fs := [.null, .null, .null, .null, .int 0, .null, .int 0, .int 0, .int 0, .int 0, .int 0, .int 0, .null, .null, .null, .int 0, .null, .null, .null, .null, .null, .null, .null, .int 0, .int 0, .int 0, .int 0, .int 0]) (cells1 := 60) (slots1 := 1057) (ws2 := fun q => gW 59 aC (shC cy aC sC0) ++ [(q, .inr (12, [.null, .null, .null, .null, .int 0, .null, .int 0, .int 0, .int 0, .int 0, .int 0, .int 0, .null, .null, .null, .int 0, .null, .null, .null, .null, .null, .null, .null, .int 0, .int 0, .int 0, .int 0, .int 0]))]) X IC (fun w h => List.mem_append_left _ (inlX12 w h)) tyX12 tyX12_ok (List.mem_append_left _ (List.mem_of_getElem? (i := 3) rfl)) (List.mem_append_left _ (List.mem_of_getElem? (i := 4) rfl)) (List.mem_append_left _ (List.mem_of_getElem? (i := 5) rfl)) rfl dfX12 ⟨rfl, rfl⟩ ⟨Nat.le_of_ble_eq_true rfl, Nat.le_of_ble_eq_true rfl⟩ (fun _ => rfl) dL_law_8 (fun q1 H1 I1 => ?_)
  refine lv_dup hx hb dL_law_11 rfl ?_
  have IC1 := iW_left I1
  obtain ⟨IN, hq1⟩ := iW_last I1
  refine cJ_ (nn := 0) (cells1 := 75) (slots1 := 2073) (As := []) (rest := [.ref q1]) X xkM trivial IN (ci_X12 _) (gLB gL_law_X12_init) rfl ⟨rfl, rfl⟩ (List.mem_append_left _ (List.mem_of_getElem? (i := 5) rfl)) (List.mem_append_left _ (List.mem_of_getElem? (i := 125) rfl)) (List.mem_append_left _ (List.mem_of_getElem? (i := 126) rfl)) rfl (by decide +kernel) ⟨Nat.le_of_ble_eq_true rfl, Nat.le_of_ble_eq_true rfl⟩ rfl hl.1 rfl (Nat.le_of_ble_eq_true rfl) dL_law_12 ⟨rfl, rfl⟩ ⟨Nat.le_of_ble_eq_true rfl, Nat.le_of_ble_eq_true rfl⟩ (fun u H2 locs2 IM hD2 hk2 => ?_)
  obtain ⟨aM, rfl⟩ := u
  have hlt : ∀ i, i < 59 → aC i < H1.size := fun i hi => (IC1.1 i _ (gW_get hi)).lt
  have hn1 : ∀ i, i < 59 → ¬ aC i = aM 0 := fun i hi => hq1 i _ (gW_get hi)
  have hnA : ∀ i, i < 59 → ¬ va_A [(aM 0, .inr (12, [.null, .null, .null, .null, .int 0, .null, .int 0, .int 0, .int 0, .int 0, .int 0, .int 0, .null, .null, .null, .int 0, .null, .null, .null, .null, .null, .null, .null, .int 0, .int 0, .int 0, .int 0, .int 0]))] H1.size (aC i) := by
    rintro i hi (⟨k, z, h⟩ | h)
    · have hz : k < 1 := (List.getElem?_eq_some_iff.mp h).1
      obtain rfl : k = 0 := by omega
      exact hn1 i hi (congrArg Prod.fst (Option.some.inj h)).symm
    · exact absurd (hlt i hi) (by omega)
  have IC2 : iW_ (fun q => s.heap.size ≤ q) D (gW 59 aC (shC cy aC sC0)) s H2 locs2 := by
    refine ⟨IC1.1.kept (fun k q hk => ?_), IC1.2.1, IM.2.2⟩
    obtain ⟨h1, rfl⟩ := gW_inv hk
    exact hk2 _ (hlt k h1) (hnA k h1)
  have hne : ∀ i j, i < 59 → j < 16 → ¬ aC i = aM j := fun i j hi hj h => hnA i hi (by
    have := hD2.2 j _ (gW_get hj)
    rw [h]; exact this)
  refine lv_astore_n (lv' := [(2, .ref (aM 0)), (1, .ref (aC 0)), (0, .ref b)]) hx hb dL_law_15 rfl hl (by decide) rfl (fun ls hl => ?_)
  refine lv_iconst (v := nI 0) hx hb dL_law_16 (by decide) ?_
  refine lv_istore_n (lv' := [(3, .int (nI 0)), (2, .ref (aM 0)), (1, .ref (aC 0)), (0, .ref b)]) hx hb dL_law_17 rfl hl (by decide) rfl (fun ls hl => ?_)
  exact law_loop hL C0 X (L + 1) 0 sC0 sM1 H2 locs2 ls (by omega) (by omega) ⟨IC2, IM, hne, R0⟩ (lv_sub hl [3, 2, 1, 0] rfl)
