/-! the tape -/
def by8 (w : Int64) : Nat := w.toBitVec.toNat % 256
theorem by8_lt (w : Int64) : by8 w < 256 := Nat.mod_lt _ (by omega)
theorem mbyte (w : Int64) : (w &&& 255).toInt32 = nI (by8 w) := by
  refine Int32.toBitVec_inj.mp (BitVec.eq_of_toNat_eq ?_)
  have e : (w &&& 255).toInt32.toBitVec.toNat = w.toBitVec.toNat % 256 := by
    have h1 : (w &&& 255).toInt32.toBitVec = (w &&& 255).toBitVec.signExtend 32 := by simp
    have h2 : (w &&& 255).toBitVec = w.toBitVec &&& 255#64 := rfl
    rw [h1, h2, BitVec.signExtend_eq_setWidth_of_le _ (by omega), BitVec.toNat_setWidth, BitVec.toNat_and]
    have h3 : (255#64).toNat = 2 ^ 8 - 1 := by decide
    rw [h3, Nat.and_two_pow_sub_one_eq_mod]
    omega
  rw [e]
  exact (pk_tn (n := by8 w) (by have := by8_lt w; omega)).symm
theorem sgb_8 {v : Nat} (h : v < 256) : (Int8.ofNat v).toInt32 = sgb v := by
  have key : ∀ v : Fin 256, (Int8.ofNat v.1).toInt32 = sgb v.1 := by decide +kernel
  exact key ⟨v, h⟩
theorem cbyte (w : Int64) : w.toInt32.toInt8.toInt32.toInt8.toInt32 = sgb (by8 w) := by
  have e1 : w.toInt32.toInt8.toInt32.toInt8 = w.toInt32.toInt8 := by simp
  rw [e1, ← sgb_8 (by8_lt w)]
  refine congrArg Int8.toInt32 ?_
  refine Int8.toBitVec_inj.mp (BitVec.eq_of_toNat_eq ?_)
  have h1 : w.toInt32.toInt8.toBitVec.toNat = w.toBitVec.toNat % 256 := by
    have : w.toInt32.toInt8.toBitVec = w.toBitVec.signExtend 8 := by simp
    rw [this, BitVec.signExtend_eq_setWidth_of_le _ (by omega), BitVec.toNat_setWidth]
  rw [h1]
  have : (Int8.ofNat (by8 w)).toBitVec.toNat = by8 w % 2 ^ 8 := rfl
  rw [this]
  unfold by8
  omega
section FEED
variable {σc σm : Sg}
def fC (k j : Nat) : Prop := (k = 20 ∧ j = 0) ∨ k = 21
def fM (k j : Nat) : Prop := (k = 0 ∧ j = 6) ∨ k = 5
def bq (w : Int64) (i : Nat) : Nat := by8 (w >>> ((nI (8 * i)).toInt64 &&& 63))
theorem R.tape {τc τm : Sg} (h : R σc σm) (a : ag fC σc τc) (b : ag fM σm τm) (q : RT τc τm) : R τc τm := by
  obtain ⟨⟨n, ha⟩, h1, -, h3, h4, h5, h6⟩ := h
  refine ⟨⟨n, ?_⟩, ?_, q, ?_, ?_, ?_, ?_⟩
  · exact ha.fr a b (fun j => by simp [fC]) (fun j => by simp [fC]) (fun j => by simp [fC]) (fun o j ho => by simp [fC]; omega) (fun j _ => by simp [fM])
  · exact h1.fr a b (by simp [fC]) (fun j => by simp [fC]) (fun j => by simp [fC]) (fun j => by simp [fC]) (fun o j ho => by simp [fC]; omega) (by simp [fM]) (fun j _ => by simp [fM])
  · exact h3.fr a b (by simp [fC]) (fun j => by simp [fC]) (by simp [fM]) (fun j => by simp [fM])
  · exact h4.fr a b (fun j => by simp [fC]) (fun j => by simp [fC]) (fun j => by simp [fM]) (fun j => by simp [fM]) (fun j => by simp [fM])
  · exact h5.fr a b (fun j => by simp [fC]) (fun j => by simp [fC]) (fun j => by simp [fC]) (fun j => by simp [fM]) (fun j => by simp [fM]) (fun j => by simp [fM])
  · exact h6.fr a b (by simp [fC]) (fun j => by simp [fC]) (by simp [fM]) (fun j => by simp [fM])
theorem ctakes {t m : Nat} {w : Int64} (hm : m ≤ 8) (ht : t + m ≤ 200) (e : rd_ σc 20 0 = nI t) : ∃ τ, ag fC σc τ ∧ rd_ τ 20 0 = nI (t + m) ∧ (∀ q, q < t → rd_ τ 21 q = rd_ σc 21 q) ∧ (∀ q, q < m → rd_ τ 21 (t + q) = sgb (bq w q)) ∧ C8_takes_0 σc w (nI m) = some (nI 1, τ) := by
  have key := li4 (F := C8_takes_21) (z := fun _ _ _ _ => none) m (fun i τ x1 x3 x4 => ag fC σc τ ∧ rd_ τ 20 0 = nI (t + i) ∧ (∀ q, q < t → rd_ τ 21 q = rd_ σc 21 q) ∧ (∀ q, q < i → rd_ τ 21 (t + q) = sgb (bq w q)) ∧ x1 = w ∧ x3 = nI m ∧ x4 = nI i) (fun b => b.1 = nI 1 ∧ ag fC σc b.2 ∧ rd_ b.2 20 0 = nI (t + m) ∧ (∀ q, q < t → rd_ b.2 21 q = rd_ σc 21 q) ∧ (∀ q, q < m → rd_ b.2 21 (t + q) = sgb (bq w q))) σc w (nI m) (nI 0) ⟨ag.rf, e, fun _ _ => rfl, fun q hq => absurd hq (by omega), rfl, rfl, rfl⟩ ?_ ?_ (FU_gt (N := m) (by omega))
  · obtain ⟨⟨r, τ⟩, ⟨b1, b2, b3, b4, b5⟩, hb⟩ := key
    dsimp only at b1 b2 b3 b4 b5
    subst b1
    refine ⟨τ, b2, b3, b4, b5, ?_⟩
    unfold C8_takes_0
    rw [if_neg (nI_pos (by omega)), e, show (200 : Int32) - nI t = nI (200 - t) from pk_sub (a := 200) (by omega), if_pos (nI_le (by omega) (by omega))]
    exact hb
  · rintro K i τ x1 x3 x4 hi ⟨a, e0, w1, w2, rfl, rfl, rfl⟩
    refine Or.inl ⟨wr_ (wr_ τ 21 (t + i) (sgb (bq x1 i))) 20 0 (nI (t + (i + 1))), x1, nI m, nI (i + 1), ⟨(a.wr (Or.inr rfl)).wr (Or.inl ⟨rfl, rfl⟩), rd_same _ _ _ _, fun q hq => ?_, fun q hq => ?_, rfl, rfl, rfl⟩, ?_⟩
    · rw [rd_k (by omega), rd_j (by omega)]; exact w1 q hq
    · rw [rd_k (by omega), rd_wr]
      by_cases c : q = i
      · subst c; rw [if_pos ⟨rfl, rfl⟩]
      · rw [if_neg (by omega)]; exact w2 q (by omega)
    · unfold C8_takes_21 C8_takes_58
      rw [if_neg (nI_ge hi (by omega)), e0, show (199 : Int32) = nI 199 from rfl, cw1 (by omega) (by omega), bp_some, if_neg (by decide), in_nI (by omega) (by omega), gd_tt, nI_clamp (by omega), lt_eq, lt_eq, lt_eq, rd_k (by omega), e0, show (8 : Int32) = nI 8 from rfl, pk_mul, show (1 : Int32) = nI 1 from rfl, nI_add, nI_add, cbyte, Nat.add_assoc]
      rfl
  · rintro K τ x1 x3 x4 ⟨a, e0, w1, w2, rfl, rfl, rfl⟩
    refine ⟨(nI 1, τ), ⟨rfl, a, e0, w1, w2⟩, ?_⟩
    unfold C8_takes_21
    rw [if_pos (Int32.le_refl _)]
    rfl
theorem mfeeds {t m : Nat} {w : Int64} (hm : m ≤ 8) (ht : t + m ≤ 200) (e : rd_ σm 0 6 = nI t) : ∃ τ, ag fM σm τ ∧ rd_ τ 0 6 = nI (t + m) ∧ (∀ q, q < t → rd_ τ 5 q = rd_ σm 5 q) ∧ (∀ q, q < m → rd_ τ 5 (t + q) = nI (bq w q)) ∧ lp_ M_feed_32 (fun _ _ _ _ => none) FU σm w (nI m) (nI 0) = some (nI (t + m), τ) := by
  have key := li4 (F := M_feed_32) (z := fun _ _ _ _ => none) m (fun i τ x1 x3 x4 => ag fM σm τ ∧ rd_ τ 0 6 = nI (t + i) ∧ (∀ q, q < t → rd_ τ 5 q = rd_ σm 5 q) ∧ (∀ q, q < i → rd_ τ 5 (t + q) = nI (bq w q)) ∧ x1 = w ∧ x3 = nI m ∧ x4 = nI i) (fun b => b.1 = nI (t + m) ∧ ag fM σm b.2 ∧ rd_ b.2 0 6 = nI (t + m) ∧ (∀ q, q < t → rd_ b.2 5 q = rd_ σm 5 q) ∧ (∀ q, q < m → rd_ b.2 5 (t + q) = nI (bq w q))) σm w (nI m) (nI 0) ⟨ag.rf, e, fun _ _ => rfl, fun q hq => absurd hq (by omega), rfl, rfl, rfl⟩ ?_ ?_ (FU_gt (N := m) (by omega))
  · obtain ⟨⟨r, τ⟩, ⟨b1, b2, b3, b4, b5⟩, hb⟩ := key
    dsimp only at b1 b2 b3 b4 b5
    subst b1
    exact ⟨τ, b2, b3, b4, b5, hb⟩
  · rintro K i τ x1 x3 x4 hi ⟨a, e0, w1, w2, rfl, rfl, rfl⟩
    refine Or.inl ⟨wr_ (wr_ τ 5 (t + i) (nI (bq x1 i))) 0 6 (nI (t + (i + 1))), x1, nI m, nI (i + 1), ⟨(a.wr (Or.inr rfl)).wr (Or.inl ⟨rfl, rfl⟩), rd_same _ _ _ _, fun q hq => ?_, fun q hq => ?_, rfl, rfl, rfl⟩, ?_⟩
    · rw [rd_k (by omega), rd_j (by omega)]; exact w1 q hq
    · rw [rd_k (by omega), rd_wr]
      by_cases c : q = i
      · subst c; rw [if_pos ⟨rfl, rfl⟩]
      · rw [if_neg (by omega)]; exact w2 q (by omega)
    · unfold M_feed_32
      rw [if_neg (nI_ge hi (by omega)), e0, in_nI (by omega) (by omega), gd_tt, nI_clamp (by omega), lt_eq, lt_eq, lt_eq, rd_k (by omega), e0, show (8 : Int32) = nI 8 from rfl, pk_mul, show (1 : Int32) = nI 1 from rfl, nI_add, nI_add, mbyte, Nat.add_assoc]
      rfl
  · rintro K τ x1 x3 x4 ⟨a, e0, w1, w2, rfl, rfl, rfl⟩
    refine ⟨(nI (t + m), τ), ⟨rfl, a, e0, w1, w2⟩, ?_⟩
    unfold M_feed_32
    rw [if_pos (Int32.le_refl _), e0]
theorem eq_feed (h : R σc σm) (x1 : Int64) (x3 : Int32) : eqv (C_feed_0 σc x1 x3) (M_feed_0 σm x1 x3) := by
  obtain ⟨t, ht, ec, em, w⟩ := h.2.2.1
  rcases below1 (v := x3) (b := 8) (by omega) with ⟨m, h1, h2, rfl⟩ | hv
  · by_cases c : t + m ≤ 200
    · obtain ⟨τc, a1, a2, a3, a4, a5⟩ := ctakes (w := x1) h2 c ec
      obtain ⟨τm, b1, b2, b3, b4, b5⟩ := mfeeds (w := x1) h2 c em
      refine ⟨nI (t + m), τc, τm, ?_, ?_, R.tape h a1 b1 ⟨t + m, c, a2, b2, fun i hi => ?_⟩⟩
      · simp (disch := omega) only [C_feed_0, lit, nI_ltI, if_neg, nI_leI, if_pos, a5, bi_some, nI_eq, a2]
      · unfold M_feed_0
        rw [show (1 : Int64) = lN 1 from rfl, show (8 : Int64) = lN 8 from rfl, mi1 h1 h2 (by omega), bp_some, if_neg (by decide), em, nI_add, show (200 : Int32) = nI 200 from rfl, if_pos (nI_le c (by omega))]
        exact b5
      · by_cases d : i < t
        · rw [a3 i d, b3 i d]; exact w i d
        · obtain ⟨q, rfl⟩ : ∃ q, i = t + q := ⟨i - t, by omega⟩
          rw [a4 q (by omega), b4 q (by omega)]
          exact ⟨bq x1 q, by8_lt _, rfl, rfl⟩
    · refine ⟨-2, σc, σm, ?_, ?_, h⟩
      · have e2 : C8_takes_0 σc x1 (nI m) = some (nI 0, σc) := by
          unfold C8_takes_0
          rw [if_neg (nI_pos (by omega)), ec, show (200 : Int32) - nI t = nI (200 - t) from pk_sub (a := 200) (by omega), if_neg (nI_ge (by omega) (by omega))]
          rfl
        simp (disch := omega) only [C_feed_0, lit, nI_ltI, if_neg, nI_leI, if_pos, e2, bi_some, if_true]
      · unfold M_feed_0
        rw [show (1 : Int64) = lN 1 from rfl, show (8 : Int64) = lN 8 from rfl, mi1 h1 h2 (by omega), bp_some, if_neg (by decide), em, nI_add, show (200 : Int32) = nI 200 from rfl, if_neg (nI_ge (by omega) (by omega))]
  · refine ⟨-1, σc, σm, ?_, ?_, h⟩
    · rcases hv with hv | hv
      · simp only [C_feed_0, lit, if_pos hv]
      · by_cases c : x3 < nI 1
        · simp only [C_feed_0, lit, if_pos c]
        · simp only [C_feed_0, lit, if_neg c, if_neg (Int32.not_le.mpr hv)]
    · simp (disch := omega) only [M_feed_0, lit, litL, mi0 (by omega) (by omega) hv, bp_some, if_true]
end FEED
