/-! rows of years -/
theorem lp300 {γ : Type} (F : γ → γ) (z : γ) : lp_ F z FU = F (F (F (F (lp_ F z 296)))) := rfl
section ROWS
variable {σc σm : Sg}
theorem isR (h : RW σc σm) (x1 x2 : Int32) : (∃ i w, i < 10 ∧ w < 3 ∧ x1 = nI i ∧ x2 = nI w ∧ C_isInRows_0 σc x1 x2 = some (nI 1, σc) ∧ M_isRow_0 σm x1 x2 = some (nI 1, σm)) ∨ (C_isInRows_0 σc x1 x2 = some (nI 0, σc) ∧ M_isRow_0 σm x1 x2 = some (nI 0, σm)) := by
  obtain ⟨k, hk, e1, e2, e3⟩ := h
  by_cases k0 : k = 0
  · subst k0
    right
    have em : nI 0 - nI 1 = m1 := rfl
    have hc : C_within_0 x1 m1 = some (nI 0) := by
      by_cases c : x1 < 0
      · exact cw0' (Or.inl c)
      · obtain ⟨j, hj, rfl⟩ := nI_of c
        exact cw0' (Or.inr (m1_lt hj))
    have hm : M_isIn_0 x1.toInt64 (lN 0) m1.toInt64 = some (nI 0) := by
      unfold M_isIn_0
      by_cases c : x1 < 0
      · have : x1.toInt64 < lN 0 := by rw [← wide 0 (by omega)]; exact (Int32.toInt64_lt).mpr c
        rw [lc_lt this, if_pos (by decide)]; rfl
      · obtain ⟨j, hj, rfl⟩ := nI_of c
        have hg : m1.toInt64 < (nI j).toInt64 := (Int32.toInt64_lt).mpr (m1_lt hj)
        rw [lc_gt hg]
        by_cases d : lg_cmp (nI j).toInt64 (lN 0) < 0
        · rw [if_pos d]; rfl
        · rw [if_neg d, if_pos (by decide)]; rfl
    constructor
    · simp only [C_isInRows_0, e1, lit, em, hc, bp_some, if_true]
    · simp only [M_isRow_0, e2, lit, litL, em, hm, bp_some, if_true]
  · have eb : nI k - nI 1 = nI (k - 1) := pk_sub (by omega)
    have ew : (nI (k - 1)).toInt64 = lN (k - 1) := wide _ (by omega)
    rcases rng x1 (k - 1) (by omega) with ⟨i, hi, rfl⟩ | hv
    · rcases rng x2 2 (by omega) with ⟨w, hw, rfl⟩ | hv
      · left
        refine ⟨i, w, by omega, by omega, rfl, rfl, ?_, ?_⟩
        · simp (disch := omega) only [C_isInRows_0, e1, lit, eb, cw1, bp_some, nI_eq, if_neg]
        · simp (disch := omega) only [M_isRow_0, e2, lit, litL, eb, ew, mi1, bp_some, nI_eq, if_neg]
      · right
        constructor
        · simp (disch := omega) only [C_isInRows_0, e1, lit, eb, cw1, cw0 hv, bp_some, nI_eq, if_neg, if_true]
        · simp (disch := omega) only [M_isRow_0, e2, lit, litL, eb, ew, mi1, mi0 (by omega) (by omega) (neg_any hv), bp_some, nI_eq, if_neg, if_true]
    · right
      constructor
      · simp (disch := omega) only [C_isInRows_0, e1, lit, eb, cw0 hv, bp_some, if_true]
      · simp (disch := omega) only [M_isRow_0, e2, lit, litL, eb, ew, mi0 (by omega) (by omega) (neg_any hv), bp_some, if_true]
theorem eq_row (h : R σc σm) (x1 x2 : Int32) : eqv (C_row_0 σc x1 x2) (M_row_0 σm x1 x2) := by
  have hw := h.2.2.2.1
  rcases isR hw x1 x2 with ⟨i, w, hi, h3, rfl, rfl, h1, h2⟩ | ⟨h1, h2⟩
  · obtain ⟨k, hk, e1, e2, e3⟩ := hw
    refine ⟨rd_ σc 31 (3 * i + w), σc, σm, ?_, ?_, h⟩
    · have : i * 3 + w = 3 * i + w := by omega
      simp (disch := omega) only [C_row_0, h1, bi_some, lit, nI_eq, if_neg, pk_mul, nI_add, lt_eq, this, in_nI, gd_tt, nI_clamp]
    · simp (disch := omega) only [M_row_0, h2, bi_some, lit, nI_eq, if_neg, pk_mul, nI_add, lt_eq, in_nI, gd_tt, nI_clamp, e3]
  · refine ⟨-9, σc, σm, ?_, ?_, h⟩
    · simp only [C_row_0, h1, bi_some, lit, if_true]
    · simp only [M_row_0, h2, bi_some, lit, if_true]
theorem eq_alterRow (h : R σc σm) (x1 x2 x3 : Int32) : eqv (C_alterRow_0 σc x1 x2 x3) (M_alterRow_0 σm x1 x2 x3) := by
  have hw := h.2.2.2.1
  rcases isR hw x1 x2 with ⟨i, w, hi, h3, rfl, rfl, h1, h2⟩ | ⟨h1, h2⟩
  · obtain ⟨⟨n, ha⟩, q1, q2, -, q4, q5, q6⟩ := h
    obtain ⟨k, hk, e1, e2, e3⟩ := hw
    have a : ag (fun k _ => k = 31) σc (wr_ σc 31 (3 * i + w) x3) := ag.rf.wr rfl
    have b : ag (fun k _ => k = 8) σm (wr_ σm 8 (3 * i + w) x3) := ag.rf.wr rfl
    refine ⟨rd_ σc 31 (3 * i + w), wr_ σc 31 (3 * i + w) x3, wr_ σm 8 (3 * i + w) x3, ?_, ?_, ⟨n, ?_⟩, ?_, ?_, ?_, ?_, ?_, ?_⟩
    · have : i * 3 + w = 3 * i + w := by omega
      simp (disch := omega) only [C_alterRow_0, h1, bi_some, lit, nI_eq, if_neg, pk_mul, nI_add, lt_eq, this, in_nI, gd_tt, nI_clamp]
    · simp (disch := omega) only [M_alterRow_0, h2, bi_some, lit, nI_eq, if_neg, pk_mul, nI_add, lt_eq, in_nI, gd_tt, nI_clamp, e3]
    · exact ha.fr a b (fun j => by omega) (fun j => by omega) (fun j => by omega) (fun o j ho => by omega) (fun j _ => by omega)
    · exact q1.fr a b (by omega) (fun j => by omega) (fun j => by omega) (fun j => by omega) (fun o j ho => by omega) (by omega) (fun j _ => by omega)
    · exact q2.fr a b (by omega) (fun j => by omega) (by omega) (fun j => by omega)
    · refine ⟨k, hk, by rw [rd_k (by omega)]; exact e1, by rw [rd_k (by omega)]; exact e2, fun q hq => ?_⟩
      rw [rd_wr, rd_wr]
      by_cases c : q = 3 * i + w
      · rw [if_pos ⟨rfl, c⟩, if_pos ⟨rfl, c⟩]
      · rw [if_neg (fun z => c z.2), if_neg (fun z => c z.2)]; exact e3 q hq
    · exact q4.fr a b (fun j => by omega) (fun j => by omega) (fun j => by omega) (fun j => by omega) (fun j => by omega)
    · exact q5.fr a b (fun j => by omega) (fun j => by omega) (fun j => by omega) (fun j => by omega) (fun j => by omega) (fun j => by omega)
    · exact q6.fr a b (by omega) (fun j => by omega) (by omega) (fun j => by omega)
  · refine ⟨-9, σc, σm, ?_, ?_, h⟩
    · simp only [C_alterRow_0, h1, bi_some, lit, if_true]
    · simp only [M_alterRow_0, h2, bi_some, lit, if_true]
/-- what a row tells -/
def rv (n : Nat) (g : Nat → Int32) (o q : Nat) : Int32 := if q % 3 = 0 then gN n g (q / 3 + 1) (16 + 6 * o + 1) else if q % 3 = 1 then gN n g (q / 3 + 1) (16 + 6 * o + 4) else nI (dd (gN n g (q / 3 + 1)) o)
theorem rv0 {n : Nat} {g : Nat → Int32} {o i : Nat} : rv n g o (3 * i) = gN n g (i + 1) (16 + 6 * o + 1) := by
  unfold rv
  rw [if_pos (by omega), show 3 * i / 3 = i by omega]
theorem rv1 {n : Nat} {g : Nat → Int32} {o i : Nat} : rv n g o (3 * i + 1) = gN n g (i + 1) (16 + 6 * o + 4) := by
  unfold rv
  rw [if_neg (by omega), if_pos (by omega), show (3 * i + 1) / 3 = i by omega]
theorem rv2 {n : Nat} {g : Nat → Int32} {o i : Nat} : rv n g o (3 * i + 2) = nI (dd (gN n g (i + 1)) o) := by
  unfold rv
  rw [if_neg (by omega), if_neg (by omega), show (3 * i + 2) / 3 = i by omega]
theorem toldT {τ : Sg} {g : Nat → Int32} {n o i c : Nat} (hg : gr g n) (ho : o < n) (hl : cL τ 24 (gN n g (i + 1)) o) (hc : c < 3) : C_toldOfTried_0 τ (nI c) = some (rv n g o (3 * i + c), τ) := by
  have : c = 0 ∨ c = 1 ∨ c = 2 := by omega
  rcases this with rfl | rfl | rfl
  · rw [Nat.add_zero, rv0]
    simp only [C_toldOfTried_0, lit, if_true, hl 1 (by omega)]
  · rw [rv1]
    simp (disch := omega) only [C_toldOfTried_0, lit, nI_eq, if_neg, if_true, hl 4 (by omega)]
  · rw [rv2]
    simp (disch := omega) only [C_toldOfTried_0, lit, nI_eq, if_neg, cdist (j := 24) (by omega) (gr_gN hg (i + 1)) ho hl, bi_some]
def sP (k _ : Nat) : Prop := k = 34 + 24 ∨ k = 31
theorem cprove {n o m : Nat} (ha : RA σc σm n) (ho : o < n) (h1 : 1 ≤ m) (h2 : m ≤ 10) : ∃ τ, ag (fun k j => sP k j ∨ (k = 0 ∧ j = 10)) σc τ ∧ rd_ τ 0 10 = nI m ∧ (∀ q, q < 3 * m → rd_ τ 31 q = rv n (σm.1 1) o q) ∧ (∀ q, 3 * m ≤ q → rd_ τ 31 q = rd_ σc 31 q) ∧ C_prove_0 σc (nI o) (nI m) = some (nI m, τ) := by
  have hn := ha.1.2.1
  have hg := ha.1
  simp (disch := omega) only [C_prove_0, lifeY ha ho, bi_some, on_S, lit, nI_ltI, if_neg, nI_leI, if_pos, cbecome]
  have key := li3 (F := C_prove_37) (z := fun _ _ _ => none) m (fun i τ x2 x4 => ag sP σc τ ∧ cL τ 24 (gN n (σm.1 1) i) o ∧ (∀ q, q < 3 * i → rd_ τ 31 q = rv n (σm.1 1) o q) ∧ (∀ q, 3 * i ≤ q → rd_ τ 31 q = rd_ σc 31 q) ∧ x2 = nI m ∧ x4 = nI i) (fun b => b.1 = nI m ∧ ag (fun k j => sP k j ∨ (k = 0 ∧ j = 10)) σc b.2 ∧ rd_ b.2 0 10 = nI m ∧ (∀ q, q < 3 * m → rd_ b.2 31 q = rv n (σm.1 1) o q) ∧ (∀ q, 3 * m ≤ q → rd_ b.2 31 q = rd_ σc 31 q)) (bm σc o) (nI m) (nI 0) ⟨bm_ag.mo (fun _ _ q => Or.inl q), cL_bm (ha.cL ho), fun q hq => absurd hq (by omega), fun q _ => bm_ag.1 _ _ (by unfold s58; omega), rfl, rfl⟩ ?_ ?_ (FU_gt (N := m) (by omega))
  · obtain ⟨⟨r, τ⟩, ⟨b1, b2, b3, b4, b5⟩, hb⟩ := key
    dsimp only at b1 b2 b3 b4 b5
    subst b1
    exact ⟨τ, b2, b3, b4, b5, hb⟩
  · rintro K i τ x2 x4 hi ⟨a, l, w1, w2, rfl, rfl⟩
    have e : cE τ (gN n (σm.1 1) i) := by
      obtain ⟨e1, e2, e3⟩ := ha.cE
      exact ⟨by rw [a.1 _ _ (by unfold sP; omega), gN_lo (by omega) (by omega)]; exact e1, fun q hq => by rw [a.1 _ _ (by unfold sP; omega), gN_lo (by omega) (by omega)]; exact e2 q hq, fun q hq => by rw [a.1 _ _ (by unfold sP; omega), gN_lo (by omega) (by omega)]; exact e3 q hq⟩
    have y : rd_ τ 1 4 + nI i = gN n (σm.1 1) i 1 := by rw [a.1 _ _ (by unfold sP; omega), gN_1, ha.yr1]
    have st := cstep (j := 24) (by omega) (gr_gN hg i) ho e l
    have l1 : cL (pa τ 24 (tG (gN n (σm.1 1) i) o) (up1 (N_ (gN n (σm.1 1) i) (16 + 6 * o + 4)))) 24 (gN n (σm.1 1) (i + 1)) o := cL_pa ho l
    have a1 : ag sP σc (pa τ 24 (tG (gN n (σm.1 1) i) o) (up1 (N_ (gN n (σm.1 1) i) (16 + 6 * o + 4)))) := a.tr (pa_ag (Or.inl rfl) (Or.inl rfl))
    have p31 : ∀ q, rd_ (pa τ 24 (tG (gN n (σm.1 1) i) o) (up1 (N_ (gN n (σm.1 1) i) (16 + 6 * o + 4)))) 31 q = rd_ τ 31 q := fun q => by unfold pa; rw [rd_k (by omega), rd_k (by omega)]
    generalize pa τ 24 (tG (gN n (σm.1 1) i) o) (up1 (N_ (gN n (σm.1 1) i) (16 + 6 * o + 4))) = τ1 at st l1 a1 p31
    have wl : ∀ {υ : Sg} {q : Nat} {v : Int32}, cL υ 24 (gN n (σm.1 1) (i + 1)) o → cL (wr_ υ 31 q v) 24 (gN n (σm.1 1) (i + 1)) o := fun hl w hw => by rw [rd_k (by omega)]; exact hl w hw
    refine Or.inl ⟨wr_ (wr_ (wr_ τ1 31 (i * 3 + 0) (rv n (σm.1 1) o (3 * i + 0))) 31 (i * 3 + 1) (rv n (σm.1 1) o (3 * i + 1))) 31 (i * 3 + 2) (rv n (σm.1 1) o (3 * i + 2)), nI m, nI (i + 1), ⟨((a1.wr (Or.inr rfl)).wr (Or.inr rfl)).wr (Or.inr rfl), wl (wl (wl l1)), fun q hq => ?_, fun q hq => ?_, rfl, rfl⟩, ?_⟩
    · rw [rd_wr, rd_wr, rd_wr]
      by_cases c2 : q = i * 3 + 2
      · rw [if_pos ⟨rfl, c2⟩]; exact congrArg _ (by omega)
      · rw [if_neg (fun z => c2 z.2)]
        by_cases c1 : q = i * 3 + 1
        · rw [if_pos ⟨rfl, c1⟩]; exact congrArg _ (by omega)
        · rw [if_neg (fun z => c1 z.2)]
          by_cases c0 : q = i * 3 + 0
          · rw [if_pos ⟨rfl, c0⟩]; exact congrArg _ (by omega)
          · rw [if_neg (fun z => c0 z.2), p31]; exact w1 q (by omega)
    · rw [rd_j (by omega), rd_j (by omega), rd_j (by omega), p31]; exact w2 q (by omega)
    · unfold C_prove_37
      rw [if_neg (nI_ge hi (by omega)), y, st, bi_some, lp300]
      simp (disch := omega) only [C_prove_67, lit, nI_leI, if_neg, nI_add, pk_mul]
      rw [toldT hg ho l1 (by omega), bi_some, in_nI (by omega) (by omega), gd_tt, lt_eq, lt_eq, nI_clamp (by omega)]
      simp (disch := omega) only [C_prove_67, lit, nI_leI, if_neg, nI_add, pk_mul]
      rw [toldT hg ho (wl l1) (by omega), bi_some, in_nI (by omega) (by omega), gd_tt, lt_eq, lt_eq, nI_clamp (by omega)]
      simp (disch := omega) only [C_prove_67, lit, nI_leI, if_neg, nI_add, pk_mul]
      rw [toldT hg ho (wl (wl l1)) (by omega), bi_some, in_nI (by omega) (by omega), gd_tt, lt_eq, lt_eq, nI_clamp (by omega)]
      simp (disch := omega) only [C_prove_67, lit, nI_leI, if_pos, nI_add, lt_eq]
  · rintro K τ x2 x4 ⟨a, l, w1, w2, rfl, rfl⟩
    refine ⟨(nI m, wr_ τ 0 10 (nI m)), ⟨rfl, (a.mo (fun _ _ q => Or.inl q)).wr (Or.inr ⟨rfl, rfl⟩), rd_same _ _ _ _, fun q hq => ?_, fun q hq => ?_⟩, ?_⟩
    · rw [rd_k (by omega)]; exact w1 q hq
    · rw [rd_k (by omega)]; exact w2 q hq
    · unfold C_prove_37
      rw [if_pos (Int32.le_refl _), lt_eq]
theorem mprove {n o m : Nat} (ha : RA σc σm n) (ho : o < n) (h1 : 1 ≤ m) (h2 : m ≤ 10) : ∃ τ, ag (fun k j => sM k j ∨ k = 8 ∨ (k = 0 ∧ j = 15)) σm τ ∧ rd_ τ 0 15 = nI m ∧ (∀ q, q < 3 * m → rd_ τ 8 q = rv n (σm.1 1) o q) ∧ (∀ q, 3 * m ≤ q → rd_ τ 8 q = rd_ σm 8 q) ∧ M_prove_0 σm (nI o) (nI m) = some (nI m, τ) := by
  have hn := ha.1.2.1
  have hg := ha.1
  simp (disch := omega) only [M_prove_0, oneY ha ho, bi_some, lit, litL, mi1, bp_some, nI_eq, if_neg]
  rw [copyRow_1_3, bi_some, ← asd]
  have key := li4 (F := M_prove_35) (z := fun _ _ _ _ => none) m (fun i τ x1 x2 x3 => ag (fun k j => aM k j ∨ k = 8) σm τ ∧ τ.1 1 = gN n (σm.1 1) i ∧ τ.1 3 = fl (σm.1 1) (σm.1 3) 64 ∧ (∀ q, q < 3 * i → rd_ τ 8 q = rv n (σm.1 1) o q) ∧ (∀ q, 3 * i ≤ q → rd_ τ 8 q = rd_ σm 8 q) ∧ x1 = nI o ∧ x2 = nI m ∧ x3 = nI i) (fun b => b.1 = nI m ∧ ag (fun k j => sM k j ∨ k = 8 ∨ (k = 0 ∧ j = 15)) σm b.2 ∧ rd_ b.2 0 15 = nI m ∧ (∀ q, q < 3 * m → rd_ b.2 8 q = rv n (σm.1 1) o q) ∧ (∀ q, 3 * m ≤ q → rd_ b.2 8 q = rd_ σm 8 q)) (asd σm) (nI o) (nI m) (nI 0) ⟨(asd_ag (S := fun k j => aM k j ∨ k = 8) (fun j => by simp [aM, sM])), asd_1 _, by unfold asd; rw [st_same], fun q hq => absurd hq (by omega), fun q _ => rd_stk (by omega), rfl, rfl, rfl⟩ ?_ ?_ (FU_gt (N := m) (by omega))
  · obtain ⟨⟨r, τ⟩, ⟨b1, b2, b3, b4, b5⟩, hb⟩ := key
    dsimp only at b1 b2 b3 b4 b5
    subst b1
    exact ⟨τ, b2, b3, b4, b5, hb⟩
  · rintro K i τ x1 x2 x3 hi ⟨a, r1, r3, w1, w2, rfl, rfl, rfl⟩
    have hgi : gr (τ.1 1) n := by rw [r1]; exact gr_gN hg i
    have rr : ∀ {υ : Sg} {q : Nat} {v : Int32}, υ.1 1 = gN n (σm.1 1) (i + 1) → (wr_ υ 8 q v).1 1 = gN n (σm.1 1) (i + 1) := fun h => by rw [row_k (by omega)]; exact h
    have q0 : (st_ τ 1 (gN n (σm.1 1) (i + 1))).1 1 = gN n (σm.1 1) (i + 1) := st_same _ _ _
    refine Or.inl ⟨wr_ (wr_ (wr_ (st_ τ 1 (gN n (σm.1 1) (i + 1))) 8 (3 * i) (rv n (σm.1 1) o (3 * i))) 8 (3 * i + 1) (rv n (σm.1 1) o (3 * i + 1))) 8 (3 * i + 2) (rv n (σm.1 1) o (3 * i + 2)), nI o, nI m, nI (i + 1), ⟨?_, rr (rr (rr q0)), ?_, fun q hq => ?_, fun q hq => ?_, rfl, rfl, rfl⟩, ?_⟩
    · exact (((a.st (fun j => Or.inl (Or.inl (Or.inr rfl)))).wr (Or.inr rfl)).wr (Or.inr rfl)).wr (Or.inr rfl)
    · rw [row_k (by omega), row_k (by omega), row_k (by omega), st_k (by omega)]; exact r3
    · rw [rd_wr, rd_wr, rd_wr]
      by_cases c2 : q = 3 * i + 2
      · rw [if_pos ⟨rfl, c2⟩, c2]
      · rw [if_neg (fun z => c2 z.2)]
        by_cases c1 : q = 3 * i + 1
        · rw [if_pos ⟨rfl, c1⟩, c1]
        · rw [if_neg (fun z => c1 z.2)]
          by_cases c0 : q = 3 * i
          · rw [if_pos ⟨rfl, c0⟩, c0]
          · rw [if_neg (fun z => c0 z.2), rd_stk (by omega)]; exact w1 q (by omega)
    · rw [rd_j (by omega), rd_j (by omega), rd_j (by omega), rd_stk (by omega)]; exact w2 q (by omega)
    · have e1 : M_its_0 (st_ τ 1 (gN n (σm.1 1) (i + 1))) (nI o) (nI 1) = some (rv n (σm.1 1) o (3 * i), st_ τ 1 (gN n (σm.1 1) (i + 1))) := by
        rw [itsY (by omega) (by omega), rd_row, q0, rv0]
      have e2 : ∀ {υ : Sg}, υ.1 1 = gN n (σm.1 1) (i + 1) → M_its_0 υ (nI o) (nI 4) = some (rv n (σm.1 1) o (3 * i + 1), υ) := fun h => by
        rw [itsY (by omega) (by omega), rd_row, h, rv1]
      have e3 : ∀ {υ : Sg}, υ.1 1 = gN n (σm.1 1) (i + 1) → M_farNow_0 υ (nI o) = some (rv n (σm.1 1) o (3 * i + 2), υ) := fun {υ} h => by
        rw [mdist (n := n) (by rw [h]; exact gr_gN hg (i + 1)) ho, h, rv2]
      have eg : gO n (τ.1 1) = gN n (σm.1 1) (i + 1) := by rw [r1]; rfl
      unfold M_prove_35
      rw [if_neg (nI_ge hi (by omega)), mgoesOn hgi, bi_some, eg]
      simp (disch := omega) only [lit, e1, bi_some, pk_mul, nI_add, in_nI, gd_tt, nI_clamp, lt_eq, e2 (rr q0), e3 (rr (rr q0))]
  · rintro K τ x1 x2 x3 ⟨a, r1, r3, w1, w2, rfl, rfl, rfl⟩
    have er : fl (τ.1 3) (τ.1 1) 64 = σm.1 1 := by
      funext j
      unfold fl
      by_cases c : j < 64
      · rw [if_pos c, r3, fl, if_pos c]
      · rw [if_neg c, r1]; exact gN_hi hn (by omega) m
    refine ⟨(nI m, wr_ (st_ τ 1 (σm.1 1)) 0 15 (nI m)), ⟨rfl, ?_, rd_same _ _ _ _, fun q hq => ?_, fun q hq => ?_⟩, ?_⟩
    · refine ⟨fun k j hk => ?_, fun i => a.2 i⟩
      dsimp only
      rw [rd_wr, if_neg (fun q => hk (Or.inr (Or.inr q)))]
      by_cases c : k = 1
      · subst c; rw [rd_st]; rfl
      · rw [rd_stk c]; exact a.1 k j (fun z => hk (by rcases z with (z | z) | z; exact Or.inl z; exact absurd z c; exact Or.inr (Or.inl z)))
    · rw [rd_k (by omega), rd_stk (by omega)]; exact w1 q hq
    · rw [rd_k (by omega), rd_stk (by omega)]; exact w2 q hq
    · unfold M_prove_35
      rw [if_pos (Int32.le_refl _), copyRow_3_1, er, bi_some, lt_eq]
end ROWS
