/-! sheets -/
theorem idx {z : Nat} (hz : z < 2 ^ 30) (x : Int32) : (∃ i, i < z ∧ x = nI i ∧ C_within_0 x (nI z - nI 1) = some (nI 1) ∧ M_isIn_0 x.toInt64 (lN 0) (nI z - nI 1).toInt64 = some (nI 1)) ∨ ((x < 0 ∨ nI z ≤ x) ∧ C_within_0 x (nI z - nI 1) = some (nI 0) ∧ M_isIn_0 x.toInt64 (lN 0) (nI z - nI 1).toInt64 = some (nI 0)) := by
  by_cases k0 : z = 0
  · subst k0
    right
    have em : nI 0 - nI 1 = m1 := rfl
    rw [em]
    refine ⟨?_, ?_, ?_⟩
    · by_cases c : x < 0
      · exact Or.inl c
      · obtain ⟨j, hj, rfl⟩ := nI_of c
        exact Or.inr (nI_le (by omega) hj)
    · by_cases c : x < 0
      · exact cw0' (Or.inl c)
      · obtain ⟨j, hj, rfl⟩ := nI_of c
        exact cw0' (Or.inr (m1_lt hj))
    · unfold M_isIn_0
      by_cases c : x < 0
      · have : x.toInt64 < lN 0 := by rw [← wide 0 (by omega)]; exact (Int32.toInt64_lt).mpr c
        rw [lc_lt this, if_pos (by decide)]; rfl
      · obtain ⟨j, hj, rfl⟩ := nI_of c
        have hg : m1.toInt64 < (nI j).toInt64 := (Int32.toInt64_lt).mpr (m1_lt hj)
        rw [lc_gt hg]
        by_cases d : lg_cmp (nI j).toInt64 (lN 0) < 0
        · rw [if_pos d]; rfl
        · rw [if_neg d, if_pos (by decide)]; rfl
  · have eb : nI z - nI 1 = nI (z - 1) := pk_sub (by omega)
    rw [eb, wide _ (by omega)]
    rcases rng x (z - 1) (by omega) with ⟨i, hi, rfl⟩ | hv
    · exact Or.inl ⟨i, by omega, rfl, cw1 hi (by omega), mi1 (by omega) hi (by omega)⟩
    · refine Or.inr ⟨?_, cw0 hv, mi0 (by omega) (by omega) (neg_any hv)⟩
      rcases hv with q | q
      · exact Or.inl q
      · by_cases c : x < 0
        · exact Or.inl c
        · obtain ⟨j, hj, rfl⟩ := nI_of c
          have := (nI_ltI (by omega) hj).mp q
          exact Or.inr (nI_le (by omega) hj)
section SH
variable {σ : Sg} {k : Nat}
theorem csh1 (h : k < 4) : C2_isSheet_0 σ (nI k) = some (nI 1, σ) := by
  simp (disch := omega) only [C2_isSheet_0, lit, cw1, bp_some, bo_1, gd_tt]
theorem csh0 {x : Int32} (h : x < 0 ∨ nI 3 < x) : C2_isSheet_0 σ x = some (nI 0, σ) := by
  simp only [C2_isSheet_0, lit, cw0 h, bp_some, bo_0, gd_tt]
theorem csf1 (h : k < 4) : C2_isShelf_0 σ (nI k) = some (nI 1, σ) := by
  simp (disch := omega) only [C2_isShelf_0, lit, cw1, bp_some, bo_1, gd_tt]
theorem csf0 {x : Int32} (h : x < 0 ∨ nI 3 < x) : C2_isShelf_0 σ x = some (nI 0, σ) := by
  simp only [C2_isShelf_0, lit, cw0 h, bp_some, bo_0, gd_tt]
theorem msh1 (h : k < 4) : M_isSheet_0 (nI k) = some (nI 1) := by
  simp (disch := omega) only [M_isSheet_0, litL, mi1, bp_some, bo_1, gd_tt]
theorem msh0 {x : Int32} (h : x < 0 ∨ nI 3 < x) : M_isSheet_0 x = some (nI 0) := by
  simp (disch := omega) only [M_isSheet_0, litL, mi0 (by omega) (by omega) (neg_any h), bp_some, bo_0, gd_tt]
theorem msf1 (h : k < 4) : M_isShelf_0 (nI k) = some (nI 1) := by
  simp (disch := omega) only [M_isShelf_0, litL, mi1, bp_some, bo_1, gd_tt]
theorem msf0 {x : Int32} (h : x < 0 ∨ nI 3 < x) : M_isShelf_0 x = some (nI 0) := by
  simp (disch := omega) only [M_isShelf_0, litL, mi0 (by omega) (by omega) (neg_any h), bp_some, bo_0, gd_tt]
theorem csort (h : k < 4) : C2_sortOf_0 σ (nI k) = some (rd_ σ 23 k, σ) := by
  simp (disch := omega) only [C2_sortOf_0, csh1 h, bi_some, lit, nI_eq, if_neg, in_nI, gd_tt, nI_clamp]
theorem csize (h : k < 4) : C2_sizeOf_0 σ (nI k) = some (rd_ σ 24 k, σ) := by
  simp (disch := omega) only [C2_sizeOf_0, csh1 h, bi_some, lit, nI_eq, if_neg, in_nI, gd_tt, nI_clamp]
theorem cmiss1 (h : k < 4) (e : rd_ σ 23 k = m1) : C2_isMissing_0 σ (nI k) = some (nI 1, σ) := by
  unfold C2_isMissing_0
  rw [csort h, bi_some, e, if_pos (by decide)]
  rfl
theorem cmiss0 {s : Nat} (h : k < 4) (hs : s < 2 ^ 31) (e : rd_ σ 23 k = nI s) : C2_isMissing_0 σ (nI k) = some (nI 0, σ) := by
  unfold C2_isMissing_0
  rw [csort h, bi_some, e, if_neg (show ¬ nI s = (-1 : Int32) from m1_ne hs)]
  rfl
theorem citem1 {z i : Nat} (h : k < 4) (hz : z ≤ 40) (e : rd_ σ 24 k = nI z) (hi : i < z) : C2_itemAt_0 σ (nI k) (nI i) = some (rl_ σ (k * 40 + i), σ) := by
  have ei : C2_isItem_0 σ (nI k) (nI i) = some (nI 1, σ) := by
    simp (disch := omega) only [C2_isItem_0, csh1 h, bi_some, lit, nI_eq, if_neg, in_nI, gd_tt, nI_clamp, e, pk_sub, cw1, bp_some]
  simp (disch := omega) only [C2_itemAt_0, ei, bi_some, lit, nI_eq, if_neg, pk_mul, nI_add, lt_eq, in_nI, gd_tt, nI_clamp]
theorem cisItem {z : Nat} {x v : Int32} (h : k < 4) (e : rd_ σ 24 k = nI z) (ew : C_within_0 x (nI z - nI 1) = some v) (hv : v = nI 0 ∨ v = nI 1) : C2_isItem_0 σ (nI k) x = some (v, σ) := by
  rcases hv with rfl | rfl
  · simp (disch := omega) only [C2_isItem_0, csh1 h, bi_some, lit, nI_eq, if_neg, in_nI, gd_tt, nI_clamp, e, ew, bp_some, if_true]
  · simp (disch := omega) only [C2_isItem_0, csh1 h, bi_some, lit, nI_eq, if_neg, in_nI, gd_tt, nI_clamp, e, ew, bp_some]
theorem m1_nle : ¬ (0 : Int32) ≤ m1 := by decide
theorem m1_neg : m1 < (0 : Int32) := by decide
theorem mlack11 {x : Int32} (h : k < 4) (e : rd_ σ 9 k = m1) : M_lacks_0 σ (nI k) x = some (-11, σ) := by
  unfold M_lacks_0
  rw [in_nI h (by omega), gd_tt, nI_clamp (by omega), e, if_neg m1_nle]
theorem mlack {s : Nat} {x : Int32} (h : k < 4) (hs : s < 2 ^ 31) (e : rd_ σ 9 k = nI s) : M_lacks_0 σ (nI k) x = some (if nI s = x then nI 0 else -13, σ) := by
  unfold M_lacks_0
  rw [in_nI h (by omega), gd_tt, nI_clamp (by omega), e, if_pos (nI_pos' hs), gd_tt]
  by_cases c : nI s = x
  · rw [if_pos c, if_pos c]; rfl
  · rw [if_neg c, if_neg c]
end SH
section EQSH
variable {σc σm : Sg}
theorem eq_item (h : R σc σm) (x1 x2 x3 : Int32) : eqv (C_item_0 σc x1 x2 x3) (M_item_0 σm x1 x2 x3) := by
  have hs := h.2.2.2.2.1
  rcases rng x1 3 (by omega) with ⟨k, hk, rfl⟩ | hv
  · have hk4 : k < 4 := by omega
    rcases rng x2 3 (by omega) with ⟨s2, hs2, rfl⟩ | hv
    · rcases hs k hk4 with ⟨e1, e2, e3, e4⟩ | ⟨s, z, b1, b2, e1, e2, e3, e4, e5⟩
      · refine ⟨-11, σc, σm, ?_, ?_, h⟩
        · simp (disch := omega) only [C_item_0, csh1 hk4, bi_some, lit, nI_eq, if_neg, cw1, bp_some, cmiss1 hk4 e1]
        · unfold M_item_0
          rw [msh1 hk4, bp_some, if_neg (by decide), show (3 : Int64) = lN 3 from rfl, show (0 : Int64) = lN 0 from rfl, mi1 (by omega) hs2 (by omega), bp_some, if_neg (by decide), mlack11 hk4 e2, bi_some, if_neg (by decide), mlack11 hk4 e2, bi_some]
      · by_cases c : s = s2
        · subst c
          have el : M_lacks_0 σm (nI k) (nI s) = some (nI 0, σm) := by rw [mlack hk4 (by omega) e2, if_pos rfl]
          rcases idx (z := z) (by omega) x3 with ⟨i, hi, rfl, i1, i2⟩ | ⟨hx, i1, i2⟩
          · refine ⟨rd_ σm 11 (40 * k + i), σc, σm, ?_, ?_, h⟩
            · simp (disch := omega) only [C_item_0, csh1 hk4, bi_some, lit, nI_eq, if_neg, cw1, bp_some, cmiss0 hk4 (show s < 2 ^ 31 by omega) e1, csort hk4, e1, if_true, csize hk4, e3, i1, citem1 hk4 b2 e3 hi, e5 i hi]
              simp
            · simp (disch := omega) only [M_item_0, msh1 hk4, bp_some, lit, litL, nI_eq, if_neg, mi1, el, bi_some, if_true, in_nI, gd_tt, nI_clamp, e4, i2, pk_mul, nI_add, lt_eq]
          · refine ⟨-12, σc, σm, ?_, ?_, h⟩
            · simp (disch := omega) only [C_item_0, csh1 hk4, bi_some, lit, nI_eq, if_neg, cw1, bp_some, cmiss0 hk4 (show s < 2 ^ 31 by omega) e1, csort hk4, e1, if_true, csize hk4, e3, i1]
            · simp (disch := omega) only [M_item_0, msh1 hk4, bp_some, lit, litL, nI_eq, if_neg, mi1, el, bi_some, if_true, in_nI, gd_tt, nI_clamp, e4, i2]
        · have el : M_lacks_0 σm (nI k) (nI s2) = some (-13, σm) := by rw [mlack hk4 (by omega) e2, if_neg (fun q => c ((nI_eq (by omega) (by omega)).mp q))]
          refine ⟨-13, σc, σm, ?_, ?_, h⟩
          · simp (disch := omega) only [C_item_0, csh1 hk4, bi_some, lit, nI_eq, if_neg, cw1, bp_some, cmiss0 hk4 (show s < 2 ^ 31 by omega) e1, csort hk4, e1, if_true]
          · unfold M_item_0
            rw [msh1 hk4, bp_some, if_neg (by decide), show (3 : Int64) = lN 3 from rfl, show (0 : Int64) = lN 0 from rfl, mi1 (by omega) hs2 (by omega), bp_some, if_neg (by decide), el, bi_some, if_neg (by decide), el, bi_some]
    · refine ⟨-1, σc, σm, ?_, ?_, h⟩
      · simp (disch := omega) only [C_item_0, csh1 hk4, bi_some, lit, nI_eq, if_neg, cw0 hv, bp_some, if_true]
      · simp (disch := omega) only [M_item_0, msh1 hk4, bp_some, lit, litL, nI_eq, if_neg, mi0 (by omega) (by omega) (neg_any hv), if_true]
  · refine ⟨-1, σc, σm, ?_, ?_, h⟩
    · simp only [C_item_0, csh0 hv, bi_some, lit, if_true]
    · simp only [M_item_0, msh0 hv, bp_some, lit, if_true]
/-- sheets alone are another -/
def shC' (k _ : Nat) : Prop := k = 23 ∨ k = 24
def shM' (k _ : Nat) : Prop := k = 9 ∨ k = 10 ∨ k = 11
def agi (S : Nat → Nat → Prop) (σ τ : Sg) : Prop := ∀ k j, ¬ S k j → rd_ τ k j = rd_ σ k j
/-- ints as they were: the longs, which none but sheets read, aside -/
def un (σ : Sg) (f : Nat → Int64) : Sg := (σ.1, f)
theorem R.sheets {τc τm : Sg} (h : R σc σm) (a : agi shC' σc τc) (b : agi shM' σm τm) (q : RS τc τm) : R τc τm := by
  obtain ⟨⟨n, ha⟩, h1, h2, h3, h4, h5, h6⟩ := h
  have a' : ag shC' σc (un τc σc.2) := ⟨fun k j hk => a k j hk, fun i => rfl⟩
  have b' : ag shM' σm (un τm σm.2) := ⟨fun k j hk => b k j hk, fun i => rfl⟩
  refine ⟨⟨n, ?_⟩, ?_, ?_, ?_, q, ?_, ?_⟩
  · have r : RA (un τc σc.2) (un τm σm.2) n := ha.fr a' b' (fun j => by simp [shC']) (fun j => by simp [shC']) (fun j => by simp [shC']) (fun o j ho => by simp [shC']; omega) (fun j _ => by simp [shM'])
    exact r
  · have r : RK (un τc σc.2) (un τm σm.2) := h1.fr a' b' (by simp [shC']) (fun j => by simp [shC']) (fun j => by simp [shC']) (fun j => by simp [shC']) (fun o j ho => by simp [shC']; omega) (by simp [shM']) (fun j _ => by simp [shM'])
    exact r
  · have r : RT (un τc σc.2) (un τm σm.2) := h2.fr a' b' (by simp [shC']) (fun j => by simp [shC']) (by simp [shM']) (fun j => by simp [shM'])
    exact r
  · have r : RW (un τc σc.2) (un τm σm.2) := h3.fr a' b' (by simp [shC']) (fun j => by simp [shC']) (by simp [shM']) (fun j => by simp [shM'])
    exact r
  · have r : RH (un τc σc.2) (un τm σm.2) := h5.fr a' b' (fun j => by simp [shC']) (fun j => by simp [shC']) (fun j => by simp [shC']) (fun j => by simp [shM']) (fun j => by simp [shM']) (fun j => by simp [shM'])
    exact r
  · have r : RD (un τc σc.2) (un τm σm.2) := h6.fr a' b' (by simp [shC']) (fun j => by simp [shC']) (by simp [shM']) (fun j => by simp [shM'])
    exact r
def nrw (s : Nat) (x : Int32) : Int32 := if s = 0 then x.toInt8.toInt32 else if s = 1 then x.toInt16.toInt32 else x
theorem cnar {s : Nat} {x : Int32} (hs : s < 2 ^ 31) : C2_narrowed_0 x (nI s) = some (nrw s x) := by
  unfold C2_narrowed_0 nrw
  by_cases c : s = 0
  · subst c; rw [if_pos (by decide), if_pos rfl]
  · rw [if_neg (nI_ne0 (by omega) hs), if_neg c]
    by_cases d : s = 1
    · subst d; rw [if_pos (by decide), if_pos rfl]
    · rw [if_neg (show ¬ nI s = (1 : Int32) from fun q => d ((nI_eq hs (b := 1) (by omega)).mp q)), if_neg d]
theorem eq_put (h : R σc σm) (x1 x2 x3 : Int32) : eqv (C_put_0 σc x1 x2 x3) (M_put_0 σm x1 x2 x3) := by
  have hs := h.2.2.2.2.1
  rcases rng x1 3 (by omega) with ⟨k, hk, rfl⟩ | hv
  · have hk4 : k < 4 := by omega
    rcases hs k hk4 with ⟨e1, e2, e3, e4⟩ | ⟨s, z, b1, b2, e1, e2, e3, e4, e5⟩
    · refine ⟨-11, σc, σm, ?_, ?_, h⟩
      · simp (disch := omega) only [C_put_0, csh1 hk4, bi_some, lit, nI_eq, if_neg, cmiss1 hk4 e1]
      · unfold M_put_0
        rw [msh1 hk4, bp_some, if_neg (by decide), in_nI hk4 (by omega), gd_tt, nI_clamp (by omega), e2, if_neg m1_nle]
    · rcases idx (z := z) (by omega) x2 with ⟨i, hi, rfl, i1, i2⟩ | ⟨hx, i1, i2⟩
      · have w := cisItem (σ := σc) hk4 e3 i1 (Or.inr rfl)
        have c40 : k * 40 + i = 40 * k + i := by omega
        have en := cnar (s := s) (x := x3) (by omega)
        have em : M_put_0 σm (nI k) (nI i) x3 = M_put_82 σm (nrw s x3) (((40 : Int32) * nI k) + nI i) := by
          unfold M_put_0
          rw [msh1 hk4, bp_some, if_neg (by decide), in_nI hk4 (by omega), gd_tt, nI_clamp (by omega), e2, if_pos (nI_pos' (by omega)), gd_tt, e4, show (0 : Int64) = lN 0 from rfl, show (1 : Int32) = nI 1 from rfl, i2, bp_some, if_neg (by decide), gd_tt]
          unfold nrw
          by_cases c : s = 0
          · subst c; rw [if_pos (by decide), if_pos rfl]
          · rw [if_neg (nI_ne0 (by omega) (by omega)), if_neg c, gd_tt]
            by_cases d : s = 1
            · subst d; rw [if_pos rfl, if_pos rfl]
            · rw [if_neg (fun q => d ((nI_eq (by omega) (by omega)).mp q)), if_neg d]
        refine ⟨nI 1, wl_ σc (40 * k + i) (nrw s x3).toInt64, wr_ σm 11 (40 * k + i) (nrw s x3), ?_, ?_, R.sheets h (fun _ _ _ => rfl) (fun q j hq => rd_k (fun z => hq (by unfold shM'; omega))) ?_⟩
        · have ew : C2_write_0 σc (nI k) (nI i) x3 = some (nI 1, wl_ σc (40 * k + i) (nrw s x3).toInt64) := by
            simp (disch := omega) only [C2_write_0, w, bi_some, lit, nI_eq, if_neg, in_nI, gd_tt, nI_clamp, e1, en, bp_some, pk_mul, nI_add, c40, lt_eq]
          simp (disch := omega) only [C_put_0, csh1 hk4, bi_some, lit, nI_eq, if_neg, cmiss0 hk4 (show s < 2 ^ 31 by omega) e1, if_true, ew]
        · rw [em]
          unfold M_put_82
          simp (disch := omega) only [lit, pk_mul, nI_add, in_nI, gd_tt, nI_clamp, lt_eq]
        · intro t ht
          unfold rs1
          rw [rd_wl, rd_wl, rd_k (by omega), rd_k (by omega)]
          by_cases c : t = k
          · subst c
            refine Or.inr ⟨s, z, b1, b2, e1, e2, e3, e4, fun j hj => ?_⟩
            rw [rl_wl, rd_wr]
            by_cases d : j = i
            · subst d; rw [if_pos (by omega), if_pos ⟨rfl, rfl⟩]
            · rw [if_neg (by omega), if_neg (by omega)]; exact e5 j hj
          · rcases hs t ht with q | ⟨s', z', d1, d2, f1, f2, f3, f4, f5⟩
            · exact Or.inl q
            · refine Or.inr ⟨s', z', d1, d2, f1, f2, f3, f4, fun j hj => ?_⟩
              rw [rl_wl, if_neg (by omega), rd_j (by omega)]
              exact f5 j hj
      · have w := cisItem (σ := σc) hk4 e3 i1 (Or.inl rfl)
        refine ⟨-12, σc, σm, ?_, ?_, h⟩
        · have ew : C2_write_0 σc (nI k) x2 x3 = some (nI 0, σc) := by
            simp only [C2_write_0, w, bi_some, lit, if_true]
          simp (disch := omega) only [C_put_0, csh1 hk4, bi_some, lit, nI_eq, if_neg, cmiss0 hk4 (show s < 2 ^ 31 by omega) e1, if_true, ew]
        · unfold M_put_0
          rw [msh1 hk4, bp_some, if_neg (by decide), in_nI hk4 (by omega), gd_tt, nI_clamp (by omega), e2, if_pos (nI_pos' (by omega)), gd_tt, e4, show (0 : Int64) = lN 0 from rfl, show (1 : Int32) = nI 1 from rfl, i2, bp_some, if_pos (by decide)]
  · refine ⟨-1, σc, σm, ?_, ?_, h⟩
    · simp only [C_put_0, csh0 hv, bi_some, lit, if_true]
    · simp only [M_put_0, msh0 hv, bp_some, lit, if_true]
theorem clay {k s z : Nat} (hk : k < 4) (hz : z ≤ 40) (v : Int32) : ∃ τ, agi shC' σc τ ∧ rd_ τ 23 k = v ∧ rd_ τ 24 k = nI z ∧ (∀ t, ¬ t = k → rd_ τ 23 t = rd_ σc 23 t ∧ rd_ τ 24 t = rd_ σc 24 t) ∧ (∀ i, i < z → rl_ τ (k * 40 + i) = 0) ∧ (∀ i, (i < k * 40 ∨ k * 40 + 40 ≤ i) → rl_ τ i = rl_ σc i) ∧ C2_lay_0 σc (nI k) v (nI z) = some ((), τ) := by
  have key := li4 (F := C2_lay_35) (z := fun _ _ _ _ => none) z (fun i τ x1 x3 x4 => (∀ q j, rd_ τ q j = rd_ (wr_ (wr_ σc 23 k v) 24 k (nI z)) q j) ∧ (∀ j, j < i → rl_ τ (k * 40 + j) = 0) ∧ (∀ j, (j < k * 40 ∨ k * 40 + 40 ≤ j) → rl_ τ j = rl_ σc j) ∧ x1 = nI k ∧ x3 = nI z ∧ x4 = nI i) (fun b => (∀ q j, rd_ b.2 q j = rd_ (wr_ (wr_ σc 23 k v) 24 k (nI z)) q j) ∧ (∀ j, j < z → rl_ b.2 (k * 40 + j) = 0) ∧ (∀ j, (j < k * 40 ∨ k * 40 + 40 ≤ j) → rl_ b.2 j = rl_ σc j)) (wr_ (wr_ σc 23 k v) 24 k (nI z)) (nI k) (nI z) (nI 0) ⟨fun _ _ => rfl, fun j hj => absurd hj (by omega), fun _ _ => rfl, rfl, rfl, rfl⟩ ?_ ?_ (FU_gt (N := z) (by omega))
  · obtain ⟨⟨r, τ⟩, ⟨b1, b2, b3⟩, hb⟩ := key
    dsimp only at b1 b2 b3
    refine ⟨τ, fun q j hq => ?_, ?_, ?_, fun t ht => ?_, b2, b3, ?_⟩
    · rw [b1, rd_k (fun z => hq (Or.inr z)), rd_k (fun z => hq (Or.inl z))]
    · rw [b1, rd_k (by omega), rd_same]
    · rw [b1, rd_same]
    · rw [b1, b1, rd_k (by omega), rd_j ht, rd_j ht, rd_k (by omega)]; exact ⟨rfl, rfl⟩
    · simp (disch := omega) only [C2_lay_0, csh1 hk, bi_some, lit, nI_eq, if_neg, cw1, bp_some, in_nI, gd_tt, nI_clamp, lt_eq]
      exact hb
  · rintro K i τ x1 x3 x4 hi ⟨a, w1, w2, rfl, rfl, rfl⟩
    refine Or.inl ⟨wl_ τ (k * 40 + i) 0, nI k, nI z, nI (i + 1), ⟨fun q j => a q j, fun j hj => ?_, fun j hj => ?_, rfl, rfl, rfl⟩, ?_⟩
    · rw [rl_wl]
      by_cases c : j = i
      · subst c; rw [if_pos rfl]
      · rw [if_neg (by omega)]; exact w1 j (by omega)
    · rw [rl_wl, if_neg (by omega)]; exact w2 j hj
    · unfold C2_lay_35
      rw [if_neg (nI_ge hi (by omega)), show (40 : Int32) = nI 40 from rfl, pk_mul, nI_add, in_nI (by omega) (by omega), gd_tt, nI_clamp (by omega), lt_eq, lt_eq, lit, nI_add]
  · rintro K τ x1 x3 x4 ⟨a, w1, w2, rfl, rfl, rfl⟩
    refine ⟨((), τ), ⟨a, w1, w2⟩, ?_⟩
    unfold C2_lay_35
    rw [if_pos (Int32.le_refl _)]
theorem mlay {k : Nat} (hk : k < 4) (v w : Int32) : ∃ τ, agi shM' σm τ ∧ rd_ τ 9 k = v ∧ rd_ τ 10 k = w ∧ (∀ t, ¬ t = k → rd_ τ 9 t = rd_ σm 9 t ∧ rd_ τ 10 t = rd_ σm 10 t) ∧ (∀ i, i < 40 → rd_ τ 11 (40 * k + i) = nI 0) ∧ (∀ i, (i < 40 * k ∨ 40 * k + 40 ≤ i) → rd_ τ 11 i = rd_ σm 11 i) ∧ M_sheet_65 (wr_ σm 9 k v) (nI k) w (nI k) = some (nI 1, τ) := by
  have key := li3 (F := M_sheet_69) (z := fun _ _ _ => none) 40 (fun i τ x1 x4 => (∀ q j, ¬ q = 11 → rd_ τ q j = rd_ (wr_ (wr_ σm 9 k v) 10 k w) q j) ∧ (∀ j, j < i → rd_ τ 11 (40 * k + j) = nI 0) ∧ (∀ j, (j < 40 * k ∨ 40 * k + 40 ≤ j) → rd_ τ 11 j = rd_ σm 11 j) ∧ x1 = nI k ∧ x4 = nI i) (fun b => b.1 = nI 1 ∧ (∀ q j, ¬ q = 11 → rd_ b.2 q j = rd_ (wr_ (wr_ σm 9 k v) 10 k w) q j) ∧ (∀ j, j < 40 → rd_ b.2 11 (40 * k + j) = nI 0) ∧ (∀ j, (j < 40 * k ∨ 40 * k + 40 ≤ j) → rd_ b.2 11 j = rd_ σm 11 j)) (wr_ (wr_ σm 9 k v) 10 k w) (nI k) (nI 0) ⟨fun _ _ _ => rfl, fun j hj => absurd hj (by omega), fun j _ => by rw [rd_k (by omega), rd_k (by omega)], rfl, rfl⟩ ?_ ?_ (FU_gt (N := 40) (by omega))
  · obtain ⟨⟨r, τ⟩, ⟨b0, b1, b2, b3⟩, hb⟩ := key
    dsimp only at b0 b1 b2 b3
    subst b0
    refine ⟨τ, fun q j hq => ?_, ?_, ?_, fun t ht => ?_, b2, b3, ?_⟩
    · rw [b1 _ _ (fun z => hq (Or.inr (Or.inr z))), rd_k (fun z => hq (Or.inr (Or.inl z))), rd_k (fun z => hq (Or.inl z))]
    · rw [b1 _ _ (by omega), rd_k (by omega), rd_same]
    · rw [b1 _ _ (by omega), rd_same]
    · rw [b1 _ _ (by omega), b1 _ _ (by omega), rd_k (by omega), rd_j ht, rd_j ht, rd_k (by omega)]; exact ⟨rfl, rfl⟩
    · unfold M_sheet_65
      rw [in_nI hk (by omega), gd_tt, nI_clamp (by omega), lt_eq]
      exact hb
  · rintro K i τ x1 x4 hi ⟨a, w1, w2, rfl, rfl⟩
    refine Or.inl ⟨wr_ τ 11 (40 * k + i) (nI 0), nI k, nI (i + 1), ⟨fun q j hq => ?_, fun j hj => ?_, fun j hj => ?_, rfl, rfl⟩, ?_⟩
    · rw [rd_k hq]; exact a q j hq
    · rw [rd_wr]
      by_cases c : j = i
      · subst c; rw [if_pos ⟨rfl, rfl⟩]
      · rw [if_neg (by omega)]; exact w1 j (by omega)
    · rw [rd_j (by omega)]; exact w2 j hj
    · unfold M_sheet_69
      simp (disch := omega) only [lit, nI_leI, if_neg, pk_mul, nI_add, in_nI, gd_tt, nI_clamp, lt_eq]
  · rintro K τ x1 x4 ⟨a, w1, w2, rfl, rfl⟩
    refine ⟨(nI 1, τ), ⟨rfl, a, w1, w2⟩, ?_⟩
    unfold M_sheet_69
    simp only [lit, Int32.le_refl, if_true]
theorem RS.lay {τc τm : Sg} {k : Nat} {z : Nat} (hs : RS σc σm) (hk : k < 4) (hz : z ≤ 40) (e : (rd_ τc 23 k = m1 ∧ rd_ τm 9 k = m1 ∧ z = 0) ∨ ∃ s, s ≤ 3 ∧ rd_ τc 23 k = nI s ∧ rd_ τm 9 k = nI s) (c1 : rd_ τc 24 k = nI z) (m1' : rd_ τm 10 k = nI z) (co : ∀ t, ¬ t = k → rd_ τc 23 t = rd_ σc 23 t ∧ rd_ τc 24 t = rd_ σc 24 t) (mo : ∀ t, ¬ t = k → rd_ τm 9 t = rd_ σm 9 t ∧ rd_ τm 10 t = rd_ σm 10 t) (ci : ∀ i, i < z → rl_ τc (k * 40 + i) = 0) (cr : ∀ i, (i < k * 40 ∨ k * 40 + 40 ≤ i) → rl_ τc i = rl_ σc i) (mi : ∀ i, i < 40 → rd_ τm 11 (40 * k + i) = nI 0) (mr : ∀ i, (i < 40 * k ∨ 40 * k + 40 ≤ i) → rd_ τm 11 i = rd_ σm 11 i) : RS τc τm := by
  intro t ht
  by_cases c : t = k
  · subst c
    rcases e with ⟨e1, e2, e3⟩ | ⟨s, b, e1, e2⟩
    · subst e3; exact Or.inl ⟨e1, e2, c1, m1'⟩
    · refine Or.inr ⟨s, z, b, hz, e1, e2, c1, m1', fun i hi => ?_⟩
      rw [ci i hi, mi i (by omega)]; rfl
  · unfold rs1
    rw [(co t c).1, (co t c).2, (mo t c).1, (mo t c).2]
    rcases hs t ht with q | ⟨s', z', d1, d2, f1, f2, f3, f4, f5⟩
    · exact Or.inl q
    · refine Or.inr ⟨s', z', d1, d2, f1, f2, f3, f4, fun j hj => ?_⟩
      rw [cr _ (by omega), mr _ (by omega)]
      exact f5 j hj
theorem mi_m1 {x : Int32} : M_isIn_0 x.toInt64 (-1 : Int64) (3 : Int64) = some (if x = m1 ∨ ¬ (x < 0 ∨ nI 3 < x) then nI 1 else nI 0) := by
  have e1 : (-1 : Int64) = m1.toInt64 := by decide
  have e3 : (3 : Int64) = (nI 3).toInt64 := by decide
  unfold M_isIn_0
  rw [e1, e3]
  by_cases c : x < m1
  · have h1 : ¬ (x = m1 ∨ ¬ (x < 0 ∨ nI 3 < x)) := by
      rintro (q | q)
      · subst q; exact Int32.lt_irrefl c
      · exact q (Or.inl (Int32.lt_trans c m1_neg))
    rw [lc_lt ((Int32.toInt64_lt).mpr c), if_pos (by decide), if_neg h1]; rfl
  · have hn : ¬ lg_cmp x.toInt64 m1.toInt64 < 0 := by
      by_cases d : x = m1
      · subst d; rw [lc_eq]; decide
      · have : m1 < x := Int32.lt_of_le_of_ne (Int32.not_lt.mp c) (fun q => d q.symm)
        rw [lc_gt ((Int32.toInt64_lt).mpr this)]; decide
    rw [if_neg hn]
    by_cases d : nI 3 < x
    · have h1 : ¬ (x = m1 ∨ ¬ (x < 0 ∨ nI 3 < x)) := by
        rintro (q | q)
        · subst q; exact absurd d (by decide)
        · exact q (Or.inr d)
      rw [lc_gt ((Int32.toInt64_lt).mpr d), if_pos (by decide), if_neg h1]; rfl
    · have h1 : x = m1 ∨ ¬ (x < 0 ∨ nI 3 < x) := by
        by_cases z : x = m1
        · exact Or.inl z
        · refine Or.inr ?_
          rintro (q | q)
          · have : m1 < x := Int32.lt_of_le_of_ne (Int32.not_lt.mp c) (fun q => z q.symm)
            rw [Int32.lt_iff_toInt_lt] at this q
            have a1 : m1.toInt = -1 := by decide
            have a2 : (0 : Int32).toInt = 0 := by decide
            omega
          · exact d q
      have hg : ¬ 0 < lg_cmp x.toInt64 (nI 3).toInt64 := by
        rcases lc_le ((Int32.toInt64_le).mpr (Int32.not_lt.mp d)) with q | q <;> rw [q] <;> decide
      rw [if_neg hg, if_pos h1]; rfl
theorem eq_sheet (h : R σc σm) (x1 x2 x3 : Int32) : eqv (C_sheet_0 σc x1 x2 x3) (M_sheet_0 σm x1 x2 x3) := by
  have hs := h.2.2.2.2.1
  rcases rng x1 3 (by omega) with ⟨k, hk, rfl⟩ | hv
  · have hk4 : k < 4 := by omega
    by_cases c1 : x2 = m1
    · subst c1
      obtain ⟨τc, a1, a2, a3, a4, a5, a6, a7⟩ := clay (σc := σc) (s := 0) hk4 (z := 0) (by omega) m1
      obtain ⟨τm, b1, b2, b3, b4, b5, b6, b7⟩ := mlay (σm := σm) hk4 m1 (nI 0)
      refine ⟨nI 1, τc, τm, ?_, ?_, R.sheets h a1 b1 (hs.lay hk4 (z := 0) (by omega) (Or.inl ⟨a2, b2, rfl⟩) a3 b3 a4 b4 a5 a6 b5 b6)⟩
      · unfold C_sheet_0
        rw [csh1 hk4, bi_some, if_neg (by decide), if_neg (by decide), if_pos (by decide), if_pos (by decide), show (0 : Int32) = nI 0 from rfl, a7, bi_some]
        rfl
      · unfold M_sheet_0
        rw [msh1 hk4, bp_some, if_neg (by decide), mi_m1, if_pos (Or.inl rfl), bp_some, if_neg (by decide), if_pos m1_neg]
        unfold M_sheet_33 M_sheet_44
        rw [if_pos m1_neg, in_nI hk4 (by omega), gd_tt, nI_clamp (by omega), lt_eq, if_neg m1_nle]
        exact b7
    · rcases rng x2 3 (by omega) with ⟨s, hs3, rfl⟩ | hv
      · have eM : M_isIn_0 (nI s).toInt64 (-1 : Int64) (3 : Int64) = some (nI 1) := by
          rw [mi_m1, if_pos (Or.inr (by rintro (q | q); exact nI_pos (by omega) q; exact nI_nlt hs3 (by omega) q))]
        have n1 : ¬ nI s < (-1 : Int32) := fun q => absurd (Int32.lt_trans q (show (-1 : Int32) < nI s from m1_lt (by omega))) (Int32.lt_irrefl)
        have n2 : ¬ nI s = (-1 : Int32) := c1
        have n3 : nI s ≤ (3 : Int32) := nI_le (b := 3) hs3 (by omega)
        by_cases d : x3 ≤ (40 : Int32)
        · by_cases e : x3 < 0
          · refine ⟨-14, σc, σm, ?_, ?_, h⟩
            · unfold C_sheet_0
              rw [csh1 hk4, bi_some, if_neg (by decide), if_neg n1, if_pos n3, if_neg n2, if_pos d, if_neg (Int32.not_le.mpr e)]
            · unfold M_sheet_0 M_sheet_33
              rw [msh1 hk4, bp_some, if_neg (by decide), eM, bp_some, if_neg (by decide), if_neg (nI_pos (by omega)), if_pos d, if_neg (nI_pos (by omega)), if_neg (Int32.not_le.mpr e)]
          · obtain ⟨z, hz, rfl⟩ := nI_of e
            have hz40 : z ≤ 40 := (nI_leI hz (by omega)).mp (show nI z ≤ nI 40 from d)
            obtain ⟨τc, a1, a2, a3, a4, a5, a6, a7⟩ := clay (σc := σc) (s := 0) hk4 (z := z) hz40 (nI s)
            obtain ⟨τm, b1, b2, b3, b4, b5, b6, b7⟩ := mlay (σm := σm) hk4 (nI s) (nI z)
            refine ⟨nI 1, τc, τm, ?_, ?_, R.sheets h a1 b1 (hs.lay hk4 (z := z) hz40 (Or.inr ⟨s, hs3, a2, b2⟩) a3 b3 a4 b4 a5 a6 b5 b6)⟩
            · unfold C_sheet_0
              rw [csh1 hk4, bi_some, if_neg (by decide), if_neg n1, if_pos n3, if_neg n2, if_pos d, if_pos (nI_pos' hz), a7, bi_some]
              rfl
            · unfold M_sheet_0 M_sheet_33 M_sheet_44
              rw [msh1 hk4, bp_some, if_neg (by decide), eM, bp_some, if_neg (by decide), if_neg (nI_pos (by omega)), if_pos d, if_neg (nI_pos (by omega)), if_pos (nI_pos' hz), in_nI hk4 (by omega), gd_tt, nI_clamp (by omega), lt_eq, if_pos (nI_pos' (by omega))]
              exact b7
        · refine ⟨-1, σc, σm, ?_, ?_, h⟩
          · unfold C_sheet_0
            rw [csh1 hk4, bi_some, if_neg (by decide), if_neg n1, if_pos n3, if_neg n2, if_neg d]
          · unfold M_sheet_0
            rw [msh1 hk4, bp_some, if_neg (by decide), eM, bp_some, if_neg (by decide), if_neg (nI_pos (by omega)), if_neg d]
      · refine ⟨-1, σc, σm, ?_, ?_, h⟩
        · unfold C_sheet_0
          rw [csh1 hk4, bi_some, if_neg (by decide)]
          by_cases e : x2 < (-1 : Int32)
          · rw [if_pos e]
          · rw [if_neg e]
            have : (3 : Int32) < x2 := by
              rcases hv with q | q
              · exfalso
                have h1 : m1 < x2 := Int32.lt_of_le_of_ne (Int32.not_lt.mp e) (fun q => c1 q.symm)
                rw [Int32.lt_iff_toInt_lt] at h1 q
                have a1 : m1.toInt = -1 := by decide
                have a2 : (0 : Int32).toInt = 0 := by decide
                omega
              · exact q
            rw [if_neg (Int32.not_le.mpr this)]
        · unfold M_sheet_0
          rw [msh1 hk4, bp_some, if_neg (by decide), mi_m1, if_neg (by rintro (q | q); exact c1 q; exact q hv), bp_some, if_pos (by decide)]
  · refine ⟨-1, σc, σm, ?_, ?_, h⟩
    · simp only [C_sheet_0, csh0 hv, bi_some, lit, if_true]
    · simp only [M_sheet_0, msh0 hv, bp_some, lit, if_true]
end EQSH
