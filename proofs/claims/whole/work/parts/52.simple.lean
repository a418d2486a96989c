/-! one cell of the church that is now becomes another number, on both sides -/
section RAUP
variable {σc σm : Sg} {n : Nat}
theorem rowup (σ : Sg) (i : Nat) (v : Int32) (j : Nat) : (wr_ σ 1 i v).1 1 j = if j = i then v else σ.1 1 j := by rw [row_same]; rfl
theorem RA.life (h : RA σc σm n) {o w k : Nat} (ho : o < n) (hw : w < 6) (hk : k ≤ bw w) : RA (wr_ σc (34 + o) w (nI k)) (wr_ σm 1 (16 + 6 * o + w) (nI k)) n := by
  obtain ⟨⟨g1, g2, g3, g4, g5, g6⟩, r1, r2, r3, r4, r5, r6, r7⟩ := h
  have e := rowup σm (16 + 6 * o + w) (nI k)
  refine ⟨⟨by rw [e, if_neg (by omega)]; exact g1, g2, fun i hi => by rw [e, if_neg (by omega)]; exact g3 i hi, by rw [e, if_neg (by omega)]; exact g4, fun i hi => by rw [e, if_neg (by omega)]; exact g5 i hi, fun o' ho' w' hw' => ?_⟩, ?_⟩
  · by_cases q : 16 + 6 * o' + w' = 16 + 6 * o + w
    · have : w' = w := by omega
      subst this
      rw [e, if_pos q]
      exact ⟨k, hk, rfl⟩
    · rw [e, if_neg q]
      exact g6 o' ho' w' hw'
  · refine ⟨by rw [rd_k (by omega), e, if_neg (by omega)]; exact r1, by rw [rd_k (by omega), e, if_neg (by omega)]; exact r2, by rw [rd_k (by omega), e, if_neg (by omega)]; exact r3, by rw [rd_k (by omega), e, if_neg (by omega)]; exact r4, fun i hi => by rw [rd_k (by omega), e, if_neg (by omega)]; exact r5 i hi, fun i hi => by rw [rd_k (by omega), e, if_neg (by omega)]; exact r6 i hi, fun o' ho' w' hw' => ?_⟩
    by_cases q : 16 + 6 * o' + w' = 16 + 6 * o + w
    · have e1 : w' = w := by omega
      have e2 : o' = o := by omega
      subst e1; subst e2
      rw [rd_same, e, if_pos rfl]
    · show rd_ _ (34 + o') w' = _
      rw [e, if_neg q, rd_wr, if_neg (by omega)]
      exact r7 o' ho' w' hw'
theorem RA.law (h : RA σc σm n) {i k : Nat} (hi : i < 4) (hk : k ≤ bl i) : RA (wr_ σc 4 i (nI k)) (wr_ σm 1 (3 + i) (nI k)) n := by
  obtain ⟨⟨g1, g2, g3, g4, g5, g6⟩, r1, r2, r3, r4, r5, r6, r7⟩ := h
  have e := rowup σm (3 + i) (nI k)
  refine ⟨⟨by rw [e, if_neg (by omega)]; exact g1, g2, fun j hj => ?_, by rw [e, if_neg (by omega)]; exact g4, fun j hj => by rw [e, if_neg (by omega)]; exact g5 j hj, fun o' ho' w' hw' => by rw [e, if_neg (by omega)]; exact g6 o' ho' w' hw'⟩, ?_⟩
  · by_cases q : j = i
    · subst q; rw [e, if_pos rfl]; exact ⟨k, hk, rfl⟩
    · rw [e, if_neg (by omega)]; exact g3 j hj
  · refine ⟨by rw [rd_k (by omega), e, if_neg (by omega)]; exact r1, by rw [rd_k (by omega), e, if_neg (by omega)]; exact r2, by rw [rd_k (by omega), e, if_neg (by omega)]; exact r3, by rw [rd_k (by omega), e, if_neg (by omega)]; exact r4, fun j hj => ?_, fun j hj => by rw [rd_k (by omega), e, if_neg (by omega)]; exact r6 j hj, fun o' ho' w' hw' => by show rd_ _ (34 + o') w' = _; rw [rd_k (by omega), e, if_neg (by omega)]; exact r7 o' ho' w' hw'⟩
    by_cases q : j = i
    · subst q; rw [rd_same, e, if_pos rfl]
    · rw [rd_j q, e, if_neg (by omega)]; exact r5 j hj
theorem RA.vice (h : RA σc σm n) {i k : Nat} (hi : i < 8) (hk : k ≤ 99) : RA (wr_ σc 7 i (nI k)) (wr_ σm 1 (8 + i) (nI k)) n := by
  obtain ⟨⟨g1, g2, g3, g4, g5, g6⟩, r1, r2, r3, r4, r5, r6, r7⟩ := h
  have e := rowup σm (8 + i) (nI k)
  refine ⟨⟨by rw [e, if_neg (by omega)]; exact g1, g2, fun j hj => by rw [e, if_neg (by omega)]; exact g3 j hj, by rw [e, if_neg (by omega)]; exact g4, fun j hj => ?_, fun o' ho' w' hw' => by rw [e, if_neg (by omega)]; exact g6 o' ho' w' hw'⟩, ?_⟩
  · by_cases q : j = i
    · subst q; rw [e, if_pos rfl]; exact ⟨k, hk, rfl⟩
    · rw [e, if_neg (by omega)]; exact g5 j hj
  · refine ⟨by rw [rd_k (by omega), e, if_neg (by omega)]; exact r1, by rw [rd_k (by omega), e, if_neg (by omega)]; exact r2, by rw [rd_k (by omega), e, if_neg (by omega)]; exact r3, by rw [rd_k (by omega), e, if_neg (by omega)]; exact r4, fun j hj => by rw [rd_k (by omega), e, if_neg (by omega)]; exact r5 j hj, fun j hj => ?_, fun o' ho' w' hw' => by show rd_ _ (34 + o') w' = _; rw [rd_k (by omega), e, if_neg (by omega)]; exact r7 o' ho' w' hw'⟩
    by_cases q : j = i
    · subst q; rw [rd_same, e, if_pos rfl]
    · rw [rd_j q, e, if_neg (by omega)]; exact r6 j hj
theorem RA.easy (h : RA σc σm n) {k : Nat} (hk : k < 256) : RA (wr_ σc 1 2 (nI k)) (wr_ σm 1 7 (nI k)) n := by
  obtain ⟨⟨g1, g2, g3, g4, g5, g6⟩, r1, r2, r3, r4, r5, r6, r7⟩ := h
  have e := rowup σm 7 (nI k)
  refine ⟨⟨by rw [e, if_neg (by omega)]; exact g1, g2, fun j hj => by rw [e, if_neg (by omega)]; exact g3 j hj, by rw [e, if_pos rfl]; exact ⟨k, hk, rfl⟩, fun j hj => by rw [e, if_neg (by omega)]; exact g5 j hj, fun o' ho' w' hw' => by rw [e, if_neg (by omega)]; exact g6 o' ho' w' hw'⟩, ?_⟩
  exact ⟨by rw [rd_same, e, if_pos rfl], by rw [rd_j (by omega), e, if_neg (by omega)]; exact r2, by rw [rd_j (by omega), e, if_neg (by omega)]; exact r3, by rw [rd_j (by omega), e, if_neg (by omega)]; exact r4, fun j hj => by rw [rd_k (by omega), e, if_neg (by omega)]; exact r5 j hj, fun j hj => by rw [rd_k (by omega), e, if_neg (by omega)]; exact r6 j hj, fun o' ho' w' hw' => by show rd_ _ (34 + o') w' = _; rw [rd_k (by omega), e, if_neg (by omega)]; exact r7 o' ho' w' hw'⟩
theorem RA.zed (h : RA σc σm n) (v : Int32) : RA (wr_ σc 1 5 v) (wr_ σm 1 2 v) n := by
  obtain ⟨⟨g1, g2, g3, g4, g5, g6⟩, r1, r2, r3, r4, r5, r6, r7⟩ := h
  have e := rowup σm 2 v
  refine ⟨⟨by rw [e, if_neg (by omega)]; exact g1, g2, fun j hj => by rw [e, if_neg (by omega)]; exact g3 j hj, by rw [e, if_neg (by omega)]; exact g4, fun j hj => by rw [e, if_neg (by omega)]; exact g5 j hj, fun o' ho' w' hw' => by rw [e, if_neg (by omega)]; exact g6 o' ho' w' hw'⟩, ?_⟩
  exact ⟨by rw [rd_j (by omega), e, if_neg (by omega)]; exact r1, by rw [rd_j (by omega), e, if_neg (by omega)]; exact r2, by rw [rd_j (by omega), e, if_neg (by omega)]; exact r3, by rw [rd_same, e, if_pos rfl], fun j hj => by rw [rd_k (by omega), e, if_neg (by omega)]; exact r5 j hj, fun j hj => by rw [rd_k (by omega), e, if_neg (by omega)]; exact r6 j hj, fun o' ho' w' hw' => by show rd_ _ (34 + o') w' = _; rw [rd_k (by omega), e, if_neg (by omega)]; exact r7 o' ho' w' hw'⟩
theorem RA.yr (h : RA σc σm n) (v : Int32) : RA (wr_ σc 1 4 v) (wr_ σm 1 1 v) n := by
  obtain ⟨⟨g1, g2, g3, g4, g5, g6⟩, r1, r2, r3, r4, r5, r6, r7⟩ := h
  have e := rowup σm 1 v
  refine ⟨⟨by rw [e, if_neg (by omega)]; exact g1, g2, fun j hj => by rw [e, if_neg (by omega)]; exact g3 j hj, by rw [e, if_neg (by omega)]; exact g4, fun j hj => by rw [e, if_neg (by omega)]; exact g5 j hj, fun o' ho' w' hw' => by rw [e, if_neg (by omega)]; exact g6 o' ho' w' hw'⟩, ?_⟩
  exact ⟨by rw [rd_j (by omega), e, if_neg (by omega)]; exact r1, by rw [rd_j (by omega), e, if_neg (by omega)]; exact r2, by rw [rd_same, e, if_pos rfl], by rw [rd_j (by omega), e, if_neg (by omega)]; exact r4, fun j hj => by rw [rd_k (by omega), e, if_neg (by omega)]; exact r5 j hj, fun j hj => by rw [rd_k (by omega), e, if_neg (by omega)]; exact r6 j hj, fun o' ho' w' hw' => by show rd_ _ (34 + o') w' = _; rw [rd_k (by omega), e, if_neg (by omega)]; exact r7 o' ho' w' hw'⟩
end RAUP
theorem aC_life {o w : Nat} (h : o < 8) : aC (34 + o) w := by unfold aC; right; right; right; right; omega
theorem lmA_lt {k : Nat} (h : k < 4) : lmA k = nI (bl k) := by
  have : k = 0 ∨ k = 1 ∨ k = 2 ∨ k = 3 := by omega
  rcases this with rfl | rfl | rfl | rfl <;> rfl
theorem letsY {σ : Sg} {i : Nat} {v : Int32} (h : i < 64) : M_lets_0 σ (nI i) v = some (rd_ σ 1 i, wr_ σ 1 i v) := by
  unfold M_lets_0
  simp (disch := omega) only [in_nI, gd_tt, lt_eq, nI_clamp]
section SIMPLE
variable {σc σm : Sg}
theorem eq_lawOf (h : R σc σm) (x1 : Int32) : eqv (C_lawOf_0 σc x1) (M_lawOf_0 σm x1) := by
  obtain ⟨⟨n, ha⟩, ho⟩ := id h
  rcases rng x1 3 (by omega) with ⟨k, hk, rfl⟩ | hv
  · refine ⟨rd_ σc 4 k, σc, σm, ?_, ?_, h⟩
    · simp (disch := omega) only [C_lawOf_0, lit, cw1, bp_some, in_nI, gd_tt, nI_clamp, nI_eq, if_neg]
    · simp (disch := omega) only [M_lawOf_0, lit, litL, mi1, bp_some, in_nI, gd_tt, nI_clamp, nI_eq, if_neg, nI_add, lt_eq]
      rw [ha.2.2.2.2.2.1 k (by omega)]
      rfl
  · refine ⟨-1, σc, σm, ?_, ?_, h⟩
    · simp only [C_lawOf_0, lit, cw0 hv, bp_some, if_true]
    · simp (disch := omega) only [M_lawOf_0, lit, litL, mi0 (by omega) (by omega) (neg_any hv), bp_some, if_true]
theorem eq_set (h : R σc σm) (x1 x2 : Int32) : eqv (C_set_0 σc x1 x2) (M_set_0 σm x1 x2) := by
  obtain ⟨⟨n, ha⟩, ho⟩ := id h
  rcases rng x1 3 (by omega) with ⟨k, hk, rfl⟩ | hv
  · rcases rng x2 (bl k) (by have := bl_le k; omega) with ⟨v, hv, rfl⟩ | hv
    · have hb := bl_le k
      refine ⟨rd_ σc 4 k, wr_ σc 4 k (nI v), wr_ σm 1 (3 + k) (nI v), ?_, ?_, R.mk (ha.law (by omega) hv) (RO.scr ho (ag.rf.wr (by simp [aC])) (ag.rf.wr (by simp [aM])))⟩
      · simp (disch := omega) only [C_set_0, lit, cw1, bp_some, in_nI, gd_tt, nI_clamp, nI_eq, if_neg, lmA_lt, lt_eq]
      · have e : (rd_ σm 1 (3 + k)) = rd_ σc 4 k := (ha.2.2.2.2.2.1 k (by omega)).symm
        by_cases h2 : k < 2
        · have e2 : bl k = 9 := if_pos h2
          rw [e2] at hv
          simp (disch := omega) only [M_set_0, M_set_29, lit, litL, mi1, bp_some, nI_eq, if_neg, nI_leI, if_pos, nI_add, letsY, bi_some, e]
        · have e2 : bl k = 99 := if_neg h2
          rw [e2] at hv
          simp (disch := omega) only [M_set_0, M_set_29, lit, litL, mi1, bp_some, nI_eq, if_neg, nI_leI, if_pos, nI_add, letsY, bi_some, e]
    · refine ⟨-1, σc, σm, ?_, ?_, h⟩
      · simp (disch := omega) only [C_set_0, lit, cw1, bp_some, in_nI, gd_tt, nI_clamp, nI_eq, if_neg, lmA_lt, cw0 hv, if_true]
      · by_cases h2 : k < 2
        · have e2 : bl k = 9 := if_pos h2
          rw [e2] at hv
          simp (disch := omega) only [M_set_0, M_set_29, lit, litL, mi1, bp_some, nI_eq, if_neg, nI_leI, if_pos, mi0 (by omega) (by omega) (neg_any hv), if_true]
        · have e2 : bl k = 99 := if_neg h2
          rw [e2] at hv
          simp (disch := omega) only [M_set_0, M_set_29, lit, litL, mi1, bp_some, nI_eq, if_neg, nI_leI, mi0 (by omega) (by omega) (neg_any hv), if_true]
  · refine ⟨-1, σc, σm, ?_, ?_, h⟩
    · simp only [C_set_0, lit, cw0 hv, bp_some, if_true]
    · simp (disch := omega) only [M_set_0, lit, litL, mi0 (by omega) (by omega) (neg_any hv), bp_some, if_true]
theorem eq_seed (h : R σc σm) (x1 : Int32) : eqv (C_seed_0 σc x1) (M_seed_0 σm x1) := by
  obtain ⟨⟨n, ha⟩, ho⟩ := id h
  refine ⟨rd_ σc 1 5, wr_ σc 1 5 x1, wr_ σm 1 2 x1, ?_, ?_, R.mk (ha.zed x1) (RO.scr ho (ag.rf.wr (by simp [aC])) (ag.rf.wr (by simp [aM])))⟩
  · simp only [C_seed_0, lt_eq]
  · simp (disch := omega) only [M_seed_0, lit, letsY, bi_some]
    rw [ha.2.2.2.2.1]
    rfl
theorem eq_vice (h : R σc σm) (x1 x2 : Int32) : eqv (C_vice_0 σc x1 x2) (M_vice_0 σm x1 x2) := by
  obtain ⟨⟨n, ha⟩, ho⟩ := id h
  rcases rng x1 7 (by omega) with ⟨k, hk, rfl⟩ | hv
  · rcases rng x2 99 (by omega) with ⟨v, hv, rfl⟩ | hv
    · refine ⟨rd_ σc 7 k, wr_ σc 7 k (nI v), wr_ σm 1 (8 + k) (nI v), ?_, ?_, R.mk (ha.vice (by omega) hv) (RO.scr ho (ag.rf.wr (by simp [aC])) (ag.rf.wr (by simp [aM])))⟩
      · simp (disch := omega) only [C_vice_0, lit, cgm1, cw1, bp_some, in_nI, gd_tt, nI_clamp, nI_eq, if_neg, lt_eq]
      · have e : (rd_ σm 1 (8 + k)) = rd_ σc 7 k := (ha.2.2.2.2.2.2.1 k (by omega)).symm
        simp (disch := omega) only [M_vice_0, lit, litL, mgm1, mi1, bp_some, nI_eq, if_neg, nI_add, letsY, bi_some, e]
    · refine ⟨-1, σc, σm, ?_, ?_, h⟩
      · simp (disch := omega) only [C_vice_0, lit, cgm1, bp_some, nI_eq, if_neg, cw0 hv, if_true]
      · simp (disch := omega) only [M_vice_0, lit, litL, mgm1, bp_some, nI_eq, if_neg, mi0 (by omega) (by omega) (neg_any hv), if_true]
  · refine ⟨-1, σc, σm, ?_, ?_, h⟩
    · simp only [C_vice_0, lit, cgm0 hv, bp_some, if_true]
    · simp only [M_vice_0, lit, mgm0 hv, bp_some, if_true]
theorem mark_at {σ : Sg} {j w : Nat} (hj : j < 25) (hw : w < 6) : C6_mark_0 σ j (nI w) = some (rd_ σ (34 + j) w, σ) := by
  have : w = 0 ∨ w = 1 ∨ w = 2 ∨ w = 3 ∨ w = 4 ∨ w = 5 := by omega
  rcases this with rfl | rfl | rfl | rfl | rfl | rfl <;> simp (disch := omega) only [C6_mark_0, lit, nI_eq, if_true, if_neg, lf_tt, gd_tt]
theorem remark_at {σ : Sg} {j w : Nat} {v : Int32} (hj : j < 25) (hw : w < 6) : C6_remark_0 σ j (nI w) v = some ((), wr_ σ (34 + j) w v) := by
  have : w = 0 ∨ w = 1 ∨ w = 2 ∨ w = 3 ∨ w = 4 ∨ w = 5 := by omega
  rcases this with rfl | rfl | rfl | rfl | rfl | rfl <;> simp (disch := omega) only [C6_remark_0, lit, nI_eq, if_true, if_neg, lf_tt, gd_tt, lt_eq]
theorem eq_of (h : R σc σm) (x1 x2 : Int32) : eqv (C_of_0 σc x1 x2) (M_of_0 σm x1 x2) := by
  obtain ⟨⟨n, ha⟩, ho⟩ := id h
  have hn := ha.1.2.1
  rcases ixn x1 hn with ⟨k, hk, rfl⟩ | hv
  · rcases rng x2 5 (by omega) with ⟨w, hw, rfl⟩ | hv
    · refine ⟨rd_ σc (34 + k) w, σc, σm, ?_, ?_, h⟩
      · simp (disch := omega) only [C_of_0, lifeY ha hk, bi_some, on_S, lit, cw1, bp_some, nI_eq, if_neg, lf_tt, gd_tt, mark_at]
      · simp (disch := omega) only [M_of_0, oneY ha hk, bi_some, lit, litL, mi1, bp_some, nI_eq, if_neg, itsY]
        rw [ha.2.2.2.2.2.2.2 k hk w (by omega)]
        rfl
    · refine ⟨-1, σc, σm, ?_, ?_, h⟩
      · simp (disch := omega) only [C_of_0, lifeY ha hk, bi_some, on_S, lit, cw0 hv, bp_some, if_true]
      · simp (disch := omega) only [M_of_0, oneY ha hk, bi_some, lit, litL, mi0 (by omega) (by omega) (neg_any hv), bp_some, nI_eq, if_neg, if_true]
  · refine ⟨-1, σc, σm, ?_, ?_, h⟩
    · simp only [C_of_0, lifeN ha hv, bi_some, on_N]
    · simp only [M_of_0, oneN ha hv, bi_some, lit, if_true]
theorem eq_swear (h : R σc σm) (x1 x2 : Int32) : eqv (C_swear_0 σc x1 x2) (M_swear_0 σm x1 x2) := by
  obtain ⟨⟨n, ha⟩, ho⟩ := id h
  have hn := ha.1.2.1
  rcases ixn x1 hn with ⟨k, hk, rfl⟩ | hv
  · rcases rng x2 7 (by omega) with ⟨w, hw, rfl⟩ | hv
    · refine ⟨rd_ σc (34 + k) 5, wr_ σc (34 + k) 5 (nI w), wr_ σm 1 (16 + 6 * k + 5) (nI w), ?_, ?_, R.mk (ha.life hk (by omega) hw) (RO.scr ho (ag.rf.wr (aC_life (by omega))) (ag.rf.wr (by simp [aM])))⟩
      · simp (disch := omega) only [C_swear_0, lifeY ha hk, bi_some, on_S, lit, cgm1, bp_some, nI_eq, if_neg, lf_tt, gd_tt, lt_eq]
      · have e : rd_ σm 1 (16 + 6 * k + 5) = rd_ σc (34 + k) 5 := (ha.2.2.2.2.2.2.2 k hk 5 (by omega)).symm
        simp (disch := omega) only [M_swear_0, oneY ha hk, bi_some, lit, mgm1, bp_some, nI_eq, if_neg, pk_mul, nI_add, letsY, e]
    · refine ⟨-1, σc, σm, ?_, ?_, h⟩
      · simp (disch := omega) only [C_swear_0, lifeY ha hk, bi_some, on_S, lit, cgm0 hv, bp_some, if_true]
      · simp (disch := omega) only [M_swear_0, oneY ha hk, bi_some, lit, mgm0 hv, bp_some, nI_eq, if_neg, if_true]
  · refine ⟨-1, σc, σm, ?_, ?_, h⟩
    · simp only [C_swear_0, lifeN ha hv, bi_some, on_N]
    · simp only [M_swear_0, oneN ha hv, bi_some, lit, if_true]
theorem kwf1 {a b : Nat} (ha : a ≤ 5) (hb : b ≤ 9) : C_isKindWithFire_0 (nI a) (nI b) = some (nI 1) := by
  simp (disch := omega) only [C_isKindWithFire_0, lit, cw1, bp_some, nI_eq, if_neg]
theorem kwf0 {x y : Int32} (h : x < 0 ∨ nI 5 < x) : C_isKindWithFire_0 x y = some (nI 0) := by
  simp only [C_isKindWithFire_0, lit, cw0 h, bp_some, if_true]
theorem kwf2 {a : Nat} {y : Int32} (ha : a ≤ 5) (h : y < 0 ∨ nI 9 < y) : C_isKindWithFire_0 (nI a) y = some (nI 0) := by
  simp (disch := omega) only [C_isKindWithFire_0, lit, cw1, cw0 h, bp_some, nI_eq, if_neg, if_true]
theorem eq_mind (h : R σc σm) (x1 x2 x3 : Int32) : eqv (C_mind_0 σc x1 x2 x3) (M_mind_0 σm x1 x2 x3) := by
  obtain ⟨⟨n, ha⟩, ho⟩ := id h
  have hn := ha.1.2.1
  rcases ixn x1 hn with ⟨k, hk, rfl⟩ | hv
  · rcases rng x2 5 (by omega) with ⟨w, hw, rfl⟩ | hv
    · rcases rng x3 9 (by omega) with ⟨u, hu, rfl⟩ | hv
      · have h1 := (ha.life hk (w := 2) (by omega) hu)
        have h2 := (h1.life hk (w := 0) (by omega) hw)
        have e0 : rd_ σm 1 (16 + 6 * k + 0) = rd_ σc (34 + k) 0 := (ha.2.2.2.2.2.2.2 k hk 0 (by omega)).symm
        refine ⟨rd_ σc (34 + k) 0, wr_ (wr_ σc (34 + k) 0 (nI w)) (34 + k) 2 (nI u), wr_ (wr_ σm 1 (16 + 6 * k + 2) (nI u)) 1 (16 + 6 * k) (nI w), ?_, ?_, ?_⟩
        · simp (disch := omega) only [C_mind_0, lifeY ha hk, bi_some, on_S, lit, kwf1, bp_some, nI_eq, if_neg, lf_tt, gd_tt, lt_eq]
        · rw [Nat.add_zero] at e0
          simp (disch := omega) only [M_mind_0, oneY ha hk, bi_some, lit, litL, mi1, bp_some, nI_eq, if_neg, pk_mul, nI_add, in_nI, gd_tt, nI_clamp, lt_eq, letsY, rd_j, e0]
        · have h3 := (ha.life hk (w := 0) (by omega) hw).life hk (w := 2) (k := u) (by omega) hu
          refine R.mk (n := n) ?_ (RO.scr ho ((ag.rf.wr (aC_life (by omega))).wr (aC_life (by omega))) ((ag.rf.wr (by simp [aM])).wr (by simp [aM])))
          have e3 : wr_ (wr_ σm 1 (16 + 6 * k + 2) (nI u)) 1 (16 + 6 * k) (nI w) = wr_ (wr_ σm 1 (16 + 6 * k + 0) (nI w)) 1 (16 + 6 * k + 2) (nI u) := by
            unfold wr_
            refine Prod.ext ?_ rfl
            funext q
            by_cases hq : q = 1
            · subst hq
              simp only [va_up, if_true]
              funext j
              simp only [upd, Nat.add_zero]
              by_cases a1 : j = 16 + 6 * k <;> by_cases a2 : j = 16 + 6 * k + 2 <;> simp [a1, a2]
            · simp [va_up, hq]
          rw [e3]
          exact h3
      · refine ⟨-1, σc, σm, ?_, ?_, h⟩
        · simp (disch := omega) only [C_mind_0, lifeY ha hk, bi_some, on_S, lit, kwf2 hw hv, bp_some, if_true]
        · simp (disch := omega) only [M_mind_0, oneY ha hk, bi_some, lit, litL, mi1, mi0 (by omega) (by omega) (neg_any hv), bp_some, nI_eq, if_neg, if_true]
    · refine ⟨-1, σc, σm, ?_, ?_, h⟩
      · simp (disch := omega) only [C_mind_0, lifeY ha hk, bi_some, on_S, lit, kwf0 hv, bp_some, if_true]
      · simp (disch := omega) only [M_mind_0, oneY ha hk, bi_some, lit, litL, mi0 (by omega) (by omega) (neg_any hv), bp_some, nI_eq, if_neg, if_true]
  · refine ⟨-1, σc, σm, ?_, ?_, h⟩
    · simp only [C_mind_0, lifeN ha hv, bi_some, on_N]
    · simp only [M_mind_0, oneN ha hv, bi_some, lit, if_true]
end SIMPLE
