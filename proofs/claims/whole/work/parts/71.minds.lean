/-! minds, fits -/
def hv (v : Int32) : Nat := if v < 0 then 0 else if nI 99 < v then 99 else v.toNatClampNeg
theorem hv_le (v : Int32) : hv v ≤ 99 := by
  unfold hv
  by_cases c : v < 0
  · rw [if_pos c]; omega
  · rw [if_neg c]
    by_cases d : nI 99 < v
    · rw [if_pos d]; omega
    · rw [if_neg d]
      obtain ⟨j, hj, rfl⟩ := nI_of c
      rw [nI_clamp hj]
      by_cases e : j ≤ 99
      · exact e
      · exact absurd (nI_lt (by omega) hj) d
theorem held_hv (v : Int32) : C_held_0 v = some (nI (hv v)) := by
  by_cases c : v < 0
  · have e : hv v = 0 := by unfold hv; rw [if_pos c]
    unfold C_held_0
    have e2 : v < 99 := by
      rw [Int32.lt_iff_toInt_lt] at c ⊢
      have h1 : (0 : Int32).toInt = 0 := by decide
      have h2 : (99 : Int32).toInt = 99 := by decide
      omega
    rw [if_pos e2, if_neg (Int32.not_lt.mpr (Int32.le_of_lt c)), e]
    rfl
  · obtain ⟨j, hj, rfl⟩ := nI_of c
    rw [held_p hj]
    unfold hv
    rw [if_neg c]
    by_cases d : nI 99 < nI j
    · have := (nI_ltI (by omega) hj).mp d
      rw [if_pos d, if_neg (by omega)]
    · rw [if_neg d, nI_clamp hj, if_pos (Nat.not_lt.mp (fun q => d (nI_lt q hj)))]
theorem within_hv (v : Int32) : M_within_0 v = some (nI (hv v)) := by
  by_cases c : v < 0
  · have e : hv v = 0 := by unfold hv; rw [if_pos c]
    unfold M_within_0
    rw [if_neg (Int32.not_le.mpr c), e]
    rfl
  · obtain ⟨j, hj, rfl⟩ := nI_of c
    rw [mwithin j hj]
    unfold hv
    rw [if_neg c]
    by_cases d : nI 99 < nI j
    · have := (nI_ltI (by omega) hj).mp d
      rw [if_pos d, if_neg (by omega)]
    · rw [if_neg d, nI_clamp hj, if_pos (Nat.not_lt.mp (fun q => d (nI_lt q hj)))]
def mdC (σ : Sg) (c : Nat) (f : Nat → Nat) : Nat → Sg
  | 0 => σ
  | j + 1 => wr_ (mdC σ c f j) (34 + (c + j)) 1 (nI (f j))
def mdM (σ : Sg) (c : Nat) (f : Nat → Nat) : Nat → Sg
  | 0 => σ
  | j + 1 => wr_ (mdM σ c f j) 1 (16 + 6 * (c + j) + 1) (nI (f j))
section MD
variable {σc σm : Sg}
theorem md_R {n c q : Nat} {f : Nat → Nat} (ha : RA σc σm n) (ho : RO σc σm) (hf : ∀ j, f j ≤ 99) (hc : c + q ≤ n) : RA (mdC σc c f q) (mdM σm c f q) n ∧ RO (mdC σc c f q) (mdM σm c f q) := by
  have hn := ha.1.2.1
  induction q with
  | zero => exact ⟨ha, ho⟩
  | succ q ih =>
    obtain ⟨h1, h2⟩ := ih (by omega)
    exact ⟨h1.life (o := c + q) (by omega) (by omega) (show f q ≤ 99 from hf q), RO.scr h2 (ag.rf.wr (aC_life (by omega))) (ag.rf.wr (Or.inr rfl))⟩
theorem mdC_k {c q k j : Nat} {f : Nat → Nat} (hk : k < 34) : rd_ (mdC σc c f q) k j = rd_ σc k j := by
  induction q with
  | zero => rfl
  | succ q ih => show rd_ (wr_ _ _ _ _) _ _ = _; rw [rd_k (by omega)]; exact ih
theorem mdC_l {c q i : Nat} {f : Nat → Nat} : rl_ (mdC σc c f q) i = rl_ σc i := by
  induction q with
  | zero => rfl
  | succ q ih => exact ih
theorem mdM_k {c q k j : Nat} {f : Nat → Nat} (hk : ¬ k = 1) : rd_ (mdM σm c f q) k j = rd_ σm k j := by
  induction q with
  | zero => rfl
  | succ q ih => show rd_ (wr_ _ _ _ _) _ _ = _; rw [rd_k hk]; exact ih
theorem i32_64 (x : Int32) : x.toInt64.toInt32 = x := by simp
theorem eq_minds (h : R σc σm) (x1 x2 x3 x4 : Int32) : eqv (C_minds_0 σc x1 x2 x3 x4) (M_minds_0 σm x1 x2 x3 x4) := by
  obtain ⟨⟨n, ha⟩, ho⟩ := id h
  have hn := ha.1.2.1
  have hs := h.2.2.2.2.1
  rcases rng x1 3 (by omega) with ⟨k, hk, rfl⟩ | hv
  · have hk4 : k < 4 := by omega
    rcases ixn x3 hn with ⟨c, hc, rfl⟩ | hv
    · rcases rng x4 8 (by omega) with ⟨q, hq, rfl⟩ | hv
      · by_cases d : c + q ≤ n
        · rcases hs k hk4 with ⟨e1, e2, e3, e4⟩ | ⟨s, z, b1, b2, e1, e2, e3, e4, e5⟩
          · refine ⟨-11, σc, σm, ?_, ?_, h⟩
            · simp (disch := omega) only [C_minds_0, csh1 hk4, bi_some, lit, nI_eq, if_neg, lifeY ha hc, on_S, cw1, bp_some, nI_add, ha.cnt, nI_leI, if_pos, cmiss1 hk4 e1]
            · unfold M_minds_0
              rw [msh1 hk4, bp_some, if_neg (by decide), oneY ha hc, bi_some, if_neg (by decide), show (0 : Int64) = lN 0 from rfl, show (8 : Int64) = lN 8 from rfl, mi1 (by omega) hq (by omega), bp_some, if_neg (by decide), nI_add, ha.n0, if_pos (nI_le d (by omega)), mlack11 hk4 e2, bi_some, if_neg (by decide), mlack11 hk4 e2, bi_some]
          · by_cases s0 : s = 0
            · subst s0
              have el : M_lacks_0 σm (nI k) 0 = some (nI 0, σm) := by rw [mlack hk4 (by omega) e2, if_pos (by decide)]
              have hMin : M_minds_0 σm (nI k) x2 (nI c) (nI q) = bp_ (M_isIn_0 x2.toInt64 (lN 0) (lN z)) fun r_18 => if r_18 = 0 then (some (-12, σm)) else (if (lg_cmp (x2.toInt64 + (nI q).toInt64) (lN z)) ≤ 0 then (lp_ M_minds_98 (fun _ _ _ _ _ _ => none) FU σm (nI k) x2 (nI c) (nI q) (nI 0)) else (some (-12, σm))) := by
                unfold M_minds_0
                rw [msh1 hk4, bp_some, if_neg (by decide), oneY ha hc, bi_some, if_neg (by decide), show (0 : Int64) = lN 0 from rfl, show (8 : Int64) = lN 8 from rfl, mi1 (by omega) hq (by omega), bp_some, if_neg (by decide), nI_add, ha.n0, if_pos (nI_le d (by omega)), el, bi_some, if_pos (by decide), in_nI hk4 (by omega), gd_tt, nI_clamp (by omega), e4, wide z (by omega)]
                rfl
              have hCin : C_minds_0 σc (nI k) x2 (nI c) (nI q) = bp_ (C_within_0 x2 (nI z)) fun r_25 => if r_25 = 0 then (some (-12, σc)) else (if nI q ≤ (nI z - x2) then (lp_ C_minds_112 (fun _ _ _ _ _ _ => none) FU σc (nI k) x2 (nI c) (nI q) (nI 0)) else (some (-12, σc))) := by
                unfold C_minds_0
                rw [csh1 hk4, bi_some, if_neg (by decide), lifeY ha hc, bi_some, on_S, show (8 : Int32) = nI 8 from rfl, cw1 hq (by omega), bp_some, if_neg (by decide), nI_add, ha.cnt, if_pos (nI_le d (by omega)), cmiss0 hk4 (by omega) e1, bi_some, if_pos (by decide), csort hk4, e1, bi_some, if_pos (by decide), csize hk4, e3, bi_some]
                rfl
              rcases rng x2 z (by omega) with ⟨i, hi, rfl⟩ | hv
              · by_cases iq : i + q ≤ z
                · have hf : ∀ j, (fun j => hv (rd_ σm 11 (40 * k + i + j))) j ≤ 99 := fun j => hv_le _
                  generalize hfe : (fun j => hv (rd_ σm 11 (40 * k + i + j))) = f at hf
                  obtain ⟨r1, r2⟩ := md_R ha ho hf d
                  refine ⟨nI q, mdC σc c f q, mdM σm c f q, ?_, ?_, R.mk r1 r2⟩
                  · rw [hCin, cw1 hi (by omega), bp_some, if_neg (by decide), pk_sub hi, if_pos (nI_le (by omega) (by omega))]
                    refine lg6 (F := C_minds_112) (z := fun _ _ _ _ _ _ => none) q (fun j => mdC σc c f j) (fun _ => nI k) (fun _ => nI i) (fun _ => nI c) (fun _ => nI q) (fun j => nI j) _ ?_ ?_ (FU_gt (by omega))
                    · intro K j hj
                      have c3 : rd_ (mdC σc c f j) 1 3 = nI n := by rw [mdC_k (by omega)]; exact ha.cnt
                      have ei : C2_itemAt_0 (mdC σc c f j) (nI k) (nI (i + j)) = some ((rd_ σm 11 (40 * k + i + j)).toInt64, mdC σc c f j) := by
                        rw [citem1 hk4 b2 (by rw [mdC_k (by omega)]; exact e3) (by omega), mdC_l, e5 _ (by omega), ← Nat.add_assoc]
                      have ef : hv (rd_ σm 11 (40 * k + i + j)) = f j := by rw [← hfe]
                      unfold C_minds_112 C_minds_158
                      rw [if_neg (nI_ge hj (by omega)), nI_add, lifeY0 hn c3 (by omega), bi_some, on_S, nI_add, ei, bi_some, i32_64, held_hv, bp_some, lf_tt (by omega), gd_tt, lt_eq, lt_eq, ef, lit, nI_add]
                      rfl
                    · intro K
                      unfold C_minds_112
                      rw [if_pos (Int32.le_refl _)]
                  · rw [hMin, mi1 (by omega) hi (by omega), bp_some, if_neg (by decide), wide i (by omega), wide q (by omega), lN_add]
                    have hcmp : lg_cmp (lN (i + q)) (lN z) ≤ 0 := by
                      rcases lc_le ((lN_le (by omega) (by omega)).mpr iq : lN (i + q) ≤ lN z) with w | w <;> rw [w] <;> decide
                    rw [if_pos hcmp]
                    refine lg6 (F := M_minds_98) (z := fun _ _ _ _ _ _ => none) q (fun j => mdM σm c f j) (fun _ => nI k) (fun _ => nI i) (fun _ => nI c) (fun _ => nI q) (fun j => nI j) _ ?_ ?_ (FU_gt (by omega))
                    · intro K j hj
                      have ef : hv (rd_ σm 11 (40 * k + i + j)) = f j := by rw [← hfe]
                      have e11 : rd_ (mdM σm c f j) 11 (40 * k + i + j) = rd_ σm 11 (40 * k + i + j) := mdM_k (by omega)
                      unfold M_minds_98
                      rw [if_neg (nI_ge hj (by omega))]
                      simp (disch := omega) only [lit, pk_mul, nI_add, lt_eq, in_nI, gd_tt, nI_clamp, e11, within_hv, bp_some, ef]
                      rfl
                    · intro K
                      unfold M_minds_98
                      rw [if_pos (Int32.le_refl _)]
                · refine ⟨-12, σc, σm, ?_, ?_, h⟩
                  · rw [hCin, cw1 hi (by omega), bp_some, if_neg (by decide), pk_sub hi, if_neg (nI_ge (by omega) (by omega))]
                  · rw [hMin, mi1 (by omega) hi (by omega), bp_some, if_neg (by decide), wide i (by omega), wide q (by omega), lN_add]
                    have hcmp : ¬ lg_cmp (lN (i + q)) (lN z) ≤ 0 := by
                      rw [lc_gt ((lN_lt (by omega) (by omega)).mpr (by omega))]; decide
                    rw [if_neg hcmp]
              · refine ⟨-12, σc, σm, ?_, ?_, h⟩
                · rw [hCin, cw0 hv, bp_some, if_pos (by decide)]
                · rw [hMin, mi0 (by omega) (by omega) (neg_any hv), bp_some, if_pos (by decide)]
            · have el : M_lacks_0 σm (nI k) 0 = some (-13, σm) := by rw [mlack hk4 (by omega) e2, if_neg (nI_ne0 (by omega) (by omega))]
              refine ⟨-13, σc, σm, ?_, ?_, h⟩
              · unfold C_minds_0
                rw [csh1 hk4, bi_some, if_neg (by decide), lifeY ha hc, bi_some, on_S, show (8 : Int32) = nI 8 from rfl, cw1 hq (by omega), bp_some, if_neg (by decide), nI_add, ha.cnt, if_pos (nI_le d (by omega)), cmiss0 hk4 (by omega) e1, bi_some, if_pos (by decide), csort hk4, e1, bi_some, if_neg (nI_ne0 (by omega) (by omega))]
              · unfold M_minds_0
                rw [msh1 hk4, bp_some, if_neg (by decide), oneY ha hc, bi_some, if_neg (by decide), show (0 : Int64) = lN 0 from rfl, show (8 : Int64) = lN 8 from rfl, mi1 (by omega) hq (by omega), bp_some, if_neg (by decide), nI_add, ha.n0, if_pos (nI_le d (by omega)), el, bi_some, if_neg (by decide), el, bi_some]
        · refine ⟨-1, σc, σm, ?_, ?_, h⟩
          · simp (disch := omega) only [C_minds_0, csh1 hk4, bi_some, lit, nI_eq, if_neg, lifeY ha hc, on_S, cw1, bp_some, nI_add, ha.cnt, nI_leI]
          · simp (disch := omega) only [M_minds_0, msh1 hk4, bi_some, lit, litL, nI_eq, if_neg, oneY ha hc, mi1, bp_some, nI_add, ha.n0, nI_leI]
      · refine ⟨-1, σc, σm, ?_, ?_, h⟩
        · simp (disch := omega) only [C_minds_0, csh1 hk4, bi_some, lit, nI_eq, if_neg, lifeY ha hc, on_S, cw0 hv, bp_some, if_true]
        · simp (disch := omega) only [M_minds_0, msh1 hk4, bi_some, lit, litL, nI_eq, if_neg, oneY ha hc, mi0 (by omega) (by omega) (neg_any hv), bp_some, if_true]
    · refine ⟨-1, σc, σm, ?_, ?_, h⟩
      · simp (disch := omega) only [C_minds_0, csh1 hk4, bi_some, lit, nI_eq, if_neg, lifeN ha hv, on_N]
      · simp (disch := omega) only [M_minds_0, msh1 hk4, bi_some, bp_some, lit, nI_eq, if_neg, oneN ha hv, if_true]
  · refine ⟨-1, σc, σm, ?_, ?_, h⟩
    · simp only [C_minds_0, csh0 hv, bi_some, lit, if_true]
    · simp only [M_minds_0, msh0 hv, bp_some, lit, if_true]
end MD
