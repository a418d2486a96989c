def sB_2_1 (k j : Nat) : Prop := k = 2 ∨ k = 5 ∨ k = 8 ∨ (42 ≤ k ∧ k < 42 + 8)
theorem bec_ag_2_1 (σ : Sg) : ag sB_2_1 σ (bec_2_1 σ) := by
  unfold bec_2_1
  refine ag.wr (ag.wr (ag.wr (ag.wr ?_ (Or.inl rfl)) (Or.inl rfl)) (Or.inl rfl)) (Or.inl rfl)
  refine ⟨fun k j h => ?_, fun i => rfl⟩
  have h1 : ¬ k = 5 := fun q => h (Or.inr (Or.inl q))
  have h2 : ¬ k = 8 := fun q => h (Or.inr (Or.inr (Or.inl q)))
  have h3 : ¬ (42 ≤ k ∧ k < 42 + 8) := fun q => h (Or.inr (Or.inr (Or.inr q)))
  simp only [rd_row, cpl]
  rw [if_neg h3, st_k h2, st_k h1]
theorem bec_rc_2_1 {σ : Sg} {f : Nat → Int32} {n : Nat} (hn : n ≤ 8) (h : rc σ 1 4 7 (fun o => 34 + o) f n) : rc (bec_2_1 σ) 2 5 8 (fun o => 34 + (8 + o)) f n := by
  obtain ⟨h1, h2, h3, h4, h5, h6, h7⟩ := h
  unfold bec_2_1
  refine ⟨?_, ?_, ?_, ?_, fun i hi => ?_, fun g hg => ?_, fun o ho w hw => ?_⟩
  · rw [rd_j (by omega), rd_j (by omega), rd_j (by omega), rd_same]; exact h1
  · rw [rd_j (by omega), rd_j (by omega), rd_same]; exact h2
  · rw [rd_j (by omega), rd_same]; exact h3
  · rw [rd_same]; exact h4
  · rw [rd_k (by omega), rd_k (by omega), rd_k (by omega), rd_k (by omega)]
    simp only [rd_row, cpl]
    rw [if_neg (by omega), st_k (by omega), st_same]
    unfold fl
    rw [if_pos hi]
    exact h5 i hi
  · rw [rd_k (by omega), rd_k (by omega), rd_k (by omega), rd_k (by omega)]
    simp only [rd_row, cpl]
    rw [if_neg (by omega), st_same]
    unfold fl
    rw [if_pos hg]
    exact h6 g hg
  · show rd_ _ (34 + (8 + o)) w = _
    rw [rd_k (by omega), rd_k (by omega), rd_k (by omega), rd_k (by omega)]
    simp only [rd_row, cpl]
    rw [if_pos (by omega), st_k (by omega), st_k (by omega), show 34 + (34 + (8 + o) - 42) = 34 + o by omega]
    unfold fl
    rw [if_pos hw]
    exact h7 o ho w hw
def sB_1_2 (k j : Nat) : Prop := k = 1 ∨ k = 4 ∨ k = 7 ∨ (34 ≤ k ∧ k < 34 + 8)
theorem bec_ag_1_2 (σ : Sg) : ag sB_1_2 σ (bec_1_2 σ) := by
  unfold bec_1_2
  refine ag.wr (ag.wr (ag.wr (ag.wr ?_ (Or.inl rfl)) (Or.inl rfl)) (Or.inl rfl)) (Or.inl rfl)
  refine ⟨fun k j h => ?_, fun i => rfl⟩
  have h1 : ¬ k = 4 := fun q => h (Or.inr (Or.inl q))
  have h2 : ¬ k = 7 := fun q => h (Or.inr (Or.inr (Or.inl q)))
  have h3 : ¬ (34 ≤ k ∧ k < 34 + 8) := fun q => h (Or.inr (Or.inr (Or.inr q)))
  simp only [rd_row, cpl]
  rw [if_neg h3, st_k h2, st_k h1]
theorem bec_rc_1_2 {σ : Sg} {f : Nat → Int32} {n : Nat} (hn : n ≤ 8) (h : rc σ 2 5 8 (fun o => 34 + (8 + o)) f n) : rc (bec_1_2 σ) 1 4 7 (fun o => 34 + o) f n := by
  obtain ⟨h1, h2, h3, h4, h5, h6, h7⟩ := h
  unfold bec_1_2
  refine ⟨?_, ?_, ?_, ?_, fun i hi => ?_, fun g hg => ?_, fun o ho w hw => ?_⟩
  · rw [rd_j (by omega), rd_j (by omega), rd_j (by omega), rd_same]; exact h1
  · rw [rd_j (by omega), rd_j (by omega), rd_same]; exact h2
  · rw [rd_j (by omega), rd_same]; exact h3
  · rw [rd_same]; exact h4
  · rw [rd_k (by omega), rd_k (by omega), rd_k (by omega), rd_k (by omega)]
    simp only [rd_row, cpl]
    rw [if_neg (by omega), st_k (by omega), st_same]
    unfold fl
    rw [if_pos hi]
    exact h5 i hi
  · rw [rd_k (by omega), rd_k (by omega), rd_k (by omega), rd_k (by omega)]
    simp only [rd_row, cpl]
    rw [if_neg (by omega), st_same]
    unfold fl
    rw [if_pos hg]
    exact h6 g hg
  · show rd_ _ (34 + o) w = _
    rw [rd_k (by omega), rd_k (by omega), rd_k (by omega), rd_k (by omega)]
    simp only [rd_row, cpl]
    rw [if_pos (by omega), st_k (by omega), st_k (by omega), show 42 + (34 + o - 34) = 34 + (8 + o) by omega]
    unfold fl
    rw [if_pos hw]
    exact h7 o ho w hw
def sB_1_3 (k j : Nat) : Prop := k = 1 ∨ k = 4 ∨ k = 7 ∨ (34 ≤ k ∧ k < 34 + 8)
theorem bec_ag_1_3 (σ : Sg) : ag sB_1_3 σ (bec_1_3 σ) := by
  unfold bec_1_3
  refine ag.wr (ag.wr (ag.wr (ag.wr ?_ (Or.inl rfl)) (Or.inl rfl)) (Or.inl rfl)) (Or.inl rfl)
  refine ⟨fun k j h => ?_, fun i => rfl⟩
  have h1 : ¬ k = 4 := fun q => h (Or.inr (Or.inl q))
  have h2 : ¬ k = 7 := fun q => h (Or.inr (Or.inr (Or.inl q)))
  have h3 : ¬ (34 ≤ k ∧ k < 34 + 8) := fun q => h (Or.inr (Or.inr (Or.inr q)))
  simp only [rd_row, cpl]
  rw [if_neg h3, st_k h2, st_k h1]
theorem bec_rc_1_3 {σ : Sg} {f : Nat → Int32} {n : Nat} (hn : n ≤ 8) (h : rc σ 3 6 9 (fun o => 34 + (16 + o)) f n) : rc (bec_1_3 σ) 1 4 7 (fun o => 34 + o) f n := by
  obtain ⟨h1, h2, h3, h4, h5, h6, h7⟩ := h
  unfold bec_1_3
  refine ⟨?_, ?_, ?_, ?_, fun i hi => ?_, fun g hg => ?_, fun o ho w hw => ?_⟩
  · rw [rd_j (by omega), rd_j (by omega), rd_j (by omega), rd_same]; exact h1
  · rw [rd_j (by omega), rd_j (by omega), rd_same]; exact h2
  · rw [rd_j (by omega), rd_same]; exact h3
  · rw [rd_same]; exact h4
  · rw [rd_k (by omega), rd_k (by omega), rd_k (by omega), rd_k (by omega)]
    simp only [rd_row, cpl]
    rw [if_neg (by omega), st_k (by omega), st_same]
    unfold fl
    rw [if_pos hi]
    exact h5 i hi
  · rw [rd_k (by omega), rd_k (by omega), rd_k (by omega), rd_k (by omega)]
    simp only [rd_row, cpl]
    rw [if_neg (by omega), st_same]
    unfold fl
    rw [if_pos hg]
    exact h6 g hg
  · show rd_ _ (34 + o) w = _
    rw [rd_k (by omega), rd_k (by omega), rd_k (by omega), rd_k (by omega)]
    simp only [rd_row, cpl]
    rw [if_pos (by omega), st_k (by omega), st_k (by omega), show 50 + (34 + o - 34) = 34 + (16 + o) by omega]
    unfold fl
    rw [if_pos hw]
    exact h7 o ho w hw
theorem gr_fl {f g : Nat → Int32} {n : Nat} (h : gr f n) : gr (fl f g 64) n := gr_cong h (fun i hi => if_pos hi)
theorem rc_fl {σ : Sg} {pC pL pV : Nat} {pl : Nat → Nat} {f g : Nat → Int32} {n : Nat} (hn : n ≤ 8) (h : rc σ pC pL pV pl f n) : rc σ pC pL pV pl (fl f g 64) n := rc_cong h hn (fun i hi => if_pos hi) (fun _ _ _ => rfl) (fun _ => rfl) (fun _ => rfl) (fun _ _ _ => rfl)
theorem rc_ag {S : Nat → Nat → Prop} {σ τ : Sg} {pC pL pV : Nat} {pl : Nat → Nat} {f : Nat → Int32} {n : Nat} (h : rc σ pC pL pV pl f n) (hn : n ≤ 8) (a : ag S σ τ) (s1 : ∀ j, ¬ S pC j) (s2 : ∀ j, ¬ S pL j) (s3 : ∀ j, ¬ S pV j) (s4 : ∀ o j, o < 8 → ¬ S (pl o) j) : rc τ pC pL pV pl f n := rc_cong h hn (fun _ _ => rfl) (fun j _ _ => a.1 _ _ (s1 j)) (fun j => a.1 _ _ (s2 j)) (fun j => a.1 _ _ (s3 j)) (fun o j ho => a.1 _ _ (s4 o j (by omega)))
section KEPT
variable {σc σm : Sg}
theorem mkeep (σ : Sg) : M_keep_0 σ = some (nI 1, wr_ (st_ σ 2 (fl (σ.1 1) (σ.1 2) 64)) 0 4 (nI 1)) := by
  unfold M_keep_0
  have := lg2 (F := M_keep_2) (z := fun _ _ => none) 64 (fun i => st_ σ 2 (fl (σ.1 1) (σ.1 2) i)) (fun i => nI i) (some (nI 1, wr_ (st_ σ 2 (fl (σ.1 1) (σ.1 2) 64)) 0 4 (nI 1))) ?_ ?_ (FU_gt (by omega))
  · simp only [fl_0, st_self] at this
    exact this
  · intro K i hi
    unfold M_keep_2
    simp (disch := omega) only [lit, nI_leI, if_neg, in_nI, gd_tt, nI_clamp, lt_eq, nI_add, wr_st, rd_stk]
    rw [rd_row, fl_s]
  · intro K
    unfold M_keep_2
    simp only [lit, Int32.le_refl, if_true, lt_eq]
theorem magain (σ : Sg) (h : rd_ σ 0 4 = nI 1) : M_again_0 σ = some (rd_ (st_ σ 1 (fl (σ.1 2) (σ.1 1) 64)) 1 0, st_ σ 1 (fl (σ.1 2) (σ.1 1) 64)) := by
  unfold M_again_0
  rw [h, if_neg (by decide)]
  have := lg2 (F := M_again_12) (z := fun _ _ => none) 64 (fun i => st_ σ 1 (fl (σ.1 2) (σ.1 1) i)) (fun i => nI i) (some (rd_ (st_ σ 1 (fl (σ.1 2) (σ.1 1) 64)) 1 0, st_ σ 1 (fl (σ.1 2) (σ.1 1) 64))) ?_ ?_ (FU_gt (by omega))
  · simp only [fl_0, st_self] at this
    exact this
  · intro K i hi
    unfold M_again_12
    simp (disch := omega) only [lit, nI_leI, if_neg, in_nI, gd_tt, nI_clamp, lt_eq, nI_add, wr_st, rd_stk]
    rw [rd_row, fl_s]
  · intro K
    unfold M_again_12
    simp only [lit, Int32.le_refl, if_true]
/-- what is kept, and scratch -/
def kC (k j : Nat) : Prop := k = 2 ∨ k = 5 ∨ k = 8 ∨ (42 ≤ k ∧ k < 42 + 8) ∨ (k = 0 ∧ j = 11)
def kM (k j : Nat) : Prop := k = 2 ∨ (k = 0 ∧ j = 4)
theorem eq_keep (h : R σc σm) : eqv (C_keep_0 σc) (M_keep_0 σm) := by
  obtain ⟨⟨n, ha⟩, h1, h2, h3, h4, h5, h6⟩ := id h
  have hn := ha.1.2.1
  have a : ag kC σc (wr_ (bec_2_1 σc) 0 11 (nI 1)) := ((bec_ag_2_1 σc).mo (fun k j q => by unfold sB_2_1 at q; unfold kC; omega)).wr (by simp [kC])
  have b : ag kM σm (wr_ (st_ σm 2 (fl (σm.1 1) (σm.1 2) 64)) 0 4 (nI 1)) := (ag.rf.st (fun j => Or.inl (Or.inl rfl))).wr (by simp [kM])
  refine ⟨nI 1, wr_ (bec_2_1 σc) 0 11 (nI 1), wr_ (st_ σm 2 (fl (σm.1 1) (σm.1 2) 64)) 0 4 (nI 1), ?_, mkeep σm, ⟨n, ?_⟩, ?_, ?_, ?_, ?_, ?_, ?_⟩
  · simp only [C_keep_0, become_2_1, bi_some, lt_eq, lit]
  · exact ha.fr a b (fun j => by simp [kC]) (fun j => by simp [kC]) (fun j => by simp [kC]) (fun o j ho => by simp [kC]; omega) (fun j _ => by simp [kM])
  · refine Or.inr ⟨rd_same _ _ _ _, rd_same _ _ _ _, n, ?_, ?_⟩
    · rw [row_k (by omega), st_same]
      exact gr_fl ha.1
    · rw [row_k (by omega), st_same]
      have := bec_rc_2_1 hn ha.2
      refine rc_fl hn (rc_ag this hn (S := fun k _ => k = 0) (ag.rf.wr rfl) (fun j => by omega) (fun j => by omega) (fun j => by omega) (fun o j ho => by omega))
  · exact h2.fr a b (by simp [kC]) (fun j => by simp [kC]) (by simp [kM]) (fun j => by simp [kM])
  · exact h3.fr a b (by simp [kC]) (fun j => by simp [kC]) (by simp [kM]) (fun j => by simp [kM])
  · exact h4.fr a b (fun j => by simp [kC]) (fun j => by simp [kC]) (fun j => by simp [kM]) (fun j => by simp [kM]) (fun j => by simp [kM])
  · exact h5.fr a b (fun j => by simp [kC]) (fun j => by simp [kC]) (fun j => by simp [kC]) (fun j => by simp [kM]) (fun j => by simp [kM]) (fun j => by simp [kM])
  · exact h6.fr a b (by simp [kC]) (fun j => by simp [kC]) (by simp [kM]) (fun j => by simp [kM])
theorem eq_again (h : R σc σm) : eqv (C_again_0 σc) (M_again_0 σm) := by
  obtain ⟨⟨n0, ha⟩, ho⟩ := id h
  rcases ho.1 with ⟨e1, e2⟩ | ⟨e1, e2, n, hg, hr⟩
  · refine ⟨-3, σc, σm, ?_, ?_, h⟩
    · simp only [C_again_0, e1, lit, if_true]
    · simp only [M_again_0, e2, lit, if_true]
  · have hn := hg.2.1
    have hr2 := bec_rc_1_2 hn hr
    refine ⟨rd_ (bec_1_2 σc) 1 3, bec_1_2 σc, st_ σm 1 (fl (σm.1 2) (σm.1 1) 64), ?_, ?_, R.mk (n := n) ⟨?_, ?_⟩ (RO.scr ho ((bec_ag_1_2 σc).mo (fun k j q => by unfold sB_1_2 at q; unfold aC; omega)) (ag.rf.st (fun j => Or.inl (Or.inr rfl))))⟩
    · simp (disch := omega) only [C_again_0, e1, lit, nI_eq, if_neg, become_1_2, bi_some]
    · rw [magain σm e2]
      refine congrArg (fun q => some (q, _)) ?_
      rw [rd_st, hr2.2.1]
      rfl
    · rw [st_same]; exact gr_fl hg
    · rw [st_same]; exact rc_fl hn hr2
theorem eq_change (h : R σc σm) (x1 x2 x3 : Int32) : eqv (C_change_0 σc x1 x2 x3) (M_change_0 σm x1 x2 x3) := by
  obtain ⟨⟨n, ha⟩, ho⟩ := id h
  have hn := ha.1.2.1
  rcases ixn x1 hn with ⟨k, hk, rfl⟩ | hv
  · by_cases hx : x2 = nI 1 ∨ x2 = nI 3 ∨ x2 = nI 4
    · rcases rng x3 99 (by omega) with ⟨v, hv, rfl⟩ | hv
      · have key : ∀ w, w < 6 → bw w = 99 → (w = 1 ∨ w = 3 ∨ w = 4) → eqv (C_change_0 σc (nI k) (nI w) (nI v)) (M_change_0 σm (nI k) (nI w) (nI v)) := by
          intro w hw hb hc
          have e : rd_ σm 1 (16 + 6 * k + w) = rd_ σc (34 + k) w := (ha.2.2.2.2.2.2.2 k hk w hw).symm
          refine ⟨rd_ σc (34 + k) w, wr_ σc (34 + k) w (nI v), wr_ σm 1 (16 + 6 * k + w) (nI v), ?_, ?_, R.mk (ha.life hk hw (by omega)) (RO.scr ho (ag.rf.wr (aC_life (by omega))) (ag.rf.wr (by simp [aM])))⟩
          · rcases hc with rfl | rfl | rfl <;> simp (disch := omega) only [C_change_0, C_change_25, C_change_30, lifeY ha hk, bi_some, on_S, lit, nI_eq, if_true, if_neg, cw1, bp_some, lf_tt, gd_tt, mark_at, remark_at]
          · rcases hc with rfl | rfl | rfl <;> simp (disch := omega) only [M_change_0, M_change_23, M_change_40, oneY ha hk, bi_some, lit, litL, nI_eq, if_true, if_neg, mi1, bp_some, pk_mul, nI_add, letsY, e]
        rcases hx with rfl | rfl | rfl
        · exact key 1 (by omega) rfl (by omega)
        · exact key 3 (by omega) rfl (by omega)
        · exact key 4 (by omega) rfl (by omega)
      · refine ⟨-1, σc, σm, ?_, ?_, h⟩
        · rcases hx with rfl | rfl | rfl <;> simp (disch := omega) only [C_change_0, C_change_25, C_change_30, lifeY ha hk, bi_some, on_S, lit, nI_eq, if_true, if_neg, cw0 hv, bp_some]
        · rcases hx with rfl | rfl | rfl <;> simp (disch := omega) only [M_change_0, M_change_23, M_change_39, M_change_40, oneY ha hk, bi_some, lit, litL, nI_eq, if_true, if_neg, mi0 (by omega) (by omega) (neg_any hv), bp_some]
    · have h1 : ¬ x2 = nI 1 := fun q => hx (Or.inl q)
      have h3 : ¬ x2 = nI 3 := fun q => hx (Or.inr (Or.inl q))
      have h4 : ¬ x2 = nI 4 := fun q => hx (Or.inr (Or.inr q))
      refine ⟨-1, σc, σm, ?_, ?_, h⟩
      · simp (disch := omega) only [C_change_0, C_change_30, lifeY ha hk, bi_some, on_S, lit, if_neg h1, if_neg h3, if_neg h4, if_true]
      · simp (disch := omega) only [M_change_0, M_change_39, M_change_40, oneY ha hk, bi_some, lit, nI_eq, if_neg, if_neg h1, if_neg h3, if_neg h4, if_true]
  · refine ⟨-1, σc, σm, ?_, ?_, h⟩
    · simp only [C_change_0, lifeN ha hv, bi_some, on_N, C_change_25, C_change_30]
      by_cases q1 : x2 = 1
      · simp only [q1, if_true]
      by_cases q3 : x2 = 3
      · simp only [q1, q3, if_true, if_neg, ite_self]
      by_cases q4 : x2 = 4
      · simp only [q1, q3, q4, if_true, if_neg, ite_self]
      · rw [if_neg q1, if_neg q3, if_neg q4]
    · simp only [M_change_0, M_change_39, M_change_40, oneN ha hv, bi_some, lit, if_true]
theorem RW.up (h : RW σc σm) {i : Nat} (v : Int32) (hi : i < 30) : RW (wr_ σc 31 i v) (wr_ σm 8 i v) := by
  obtain ⟨k, h1, h2, h3, h4⟩ := h
  refine ⟨k, h1, by rw [rd_k (by omega)]; exact h2, by rw [rd_k (by omega)]; exact h3, fun j hj => ?_⟩
  by_cases e : j = i
  · subst e; rw [rd_same, rd_same]
  · rw [rd_j e, rd_j e]; exact h4 j hj
end KEPT
