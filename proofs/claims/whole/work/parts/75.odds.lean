/-! shelves -/
section SHELF2
variable {σc σm : Sg}
def hC' (k _ : Nat) : Prop := k = 25 ∨ k = 26 ∨ k = 27
def hM' (k _ : Nat) : Prop := k = 12 ∨ k = 13 ∨ k = 14
theorem R.shelves {τc τm : Sg} (h : R σc σm) (a : ag hC' σc τc) (b : ag hM' σm τm) (q : RH τc τm) : R τc τm := by
  obtain ⟨⟨n, ha⟩, h1, h2, h3, h4, -, h6⟩ := h
  refine ⟨⟨n, ?_⟩, ?_, ?_, ?_, ?_, q, ?_⟩
  · exact ha.fr a b (fun j => by simp [hC']) (fun j => by simp [hC']) (fun j => by simp [hC']) (fun o j ho => by simp [hC']; omega) (fun j _ => by simp [hM'])
  · exact h1.fr a b (by simp [hC']) (fun j => by simp [hC']) (fun j => by simp [hC']) (fun j => by simp [hC']) (fun o j ho => by simp [hC']; omega) (by simp [hM']) (fun j _ => by simp [hM'])
  · exact h2.fr a b (by simp [hC']) (fun j => by simp [hC']) (by simp [hM']) (fun j => by simp [hM'])
  · exact h3.fr a b (by simp [hC']) (fun j => by simp [hC']) (by simp [hM']) (fun j => by simp [hM'])
  · exact h4.fr a b (fun j => by simp [hC']) (fun j => by simp [hC']) (fun j => by simp [hM']) (fun j => by simp [hM']) (fun j => by simp [hM'])
  · exact h6.fr a b (by simp [hC']) (fun j => by simp [hC']) (by simp [hM']) (fun j => by simp [hM'])
def svC (σ : Sg) (h : Nat) (c s z : Int32) : Sg := wr_ (wr_ (wr_ σ 27 h c) 25 h s) 26 h z
def svM (σ : Sg) (h : Nat) (a b c : Int32) : Sg := wr_ (wr_ (wr_ σ 12 h a) 13 h b) 14 h c
theorem cshelve {σ : Sg} {h : Nat} {c s z : Int32} (hh : h < 4) : C2_shelve_0 σ (nI h) c s z = some ((), svC σ h c s z) := by
  simp (disch := omega) only [C2_shelve_0, csf1 hh, bi_some, lit, nI_eq, if_neg, in_nI, gd_tt, nI_clamp, lt_eq, svC]
theorem shelved {h : Nat} {c s z a b d : Int32} (hR : R σc σm) (hh : h < 4) (q : (∃ j, j ≤ 7 ∧ a = nI 1 ∧ b = nI j ∧ s = m1 ∧ c = nI j) ∨ (∃ s' z', s' ≤ 3 ∧ z' ≤ 40 ∧ a = nI 2 ∧ b = nI s' ∧ d = nI z' ∧ s = nI s' ∧ z = nI z' ∧ c = m1) ∨ (a = nI 0 ∧ s = m1 ∧ c = m1)) : R (svC σc h c s z) (svM σm h a b d) := by
  refine R.shelves hR ?_ ?_ (fun t ht => ?_)
  · unfold svC
    refine ag.wr (ag.wr (ag.wr ag.rf ?_) ?_) ?_ <;> simp [hC']
  · unfold svM
    refine ag.wr (ag.wr (ag.wr ag.rf ?_) ?_) ?_ <;> simp [hM']
  · by_cases e : t = h
    · subst e
      unfold rh1 svC svM
      simp (disch := omega) only [rd_same, rd_k]
      rcases q with ⟨j, h1, rfl, rfl, rfl, rfl⟩ | ⟨s', z', h1, h2, rfl, rfl, rfl, rfl, rfl, rfl⟩ | ⟨rfl, rfl, rfl⟩
      · exact Or.inl ⟨j, h1, rfl, rfl, rfl, rfl⟩
      · exact Or.inr (Or.inl ⟨s', z', h1, h2, rfl, rfl, rfl, rfl, rfl, rfl⟩)
      · exact Or.inr (Or.inr ⟨rfl, rfl, rfl⟩)
    · unfold rh1 svC svM
      simp (disch := omega) only [rd_j, rd_k]
      exact hR.2.2.2.2.2.1 t ht
theorem mshA {σ : Sg} {h : Nat} {x3 : Int32} (hh : h < 4) : M_shelf_64 σ (nI h) (nI 0) x3 0 = some (nI 1, svM σ h (nI 1) x3 (nI 0)) := by
  unfold M_shelf_64
  rw [if_pos (show nI 0 = 0 from rfl)]
  unfold M_shelf_89
  rw [in_nI hh (by omega), gd_tt, nI_clamp (by omega), lt_eq, if_pos (show nI 0 = 0 from rfl)]
  unfold M_shelf_118
  rw [in_nI hh (by omega), gd_tt, nI_clamp (by omega), lt_eq, if_pos rfl]
  unfold M_shelf_139
  rw [in_nI hh (by omega), gd_tt, nI_clamp (by omega), lt_eq]
  rfl
theorem mshB {σ : Sg} {h : Nat} {x2 x3 : Int32} (hh : h < 4) (hw : ¬ x2 = 0) : M_shelf_64 σ (nI h) x2 x3 0 = some (nI 1, svM σ h (nI 0) (nI 0) (nI 0)) := by
  unfold M_shelf_64
  rw [if_neg hw, if_pos rfl]
  unfold M_shelf_89
  rw [in_nI hh (by omega), gd_tt, nI_clamp (by omega), lt_eq, if_neg hw, if_pos rfl]
  unfold M_shelf_118
  rw [in_nI hh (by omega), gd_tt, nI_clamp (by omega), lt_eq, if_pos rfl]
  unfold M_shelf_139
  rw [in_nI hh (by omega), gd_tt, nI_clamp (by omega), lt_eq]
  rfl
theorem mshC {σ : Sg} {h t : Nat} {x2 s z : Int32} (hh : h < 4) (ht : t < 4) (hw : ¬ x2 = 0) (e9 : rd_ σ 9 t = s) (e10 : rd_ σ 10 t = z) : M_shelf_64 σ (nI h) x2 (nI t) 1 = some (nI 1, svM σ h (nI 2) s z) := by
  unfold M_shelf_64
  rw [if_neg hw, if_neg (by decide)]
  unfold M_shelf_89
  rw [in_nI hh (by omega), gd_tt, nI_clamp (by omega), lt_eq, if_neg hw, if_neg (by decide), in_nI ht (by omega), gd_tt, nI_clamp (by omega), rd_k (by omega), e9]
  unfold M_shelf_118
  rw [in_nI hh (by omega), gd_tt, nI_clamp (by omega), lt_eq, if_neg (by decide), in_nI ht (by omega), gd_tt, nI_clamp (by omega), rd_k (by omega), rd_k (by omega), e10]
  unfold M_shelf_139
  rw [in_nI hh (by omega), gd_tt, nI_clamp (by omega), lt_eq]
  rfl
theorem mshelf0 {w : Nat} {k : Nat} {x3 : Int32} (hk4 : k < 4) (hw : w ≤ 2) (h0 : ¬ w = 0) : M_shelf_0 σm (nI k) (nI w) x3 = M_shelf_31 σm (nI k) (nI w) x3 := by
  unfold M_shelf_0
  rw [msf1 hk4, bp_some, if_neg (by decide), show (0 : Int64) = lN 0 from rfl, show (2 : Int64) = lN 2 from rfl, mi1 (by omega) hw (by omega), bp_some, if_neg (by decide), if_neg (nI_ne0 (by omega) (by omega))]
theorem eq_shelf (h : R σc σm) (x1 x2 x3 : Int32) : eqv (C_shelf_0 σc x1 x2 x3) (M_shelf_0 σm x1 x2 x3) := by
  obtain ⟨⟨n, ha⟩, ho⟩ := id h
  have hn := ha.1.2.1
  have hs := h.2.2.2.2.1
  rcases rng x1 3 (by omega) with ⟨k, hk, rfl⟩ | hv
  · have hk4 : k < 4 := by omega
    rcases rng x2 2 (by omega) with ⟨w, hw, rfl⟩ | hv
    · have : w = 0 ∨ w = 1 ∨ w = 2 := by omega
      rcases this with rfl | rfl | rfl
      · rcases ixn x3 hn with ⟨j, hj, rfl⟩ | hv
        · refine ⟨nI 1, svC σc k (nI j) m1 (nI 0), svM σm k (nI 1) (nI j) (nI 0), ?_, ?_, shelved h hk4 (Or.inl ⟨j, by omega, rfl, rfl, rfl, rfl⟩)⟩
          · simp (disch := omega) only [C_shelf_0, csf1 hk4, bi_some, lit, nI_eq, if_neg, if_true, lifeY ha hj, on_S, C2_shelveChild_0, cshelve hk4, neg1]
          · unfold M_shelf_0
            rw [msf1 hk4, bp_some, if_neg (by decide), show (0 : Int64) = lN 0 from rfl, show (2 : Int64) = lN 2 from rfl, mi1 (by omega) hw (by omega), bp_some, if_neg (by decide), if_pos (show nI 0 = 0 from rfl), oneY ha hj, bi_some, if_neg (by decide)]
            unfold M_shelf_31 M_shelf_45 M_shelf_63
            rw [if_neg (by decide), if_neg (by decide), mshA hk4]
        · refine ⟨-1, σc, σm, ?_, ?_, h⟩
          · simp (disch := omega) only [C_shelf_0, csf1 hk4, bi_some, lit, nI_eq, if_neg, if_true, lifeN ha hv, on_N]
          · simp (disch := omega) only [M_shelf_0, msf1 hk4, bp_some, lit, litL, nI_eq, if_neg, mi1, if_true, oneN ha hv, bi_some]
      · rcases rng x3 3 (by omega) with ⟨t, ht, rfl⟩ | hv
        · have ht4 : t < 4 := by omega
          rcases hs t ht4 with ⟨e1, e2, e3, e4⟩ | ⟨s, z, b1, b2, e1, e2, e3, e4, e5⟩
          · refine ⟨nI 1, svC σc k m1 m1 (nI 0), svM σm k (nI 0) (nI 0) (nI 0), ?_, ?_, shelved h hk4 (Or.inr (Or.inr ⟨rfl, rfl, rfl⟩))⟩
            · simp (disch := omega) only [C_shelf_0, csf1 hk4, bi_some, lit, nI_eq, if_neg, if_true, csh1 ht4, C2_shelveRow_0, csort ht4, csize ht4, e1, e3, cshelve hk4, neg1]
            · rw [mshelf0 hk4 (by omega) (by omega)]
              unfold M_shelf_31 M_shelf_45 M_shelf_63
              rw [if_pos (show nI 1 = (1 : Int32) from rfl), if_pos (show nI 1 = (1 : Int32) from rfl), msh1 ht4, bp_some, if_neg (by decide), in_nI ht4 (by omega), gd_tt, nI_clamp (by omega), e2, if_pos m1_neg, mshB hk4 (by decide)]
          · have k9 : rd_ (wr_ σm 12 k (nI 2)) 9 t = nI s := by rw [rd_k (by omega)]; exact e2
            have k10 : rd_ (wr_ (wr_ σm 12 k (nI 2)) 13 k (nI s)) 10 t = nI z := by rw [rd_k (by omega), rd_k (by omega)]; exact e4
            refine ⟨nI 1, svC σc k m1 (nI s) (nI z), svM σm k (nI 2) (nI s) (nI z), ?_, ?_, shelved h hk4 (Or.inr (Or.inl ⟨s, z, b1, b2, rfl, rfl, rfl, rfl, rfl, rfl⟩))⟩
            · simp (disch := omega) only [C_shelf_0, csf1 hk4, bi_some, lit, nI_eq, if_neg, if_true, csh1 ht4, C2_shelveRow_0, csort ht4, csize ht4, e1, e3, cshelve hk4, neg1]
            · rw [mshelf0 hk4 (by omega) (by omega)]
              unfold M_shelf_31 M_shelf_45
              rw [if_pos (show nI 1 = (1 : Int32) from rfl), if_pos (show nI 1 = (1 : Int32) from rfl), msh1 ht4, bp_some, if_neg (by decide), in_nI ht4 (by omega), gd_tt, nI_clamp (by omega), e2, if_neg (nI_pos (by omega)), mshC hk4 ht4 (by decide) e2 e4]
        · refine ⟨-1, σc, σm, ?_, ?_, h⟩
          · simp (disch := omega) only [C_shelf_0, csf1 hk4, bi_some, lit, nI_eq, if_neg, if_true, csh0 hv]
          · rw [mshelf0 hk4 (by omega) (by omega)]
            unfold M_shelf_31
            rw [if_pos (show nI 1 = (1 : Int32) from rfl), msh0 hv, bp_some, if_pos (by decide)]
      · refine ⟨nI 1, svC σc k m1 m1 (nI 0), svM σm k (nI 0) (nI 0) (nI 0), ?_, ?_, shelved h hk4 (Or.inr (Or.inr ⟨rfl, rfl, rfl⟩))⟩
        · simp (disch := omega) only [C_shelf_0, csf1 hk4, bi_some, lit, nI_eq, if_neg, if_true, C2_shelveNothing_0, cshelve hk4, neg1]
        · rw [mshelf0 hk4 (by omega) (by omega)]
          unfold M_shelf_31 M_shelf_45 M_shelf_63
          rw [if_neg (by decide), if_neg (by decide), mshB hk4 (by decide)]
    · have n0 := not_k (k := 0) (by omega) hv (by omega)
      have n1 := not_k (k := 1) (by omega) hv (by omega)
      have n2 := not_k (k := 2) (by omega) hv (by omega)
      refine ⟨-1, σc, σm, ?_, ?_, h⟩
      · simp (disch := omega) only [C_shelf_0, csf1 hk4, bi_some, lit, nI_eq, if_neg, n0, n1, n2, if_false]
      · simp (disch := omega) only [M_shelf_0, msf1 hk4, bp_some, lit, litL, nI_eq, if_neg, mi0 (by omega) (by omega) (neg_any hv), if_true]
  · refine ⟨-1, σc, σm, ?_, ?_, h⟩
    · simp only [C_shelf_0, csf0 hv, bi_some, lit, if_true]
    · simp only [M_shelf_0, msf0 hv, bp_some, lit, if_true]
def undB (k a : Nat) : Bool := decide (a = 0 ∨ k = a ∨ (a = 1 ∧ k = 3) ∨ (a = 2 ∧ k = 4))
theorem cunder {σ : Sg} {k a : Nat} (hk : k ≤ 5) (ha : a ≤ 5) : (if k = 0 then C_isUnder_k0_0 σ (nI a) else if k = 1 then C_isUnder_k1_0 σ (nI a) else if k = 2 then C_isUnder_k2_0 σ (nI a) else if k = 3 then C_isUnder_k3_0 σ (nI a) else if k = 4 then C_isUnder_k4_0 σ (nI a) else if k = 5 then C_isUnder_k5_0 σ (nI a) else none) = some (nI (nb1 (undB k a)), σ) := by
  rcases six hk with rfl | rfl | rfl | rfl | rfl | rfl <;> rcases six ha with rfl | rfl | rfl | rfl | rfl | rfl <;> rfl
theorem munder {k a : Nat} (hk : k ≤ 5) (ha : a ≤ 5) : M_isUnder_0 (nI k) (nI a) = some (nI (nb1 (undB k a))) := by
  rcases six hk with rfl | rfl | rfl | rfl | rfl | rfl <;> rcases six ha with rfl | rfl | rfl | rfl | rfl | rfl <;> rfl
theorem eq_taken (h : R σc σm) (x1 x2 : Int32) : eqv (C_taken_0 σc x1 x2) (M_taken_0 σm x1 x2) := by
  obtain ⟨⟨n, ha⟩, ho⟩ := id h
  have hn := ha.1.2.1
  have hh := h.2.2.2.2.2.1
  rcases rng x1 3 (by omega) with ⟨k, hk, rfl⟩ | hv
  · have hk4 : k < 4 := by omega
    rcases rng x2 13 (by omega) with ⟨a, ha13, rfl⟩ | hv
    · by_cases c6 : 6 ≤ a ∧ a ≤ 9
      · refine ⟨-1, σc, σm, ?_, ?_, h⟩
        · have hw : C_within_0 (nI a) (nI 5) = some (nI 0) := cw0 (Or.inr (nI_lt (by omega) (by omega)))
          simp (disch := omega) only [C_taken_0, C_taken_16, C_taken_17, lit, nI_ltI, if_pos, csf1 hk4, bi_some, nI_eq, if_neg, if_true, hw, bp_some]
        · simp (disch := omega) only [M_taken_0, msf1 hk4, bp_some, lit, litL, nI_eq, if_neg, mi1]
      · have n69 : M_isIn_0 (nI a).toInt64 (lN 6) (lN 9) = some (nI 0) := by
          refine mi0 (by omega) (by omega) ?_
          by_cases c : a < 6
          · exact Or.inl (nI_lt c (by omega))
          · exact Or.inr (nI_lt (by omega) (by omega))
        have hC : C_taken_0 σc (nI k) (nI a) = C_taken_43 σc (nI k) (nI a) := by
          by_cases c : a ≤ 5
          · simp (disch := omega) only [C_taken_0, C_taken_16, C_taken_17, lit, nI_ltI, if_pos, csf1 hk4, bi_some, nI_eq, if_neg, if_true, cw1, bp_some]
          · simp (disch := omega) only [C_taken_0, C_taken_16, C_taken_17, lit, nI_ltI, csf1 hk4, bi_some, nI_eq, if_neg]
        have esort : C2_shelvedSort_0 σc (nI k) = some (rd_ σc 25 k, σc) := by
          simp (disch := omega) only [C2_shelvedSort_0, csf1 hk4, bi_some, lit, nI_eq, if_neg, in_nI, gd_tt, nI_clamp]
        have ech : C2_shelvedChild_0 σc (nI k) = some (rd_ σc 27 k, σc) := by
          simp (disch := omega) only [C2_shelvedChild_0, csf1 hk4, bi_some, lit, nI_eq, if_neg, in_nI, gd_tt, nI_clamp]
        have esz : C2_shelvedSize_0 σc (nI k) = some (rd_ σc 26 k, σc) := by
          simp (disch := omega) only [C2_shelvedSize_0, csf1 hk4, bi_some, lit, nI_eq, if_neg, in_nI, gd_tt, nI_clamp]
        have hM : ∀ v, M_heldOn_0 σm (nI k) = some (v, σm) → M_taken_0 σm (nI k) (nI a) = (if v = nI 0 then (some (-11, σm)) else (if nI 10 ≤ nI a then (if v = nI 2 then (if rd_ σm 13 k = nI a - nI 10 then some (rd_ σm 14 k, σm) else some (-13, σm)) else some (-13, σm)) else (if v = nI 1 then (bi_ (M_its_0 σm (rd_ σm 13 k) (nI 0)) fun r σ => bp_ (M_isUnder_0 r (nI a)) fun q => if q = nI 0 then some (-13, σ) else some (rd_ σ 13 k, σ)) else some (-13, σm)))) := by
          intro v e
          have e0 : (-11 : Int32) = -nI 11 := rfl
          have e3 : (-13 : Int32) = -nI 13 := rfl
          rw [e0, e3]
          simp (disch := omega) only [M_taken_0, msf1 hk4, bp_some, lit, litL, nI_eq, if_neg, mi1, n69, if_true, e, bi_some, in_nI, gd_tt, nI_clamp]
        rcases hh k hk4 with ⟨j, hj, m1a, m1b, c1a, c1b⟩ | ⟨s, z, hs3, hz, m2a, m2b, m2c, c2a, c2b, c2c⟩ | ⟨m3a, c3a, c3b⟩
        · have hC2 : C_taken_43 σc (nI k) (nI a) = bi_ (C1_life_0 σc (nI j)) fun r_10 σ_9 => on_ r_10 (some ((-11 : Int32), σ_9)) fun j_11 => bi_ (C1_kindOf_0 σ_9 j_11) fun r_14 σ_13 => bi_ (if r_14 = 0 then C_isUnder_k0_0 σ_13 (nI a) else if r_14 = 1 then C_isUnder_k1_0 σ_13 (nI a) else if r_14 = 2 then C_isUnder_k2_0 σ_13 (nI a) else if r_14 = 3 then C_isUnder_k3_0 σ_13 (nI a) else if r_14 = 4 then C_isUnder_k4_0 σ_13 (nI a) else if r_14 = 5 then C_isUnder_k5_0 σ_13 (nI a) else none) fun r_17 σ_16 => if r_17 = 0 then (some ((-13 : Int32), σ_16)) else (some (nI j, σ_16)) := by
            unfold C_taken_43
            rw [esort, bi_some, c1a, if_pos (show m1 = (-1 : Int32) from rfl), ech, bi_some, c1b]
          rcases nI_cases (x := 0) j hj hn with hjn | hjn
          · have hheld : M_heldOn_0 σm (nI k) = some (nI 1, σm) := by
              unfold M_heldOn_0 M_heldOn_27
              rw [in_nI hk4 (by omega), gd_tt, nI_clamp (by omega), m1a, if_pos (by decide), gd_tt, m1b, oneY ha hjn, bi_some, if_neg (by decide), gd_tt, m1a]
            obtain ⟨⟨b1, b2, b3, b4, b5, b6⟩, g0, g1, g2, g3, g4, g5⟩ := lvG ha.1 hjn
            dsimp only at g0
            rw [Nat.add_zero] at g0
            have c0 : rd_ σc (34 + j) 0 = nI (N_ (σm.1 1) (16 + 6 * j)) := (ha.cL hjn 0 (by omega)).trans g0
            generalize N_ (σm.1 1) (16 + 6 * j) = kd at g0 c0 b1
            rw [hC, hC2, lifeY ha hjn, bi_some, on_S, ckind (by omega) b1 c0, bi_some, hM _ hheld, if_neg (show ¬ nI 1 = nI 0 by decide)]
            by_cases c10 : 10 ≤ a
            · rw [if_pos (nI_le c10 (by omega)), if_neg (show ¬ nI 1 = nI 2 by decide)]
              have hu : (if kd = 0 then C_isUnder_k0_0 σc (nI a) else if kd = 1 then C_isUnder_k1_0 σc (nI a) else if kd = 2 then C_isUnder_k2_0 σc (nI a) else if kd = 3 then C_isUnder_k3_0 σc (nI a) else if kd = 4 then C_isUnder_k4_0 σc (nI a) else if kd = 5 then C_isUnder_k5_0 σc (nI a) else none) = some (nI 0, σc) := by
                rcases six b1 with rfl | rfl | rfl | rfl | rfl | rfl <;> simp (disch := omega) only [if_true, if_neg, C_isUnder_k0_0, C_isUnder_k1_0, C_isUnder_k2_0, C_isUnder_k3_0, C_isUnder_k4_0, C_isUnder_k5_0, lit, nI_eq]
              refine ⟨-13, σc, σm, ?_, rfl, h⟩
              rw [hu, bi_some, if_pos (by decide)]
            · have a5 : a ≤ 5 := by omega
              rw [if_neg (nI_ge (a := a) (b := 10) (by omega) (by omega)), if_pos (show nI 1 = nI 1 from rfl), cunder b1 a5, bi_some, m1b, itsY (by omega) (by omega), bi_some, Nat.add_zero, show rd_ σm 1 (16 + 6 * j) = nI kd from g0, munder b1 a5, bp_some, m1b]
              cases undB kd a
              · rw [if_pos (by decide), if_pos (by decide)]
                exact ⟨-13, σc, σm, rfl, rfl, h⟩
              · rw [if_neg (by decide), if_neg (by decide)]
                exact ⟨nI j, σc, σm, rfl, rfl, h⟩
          · have hheld : M_heldOn_0 σm (nI k) = some (nI 0, σm) := by
              unfold M_heldOn_0
              rw [in_nI hk4 (by omega), gd_tt, nI_clamp (by omega), m1a, if_pos (by decide), gd_tt, m1b, oneN ha hjn, bi_some, if_pos (by decide)]
              rfl
            rw [hC, hC2, lifeN ha hjn, bi_some, on_N, hM _ hheld, if_pos rfl]
            exact ⟨-11, σc, σm, rfl, rfl, h⟩
        · have hheld : M_heldOn_0 σm (nI k) = some (nI 2, σm) := by
            unfold M_heldOn_0 M_heldOn_27
            rw [in_nI hk4 (by omega), gd_tt, nI_clamp (by omega), m2a, if_neg (by decide), gd_tt]
          rw [hC, hM _ hheld, if_neg (by decide)]
          unfold C_taken_43
          rw [esort, bi_some, c2a, if_neg (show ¬ nI s = (-1 : Int32) from m1_ne (by omega))]
          by_cases c10 : 10 ≤ a
          · have e10 : nI a - (10 : Int32) = nI (a - 10) := pk_sub (b := 10) c10
            rw [if_pos (nI_le c10 (by omega)), if_pos rfl, m2b, show nI a - nI 10 = nI (a - 10) from pk_sub c10, e10]
            by_cases cs : a - 10 = s
            · rw [if_pos (by rw [cs]), if_pos (by rw [cs]), esz, bi_some, c2b, m2c]
              exact ⟨nI z, σc, σm, rfl, rfl, h⟩
            · rw [if_neg (fun q => cs ((nI_eq (by omega) (by omega)).mp q)), if_neg (fun q => cs ((nI_eq (by omega) (by omega)).mp q.symm))]
              exact ⟨-13, σc, σm, rfl, rfl, h⟩
          · have hne : ¬ nI a - (10 : Int32) = nI s := fun q => by
              have := pk_sneg (a := a) (b := 10) (by omega) (by omega)
              rw [show nI a - nI 10 = nI s from q] at this
              exact nI_pos (by omega) this
            rw [if_neg (nI_ge (a := a) (b := 10) (by omega) (by omega)), if_neg (show ¬ nI 2 = nI 1 by decide), if_neg hne]
            exact ⟨-13, σc, σm, rfl, rfl, h⟩
        · have hheld : M_heldOn_0 σm (nI k) = some (nI 0, σm) := by
            unfold M_heldOn_0 M_heldOn_27
            rw [in_nI hk4 (by omega), gd_tt, nI_clamp (by omega), m3a, if_neg (by decide), gd_tt]
          rw [hC, hM _ hheld, if_pos rfl]
          unfold C_taken_43
          rw [esort, bi_some, c3a, if_pos (show m1 = (-1 : Int32) from rfl), ech, bi_some, c3b, lifeM1 ha, bi_some, on_N]
          exact ⟨-11, σc, σm, rfl, rfl, h⟩
    · refine ⟨-1, σc, σm, ?_, ?_, h⟩
      · have hw : C_within_0 x2 (nI 5) = some (nI 0) := by
          refine cw0 ?_
          rcases hv with q | q
          · exact Or.inl q
          · exact Or.inr (Int32.lt_trans (by decide) q)
        have e1 : C_taken_0 σc (nI k) x2 = C_taken_16 σc (nI k) x2 := by
          unfold C_taken_0
          by_cases c : x2 < (10 : Int32)
          · rw [if_pos c]
          · rw [if_neg c]
            have : (13 : Int32) < x2 := by
              rcases hv with q | q
              · exact absurd (Int32.lt_trans q (by decide)) c
              · exact q
            rw [if_pos this]
        rw [e1]
        simp (disch := omega) only [C_taken_16, C_taken_17, lit, csf1 hk4, bi_some, nI_eq, if_neg, if_true, hw, bp_some]
      · simp (disch := omega) only [M_taken_0, msf1 hk4, bp_some, lit, litL, nI_eq, if_neg, mi0 (by omega) (by omega) (neg_any hv), if_true]
  · refine ⟨-1, σc, σm, ?_, ?_, h⟩
    · unfold C_taken_0 C_taken_16 C_taken_17
      simp only [csf0 hv, bi_some, lit, if_true]
      split
      · rfl
      · split <;> rfl
    · simp only [M_taken_0, msf0 hv, bp_some, lit, if_true]
end SHELF2
