section JUDGE
variable {σc σm : Sg}
theorem eq_prove (h : R σc σm) (x1 x2 : Int32) : eqv (C_prove_0 σc x1 x2) (M_prove_0 σm x1 x2) := by
  obtain ⟨⟨n, ha⟩, q1, q2, q3, q4, q5, q6⟩ := id h
  have hn := ha.1.2.1
  rcases ixn x1 hn with ⟨k, hk, rfl⟩ | hv
  · rcases below1 (v := x2) (b := 10) (by omega) with ⟨m, h1, h2, rfl⟩ | hv
    · obtain ⟨τc, a, a1, a2, a3, hc⟩ := cprove ha hk h1 h2
      obtain ⟨τm, b, b1, b2, b3, hm⟩ := mprove ha hk h1 h2
      refine ⟨nI m, τc, τm, hc, hm, ⟨n, ?_⟩, ?_, ?_, ?_, ?_, ?_, ?_⟩
      · exact ha.fr a b (fun j => by simp [sP]) (fun j => by simp [sP]) (fun j => by simp [sP]) (fun o j ho => by simp [sP]; omega) (fun j _ => by simp [sM])
      · exact q1.fr a b (by simp [sP]) (fun j => by simp [sP]) (fun j => by simp [sP]) (fun j => by simp [sP]) (fun o j ho => by simp [sP]; omega) (by simp [sM]) (fun j _ => by simp [sM])
      · exact q2.fr a b (by simp [sP]) (fun j => by simp [sP]) (by simp [sM]) (fun j => by simp [sM])
      · obtain ⟨k0, -, -, -, e3⟩ := q3
        refine ⟨m, h2, a1, b1, fun i hi => ?_⟩
        by_cases c : i < 3 * m
        · rw [a2 i c, b2 i c]
        · rw [a3 i (by omega), b3 i (by omega)]; exact e3 i hi
      · exact q4.fr a b (fun j => by simp [sP]) (fun j => by simp [sP]) (fun j => by simp [sM]) (fun j => by simp [sM]) (fun j => by simp [sM])
      · exact q5.fr a b (fun j => by simp [sP]) (fun j => by simp [sP]) (fun j => by simp [sP]) (fun j => by simp [sM]) (fun j => by simp [sM]) (fun j => by simp [sM])
      · exact q6.fr a b (by simp [sP]) (fun j => by simp [sP]) (by simp [sM]) (fun j => by simp [sM])
    · refine ⟨-1, σc, σm, ?_, ?_, h⟩
      · rcases hv with hv | hv
        · simp only [C_prove_0, lifeY ha hk, bi_some, on_S, lit, if_pos hv]
        · by_cases c : x2 < nI 1
          · simp only [C_prove_0, lifeY ha hk, bi_some, on_S, lit, if_pos c]
          · simp only [C_prove_0, lifeY ha hk, bi_some, on_S, lit, if_neg c, if_neg (Int32.not_le.mpr hv)]
      · simp (disch := omega) only [M_prove_0, oneY ha hk, bi_some, lit, litL, mi0 (by omega) (by omega) hv, bp_some, nI_eq, if_neg, if_true]
  · refine ⟨-1, σc, σm, ?_, ?_, h⟩
    · simp only [C_prove_0, lifeN ha hv, bi_some, on_N]
    · simp only [M_prove_0, oneN ha hv, bi_some, lit, if_true]
def okR (σ : Sg) (n : Nat) (g : Nat → Int32) (o i : Nat) : Prop := rd_ σ 31 (3 * i) = rv n g o (3 * i) ∧ rd_ σ 31 (3 * i + 1) = rv n g o (3 * i + 1) ∧ rd_ σ 31 (3 * i + 2) = rv n g o (3 * i + 2)
theorem eq_judge (h : R σc σm) (x1 : Int32) : eqv (C_judge_0 σc x1) (M_judge_0 σm x1) := by
  obtain ⟨⟨n, ha⟩, ho⟩ := id h
  have hn := ha.1.2.1
  rcases ixn x1 hn with ⟨k, hk, rfl⟩ | hv
  · have hg := ha.1
    obtain ⟨rw0, hr, ec, em, e3⟩ := ho.2.2.1
    have e' : cE (bm σc k) (σm.1 1) := cE_ag ha.cE bm_ag
    have l' : cL (bm σc k) 24 (σm.1 1) k := cL_bm (ha.cL hk)
    have y' : rd_ (bm σc k) 1 4 = σm.1 1 1 := by rw [bm_ag.1 1 4 (by unfold s58; omega)]; exact ha.yr1
    have cag : ∀ i, ag s58 σc (trS (bm σc k) (σm.1 1) n k i) := fun i => bm_ag.tr (trS_ag i)
    have crn : ∀ i, rd_ (trS (bm σc k) (σm.1 1) n k i) 0 10 = nI rw0 := fun i => by rw [(cag i).1 _ _ (by unfold s58; omega)]; exact ec
    have mrn : ∀ i, rd_ (st_ (asd σm) 1 (gN n (σm.1 1) i)) 0 15 = nI rw0 := fun i => by rw [rd_stk (by omega)]; unfold asd; rw [rd_stk (by omega)]; exact em
    have crow : ∀ i q, rd_ (trS (bm σc k) (σm.1 1) n k i) 31 q = rd_ σc 31 q := fun i q => (cag i).1 _ _ (by unfold s58; omega)
    have mrow : ∀ i q, q < 30 → rd_ (st_ (asd σm) 1 (gN n (σm.1 1) i)) 8 q = rd_ σc 31 q := fun i q hq => by rw [rd_stk (by omega)]; unfold asd; rw [rd_stk (by omega)]; exact (e3 q hq).symm
    have step : ∀ i K, i < rw0 → C_judge_25 K (trS (bm σc k) (σm.1 1) n k i) (nI i) = lp_ (C_judge_56 K) (fun _ _ _ => none) FU (trS (bm σc k) (σm.1 1) n k (i + 1)) (nI i) (nI 0) := fun i K hi => by
      unfold C_judge_25
      rw [crn i, if_neg (nI_ge hi (by omega)), trS_step hg hk e' l' y' i, bi_some]
      rfl
    have told : ∀ i c, c < 3 → C_toldOfTried_0 (trS (bm σc k) (σm.1 1) n k (i + 1)) (nI c) = some (rv n (σm.1 1) k (3 * i + c), trS (bm σc k) (σm.1 1) n k (i + 1)) := fun i c hc => toldT hg hk (trS_cL hk l' (i + 1)) hc
    have t0 : ∀ i, C_toldOfTried_0 (trS (bm σc k) (σm.1 1) n k (i + 1)) (nI 0) = some (rv n (σm.1 1) k (3 * i), trS (bm σc k) (σm.1 1) n k (i + 1)) := fun i => told i 0 (by omega)
    have t1 := fun i => told i 1 (by omega)
    have t2 := fun i => told i 2 (by omega)
    have c3 : ∀ i, i * 3 = 3 * i := fun i => by omega
    have good : ∀ i K, i < rw0 → okR σc n (σm.1 1) k i → C_judge_25 K (trS (bm σc k) (σm.1 1) n k i) (nI i) = K (trS (bm σc k) (σm.1 1) n k (i + 1)) (nI (i + 1)) := fun i K hi ⟨k0, k1, k2⟩ => by
      rw [step i K hi, lp300]
      simp (disch := omega) only [C_judge_56, lit, nI_leI, if_neg, pk_mul, nI_add, lt_eq, c3, Nat.add_zero, in_nI, gd_tt, nI_clamp, t0, t1, t2, bi_some, crow, k0, k1, k2, if_true, if_pos]
    have bad : ∀ i K, i < rw0 → ¬ okR σc n (σm.1 1) k i → C_judge_25 K (trS (bm σc k) (σm.1 1) n k i) (nI i) = some (nI (i + 1), trS (bm σc k) (σm.1 1) n k (i + 1)) := fun i K hi hb => by
      rw [step i K hi, lp300]
      by_cases k0 : rd_ σc 31 (3 * i) = rv n (σm.1 1) k (3 * i)
      · by_cases k1 : rd_ σc 31 (3 * i + 1) = rv n (σm.1 1) k (3 * i + 1)
        · have k2 : ¬ rd_ σc 31 (3 * i + 2) = rv n (σm.1 1) k (3 * i + 2) := fun q => hb ⟨k0, k1, q⟩
          simp (disch := omega) only [C_judge_56, lit, nI_leI, if_neg, pk_mul, nI_add, lt_eq, c3, Nat.add_zero, in_nI, gd_tt, nI_clamp, t0, t1, t2, bi_some, crow, k0, k1, k2, if_true, if_false]
        · simp (disch := omega) only [C_judge_56, lit, nI_leI, if_neg, pk_mul, nI_add, lt_eq, c3, Nat.add_zero, in_nI, gd_tt, nI_clamp, t0, t1, bi_some, crow, k0, k1, if_true, if_false]
      · simp (disch := omega) only [C_judge_56, lit, nI_leI, if_neg, pk_mul, nI_add, lt_eq, c3, Nat.add_zero, in_nI, gd_tt, nI_clamp, t0, bi_some, crow, k0, if_true, if_false]
    have mgood : ∀ i K, i < rw0 → okR σc n (σm.1 1) k i → M_judge_25 K (st_ (asd σm) 1 (gN n (σm.1 1) i)) (nI k) (nI i) (nI 1) = K (st_ (asd σm) 1 (gN n (σm.1 1) (i + 1))) (nI k) (nI (i + 1)) (nI 1) := fun i K hi ⟨k0, k1, k2⟩ => by
      have hgi : gr ((st_ (asd σm) 1 (gN n (σm.1 1) i)).1 1) n := by rw [st_same]; exact gr_gN hg i
      have hgj : gr ((st_ (asd σm) 1 (gN n (σm.1 1) (i + 1))).1 1) n := by rw [st_same]; exact gr_gN hg (i + 1)
      have eO : st_ (asd σm) 1 (gO n (gN n (σm.1 1) i)) = st_ (asd σm) 1 (gN n (σm.1 1) (i + 1)) := rfl
      unfold M_judge_25 M_judge_100
      rw [mrn i, if_neg (nI_ge hi (by omega)), if_neg (by decide), mgoesOn hgi, bi_some, st_st, st_same, eO]
      simp (disch := omega) only [lit, pk_mul, nI_add, lt_eq, in_nI, gd_tt, nI_clamp, itsY, bi_some, mrow, rd_st, mdist hgj hk, st_same, k0, k1, k2, rv0, rv1, rv2, if_true]
    have mbad : ∀ i K, i < rw0 → ¬ okR σc n (σm.1 1) k i → M_judge_25 K (st_ (asd σm) 1 (gN n (σm.1 1) i)) (nI k) (nI i) (nI 1) = K (st_ (asd σm) 1 (gN n (σm.1 1) (i + 1))) (nI k) (nI (i + 1)) (nI 0) := fun i K hi hb => by
      have hgi : gr ((st_ (asd σm) 1 (gN n (σm.1 1) i)).1 1) n := by rw [st_same]; exact gr_gN hg i
      have hgj : gr ((st_ (asd σm) 1 (gN n (σm.1 1) (i + 1))).1 1) n := by rw [st_same]; exact gr_gN hg (i + 1)
      have eO : st_ (asd σm) 1 (gO n (gN n (σm.1 1) i)) = st_ (asd σm) 1 (gN n (σm.1 1) (i + 1)) := rfl
      unfold M_judge_25 M_judge_99 M_judge_100
      rw [mrn i, if_neg (nI_ge hi (by omega)), if_neg (by decide), mgoesOn hgi, bi_some, st_st, st_same, eO]
      by_cases k0 : rd_ σc 31 (3 * i) = gN n (σm.1 1) (i + 1) (16 + 6 * k + 1)
      · by_cases k1 : rd_ σc 31 (3 * i + 1) = gN n (σm.1 1) (i + 1) (16 + 6 * k + 4)
        · have k2 : ¬ rd_ σc 31 (3 * i + 2) = nI (dd (gN n (σm.1 1) (i + 1)) k) := fun q => hb ⟨k0.trans rv0.symm, k1.trans rv1.symm, q.trans rv2.symm⟩
          simp (disch := omega) only [lit, pk_mul, nI_add, lt_eq, in_nI, gd_tt, nI_clamp, itsY, bi_some, mrow, rd_st, mdist hgj hk, st_same, k0, k1, k2, if_true, if_false]
        · simp (disch := omega) only [lit, pk_mul, nI_add, lt_eq, in_nI, gd_tt, nI_clamp, itsY, bi_some, mrow, rd_st, k0, k1, if_true, if_false]
      · simp (disch := omega) only [lit, pk_mul, nI_add, lt_eq, in_nI, gd_tt, nI_clamp, itsY, bi_some, mrow, rd_st, k0, if_false]
    have mend : ∀ i x, M_judge_107 (st_ (asd σm) 1 (gN n (σm.1 1) i)) (nI i) x = some (if x = 0 then nI i else nI 0, asd σm) := fun i x => by
      unfold M_judge_107
      rw [mbackN hn, bi_some]
      by_cases c : x = 0
      · rw [if_pos c, if_pos c]
      · rw [if_neg c, if_neg c]; rfl
    have mst : ∀ r, lp_ M_judge_25 (fun _ _ _ _ => none) FU (st_ (asd σm) 1 (gN n (σm.1 1) 0)) (nI k) (nI 0) (nI 1) = r → M_judge_0 σm (nI k) = r := fun r hr => by
      simp (disch := omega) only [M_judge_0, oneY ha hk, bi_some, lit, nI_eq, if_neg]
      rw [copyRow_1_3, bi_some, ← asd]
      simp only [gN] at hr
      rw [← asd_1, st_self] at hr
      exact hr
    have cst : ∀ r, lp_ C_judge_25 (fun _ _ => none) FU (trS (bm σc k) (σm.1 1) n k 0) (nI 0) = r → C_judge_0 σc (nI k) = r := fun r hr => by
      simp (disch := omega) only [C_judge_0, lifeY ha hk, bi_some, on_S, cbecome]
      exact hr
    by_cases hit : ∃ i, i < rw0 ∧ ¬ okR σc n (σm.1 1) k i
    · obtain ⟨N, ⟨hN, hd⟩, hm⟩ := pk_least _ hit
      have hlt : ∀ i, i < N → okR σc n (σm.1 1) k i := fun i hi => Classical.byContradiction (fun q => hm i hi ⟨by omega, q⟩)
      refine ⟨nI (N + 1), trS (bm σc k) (σm.1 1) n k (N + 1), asd σm, cst _ ?_, mst _ ?_, R.try (n := n) h (cag _)⟩
      · exact lg2 (F := C_judge_25) (z := fun _ _ => none) N (fun i => trS (bm σc k) (σm.1 1) n k i) (fun i => nI i) _ (fun K i hi => good i K (by omega) (hlt i hi)) (fun K => bad N K hN hd) (FU_gt (by omega))
      · have := lg4 (F := M_judge_25) (z := fun _ _ _ _ => none) (N + 1) (fun i => st_ (asd σm) 1 (gN n (σm.1 1) i)) (fun _ => nI k) (fun i => nI i) (fun i => if i ≤ N then nI 1 else nI 0) (some (nI (N + 1), asd σm)) ?_ ?_ (FU_gt (by omega))
        · simp only [Nat.zero_le, if_true] at this
          exact this
        · intro K i hi
          by_cases c : i = N
          · subst c
            rw [if_pos (Nat.le_refl _), if_neg (by omega)]
            exact mbad i K hN hd
          · rw [if_pos (by omega), if_pos (by omega)]
            exact mgood i K (by omega) (hlt i (by omega))
        · intro K
          rw [if_neg (by omega)]
          unfold M_judge_25
          have e := mend (N + 1) (nI 0)
          rw [if_pos (show nI 0 = 0 from rfl)] at e
          rw [e, if_pos (show nI 0 = 0 from rfl)]
          split <;> rfl
    · have hlt : ∀ i, i < rw0 → okR σc n (σm.1 1) k i := fun i hi => Classical.byContradiction (fun q => hit ⟨i, hi, q⟩)
      refine ⟨nI 0, trS (bm σc k) (σm.1 1) n k rw0, asd σm, cst _ ?_, mst _ ?_, R.try (n := n) h (cag _)⟩
      · refine lg2 (F := C_judge_25) (z := fun _ _ => none) rw0 (fun i => trS (bm σc k) (σm.1 1) n k i) (fun i => nI i) _ (fun K i hi => good i K (by omega) (hlt i hi)) (fun K => ?_) (FU_gt (by omega))
        unfold C_judge_25
        rw [crn, if_pos (Int32.le_refl _)]
        rfl
      · refine lg4 (F := M_judge_25) (z := fun _ _ _ _ => none) rw0 (fun i => st_ (asd σm) 1 (gN n (σm.1 1) i)) (fun _ => nI k) (fun i => nI i) (fun _ => nI 1) _ (fun K i hi => mgood i K hi (hlt i hi)) (fun K => ?_) (FU_gt (by omega))
        unfold M_judge_25
        rw [mrn, if_pos (Int32.le_refl _), mend, if_neg (by decide)]
  · refine ⟨-1, σc, σm, ?_, ?_, h⟩
    · simp only [C_judge_0, lifeN ha hv, bi_some, on_N]
    · simp only [M_judge_0, oneN ha hv, bi_some, lit, if_true]
end JUDGE
