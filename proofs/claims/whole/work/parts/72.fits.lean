noncomputable def dcd (P : Prop) : Bool := @decide P (Classical.propDecidable P)
theorem dcd_t {P : Prop} (h : P) : dcd P = true := @decide_eq_true P (Classical.propDecidable P) h
theorem dcd_f {P : Prop} (h : ¬ P) : dcd P = false := @decide_eq_false P (Classical.propDecidable P) h
theorem dcd_c {P Q : Prop} (h : P ↔ Q) : dcd P = dcd Q := by rw [propext h]
theorem lc0 (x y : Int32) : lg_cmp x.toInt64 y.toInt64 = 0 ↔ x = y := by
  constructor
  · intro h
    rcases Classical.em (x = y) with e | e
    · exact e
    · exfalso
      by_cases c : x < y
      · rw [lc_lt ((Int32.toInt64_lt).mpr c)] at h; exact absurd h (by decide)
      · have : y < x := Int32.lt_of_le_of_ne (Int32.not_lt.mp c) (fun q => e q.symm)
        rw [lc_gt ((Int32.toInt64_lt).mpr this)] at h; exact absurd h (by decide)
  · intro h; subst h; exact lc_eq _
theorem m1_64 : (-1 : Int64) = m1.toInt64 := by decide
def okF (σ : Sg) (n : Nat) (g : Nat → Int32) (o t i : Nat) : Prop := rd_ σ 11 (40 * t + i) = m1 ∨ rd_ σ 11 (40 * t + i) = gN n g (i + 1) (16 + 6 * o + 1)
def meF (σ : Sg) (p : Nat) (f : Nat → Nat) : Nat → Sg
  | 0 => σ
  | i + 1 => asd (wr_ (meF σ p f i) 1 p (nI (f i)))
theorem meF_row {σ : Sg} {p : Nat} {f : Nat → Nat} (i : Nat) (v : Int32) : upd ((meF σ p f i).1 1) p v = upd (σ.1 1) p v := by
  induction i generalizing v with
  | zero => rfl
  | succ i ih =>
    show upd ((asd (wr_ (meF σ p f i) 1 p (nI (f i)))).1 1) p v = _
    rw [asd_1, row_same, upd_upd, ih]
theorem meF_ag {σ : Sg} {p : Nat} {f : Nat → Nat} (i : Nat) : ag aM σ (meF σ p f i) := by
  induction i with
  | zero => exact ag.rf
  | succ i ih => exact (ih.wr (by simp [aM])).tr (asd_ag (fun j => by simp [aM, sM]))
section FITS
variable {σ : Sg} {n o t z : Nat}
theorem mtold {υ : Sg} (hg : gr (υ.1 1) n) (ho : o < n) (ht : t < 4) (hz : z ≤ 40) (ez : rd_ υ 10 t = nI z) : M_isTold_0 υ (nI t) (nI o) = some (if dcd (∀ i, i < z → okF υ n (υ.1 1) o t i) = true then nI 1 else nI 0, asd υ) := by
  have hn := hg.2.1
  have a10 : ∀ i, rd_ (st_ (asd υ) 1 (gN n (υ.1 1) i)) 10 t = nI z := fun i => by rw [rd_stk (by omega)]; unfold asd; rw [rd_stk (by omega)]; exact ez
  have a11 : ∀ i q, rd_ (st_ (asd υ) 1 (gN n (υ.1 1) i)) 11 q = rd_ υ 11 q := fun i q => by rw [rd_stk (by omega)]; unfold asd; rw [rd_stk (by omega)]
  have e84 : ∀ i x, bo_ x = true → M_isTold_84 (st_ (asd υ) 1 (gN n (υ.1 1) i)) x = some (x, asd υ) := fun i x hx => by
    unfold M_isTold_84
    rw [mbackN hn, bi_some, hx, gd_tt]
  have st : ∀ i K, i < z → M_isTold_16 K (st_ (asd υ) 1 (gN n (υ.1 1) i)) (nI t) (nI o) (nI 1) (nI i) = K (st_ (asd υ) 1 (gN n (υ.1 1) (i + 1))) (nI t) (nI o) (if dcd (okF υ n (υ.1 1) o t i) = true then nI 1 else nI 0) (nI (i + 1)) := fun i K hi => by
    have hgi : gr ((st_ (asd υ) 1 (gN n (υ.1 1) i)).1 1) n := by rw [st_same]; exact gr_gN hg i
    have eO : st_ (asd υ) 1 (gO n (gN n (υ.1 1) i)) = st_ (asd υ) 1 (gN n (υ.1 1) (i + 1)) := rfl
    have e40 : (40 : Int32) * nI t + nI i = nI (40 * t + i) := by rw [show (40 : Int32) = nI 40 from rfl, pk_mul, nI_add]
    unfold M_isTold_16 M_isTold_72 M_isTold_77
    rw [in_nI ht (by omega), gd_tt, nI_clamp (by omega), a10, if_neg (nI_ge hi (by omega)), if_neg (by decide), mgoesOn hgi, bi_some, st_st, st_same, eO, e40, lt_eq, in_nI (by omega) (by omega), gd_tt, nI_clamp (by omega), a11]
    by_cases c : rd_ υ 11 (40 * t + i) = m1
    · rw [if_pos (show _ = (-1 : Int32) from c), dcd_t (show okF υ n (υ.1 1) o t i from Or.inl c), lt_eq, lit, nI_add]; rfl
    · rw [if_neg (show ¬ _ = (-1 : Int32) from c), lt_eq, in_nI (by omega) (by omega), gd_tt, nI_clamp (by omega), a11, lit, itsY (by omega) (by omega), bi_some, rd_st]
      by_cases d : rd_ υ 11 (40 * t + i) = gN n (υ.1 1) (i + 1) (16 + 6 * o + 1)
      · rw [if_pos d, dcd_t (show okF υ n (υ.1 1) o t i from Or.inr d), lt_eq, nI_add]; rfl
      · rw [if_neg d, dcd_f (show ¬ okF υ n (υ.1 1) o t i by rintro (q | q); exact c q; exact d q), lt_eq, nI_add]; rfl
  have st0 : ∀ r, lp_ M_isTold_16 (fun _ _ _ _ _ => none) FU (st_ (asd υ) 1 (gN n (υ.1 1) 0)) (nI t) (nI o) (nI 1) (nI 0) = r → M_isTold_0 υ (nI t) (nI o) = r := fun r hr => by
    unfold M_isTold_0
    rw [copyRow_1_3, bi_some, ← asd]
    simp only [gN] at hr
    rw [← asd_1, st_self] at hr
    exact hr
  by_cases hit : ∃ i, i < z ∧ ¬ okF υ n (υ.1 1) o t i
  · obtain ⟨N, ⟨hN, hd⟩, hm⟩ := pk_least _ hit
    have hlt : ∀ i, i < N → okF υ n (υ.1 1) o t i := fun i hi => Classical.byContradiction (fun q => hm i hi ⟨by omega, q⟩)
    rw [dcd_f (fun q => hd (q N hN))]
    refine st0 _ ?_
    have := lg5 (F := M_isTold_16) (z := fun _ _ _ _ _ => none) (N + 1) (fun i => st_ (asd υ) 1 (gN n (υ.1 1) i)) (fun _ => nI t) (fun _ => nI o) (fun i => if i ≤ N then nI 1 else nI 0) (fun i => nI i) (some (nI 0, asd υ)) ?_ ?_ (FU_gt (by omega))
    · simp only [Nat.zero_le, if_true] at this
      exact this
    · intro K i hi
      by_cases c : i = N
      · subst c
        rw [if_pos (Nat.le_refl _), if_neg (by omega), st i K hN, dcd_f hd]
        rfl
      · rw [if_pos (by omega), if_pos (by omega), st i K (by omega), dcd_t (hlt i (by omega))]
        rfl
    · intro K
      rw [if_neg (by omega)]
      unfold M_isTold_16
      rw [in_nI ht (by omega), gd_tt, e84 _ _ bo_0, if_pos (show nI 0 = 0 from rfl)]
      split <;> rfl
  · have hlt : ∀ i, i < z → okF υ n (υ.1 1) o t i := fun i hi => Classical.byContradiction (fun q => hit ⟨i, hi, q⟩)
    rw [dcd_t hlt]
    refine st0 _ ?_
    refine lg5 (F := M_isTold_16) (z := fun _ _ _ _ _ => none) z (fun i => st_ (asd υ) 1 (gN n (υ.1 1) i)) (fun _ => nI t) (fun _ => nI o) (fun _ => nI 1) (fun i => nI i) _ ?_ ?_ (FU_gt (by omega))
    · intro K i hi
      rw [st i K hi, dcd_t (hlt i hi)]
      rfl
    · intro K
      unfold M_isTold_16
      rw [in_nI ht (by omega), gd_tt, nI_clamp (by omega), a10, if_pos (Int32.le_refl _), e84 _ _ bo_1]
      rfl
theorem cfit {g : Nat → Int32} {σm : Sg} {q : Nat} (hg : gr g n) (ho : o < n) (e : cE σ g) (l : cL σ o g o) (hy : rd_ σ 1 4 = g 1) (hq : q ≤ 7) (ht : t < 4) (hz : z ≤ 40) (ez : rd_ σ 24 t = nI z) (ei : ∀ i, i < z → rl_ σ (t * 40 + i) = (rd_ σm 11 (40 * t + i)).toInt64) : ∃ τ, ag s58 σ τ ∧ C_isFit_0 σ (nI t) o (nI q) = some (if dcd (∀ i, i < z → okF σm n (upd g (16 + 6 * o + 5) (nI q)) o t i) = true then nI 1 else nI 0, τ) := by
  have hn := hg.2.1
  have hg' : gr (upd g (16 + 6 * o + 5) (nI q)) n := gr_upd hg (by omega) (show q ≤ 7 from hq)
  have e' : cE (wr_ (bm σ o) (34 + 24) 5 (nI q)) (upd g (16 + 6 * o + 5) (nI q)) := cE_ag (cE_upd (cE_ag e bm_ag) (by omega)) (ag.rf.wr rfl)
  have l' : cL (wr_ (bm σ o) (34 + 24) 5 (nI q)) 24 (upd g (16 + 6 * o + 5) (nI q)) o := cL_upd (cL_bm l)
  have y' : rd_ (wr_ (bm σ o) (34 + 24) 5 (nI q)) 1 4 = upd g (16 + 6 * o + 5) (nI q) 1 := by
    rw [rd_k (by omega), bm_ag.1 1 4 (by unfold s58; omega), hy, upd, if_neg (by omega)]
  have a0 : ag s58 σ (wr_ (bm σ o) (34 + 24) 5 (nI q)) := bm_ag.wr rfl
  have ag0 : ∀ i, ag s58 σ (trS (wr_ (bm σ o) (34 + 24) 5 (nI q)) (upd g (16 + 6 * o + 5) (nI q)) n o i) := fun i => a0.tr (trS_ag i)
  generalize hg2 : upd g (16 + 6 * o + 5) (nI q) = g2 at hg' e' l' y' ag0
  have h24 : ∀ i, rd_ (trS (wr_ (bm σ o) (34 + 24) 5 (nI q)) g2 n o i) 24 t = nI z := fun i => by rw [(ag0 i).1 _ _ (by unfold s58; omega)]; exact ez
  have st : ∀ i K, i < z → C_isFit_29 K (trS (wr_ (bm σ o) (34 + 24) 5 (nI q)) g2 n o i) (nI t) (nI z) (nI i) = if dcd (okF σm n g2 o t i) = true then K (trS (wr_ (bm σ o) (34 + 24) 5 (nI q)) g2 n o (i + 1)) (nI t) (nI z) (nI (i + 1)) else some (nI 0, trS (wr_ (bm σ o) (34 + 24) 5 (nI q)) g2 n o (i + 1)) := fun i K hi => by
    have et : rd_ (trS (wr_ (bm σ o) (34 + 24) 5 (nI q)) g2 n o (i + 1)) (34 + 24) 1 = gN n g2 (i + 1) (16 + 6 * o + 1) := trS_cL ho l' (i + 1) 1 (by omega)
    have el : rl_ (trS (wr_ (bm σ o) (34 + 24) 5 (nI q)) g2 n o (i + 1)) (t * 40 + i) = (rd_ σm 11 (40 * t + i)).toInt64 := by rw [(ag0 (i + 1)).2]; exact ei i hi
    unfold C_isFit_29 C_isFit_94
    rw [if_neg (nI_ge hi (by omega)), trS_step hg' ho e' l' y' i, bi_some, citem1 ht hz (h24 (i + 1)) hi, bi_some, el, m1_64]
    by_cases c : rd_ σm 11 (40 * t + i) = m1
    · rw [if_pos ((lc0 _ _).mpr c), dcd_t (show okF σm n g2 o t i from Or.inl c), lt_eq, lit, nI_add]; rfl
    · rw [if_neg (fun w => c ((lc0 _ _).mp w)), et]
      by_cases d : rd_ σm 11 (40 * t + i) = gN n g2 (i + 1) (16 + 6 * o + 1)
      · rw [if_pos ((lc0 _ _).mpr d), dcd_t (show okF σm n g2 o t i from Or.inr d), lt_eq, lit, nI_add]; rfl
      · rw [if_neg (fun w => d ((lc0 _ _).mp w)), dcd_f (show ¬ okF σm n g2 o t i by rintro (w | w); exact c w; exact d w)]; rfl
  have st0 : ∀ r, lp_ C_isFit_29 (fun _ _ _ _ => none) FU (trS (wr_ (bm σ o) (34 + 24) 5 (nI q)) g2 n o 0) (nI t) (nI z) (nI 0) = r → C_isFit_0 σ (nI t) o (nI q) = r := fun r hr => by
    unfold C_isFit_0
    rw [cbecome (by omega), bi_some, lt_eq, csize ht, a0.1 _ _ (by unfold s58; omega), ez, bi_some]
    exact hr
  by_cases hit : ∃ i, i < z ∧ ¬ okF σm n g2 o t i
  · obtain ⟨N, ⟨hN, hd⟩, hm⟩ := pk_least _ hit
    have hlt : ∀ i, i < N → okF σm n g2 o t i := fun i hi => Classical.byContradiction (fun q => hm i hi ⟨by omega, q⟩)
    rw [dcd_f (fun q => hd (q N hN))]
    refine ⟨_, ag0 (N + 1), st0 _ ?_⟩
    refine lg4 (F := C_isFit_29) (z := fun _ _ _ _ => none) N (fun i => trS (wr_ (bm σ o) (34 + 24) 5 (nI q)) g2 n o i) (fun _ => nI t) (fun _ => nI z) (fun i => nI i) _ ?_ ?_ (FU_gt (by omega))
    · intro K i hi
      rw [st i K (by omega), dcd_t (hlt i hi)]; rfl
    · intro K
      rw [st N K hN, dcd_f hd]; rfl
  · have hlt : ∀ i, i < z → okF σm n g2 o t i := fun i hi => Classical.byContradiction (fun q => hit ⟨i, hi, q⟩)
    rw [dcd_t hlt]
    refine ⟨_, ag0 z, st0 _ ?_⟩
    refine lg4 (F := C_isFit_29) (z := fun _ _ _ _ => none) z (fun i => trS (wr_ (bm σ o) (34 + 24) 5 (nI q)) g2 n o i) (fun _ => nI t) (fun _ => nI z) (fun i => nI i) _ ?_ ?_ (FU_gt (by omega))
    · intro K i hi
      rw [st i K hi, dcd_t (hlt i hi)]; rfl
    · intro K
      unfold C_isFit_29
      rw [if_pos (Int32.le_refl _)]; rfl
/-- how many fit, and which first -/
def fN (P : Nat → Bool) : Nat → Nat × Int32
  | 0 => (0, -nI 3)
  | i + 1 => if P (7 - i) = true then ((fN P i).1 + 1, nI (7 - i)) else fN P i
def dn (i : Nat) : Int32 := if i < 8 then nI (7 - i) else m1
theorem dn_s {i : Nat} (hi : i < 8) : nI (7 - i) + (-1 : Int32) = dn (i + 1) := by
  unfold dn
  by_cases c : i = 7
  · subst c; rfl
  · rw [if_pos (by omega), show 7 - i = 7 - (i + 1) + 1 by omega, pk_m1]
theorem fN_le (P : Nat → Bool) (i : Nat) : (fN P i).1 ≤ i := by
  induction i with
  | zero => exact Nat.le_refl _
  | succ i ih =>
    unfold fN
    split
    · dsimp only; omega
    · omega
end FITS
section EQFITS
variable {σc σm : Sg}
theorem eq_fits (h : R σc σm) (x1 x2 x3 : Int32) : eqv (C_fits_0 σc x1 x2 x3) (M_fits_0 σm x1 x2 x3) := by
  obtain ⟨⟨n, ha⟩, ho⟩ := id h
  have hn := ha.1.2.1
  have hs := h.2.2.2.2.1
  rcases rng x1 3 (by omega) with ⟨t, ht, rfl⟩ | hv
  · have ht4 : t < 4 := by omega
    rcases ixn x2 hn with ⟨k, hk, rfl⟩ | hv
    · rcases rng x3 1 (by omega) with ⟨w, hw, rfl⟩ | hv
      · rcases hs t ht4 with ⟨e1, e2, e3, e4⟩ | ⟨s, z, b1, b2, e1, e2, e3, e4, e5⟩
        · refine ⟨-11, σc, σm, ?_, ?_, h⟩
          · simp (disch := omega) only [C_fits_0, lifeY ha hk, bi_some, on_S, csh1 ht4, lit, nI_eq, if_neg, cw1, bp_some, cmiss1 ht4 e1]
          · unfold M_fits_0
            rw [msh1 ht4, bp_some, if_neg (by decide), oneY ha hk, bi_some, if_neg (by decide), show (0 : Int64) = lN 0 from rfl, show (1 : Int64) = lN 1 from rfl, mi1 (by omega) hw (by omega), bp_some, if_neg (by decide), in_nI ht4 (by omega), gd_tt, nI_clamp (by omega), e2, if_neg m1_nle]
        · have hg := ha.1
          generalize hP : (fun q => dcd (∀ i, i < z → okF σm n (upd (σm.1 1) (16 + 6 * k + 5) (nI q)) k t i)) = P
          have hPq : ∀ q, dcd (∀ i, i < z → okF σm n (upd (σm.1 1) (16 + 6 * k + 5) (nI q)) k t i) = P q := fun q => by rw [← hP]
          have hfl := fun i => fN_le P i
          have hC : ∃ τ, ag s58 σc τ ∧ lp_ C_fits_61 (fun _ _ _ _ _ _ _ => none) FU σc (nI t) (nI w) k (nI 0) (-nI 3) (nI 7) = some (if nI w = 0 then nI (fN P 8).1 else (fN P 8).2, τ) := by
            have key := li7 (F := C_fits_61) (z := fun _ _ _ _ _ _ _ => none) 8 (fun i τ x1 x3 x4 x5 x6 x7 => ag s58 σc τ ∧ x1 = nI t ∧ x3 = nI w ∧ x4 = k ∧ x5 = nI (fN P i).1 ∧ x6 = (fN P i).2 ∧ x7 = dn i) (fun b => b.1 = (if nI w = 0 then nI (fN P 8).1 else (fN P 8).2) ∧ ag s58 σc b.2) σc (nI t) (nI w) k (nI 0) (-nI 3) (nI 7) ⟨ag.rf, rfl, rfl, rfl, rfl, rfl, rfl⟩ ?_ ?_ (FU_gt (N := 8) (by omega))
            · obtain ⟨⟨r, τ⟩, ⟨d1, d2⟩, hb⟩ := key
              dsimp only at d1 d2
              subst d1
              exact ⟨τ, d2, hb⟩
            · rintro K i τ y1 y3 y4 y5 y6 y7 hi ⟨a, rfl, rfl, rfl, rfl, rfl, rfl⟩
              obtain ⟨τ2, a2, hf⟩ := cfit (σ := τ) (σm := σm) (t := t) (z := z) (q := 7 - i) hg hk (cE_ag ha.cE a) (cL_ag (ha.cL hk) (by omega) a) (by rw [a.1 _ _ (by unfold s58; omega)]; exact ha.yr1) (by omega) ht4 b2 (by rw [a.1 _ _ (by unfold s58; omega)]; exact e3) (fun j hj => by rw [a.2]; exact e5 j hj)
              rw [hPq] at hf
              have ed : dn i = nI (7 - i) := by unfold dn; rw [if_pos hi]
              refine Or.inl ⟨τ2, nI t, nI w, y4, nI (fN P (i + 1)).1, (fN P (i + 1)).2, dn (i + 1), ⟨a.tr a2, rfl, rfl, rfl, rfl, rfl, rfl⟩, ?_⟩
              unfold C_fits_61 C_fits_85
              rw [ed, if_neg (nI_pos (by omega)), hf, bi_some, fN]
              cases P (7 - i)
              · simp only [Bool.false_eq_true, if_false]
                rw [if_pos (by decide), lt_eq, dn_s hi]
              · simp only [if_true]
                rw [if_neg (by decide), lt_eq, lt_eq, dn_s hi, show (1 : Int32) = nI 1 from rfl, nI_add]
            · rintro K τ y1 y3 y4 y5 y6 y7 ⟨a, rfl, rfl, rfl, rfl, rfl, rfl⟩
              refine ⟨(if nI w = 0 then nI (fN P 8).1 else (fN P 8).2, τ), ⟨rfl, a⟩, ?_⟩
              unfold C_fits_61
              rw [if_pos (show dn 8 < 0 from m1_neg)]
              split <;> rfl
          have hM : ∃ τ, ag sM σm τ ∧ lp_ M_fits_70 (fun _ _ _ _ _ _ _ _ _ => none) FU σm (nI t) (nI k) (nI w) (nI (16 + 6 * k + 5)) (σm.1 1 (16 + 6 * k + 5)) (nI 0) (-nI 3) (nI 7) = some (if nI w = 0 then nI (fN P 8).1 else (fN P 8).2, τ) := by
            refine ⟨wr_ (meF σm (16 + 6 * k + 5) (fun i => 7 - i) 8) 1 (16 + 6 * k + 5) (σm.1 1 (16 + 6 * k + 5)), ag_fix ((meF_ag 8).wr (Or.inr rfl)) (by rw [row_same, meF_row, up_self rfl]), ?_⟩
            refine lg9 (F := M_fits_70) (z := fun _ _ _ _ _ _ _ _ _ => none) 8 (fun i => meF σm (16 + 6 * k + 5) (fun i => 7 - i) i) (fun _ => nI t) (fun _ => nI k) (fun _ => nI w) (fun _ => nI (16 + 6 * k + 5)) (fun _ => σm.1 1 (16 + 6 * k + 5)) (fun i => nI (fN P i).1) (fun i => (fN P i).2) (fun i => dn i) _ ?_ ?_ (FU_gt (by omega))
            · intro K i hi
              have er : (wr_ (meF σm (16 + 6 * k + 5) (fun i => 7 - i) i) 1 (16 + 6 * k + 5) (nI (7 - i))).1 1 = upd (σm.1 1) (16 + 6 * k + 5) (nI (7 - i)) := by rw [row_same, meF_row]
              have e10 : ∀ q j, (q = 10 ∨ q = 11) → rd_ (wr_ (meF σm (16 + 6 * k + 5) (fun i => 7 - i) i) 1 (16 + 6 * k + 5) (nI (7 - i))) q j = rd_ σm q j := fun q j hq => by
                rw [rd_k (by omega), (meF_ag i).1 _ _ (by simp [aM, sM]; omega)]
              have hf := mtold (υ := wr_ (meF σm (16 + 6 * k + 5) (fun i => 7 - i) i) 1 (16 + 6 * k + 5) (nI (7 - i))) (t := t) (z := z) (by rw [er]; exact gr_upd hg (by omega) (show 7 - i ≤ 7 by omega)) hk ht4 b2 (by rw [e10 _ _ (Or.inl rfl)]; exact e4)
              have eok : (∀ j, j < z → okF (wr_ (meF σm (16 + 6 * k + 5) (fun i => 7 - i) i) 1 (16 + 6 * k + 5) (nI (7 - i))) n ((wr_ (meF σm (16 + 6 * k + 5) (fun i => 7 - i) i) 1 (16 + 6 * k + 5) (nI (7 - i))).1 1) k t j) ↔ (∀ j, j < z → okF σm n (upd (σm.1 1) (16 + 6 * k + 5) (nI (7 - i))) k t j) := by
                unfold okF
                rw [er]
                constructor
                · intro q j hj
                  have := q j hj
                  rw [e10 _ _ (Or.inr rfl)] at this
                  exact this
                · intro q j hj
                  rw [e10 _ _ (Or.inr rfl)]
                  exact q j hj
              rw [dcd_c eok, hPq] at hf
              have ed : dn i = nI (7 - i) := by unfold dn; rw [if_pos hi]
              have eS : asd (wr_ (meF σm (16 + 6 * k + 5) (fun i => 7 - i) i) 1 (16 + 6 * k + 5) (nI (7 - i))) = meF σm (16 + 6 * k + 5) (fun i => 7 - i) (i + 1) := rfl
              rw [eS] at hf
              unfold M_fits_70 M_fits_104 M_fits_119
              rw [ed, if_neg (nI_pos (by omega)), in_nI (by omega) (by omega), gd_tt, nI_clamp (by omega), lt_eq, hf, bi_some, fN, dn_s hi]
              cases P (7 - i)
              · simp only [Bool.false_eq_true, if_false, if_true, lt_eq]
                rw [if_pos (show nI 0 = 0 from rfl), if_pos (show nI 0 = 0 from rfl), show (0 : Int32) = nI 0 from rfl, nI_add]
                rfl
              · simp only [if_true, lt_eq]
                rw [if_neg (show ¬ nI 1 = 0 by decide), if_neg (show ¬ nI 1 = 0 by decide), show (1 : Int32) = nI 1 from rfl, nI_add]
            · intro K
              unfold M_fits_70
              rw [if_pos (show dn 8 < 0 from m1_neg), in_nI (by omega) (by omega), gd_tt, nI_clamp (by omega), lt_eq]
              split <;> rfl
          obtain ⟨τc, ac, fc⟩ := hC
          obtain ⟨τm, am, fm⟩ := hM
          generalize (if nI w = 0 then nI (fN P 8).1 else (fN P 8).2) = ans at fc fm
          refine ⟨ans, τc, τm, ?_, ?_, R.scr h (ac.mo (fun _ _ q => s58_sC q)) am⟩
          · simp (disch := omega) only [C_fits_0, lifeY ha hk, bi_some, on_S, csh1 ht4, lit, nI_eq, if_neg, cw1, bp_some, cmiss0 ht4 (show s < 2 ^ 31 by omega) e1, if_true]
            exact fc
          · unfold M_fits_0
            rw [msh1 ht4, bp_some, if_neg (by decide), oneY ha hk, bi_some, if_neg (by decide), show (0 : Int64) = lN 0 from rfl, show (1 : Int64) = lN 1 from rfl, mi1 (by omega) hw (by omega), bp_some, if_neg (by decide), in_nI ht4 (by omega), gd_tt, nI_clamp (by omega), e2, if_pos (nI_pos' (by omega))]
            simp (disch := omega) only [lit, pk_mul, nI_add, lt_eq, in_nI, gd_tt, nI_clamp]
            exact fm
      · refine ⟨-1, σc, σm, ?_, ?_, h⟩
        · simp (disch := omega) only [C_fits_0, lifeY ha hk, bi_some, on_S, csh1 ht4, lit, nI_eq, if_neg, cw0 hv, bp_some, if_true]
        · simp (disch := omega) only [M_fits_0, msh1 ht4, bp_some, oneY ha hk, bi_some, lit, litL, nI_eq, if_neg, mi0 (by omega) (by omega) (neg_any hv), if_true]
    · refine ⟨-1, σc, σm, ?_, ?_, h⟩
      · simp (disch := omega) only [C_fits_0, lifeN ha hv, bi_some, on_N, csh1 ht4, lit, nI_eq, if_neg]
      · simp (disch := omega) only [M_fits_0, msh1 ht4, bp_some, oneN ha hv, bi_some, lit, nI_eq, if_neg, if_true]
  · refine ⟨-1, σc, σm, ?_, ?_, h⟩
    · rcases ixn x2 hn with ⟨k, hk, rfl⟩ | hv2
      · simp (disch := omega) only [C_fits_0, lifeY ha hk, bi_some, on_S, csh0 hv, lit, if_true]
      · simp (disch := omega) only [C_fits_0, lifeN ha hv2, bi_some, on_N, csh0 hv, lit, if_true]
    · simp only [M_fits_0, msh0 hv, bp_some, lit, if_true]
end EQFITS
