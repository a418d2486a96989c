theorem wr_asd {τ : Sg} : True := trivial
theorem ag_fix {σ τ : Sg} (a : ag aM σ τ) (e : τ.1 1 = σ.1 1) : ag sM σ τ := by
  refine ⟨fun k j h => ?_, a.2⟩
  by_cases c : k = 1
  · subst c; rw [rd_row, rd_row, e]
  · exact a.1 k j (fun q => by rcases q with q | q; exact h q; exact c q)
section EQ60
variable {σc σm : Sg}
theorem eq_does (h : R σc σm) (x1 x2 : Int32) : eqv (C_does_0 σc x1 x2) (M_does_0 σm x1 x2) := by
  obtain ⟨⟨n, ha⟩, ho⟩ := id h
  have hn := ha.1.2.1
  rcases ixn x1 hn with ⟨k, hk, rfl⟩ | hv
  · have cm := cmoves (by omega) (lvC ha.1 hk (ha.cL hk)) (evC ha.1 ha.cE)
    have ce := cends (by omega) (lvC ha.1 hk (ha.cL hk)) (evC ha.1 ha.cE)
    have mm := mmoves (o := k) (by omega) (lvG ha.1 hk) (evG ha.1)
    have me := mends (o := k) (by omega) (lvG ha.1 hk) (evG ha.1)
    rw [ha.yr1] at cm
    generalize nI (vMv (N_ (σm.1 1) 3) (N_ (σm.1 1) 4) (N_ (σm.1 1) (16 + 6 * k)) (N_ (σm.1 1) (16 + 6 * k + 2)) (σm.1 1 1)) = r1 at cm mm
    generalize nI (vEn (N_ (σm.1 1) 3) (N_ (σm.1 1) (16 + 6 * k)) (N_ (σm.1 1) (16 + 6 * k + 2))) = r2 at ce me
    rcases rng x2 1 (by omega) with ⟨m, hm, rfl⟩ | hv
    · have : m = 0 ∨ m = 1 := by omega
      rcases this with rfl | rfl
      · refine ⟨r1, σc, σm, ?_, ?_, h⟩
        · simp (disch := omega) only [C_does_0, lifeY ha hk, bi_some, on_S, lit, if_true, cm]
        · simp (disch := omega) only [M_does_0, oneY ha hk, bi_some, lit, litL, mi1, bp_some, nI_eq, if_neg, if_true, mm]
      · refine ⟨r2, σc, σm, ?_, ?_, h⟩
        · simp (disch := omega) only [C_does_0, lifeY ha hk, bi_some, on_S, lit, nI_eq, if_neg, if_true, ce]
        · simp (disch := omega) only [M_does_0, oneY ha hk, bi_some, lit, litL, mi1, bp_some, nI_eq, if_neg, if_true, me]
    · have n0 : ¬ x2 = nI 0 := fun q => by subst q; rcases hv with q | q <;> exact absurd q (by decide)
      have n1 : ¬ x2 = nI 1 := fun q => by subst q; rcases hv with q | q <;> exact absurd q (by decide)
      refine ⟨-1, σc, σm, ?_, ?_, h⟩
      · simp (disch := omega) only [C_does_0, lifeY ha hk, bi_some, on_S, lit, n0, n1, if_false]
      · simp (disch := omega) only [M_does_0, oneY ha hk, bi_some, lit, litL, mi0 (by omega) (by omega) (neg_any hv), bp_some, nI_eq, if_neg, if_true]
  · refine ⟨-1, σc, σm, ?_, ?_, h⟩
    · simp only [C_does_0, lifeN ha hv, bi_some, on_N]
    · simp only [M_does_0, oneN ha hv, bi_some, lit, if_true]
theorem eq_suited (h : R σc σm) (x1 : Int32) : eqv (C_suited_0 σc x1) (M_suited_0 σm x1) := by
  obtain ⟨⟨n, ha⟩, ho⟩ := id h
  have hn := ha.1.2.1
  rcases ixn x1 hn with ⟨k, hk, rfl⟩ | hv
  · have hg := ha.1
    obtain ⟨rm, hr, er⟩ := hg.2.2.1 2 (by omega)
    have hr9 : rm ≤ 99 := hr
    have er' : σm.1 1 5 = nI rm := er
    have e' : cE (bm σc k) (σm.1 1) := cE_ag ha.cE bm_ag
    have l' : cL (bm σc k) 24 (σm.1 1) k := cL_bm (ha.cL hk)
    have y' : rd_ (bm σc k) 1 4 = σm.1 1 1 := by rw [bm_ag.1 1 4 (by unfold s58; omega)]; exact ha.yr1
    have cd : ∀ i, C6_distance_0 (trS (bm σc k) (σm.1 1) n k i) 24 = some (nI (dd (gN n (σm.1 1) i) k), trS (bm σc k) (σm.1 1) n k i) := fun i => cdist (by omega) (gr_gN hg i) hk (trS_cL hk l' i)
    have md : ∀ i, M_farNow_0 (st_ (asd σm) 1 (gN n (σm.1 1) i)) (nI k) = some (nI (dd (gN n (σm.1 1) i) k), st_ (asd σm) 1 (gN n (σm.1 1) i)) := fun i => by
      have := mdist (σ := st_ (asd σm) 1 (gN n (σm.1 1) i)) (n := n) (o := k) (by rw [st_same]; exact gr_gN hg i) hk
      rw [st_same] at this
      exact this
    have cr : ∀ i, rd_ (trS (bm σc k) (σm.1 1) n k i) 4 2 = nI rm := fun i => by rw [(trS_cE e' i).2.1 2 (by omega), gN_lo (by omega) (by omega)]; exact er
    have mr : ∀ i, rd_ (st_ (asd σm) 1 (gN n (σm.1 1) i)) 1 5 = nI rm := fun i => by rw [rd_st, gN_lo (by omega) (by omega)]; exact er'
    have dl : ∀ i, dd (gN n (σm.1 1) i) k ≤ 99 := fun i => dd_le (gr_gN hg i) hk
    have cs : ∀ (N : Nat) (r : Int32), N ≤ 61 → (∀ i, i < N → rm < dd (gN n (σm.1 1) i) k) → (∀ K, C_suited_25 K (trS (bm σc k) (σm.1 1) n k N) (nI N) = some (r, trS (bm σc k) (σm.1 1) n k N)) → C_suited_0 σc (nI k) = some (r, trS (bm σc k) (σm.1 1) n k N) := by
      intro N r hN hi he
      simp (disch := omega) only [C_suited_0, lifeY ha hk, bi_some, on_S, cbecome]
      refine lg2 (F := C_suited_25) (z := fun _ _ => none) N (fun i => trS (bm σc k) (σm.1 1) n k i) (fun i => nI i) _ ?_ he (FU_gt (by omega))
      intro K i hiN
      have h1 := hi i hiN
      have h2 := dl i
      unfold C_suited_25
      rw [lit, if_neg (nI_nlt (by omega) (by omega)), cd i, bi_some, cr i, if_pos (nI_lt h1 (by omega)), trS_step hg hk e' l' y' i, bi_some, lt_eq, lit, nI_add]
    have ms : ∀ (N : Nat) (r : Int32), N ≤ 61 → (∀ i, i < N → rm < dd (gN n (σm.1 1) i) k) → (∀ K, M_suited_23 K (st_ (asd σm) 1 (gN n (σm.1 1) N)) (nI k) (nI N) = some (r, asd σm)) → M_suited_0 σm (nI k) = some (r, asd σm) := by
      intro N r hN hi he
      simp (disch := omega) only [M_suited_0, oneY ha hk, bi_some, lit, nI_eq, if_neg]
      rw [copyRow_1_3, bi_some, ← asd]
      have := lg3 (F := M_suited_23) (z := fun _ _ _ => none) N (fun i => st_ (asd σm) 1 (gN n (σm.1 1) i)) (fun _ => nI k) (fun i => nI i) (some (r, asd σm)) ?_ he (FU_gt (by omega))
      · simp only [gN] at this
        rw [← asd_1, st_self] at this
        exact this
      · intro K i hiN
        have h1 := hi i hiN
        have h2 := dl i
        unfold M_suited_23
        rw [lit, if_neg (nI_nlt (by omega) (by omega)), md i, bi_some, mr i, if_neg (nI_ge h1 (by omega)), mgoesOn (n := n) (by rw [st_same]; exact gr_gN hg i), bi_some, lt_eq, lit, nI_add, st_st, st_same]
        rfl
    by_cases hit : ∃ i, i ≤ 60 ∧ dd (gN n (σm.1 1) i) k ≤ rm
    · obtain ⟨N, ⟨hN, hd⟩, hm⟩ := pk_least _ hit
      have hlt : ∀ i, i < N → rm < dd (gN n (σm.1 1) i) k := fun i hi => by
        have := hm i hi
        omega
      refine ⟨nI N, trS (bm σc k) (σm.1 1) n k N, asd σm, cs N (nI N) (by omega) hlt ?_, ms N (nI N) (by omega) hlt ?_, R.try (n := n) h (bm_ag.tr (trS_ag N))⟩
      · intro K
        unfold C_suited_25
        rw [lit, if_neg (nI_nlt (by omega) (by omega)), cd N, bi_some, cr N, if_neg (nI_nlt hd (by omega))]
      · intro K
        unfold M_suited_23 M_suited_53
        rw [lit, if_neg (nI_nlt (by omega) (by omega)), md N, bi_some, mr N, if_pos (nI_le hd (by omega)), mbackN hn, bi_some, if_neg (nI_nlt (by omega) (by omega))]
    · have hlt : ∀ i, i < 61 → rm < dd (gN n (σm.1 1) i) k := fun i hi => by
        by_cases c : dd (gN n (σm.1 1) i) k ≤ rm
        · exact absurd ⟨i, by omega, c⟩ hit
        · omega
      refine ⟨-3, trS (bm σc k) (σm.1 1) n k 61, asd σm, cs 61 (-3) (by omega) hlt ?_, ms 61 (-3) (by omega) hlt ?_, R.try (n := n) h (bm_ag.tr (trS_ag 61))⟩
      · intro K
        unfold C_suited_25
        rw [if_pos (by decide)]
      · intro K
        unfold M_suited_23 M_suited_53
        rw [if_pos (by decide), mbackN hn, bi_some, if_pos (by decide)]
  · refine ⟨-1, σc, σm, ?_, ?_, h⟩
    · simp only [C_suited_0, lifeN ha hv, bi_some, on_N]
    · simp only [M_suited_0, oneN ha hv, bi_some, lit, if_true]
/-! which is nearest -/
def nb (D : Nat → Nat) (B : Nat) : Nat → Nat × Nat
  | 0 => (0, B)
  | i + 1 => if D i < (nb D B i).2 then (i, D i) else nb D B i
theorem nb_eq (D : Nat → Nat) {B B' : Nat} (h : D 0 < B) (h' : D 0 < B') (i : Nat) : nb D B (i + 1) = nb D B' (i + 1) := by
  induction i with
  | zero => show (if D 0 < B then (0, D 0) else _) = (if D 0 < B' then (0, D 0) else _); rw [if_pos h, if_pos h']
  | succ i ih =>
    show (if D (i + 1) < (nb D B (i + 1)).2 then _ else _) = (if D (i + 1) < (nb D B' (i + 1)).2 then _ else _)
    rw [ih]
theorem nb_le (D : Nat → Nat) {B : Nat} (i : Nat) : (nb D B i).2 ≤ B ∧ (nb D B i).1 ≤ i := by
  induction i with
  | zero => exact ⟨Nat.le_refl _, Nat.le_refl _⟩
  | succ i ih =>
    unfold nb
    split
    · dsimp only; omega
    · omega
def neS (σ : Sg) (g : Nat → Int32) (n o w m : Nat) : Nat → Sg
  | 0 => σ
  | i + 1 => fwS (neS σ g n o w m i) g n o w i m
theorem neS_ag {σ : Sg} {g : Nat → Int32} {n o w m : Nat} (i : Nat) : ag s58 σ (neS σ g n o w m i) := by
  induction i with
  | zero => exact ag.rf
  | succ i ih => exact ih.tr fwS_ag
def meS (σ : Sg) (p : Nat) : Nat → Sg
  | 0 => σ
  | i + 1 => asd (wr_ (meS σ p i) 1 p (nI i))
theorem upd_upd (g : Nat → Int32) (p : Nat) (u v : Int32) : upd (upd g p u) p v = upd g p v := by
  funext j
  unfold upd
  by_cases c : j = p
  · rw [if_pos c, if_pos c]
  · rw [if_neg c, if_neg c, if_neg c]
theorem meS_row {σ : Sg} {p : Nat} (i : Nat) (v : Int32) : upd ((meS σ p i).1 1) p v = upd (σ.1 1) p v := by
  induction i generalizing v with
  | zero => rfl
  | succ i ih =>
    show upd ((asd (wr_ (meS σ p i) 1 p (nI i))).1 1) p v = _
    rw [asd_1, row_same, upd_upd, ih]
theorem meS_ag {σ : Sg} {p : Nat} (i : Nat) : ag aM σ (meS σ p i) := by
  induction i with
  | zero => exact ag.rf
  | succ i ih => exact (ih.wr (by simp [aM])).tr (asd_ag (fun j => by simp [aM, sM]))
theorem eq_near (h : R σc σm) (x1 x2 : Int32) (w l : Nat) (hw : w < 6) (hl : l = bw w) (hl9 : l ≤ 9) {M : Option (Int32 × Sg)} (hM0 : ∀ {n : Nat}, RA σc σm n → (x1 < 0 ∨ nI n ≤ x1) → M = some (-1, σm)) (hM1 : ∀ {n k : Nat}, RA σc σm n → k < n → x1 = nI k → (x2 < nI 1 ∨ nI 30 < x2) → M = some (-1, σm)) (hM2 : ∀ {n k m : Nat}, RA σc σm n → k < n → x1 = nI k → 1 ≤ m → m ≤ 30 → x2 = nI m → M = bi_ (M_nearestBy_0 σm x1 (nI w) (nI l) x2) fun r τ => some (r, τ)) : eqv (bi_ (C_nearest_0 σc x1 x2 (nI w) (nI l)) fun r τ => some (r, τ)) M := by
  obtain ⟨⟨n, ha⟩, ho⟩ := id h
  have hn := ha.1.2.1
  have hg := ha.1
  rcases ixn x1 hn with ⟨k, hk, rfl⟩ | hv
  · rcases below1 (v := x2) (b := 30) (by omega) with ⟨m, h1, h2, rfl⟩ | hv
    · rw [hM2 ha hk rfl h1 h2 rfl]
      have DL : ∀ v, v ≤ l → gr (upd (σm.1 1) (16 + 6 * k + w) (nI v)) n := fun v hv => gr_upd hg hw (by omega)
      have DD : ∀ v, v ≤ l → dd (gN n (upd (σm.1 1) (16 + 6 * k + w) (nI v)) m) k ≤ 99 := fun v hv => dd_le (gr_gN (DL v hv) m) hk
      generalize hD : (fun v => dd (gN n (upd (σm.1 1) (16 + 6 * k + w) (nI v)) m) k) = D
      have DD' : ∀ v, v ≤ l → D v ≤ 99 := fun v hv => by rw [← hD]; exact DD v hv
      have hC : C_nearest_0 σc (nI k) (nI m) (nI w) (nI l) = some (nI (nb D 10000 (l + 1)).1, neS σc (σm.1 1) n k w m (l + 1)) := by
        simp (disch := omega) only [C_nearest_0, lifeY ha hk, bi_some, on_S, cplan1 h1 h2, bp_some, lit, nI_eq, if_neg]
        refine lg8 (F := C_nearest_35) (z := fun _ _ _ _ _ _ _ _ => none) (l + 1) (fun i => neS σc (σm.1 1) n k w m i) (fun _ => nI m) (fun _ => nI w) (fun _ => nI l) (fun _ => k) (fun i => nI (nb D 10000 i).1) (fun i => nI (nb D 10000 i).2) (fun i => nI i) _ ?_ ?_ (FU_gt (by omega))
        · intro K i hi
          have hf := cfarWith (σ := neS σc (σm.1 1) n k w m i) (w := w) (v := i) (m := m) hg hk (cE_ag ha.cE (neS_ag i)) (cL_ag (ha.cL hk) (by omega) (neS_ag i)) (by rw [(neS_ag i).1 1 4 (by unfold s58; omega)]; exact ha.yr1) hw (by omega) (by omega)
          have eD : dd (gN n (upd (σm.1 1) (16 + 6 * k + w) (nI i)) m) k = D i := by rw [← hD]
          rw [eD] at hf
          have b1 := DD' i (by omega)
          have b2 := (nb_le D (B := 10000) i)
          unfold C_nearest_35 C_nearest_69
          rw [if_neg (nI_nlt (by omega) (by omega)), hf, bi_some]
          by_cases c : D i < (nb D 10000 i).2
          · have en : nb D 10000 (i + 1) = (i, D i) := by rw [nb, if_pos c]
            rw [if_neg (nI_ge c (by omega)), lt_eq, lit, nI_add, en]
            rfl
          · have en : nb D 10000 (i + 1) = nb D 10000 i := by rw [nb, if_neg c]
            rw [if_pos (nI_le (by omega) (by omega)), lt_eq, lit, nI_add, en]
            rfl
        · intro K
          unfold C_nearest_35
          rw [if_pos (nI_lt (by omega) (by omega))]
      have hM : M_nearestBy_0 σm (nI k) (nI w) (nI l) (nI m) = some (nI (nb D 1000 (l + 1)).1, wr_ (meS σm (16 + 6 * k + w) (l + 1)) 1 (16 + 6 * k + w) (σm.1 1 (16 + 6 * k + w))) := by
        simp (disch := omega) only [M_nearestBy_0, lit, pk_mul, nI_add, lt_eq, in_nI, gd_tt, nI_clamp]
        refine lg9 (F := M_nearestBy_31) (z := fun _ _ _ _ _ _ _ _ _ => none) (l + 1) (fun i => meS σm (16 + 6 * k + w) i) (fun _ => nI k) (fun _ => nI l) (fun _ => nI m) (fun _ => nI (16 + 6 * k + w)) (fun _ => σm.1 1 (16 + 6 * k + w)) (fun i => nI (nb D 1000 i).1) (fun i => nI (nb D 1000 i).2) (fun i => nI i) _ ?_ ?_ (FU_gt (by omega))
        · intro K i hi
          have er : (wr_ (meS σm (16 + 6 * k + w) i) 1 (16 + 6 * k + w) (nI i)).1 1 = upd (σm.1 1) (16 + 6 * k + w) (nI i) := by rw [row_same, meS_row]
          have hf := mfarBehind (σ := wr_ (meS σm (16 + 6 * k + w) i) 1 (16 + 6 * k + w) (nI i)) (m := m) (by rw [er]; exact DL i (by omega)) hk (by omega)
          have eD : dd (gN n ((wr_ (meS σm (16 + 6 * k + w) i) 1 (16 + 6 * k + w) (nI i)).1 1) m) k = D i := by rw [← hD, er]
          rw [eD] at hf
          have b1 := DD' i (by omega)
          have b2 := (nb_le D (B := 1000) i)
          unfold M_nearestBy_31 M_nearestBy_69
          rw [if_neg (nI_nlt (by omega) (by omega)), in_nI (by omega) (by omega), gd_tt, nI_clamp (by omega), lt_eq, hf, bi_some, mleast _ _ (by omega) (by omega), bp_some, bp_some]
          by_cases c : D i < (nb D 1000 i).2
          · have en : nb D 1000 (i + 1) = (i, D i) := by rw [nb, if_pos c]
            rw [if_neg (nI_ge c (by omega)), lt_eq, lit, nI_add, en, if_pos (by omega)]
            rfl
          · have en : nb D 1000 (i + 1) = nb D 1000 i := by rw [nb, if_neg c]
            rw [if_pos (nI_le (by omega) (by omega)), lt_eq, lit, nI_add, en]
            by_cases c2 : D i ≤ (nb D 1000 i).2
            · rw [if_pos c2, show D i = (nb D 1000 i).2 by omega]; rfl
            · rw [if_neg c2]; rfl
        · intro K
          unfold M_nearestBy_31
          rw [if_pos (nI_lt (by omega) (by omega)), in_nI (by omega) (by omega), gd_tt, nI_clamp (by omega), lt_eq]
      rw [hC, hM, bi_some, bi_some, nb_eq D (B := 10000) (B' := 1000) (by have := DD' 0 (by omega); omega) (by have := DD' 0 (by omega); omega)]
      refine ⟨_, _, _, rfl, rfl, R.scr h ((neS_ag (l + 1)).mo (fun _ _ q => s58_sC q)) (ag_fix ((meS_ag (l + 1)).wr (by simp [aM])) ?_)⟩
      rw [row_same, meS_row]
      exact up_self rfl
    · rw [hM1 ha hk rfl hv]
      refine ⟨-1, σc, σm, ?_, rfl, h⟩
      simp (disch := omega) only [C_nearest_0, lifeY ha hk, bi_some, on_S, cplan0 hv, bp_some, lit, if_true]
  · rw [hM0 ha hv]
    refine ⟨-1, σc, σm, ?_, rfl, h⟩
    simp only [C_nearest_0, lifeN ha hv, bi_some, on_N]
theorem eq_swearFor (h : R σc σm) (x1 x2 : Int32) : eqv (C_swearFor_0 σc x1 x2) (M_swearFor_0 σm x1 x2) := by
  refine eq_near h x1 x2 5 7 (by omega) rfl (by omega) ?_ ?_ ?_
  · intro n ha hv
    simp only [M_swearFor_0, oneN ha hv, bi_some, lit, if_true]
  · intro n k ha hk e hv
    subst e
    simp (disch := omega) only [M_swearFor_0, oneY ha hk, bi_some, lit, mshort0 hv, bp_some, nI_eq, if_neg, if_true]
  · intro n k m ha hk e h1 h2 e2
    subst e e2
    simp (disch := omega) only [M_swearFor_0, oneY ha hk, bi_some, lit, mshort1 h1 h2, bp_some, nI_eq, if_neg]
theorem eq_kindFor (h : R σc σm) (x1 x2 : Int32) : eqv (C_kindFor_0 σc x1 x2) (M_kindFor_0 σm x1 x2) := by
  refine eq_near h x1 x2 0 5 (by omega) rfl (by omega) ?_ ?_ ?_
  · intro n ha hv
    simp only [M_kindFor_0, oneN ha hv, bi_some, lit, if_true]
  · intro n k ha hk e hv
    subst e
    simp (disch := omega) only [M_kindFor_0, oneY ha hk, bi_some, lit, mshort0 hv, bp_some, nI_eq, if_neg, if_true]
  · intro n k m ha hk e h1 h2 e2
    subst e e2
    simp (disch := omega) only [M_kindFor_0, oneY ha hk, bi_some, lit, mshort1 h1 h2, bp_some, nI_eq, if_neg]
theorem eq_fireFor (h : R σc σm) (x1 x2 : Int32) : eqv (C_fireFor_0 σc x1 x2) (M_fireFor_0 σm x1 x2) := by
  refine eq_near h x1 x2 2 9 (by omega) rfl (by omega) ?_ ?_ ?_
  · intro n ha hv
    simp only [M_fireFor_0, oneN ha hv, bi_some, lit, if_true]
  · intro n k ha hk e hv
    subst e
    simp (disch := omega) only [M_fireFor_0, oneY ha hk, bi_some, lit, mshort0 hv, bp_some, nI_eq, if_neg, if_true]
  · intro n k m ha hk e h1 h2 e2
    subst e e2
    simp (disch := omega) only [M_fireFor_0, oneY ha hk, bi_some, lit, mshort1 h1 h2, bp_some, nI_eq, if_neg]
end EQ60
