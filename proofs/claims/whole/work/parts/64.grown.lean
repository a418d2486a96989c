/-! when all are of age -/
def mx (g : Nat → Int32) : Nat → Nat
  | 0 => 0
  | i + 1 => if mx g i < lf g i then lf g i else mx g i
theorem mx_le {g : Nat → Int32} {n i k : Nat} (h : i ≤ n) : mx g i ≤ k ↔ ∀ o, o < i → lf g o ≤ k := by
  induction i with
  | zero => exact ⟨fun _ o ho => absurd ho (by omega), fun _ => Nat.zero_le _⟩
  | succ i ih =>
    have ih := ih (by omega)
    unfold mx
    constructor
    · intro q o ho
      by_cases c : mx g i < lf g i
      · rw [if_pos c] at q
        by_cases d : o = i
        · subst d; exact q
        · exact ih.mp (by omega) o (by omega)
      · rw [if_neg c] at q
        by_cases d : o = i
        · subst d; omega
        · exact ih.mp q o (by omega)
    · intro q
      have h1 := q i (by omega)
      have h2 := ih.mpr (fun o ho => q o (by omega))
      split <;> omega
theorem lf_gO {g : Nat → Int32} {n o : Nat} (hg : gr g n) (ho : o < n) : lf (gO n g) o = lf g o - 1 := by
  have hl := (lvG hg ho).1
  have h25 := vEn_le (p := N_ g 3) (k := N_ g (16 + 6 * o)) hl.2.2.1
  have e0 : N_ (gO n g) (16 + 6 * o) = N_ g (16 + 6 * o) := N_cong (gO_w (w := 0) (by omega))
  have e4 : N_ (gO n g) (16 + 6 * o + 4) = up1 (N_ g (16 + 6 * o + 4)) := N_of (gO_a ho) (by have := up1_le (N_ g (16 + 6 * o + 4)); omega)
  unfold lf
  rw [e0, e4, N_cong (gO_lo (n := n) (g := g) (j := 3) (by omega) (by omega)), N_cong (gO_w (n := n) (g := g) (o := o) (w := 2) (by omega))]
  unfold up1
  split <;> omega
theorem lf_gN {g : Nat → Int32} {n o : Nat} (hg : gr g n) (ho : o < n) (i : Nat) : lf (gN n g i) o = lf g o - i := by
  induction i with
  | zero => rfl
  | succ i ih =>
    show lf (gO n (gN n g i)) o = _
    rw [lf_gO (gr_gN hg i) ho, ih]
    omega
theorem young0 {g : Nat → Int32} {n : Nat} (hg : gr g n) (i : Nat) : setN (yg (gN n g i)) n = 0 ↔ mx g n ≤ i := by
  rw [setN_0, mx_le (Nat.le_refl n)]
  constructor
  · intro h o ho
    have := h o ho
    by_cases c : 0 < lf (gN n g i) o
    · rw [yg_lf.mpr c] at this; exact absurd this (by decide)
    · rw [lf_gN hg ho] at c; omega
  · intro h o ho
    have h1 := h o ho
    cases c : yg (gN n g i) o
    · rfl
    · have := yg_lf.mp c
      rw [lf_gN hg ho] at this
      omega
section GROWN
variable {σc σm : Sg}
theorem eq_grown (h : R σc σm) : eqv (C_grown_0 σc) (M_grown_0 σm) := by
  obtain ⟨⟨n, ha⟩, ho⟩ := id h
  have hn := ha.1.2.1
  have hg := ha.1
  have h25 : ∀ i, i ≤ n → mx (σm.1 1) i ≤ 25 := fun i hi => (mx_le hi).mpr (fun o ho => lf_le hg (by omega))
  have h25n := h25 n (Nat.le_refl _)
  refine ⟨nI (mx (σm.1 1) n), σc, asd σm, ?_, ?_, R.try (n := n) h ag.rf⟩
  · unfold C_grown_0
    refine lg3 (F := C_grown_4) (z := fun _ _ _ => none) n (fun _ => σc) (fun i => nI (mx (σm.1 1) i)) (fun i => nI i) _ ?_ ?_ (FU_gt (by omega))
    · intro K i hi
      have h1 := h25 i (by omega)
      have h2 := lf_le hg hi
      unfold C_grown_4
      rw [ha.cnt, if_neg (nI_ge hi (by omega)), cleft ha hi, bi_some, lt_eq, lt_eq, lit, nI_add]
      have e : (if nI (mx (σm.1 1) i) < nI (lf (σm.1 1) i) then nI (lf (σm.1 1) i) else nI (mx (σm.1 1) i)) = nI (mx (σm.1 1) (i + 1)) := by
        rw [mx]
        by_cases c : mx (σm.1 1) i < lf (σm.1 1) i
        · rw [if_pos c, if_pos (nI_lt c (by omega))]
        · rw [if_neg c, if_neg (nI_nlt (by omega) (by omega))]
      rw [e]
    · intro K
      unfold C_grown_4
      simp (disch := omega) only [ha.cnt, Int32.le_refl, if_true, lit, nI_ltI, if_neg]
  · unfold M_grown_0
    rw [copyRow_1_3, bi_some, ← asd]
    have := lg2 (F := M_grown_13) (z := fun _ _ => none) (mx (σm.1 1) n) (fun i => st_ (asd σm) 1 (gN n (σm.1 1) i)) (fun i => nI i) (some (nI (mx (σm.1 1) n), asd σm)) ?_ ?_ (FU_gt (by omega))
    · simp only [gN] at this
      rw [← asd_1, st_self, asd_1] at this
      exact this
    · intro K i hi
      have hgi : gr ((st_ (asd σm) 1 (gN n (σm.1 1) i)).1 1) n := by rw [st_same]; exact gr_gN hg i
      have hs := setN_256 (yg (gN n (σm.1 1) i)) hn
      have hz : ¬ setN (yg (gN n (σm.1 1) i)) n = 0 := fun q => by have := (young0 hg i).mp q; omega
      unfold M_grown_13
      rw [lit, if_neg (nI_nlt (by omega) (by omega)), mygs hgi, bi_some, st_same, if_neg (nI_ne0 (by omega) (by omega)), mgoesOn hgi, bi_some, lt_eq, lit, nI_add, st_st, st_same]
      rfl
    · intro K
      have hgi : gr ((st_ (asd σm) 1 (gN n (σm.1 1) (mx (σm.1 1) n))).1 1) n := by rw [st_same]; exact gr_gN hg _
      have hz := (young0 hg (mx (σm.1 1) n)).mpr (Nat.le_refl _)
      unfold M_grown_13 M_grown_36
      rw [lit, if_neg (nI_nlt (by omega) (by omega)), mygs hgi, bi_some, st_same, hz, if_pos (by decide), mbackN hn, bi_some, if_neg (nI_nlt (by omega) (by omega))]
/-! one more -/
theorem addC {σc : Sg} {n : Nat} (hn : n < 8) (e : rd_ σc 1 3 = nI n) : C1_added_0 σc = some (some n, wr_ σc 1 3 (nI (n + 1))) := by
  unfold C1_added_0
  have e2 : rd_ (wr_ σc 1 3 (nI (n + 1))) 1 3 = nI (n + 1) := rd_same _ _ _ _
  simp (disch := omega) only [e, lit, nI_ltI, if_pos, nI_add, lt_eq, e2, pk_sub, Nat.add_sub_cancel]
  rw [lifeY0 (n := n + 1) (by omega) e2 (by omega), bi_some, on_S]
theorem addC8 {σc : Sg} (e : rd_ σc 1 3 = nI 8) : C1_added_0 σc = some (none, σc) := by
  unfold C1_added_0
  rw [e, if_neg (by decide)]
def bgC (σ : Sg) (j k t f s : Nat) : Sg := wr_ (wr_ (wr_ (wr_ (wr_ (wr_ σ (34 + j) 0 (nI k)) (34 + j) 1 (nI t)) (34 + j) 2 (nI f)) (34 + j) 5 (nI s)) (34 + j) 3 (nI 50)) (34 + j) 4 (nI 0)
theorem beginC {σ : Sg} {j k t f s : Nat} (hj : j < 25) : C6_begin_0 σ j (nI k) (nI t) (nI f) (nI s) = some ((), bgC σ j k t f s) := by
  simp (disch := omega) only [C6_begin_0, lf_tt, gd_tt, lt_eq, lit, bgC]
def cmR (g : Nat → Int32) (n k t f s : Nat) : Nat → Int32 := upd (upd (upd (upd (upd (upd (upd g (16 + 6 * n) (nI k)) (16 + 6 * n + 1) (nI t)) (16 + 6 * n + 2) (nI f)) (16 + 6 * n + 3) (nI 50)) (16 + 6 * n + 4) (nI 0)) (16 + 6 * n + 5) (nI s)) 0 (nI (n + 1))
theorem comesM {σ : Sg} {n k t f s : Nat} (hn : n < 8) (e : rd_ σ 1 0 = nI n) : M_comes_0 σ (nI k) (nI t) (nI f) (nI s) = some ((), st_ σ 1 (cmR (σ.1 1) n k t f s)) := by
  unfold M_comes_0
  simp (disch := omega) only [e, lit, pk_mul, nI_add, lt_eq, in_nI, gd_tt, nI_clamp, rd_j]
  simp only [wr_as_st, st_st, st_same, cmR]
def lfv (k t f s w : Nat) : Nat := if w = 0 then k else if w = 1 then t else if w = 2 then f else if w = 3 then 50 else if w = 4 then 0 else s
theorem cmR_at {g : Nat → Int32} {n k t f s w : Nat} (hw : w < 6) : cmR g n k t f s (16 + 6 * n + w) = nI (lfv k t f s w) := by
  have : w = 0 ∨ w = 1 ∨ w = 2 ∨ w = 3 ∨ w = 4 ∨ w = 5 := by omega
  rcases this with rfl | rfl | rfl | rfl | rfl | rfl <;> simp (disch := omega) only [cmR, upd, if_neg, if_pos, Nat.add_zero] <;> rfl
theorem cmR_lo {g : Nat → Int32} {n k t f s i : Nat} (hi : ¬ i = 0) (h : i < 16 + 6 * n) : cmR g n k t f s i = g i := by
  simp (disch := omega) only [cmR, upd, if_neg]
theorem cmR_0 {g : Nat → Int32} {n k t f s : Nat} : cmR g n k t f s 0 = nI (n + 1) := by
  simp only [cmR, upd, if_true]
theorem bgC_at {σ : Sg} {j k t f s w : Nat} (hw : w < 6) : rd_ (bgC σ j k t f s) (34 + j) w = nI (lfv k t f s w) := by
  have : w = 0 ∨ w = 1 ∨ w = 2 ∨ w = 3 ∨ w = 4 ∨ w = 5 := by omega
  rcases this with rfl | rfl | rfl | rfl | rfl | rfl <;> simp (disch := omega) only [bgC, rd_same, rd_j] <;> rfl
theorem bgC_k {σ : Sg} {j k t f s q w : Nat} (hq : ¬ q = 34 + j) : rd_ (bgC σ j k t f s) q w = rd_ σ q w := by
  simp (disch := omega) only [bgC, rd_k]
theorem gr_cmR {g : Nat → Int32} {n k t f s : Nat} (hg : gr g n) (hn : n < 8) (hk : k ≤ 5) (ht : t ≤ 99) (hf : f ≤ 9) (hs : s ≤ 7) : gr (cmR g n k t f s) (n + 1) := by
  obtain ⟨h1, h2, h3, h4, h5, h6⟩ := hg
  refine ⟨cmR_0, by omega, fun i hi => ?_, ?_, fun i hi => ?_, fun o ho w hw => ?_⟩
  · rw [cmR_lo (by omega) (by omega)]; exact h3 i hi
  · rw [cmR_lo (by omega) (by omega)]; exact h4
  · rw [cmR_lo (by omega) (by omega)]; exact h5 i hi
  · by_cases c : o = n
    · subst c
      rw [cmR_at hw]
      refine ⟨_, ?_, rfl⟩
      have : w = 0 ∨ w = 1 ∨ w = 2 ∨ w = 3 ∨ w = 4 ∨ w = 5 := by omega
      rcases this with rfl | rfl | rfl | rfl | rfl | rfl
      · exact hk
      · exact ht
      · exact hf
      · show 50 ≤ 99; omega
      · show 0 ≤ 99; omega
      · exact hs
    · rw [cmR_lo (by omega) (by omega)]; exact h6 o (by omega) w hw
theorem RA.come {σc σm : Sg} {n k t f s : Nat} (h : RA σc σm n) (hn : n < 8) (hk : k ≤ 5) (ht : t ≤ 99) (hf : f ≤ 9) (hs : s ≤ 7) : RA (bgC (wr_ σc 1 3 (nI (n + 1))) n k t f s) (st_ σm 1 (cmR (σm.1 1) n k t f s)) (n + 1) := by
  obtain ⟨r1, r2, r3, r4, r5, r6, r7⟩ := h.2
  refine ⟨by rw [st_same]; exact gr_cmR h.1 hn hk ht hf hs, ?_⟩
  rw [st_same]
  refine ⟨?_, ?_, ?_, ?_, fun i hi => ?_, fun i hi => ?_, fun o ho w hw => ?_⟩
  · rw [bgC_k (by omega), rd_j (by omega), cmR_lo (by omega) (by omega)]; exact r1
  · rw [bgC_k (by omega), rd_same, cmR_0]
  · rw [bgC_k (by omega), rd_j (by omega), cmR_lo (by omega) (by omega)]; exact r3
  · rw [bgC_k (by omega), rd_j (by omega), cmR_lo (by omega) (by omega)]; exact r4
  · rw [bgC_k (by omega), rd_k (by omega), cmR_lo (by omega) (by omega)]; exact r5 i hi
  · rw [bgC_k (by omega), rd_k (by omega), cmR_lo (by omega) (by omega)]; exact r6 i hi
  · show rd_ _ (34 + o) w = _
    by_cases c : o = n
    · subst c; rw [bgC_at hw, cmR_at hw]
    · rw [bgC_k (by omega), rd_k (by omega), cmR_lo (by omega) (by omega)]; exact r7 o (by omega) w hw
theorem eq_child (h : R σc σm) (x1 x2 x3 x4 : Int32) : eqv (C_child_0 σc x1 x2 x3 x4) (M_child_0 σm x1 x2 x3 x4) := by
  obtain ⟨⟨n, ha⟩, ho⟩ := id h
  have hn := ha.1.2.1
  rcases rng x1 5 (by omega) with ⟨k, hk, rfl⟩ | hv
  · rcases rng x2 99 (by omega) with ⟨t, ht, rfl⟩ | hv
    · rcases rng x3 9 (by omega) with ⟨f, hf, rfl⟩ | hv
      · rcases rng x4 7 (by omega) with ⟨s, hs, rfl⟩ | hv
        · by_cases c : n = 8
          · have e1 := ha.cnt
            have e2 := ha.n0
            rw [c] at e1 e2
            refine ⟨-2, σc, σm, ?_, ?_, h⟩
            · simp (disch := omega) only [C_child_0, lit, kwf1 hk hf, cw1, cgm1, bp_some, nI_eq, if_neg, addC8 e1, bi_some, on_N]
            · simp (disch := omega) only [M_child_0, lit, litL, mi1, mgm1, bp_some, nI_eq, if_neg, e2, if_true]
          · have e2 := ha.n0
            have e3 : rd_ (bgC (wr_ σc 1 3 (nI (n + 1))) n k t f s) 1 3 = nI (n + 1) := by rw [bgC_k (by omega), rd_same]
            have e4 : rd_ (st_ σm 1 (cmR (σm.1 1) n k t f s)) 1 0 = nI (n + 1) := by rw [rd_st, cmR_0]
            refine ⟨nI n, bgC (wr_ σc 1 3 (nI (n + 1))) n k t f s, st_ σm 1 (cmR (σm.1 1) n k t f s), ?_, ?_, R.mk (ha.come (by omega) hk ht hf hs) (RO.scr ho ?_ (ag.rf.st (fun j => Or.inl (Or.inr rfl))))⟩
            · simp (disch := omega) only [C_child_0, lit, kwf1 hk hf, cw1, cgm1, bp_some, nI_eq, if_neg, addC (n := n) (by omega) ha.cnt, bi_some, on_S, lf_tt, gd_tt, beginC, e3, pk_sub, Nat.add_sub_cancel]
            · simp (disch := omega) only [M_child_0, lit, litL, mi1, mgm1, bp_some, nI_eq, if_neg, e2, comesM (n := n) (by omega) e2, bi_some, e4, pk_sub, Nat.add_sub_cancel]
            · have hl : ∀ w, aC (34 + n) w := fun w => aC_life (by omega)
              unfold bgC
              exact (((((((ag.rf.wr (by simp [aC])).wr (hl _)).wr (hl _)).wr (hl _)).wr (hl _)).wr (hl _)).wr (hl _))
        · refine ⟨-1, σc, σm, ?_, ?_, h⟩
          · simp (disch := omega) only [C_child_0, lit, kwf1 hk hf, cw1, cgm0 hv, bp_some, nI_eq, if_neg, if_true]
          · simp (disch := omega) only [M_child_0, lit, litL, mi1, mgm0 hv, bp_some, nI_eq, if_neg, if_true]
      · refine ⟨-1, σc, σm, ?_, ?_, h⟩
        · simp (disch := omega) only [C_child_0, lit, kwf2 hk hv, bp_some, if_true]
        · simp (disch := omega) only [M_child_0, lit, litL, mi1, mi0 (by omega) (by omega) (neg_any hv), bp_some, nI_eq, if_neg, if_true]
    · refine ⟨-1, σc, σm, ?_, ?_, h⟩
      · rcases rng x3 9 (by omega) with ⟨f, hf, rfl⟩ | hv2
        · simp (disch := omega) only [C_child_0, lit, kwf1 hk hf, cw0 hv, bp_some, nI_eq, if_neg, if_true]
        · simp (disch := omega) only [C_child_0, lit, kwf2 hk hv2, bp_some, if_true]
      · simp (disch := omega) only [M_child_0, lit, litL, mi1, mi0 (by omega) (by omega) (neg_any hv), bp_some, nI_eq, if_neg, if_true]
  · refine ⟨-1, σc, σm, ?_, ?_, h⟩
    · simp (disch := omega) only [C_child_0, lit, kwf0 hv, bp_some, if_true]
    · simp (disch := omega) only [M_child_0, lit, litL, mi0 (by omega) (by omega) (neg_any hv), bp_some, if_true]
end GROWN
