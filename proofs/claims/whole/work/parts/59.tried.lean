/-! one that is tried -/
def cE (σ : Sg) (g : Nat → Int32) : Prop := rd_ σ 1 2 = g 7 ∧ (∀ i, i < 4 → rd_ σ 4 i = g (3 + i)) ∧ ∀ i, i < 8 → rd_ σ 7 i = g (8 + i)
def cL (σ : Sg) (j : Nat) (g : Nat → Int32) (o : Nat) : Prop := ∀ w, w < 6 → rd_ σ (34 + j) w = g (16 + 6 * o + w)
def s58 (k _ : Nat) : Prop := k = 34 + 24
theorem RA.cE {σc σm : Sg} {n : Nat} (h : RA σc σm n) : cE σc (σm.1 1) := ⟨h.2.1, h.2.2.2.2.2.1, h.2.2.2.2.2.2.1⟩
theorem RA.cL {σc σm : Sg} {n o : Nat} (h : RA σc σm n) (ho : o < n) : cL σc o (σm.1 1) o := fun w hw => h.2.2.2.2.2.2.2 o ho w hw
theorem RA.yr1 {σc σm : Sg} {n : Nat} (h : RA σc σm n) : rd_ σc 1 4 = σm.1 1 1 := h.2.2.2.1
theorem cE_ag {σ τ : Sg} {g : Nat → Int32} (h : cE σ g) (a : ag s58 σ τ) : cE τ g := ⟨by rw [a.1 _ _ (by unfold s58; omega)]; exact h.1, fun i hi => by rw [a.1 _ _ (by unfold s58; omega)]; exact h.2.1 i hi, fun i hi => by rw [a.1 _ _ (by unfold s58; omega)]; exact h.2.2 i hi⟩
theorem cL_ag {σ τ : Sg} {g : Nat → Int32} {j o : Nat} (h : cL σ j g o) (hj : ¬ j = 24) (a : ag s58 σ τ) : cL τ j g o := fun w hw => by rw [a.1 _ _ (by unfold s58; omega)]; exact h w hw
section TR
variable {σ : Sg} {g : Nat → Int32} {n o j : Nat}
theorem cE_gO (h : cE σ g) : cE σ (gO n g) := ⟨h.1.trans (gO_lo (by omega) (by omega)).symm, fun i hi => (h.2.1 i hi).trans (gO_lo (by omega) (by omega)).symm, fun i hi => (h.2.2 i hi).trans (gO_lo (by omega) (by omega)).symm⟩
theorem lvC (hg : gr g n) (ho : o < n) (l : cL σ j g o) : lv (fun w => rd_ σ (34 + j) w) (N_ g (16 + 6 * o)) (N_ g (16 + 6 * o + 1)) (N_ g (16 + 6 * o + 2)) (N_ g (16 + 6 * o + 3)) (N_ g (16 + 6 * o + 4)) (N_ g (16 + 6 * o + 5)) := by
  obtain ⟨b, h0, h1, h2, h3, h4, h5⟩ := lvG hg ho
  exact ⟨b, (l 0 (by omega)).trans h0, (l 1 (by omega)).trans h1, (l 2 (by omega)).trans h2, (l 3 (by omega)).trans h3, (l 4 (by omega)).trans h4, (l 5 (by omega)).trans h5⟩
theorem evC (hg : gr g n) (e : cE σ g) : ev (fun i => rd_ σ 4 i) (fun i => rd_ σ 7 i) (N_ g 3) (N_ g 4) (fun i => N_ g (8 + i)) := by
  obtain ⟨h1, h2, h3, h4, h5⟩ := evG hg
  exact ⟨h1, h2, (e.2.1 0 (by omega)).trans h3, (e.2.1 1 (by omega)).trans h4, fun i hi => ⟨(h5 i hi).1, (e.2.2 i hi).trans (h5 i hi).2⟩⟩
theorem cstep (hj : j < 25) (hg : gr g n) (ho : o < n) (e : cE σ g) (l : cL σ j g o) : C1_passYearOf_0 σ j (g 1) = some ((), pa σ j (tG g o) (up1 (N_ g (16 + 6 * o + 4)))) := by
  rw [cpass hj (lvC hg ho l) (evC hg e), e.1]
  rfl
theorem cL_pa (ho : o < n) (l : cL σ j g o) : cL (pa σ j (tG g o) (up1 (N_ g (16 + 6 * o + 4)))) j (gO n g) o := by
  intro w hw
  unfold pa
  rcases wsix hw with rfl | rfl | c
  · rw [rd_j (by omega), rd_same, gO_t ho]
  · rw [rd_same, gO_a ho]
  · rw [rd_j (by omega), rd_j (by omega), gO_w c]; exact l w hw
def bm (σ : Sg) (o : Nat) : Sg := wr_ (wr_ (wr_ (wr_ (wr_ (wr_ σ (34 + 24) 0 (rd_ σ (34 + o) 0)) (34 + 24) 1 (rd_ σ (34 + o) 1)) (34 + 24) 2 (rd_ σ (34 + o) 2)) (34 + 24) 3 (rd_ σ (34 + o) 3)) (34 + 24) 4 (rd_ σ (34 + o) 4)) (34 + 24) 5 (rd_ σ (34 + o) 5)
theorem cbecome (ho : o < 8) : C6_become_0 σ 24 o = some ((), bm σ o) := by
  simp (disch := omega) only [C6_become_0, lf_tt, gd_tt, lt_eq, rd_k, bm]
theorem bm_ag : ag s58 σ (bm σ o) := by
  unfold bm
  refine ag.wr (ag.wr (ag.wr (ag.wr (ag.wr (ag.wr ag.rf ?_) ?_) ?_) ?_) ?_) ?_ <;> rfl
theorem cL_bm (l : cL σ o g o) : cL (bm σ o) 24 g o := by
  intro w hw
  have : w = 0 ∨ w = 1 ∨ w = 2 ∨ w = 3 ∨ w = 4 ∨ w = 5 := by omega
  unfold bm
  rcases this with rfl | rfl | rfl | rfl | rfl | rfl <;> simp (disch := omega) only [rd_same, rd_j] <;> exact l _ hw
theorem gr_upd (hg : gr g n) {w v : Nat} (hw : w < 6) (hv : v ≤ bw w) : gr (upd g (16 + 6 * o + w) (nI v)) n := by
  obtain ⟨h1, h2, h3, h4, h5, h6⟩ := hg
  refine ⟨(if_neg (by omega)).trans h1, h2, fun i hi => ?_, ?_, fun i hi => ?_, fun o' ho' w' hw' => ?_⟩
  · rw [upd, if_neg (by omega)]; exact h3 i hi
  · rw [upd, if_neg (by omega)]; exact h4
  · rw [upd, if_neg (by omega)]; exact h5 i hi
  · rw [upd]
    by_cases c : 16 + 6 * o' + w' = 16 + 6 * o + w
    · rw [if_pos c, show w' = w by omega]; exact ⟨v, hv, rfl⟩
    · rw [if_neg c]; exact h6 o' ho' w' hw'
/-- the states of the one that is tried, year by year -/
def trS (σ : Sg) (g : Nat → Int32) (n o : Nat) : Nat → Sg
  | 0 => σ
  | i + 1 => pa (trS σ g n o i) 24 (tG (gN n g i) o) (up1 (N_ (gN n g i) (16 + 6 * o + 4)))
theorem trS_ag (i : Nat) : ag s58 σ (trS σ g n o i) := by
  induction i with
  | zero => exact ag.rf
  | succ i ih => exact ih.tr (pa_ag rfl rfl)
theorem trS_cE (e : cE σ g) (i : Nat) : cE (trS σ g n o i) (gN n g i) := by
  induction i with
  | zero => exact e
  | succ i ih => exact cE_gO (cE_ag ih (pa_ag rfl rfl))
theorem trS_cL (ho : o < n) (l : cL σ 24 g o) (i : Nat) : cL (trS σ g n o i) 24 (gN n g i) o := by
  induction i with
  | zero => exact l
  | succ i ih => exact cL_pa ho ih
theorem trS_step (hg : gr g n) (ho : o < n) (e : cE σ g) (l : cL σ 24 g o) (hy : rd_ σ 1 4 = g 1) (i : Nat) : C1_passYearOf_0 (trS σ g n o i) 24 (rd_ (trS σ g n o i) 1 4 + nI i) = some ((), trS σ g n o (i + 1)) := by
  rw [(trS_ag i).1 1 4 (by unfold s58; omega), hy, ← gN_1 g n i, cstep (by omega) (gr_gN hg i) ho (trS_cE e i) (trS_cL ho l i)]
  rfl
def dd (g : Nat → Int32) (o : Nat) : Nat := if N_ g (16 + 6 * o + 3) ≤ N_ g (16 + 6 * o + 1) then N_ g (16 + 6 * o + 1) - N_ g (16 + 6 * o + 3) else N_ g (16 + 6 * o + 3) - N_ g (16 + 6 * o + 1)
theorem dd_le (hg : gr g n) (ho : o < n) : dd g o ≤ 99 := by
  have h := (lvG hg ho).1
  unfold dd
  split <;> omega
theorem sub_neg {a b : Nat} (h : a ≤ b) : nI 0 - (nI a - nI b) = nI (b - a) := by
  obtain ⟨c, rfl⟩ : ∃ c, b = a + c := ⟨b - a, by omega⟩
  have e : a + c - a = c := by omega
  rw [e, ← nI_add]
  have : (nI 0 : Int32) = 0 := rfl
  rw [this]
  generalize nI a = x
  generalize nI c = y
  rw [Int32.sub_eq_add_neg, Int32.zero_add, Int32.neg_sub, Int32.sub_eq_add_neg, Int32.add_comm x y, Int32.add_assoc, Int32.add_right_neg, Int32.add_zero]
theorem cdist (hj : j < 25) (hg : gr g n) (ho : o < n) (l : cL σ j g o) : C6_distance_0 σ j = some (nI (dd g o), σ) := by
  obtain ⟨⟨b1, b2, b3, b4, b5, b6⟩, h0, h1, h2, h3, h4, h5⟩ := lvC hg ho l
  dsimp only at h1 h3
  unfold C6_distance_0 dd
  rw [lf_tt hj, gd_tt, h1, h3]
  by_cases c : N_ g (16 + 6 * o + 3) ≤ N_ g (16 + 6 * o + 1)
  · rw [if_pos c, pk_sub c, if_pos (nI_pos' (by omega))]
  · rw [if_neg c, if_neg (Int32.not_le.mpr (pk_sneg (by omega) (by omega)))]
    rw [show (0 : Int32) = nI 0 from rfl, sub_neg (by omega)]
theorem mdist (hg : gr (σ.1 1) n) (ho : o < n) : M_farNow_0 σ (nI o) = some (nI (dd (σ.1 1) o), σ) := by
  have hn := hg.2.1
  obtain ⟨⟨b1, b2, b3, b4, b5, b6⟩, h0, h1, h2, h3, h4, h5⟩ := lvG hg ho
  dsimp only at h1 h3
  unfold M_farNow_0 dd
  rw [lit, lit, itsY (by omega) (by omega), bi_some, itsY (by omega) (by omega), bi_some, rd_row, rd_row, h1, h3]
  unfold M_apart_0
  by_cases c : N_ (σ.1 1) (16 + 6 * o + 3) ≤ N_ (σ.1 1) (16 + 6 * o + 1)
  · rw [if_pos c, if_pos (nI_le c (by omega)), pk_sub c, bp_some]
  · rw [if_neg c, if_neg (nI_ge (by omega) (by omega)), pk_sub (by omega), bp_some]
def fwS (σ : Sg) (g : Nat → Int32) (n o w v m : Nat) : Sg := trS (wr_ (bm σ o) (34 + 24) w (nI v)) (upd g (16 + 6 * o + w) (nI v)) n o m
theorem fwS_ag {w v m : Nat} : ag s58 σ (fwS σ g n o w v m) := (bm_ag.wr rfl).tr (trS_ag m)
theorem cE_upd {i : Nat} {v : Int32} (e : cE σ g) (hi : 16 ≤ i) : cE σ (upd g i v) := ⟨e.1.trans (if_neg (by omega)).symm, fun q hq => (e.2.1 q hq).trans (if_neg (by omega)).symm, fun q hq => (e.2.2 q hq).trans (if_neg (by omega)).symm⟩
theorem cL_upd {w v : Nat} (l : cL σ 24 g o) : cL (wr_ σ (34 + 24) w (nI v)) 24 (upd g (16 + 6 * o + w) (nI v)) o := by
  intro q hq
  rw [rd_wr, upd]
  by_cases c : q = w
  · rw [if_pos ⟨rfl, c⟩, if_pos (by omega)]
  · rw [if_neg (fun z => c z.2), if_neg (by omega)]; exact l q hq
theorem fwS_cL {w v m : Nat} (ho : o < n) (l : cL σ o g o) : cL (fwS σ g n o w v m) 24 (gN n (upd g (16 + 6 * o + w) (nI v)) m) o := trS_cL ho (cL_upd (cL_bm l)) m
theorem cfarWith {w v m : Nat} (hg : gr g n) (ho : o < n) (e : cE σ g) (l : cL σ o g o) (hy : rd_ σ 1 4 = g 1) (hw : w < 6) (hv : v ≤ bw w) (hm : m < 200) : C_farWith_0 σ o (nI w) (nI v) (nI m) = some (nI (dd (gN n (upd g (16 + 6 * o + w) (nI v)) m) o), fwS σ g n o w v m) := by
  have hn := hg.2.1
  have hg' : gr (upd g (16 + 6 * o + w) (nI v)) n := gr_upd hg hw hv
  have e' : cE (wr_ (bm σ o) (34 + 24) w (nI v)) (upd g (16 + 6 * o + w) (nI v)) := cE_ag (cE_upd (cE_ag e bm_ag) (by omega)) (ag.rf.wr rfl)
  have l' : cL (wr_ (bm σ o) (34 + 24) w (nI v)) 24 (upd g (16 + 6 * o + w) (nI v)) o := cL_upd (cL_bm l)
  have y' : rd_ (wr_ (bm σ o) (34 + 24) w (nI v)) 1 4 = upd g (16 + 6 * o + w) (nI v) 1 := by
    rw [rd_k (by omega), bm_ag.1 1 4 (by unfold s58; omega), hy, upd, if_neg (by omega)]
  unfold C_farWith_0
  rw [cbecome (by omega), bi_some, remark_at (by omega) hw, bi_some]
  refine lg3 (F := C_farWith_20) (z := fun _ _ _ => none) m (fun i => trS (wr_ (bm σ o) (34 + 24) w (nI v)) (upd g (16 + 6 * o + w) (nI v)) n o i) (fun _ => nI m) (fun i => nI i) _ ?_ ?_ (FU_gt (by omega))
  · intro K i hi
    unfold C_farWith_20
    rw [if_neg (nI_ge hi (by omega)), trS_step hg' ho e' l' y' i, bi_some, lt_eq, lit, nI_add]
  · intro K
    unfold C_farWith_20
    rw [if_pos (Int32.le_refl _), cdist (by omega) (gr_gN hg' m) ho (trS_cL ho l' m), bi_some]
    rfl
end TR
theorem up_self {g : Nat → Int32} {i : Nat} {v : Int32} (h : g i = v) : upd g i v = g := by
  funext j
  unfold upd
  by_cases c : j = i
  · subst c; rw [if_pos rfl, h]
  · rw [if_neg c]
section FAR
variable {σ : Sg} {n o m : Nat}
/-- the row is as it was, but far beyond its end -/
def gM (n : Nat) (g : Nat → Int32) (m : Nat) : Nat → Int32 := fl g (gN n g m) 64
theorem mback {τ : Sg} {a : Nat → Int32} {f : Nat → Int32} : M_copyRow_3_1_0 (st_ (st_ τ 3 a) 1 f) = some ((), st_ (st_ τ 3 a) 1 (fl a f 64)) := by
  rw [copyRow_3_1, st_st, st_same, st_k (by omega), st_same]
theorem gN_hi {g : Nat → Int32} {n j : Nat} (hn : n ≤ 8) (h : 64 ≤ j) (m : Nat) : gN n g m j = g j := by
  induction m with
  | zero => rfl
  | succ m ih =>
    show gO n (gN n g m) j = _
    rw [gO, upd, if_neg (by omega), gA, if_neg (by omega), gT, if_neg (by omega), ih]
/-- laid aside, and laid back: all is as it was, but what lies aside -/
theorem laid {g : Nat → Int32} {τ : Sg} (hn : n ≤ 8) (h : τ.1 1 = g) (m : Nat) : st_ (st_ τ 3 (fl (τ.1 1) (τ.1 3) 64)) 1 (fl (fl (τ.1 1) (τ.1 3) 64) (gN n g m) 64) = st_ τ 3 (fl (τ.1 1) (τ.1 3) 64) := by
  have : fl (fl (τ.1 1) (τ.1 3) 64) (gN n g m) 64 = τ.1 1 := by
    funext j
    unfold fl
    by_cases c : j < 64
    · rw [if_pos c, if_pos c]
    · rw [if_neg c, h, gN_hi hn (by omega)]
  have e := st_self (st_ τ 3 (fl (τ.1 1) (τ.1 3) 64)) 1
  rw [st_k (by omega)] at e
  rw [this]
  exact e
def asd (τ : Sg) : Sg := st_ τ 3 (fl (τ.1 1) (τ.1 3) 64)
theorem asd_1 (τ : Sg) : (asd τ).1 1 = τ.1 1 := st_k (by omega)
theorem asd_ag {S : Nat → Nat → Prop} {τ : Sg} (h : ∀ j, S 3 j) : ag S τ (asd τ) := ag.rf.st (fun j => Or.inl (h j))
theorem mbackN (hn : n ≤ 8) (m : Nat) : M_copyRow_3_1_0 (st_ (asd σ) 1 (gN n (σ.1 1) m)) = some ((), asd σ) := by
  unfold asd
  rw [mback, laid hn rfl]
theorem mfarBehind (hg : gr (σ.1 1) n) (ho : o < n) (hm : m < 200) : M_farBehind_0 σ (nI o) (nI m) = some (nI (dd (gN n (σ.1 1) m) o), asd σ) := by
  have hn := hg.2.1
  have hg2 : gr ((asd σ).1 1) n := by rw [asd_1]; exact hg
  unfold M_farBehind_0
  rw [copyRow_1_3, bi_some, ← asd, mgoes hg2 hm, bi_some, asd_1, mdist (n := n) (by rw [st_same]; exact gr_gN hg m) ho, bi_some, mbackN hn, bi_some, st_same]
end FAR
theorem cplan1 {k : Nat} (h1 : 1 ≤ k) (h2 : k ≤ 30) : C_isPlan_0 (nI k) = some (nI 1) := by
  simp (disch := omega) only [C_isPlan_0, lit, nI_ltI, if_neg]
theorem below1 {v : Int32} {b : Nat} (hb : b < 2 ^ 31) : (∃ k : Nat, 1 ≤ k ∧ k ≤ b ∧ v = nI k) ∨ (v < nI 1 ∨ nI b < v) := by
  rcases rng v b hb with ⟨k, hk, rfl⟩ | h | h
  · by_cases c : k = 0
    · subst c; exact Or.inr (Or.inl (by decide))
    · exact Or.inl ⟨k, by omega, hk, rfl⟩
  · refine Or.inr (Or.inl ?_)
    rw [Int32.lt_iff_toInt_lt] at h ⊢
    have h1 : (0 : Int32).toInt = 0 := by decide
    have h2 : (nI 1).toInt = 1 := by decide
    omega
  · exact Or.inr (Or.inr h)
theorem cplan0 {v : Int32} (h : v < nI 1 ∨ nI 30 < v) : C_isPlan_0 v = some (nI 0) := by
  unfold C_isPlan_0
  rcases h with h | h
  · rw [lit, if_pos h]; rfl
  · by_cases c : v < 1
    · rw [if_pos c]; rfl
    · rw [if_neg c, lit, if_pos h]; rfl
theorem mshort1 {k : Nat} (h1 : 1 ≤ k) (h2 : k ≤ 30) : M_isShort_0 (nI k) = some (nI 1) := by
  simp (disch := omega) only [M_isShort_0, litL, mi1, bp_some, bo_1, gd_tt]
theorem mshort0 {v : Int32} (h : v < nI 1 ∨ nI 30 < v) : M_isShort_0 v = some (nI 0) := by
  simp (disch := omega) only [M_isShort_0, litL, mi0 (by omega) (by omega) h, bp_some, bo_0, gd_tt]
section EQFAR
variable {σc σm : Sg}
theorem s58_sC {k j : Nat} (h : s58 k j) : sC k j := Or.inl h
theorem R.try {n : Nat} {τc : Sg} (h : R σc σm) (a : ag s58 σc τc) : R τc (asd σm) := R.scr h (a.mo (fun _ _ q => s58_sC q)) (asd_ag (fun j => by simp [sM]))
theorem eq_far (h : R σc σm) (x1 x2 : Int32) : eqv (C_far_0 σc x1 x2) (M_far_0 σm x1 x2) := by
  obtain ⟨⟨n, ha⟩, ho⟩ := id h
  have hn := ha.1.2.1
  rcases ixn x1 hn with ⟨k, hk, rfl⟩ | hv
  · rcases rng x2 60 (by omega) with ⟨m, hm, rfl⟩ | hv
    · obtain ⟨b, -, -, -, -, -, h5⟩ := lvG ha.1 hk
      dsimp only at h5
      have e5 : rd_ σc (34 + k) 5 = nI (N_ (σm.1 1) (16 + 6 * k + 5)) := (ha.cL hk 5 (by omega)).trans h5
      have hf := cfarWith (w := 5) (v := N_ (σm.1 1) (16 + 6 * k + 5)) (m := m) ha.1 hk ha.cE (ha.cL hk) ha.yr1 (by omega) (show _ ≤ 7 from b.2.2.2.2.2) (by omega)
      rw [up_self h5] at hf
      refine ⟨nI (dd (gN n (σm.1 1) m) k), fwS σc (σm.1 1) n k 5 (N_ (σm.1 1) (16 + 6 * k + 5)) m, asd σm, ?_, ?_, R.try (n := n) h fwS_ag⟩
      · simp (disch := omega) only [C_far_0, lifeY ha hk, bi_some, on_S, lit, cw1, bp_some, nI_eq, if_neg, lf_tt, gd_tt, C_farSworn_0, e5, hf]
      · simp (disch := omega) only [M_far_0, oneY ha hk, bi_some, lit, litL, mi1, bp_some, nI_eq, if_neg, mfarBehind ha.1 hk]
    · refine ⟨-1, σc, σm, ?_, ?_, h⟩
      · simp (disch := omega) only [C_far_0, lifeY ha hk, bi_some, on_S, lit, cw0 hv, bp_some, if_true]
      · simp (disch := omega) only [M_far_0, oneY ha hk, bi_some, lit, litL, mi0 (by omega) (by omega) (neg_any hv), bp_some, nI_eq, if_neg, if_true]
  · refine ⟨-1, σc, σm, ?_, ?_, h⟩
    · simp only [C_far_0, lifeN ha hv, bi_some, on_N]
    · simp only [M_far_0, oneN ha hv, bi_some, lit, if_true]
theorem eq_becomes (h : R σc σm) (x1 x2 : Int32) : eqv (C_becomes_0 σc x1 x2) (M_becomes_0 σm x1 x2) := by
  obtain ⟨⟨n, ha⟩, ho⟩ := id h
  have hn := ha.1.2.1
  rcases ixn x1 hn with ⟨k, hk, rfl⟩ | hv
  · rcases rng x2 60 (by omega) with ⟨m, hm, rfl⟩ | hv
    · obtain ⟨b, -, -, -, -, -, h5⟩ := lvG ha.1 hk
      dsimp only at h5
      have e5 : rd_ σc (34 + k) 5 = nI (N_ (σm.1 1) (16 + 6 * k + 5)) := (ha.cL hk 5 (by omega)).trans h5
      have hf := cfarWith (w := 5) (v := N_ (σm.1 1) (16 + 6 * k + 5)) (m := m) ha.1 hk ha.cE (ha.cL hk) ha.yr1 (by omega) (show _ ≤ 7 from b.2.2.2.2.2) (by omega)
      have hl := fwS_cL (w := 5) (v := N_ (σm.1 1) (16 + 6 * k + 5)) (m := m) hk (ha.cL hk) 1 (by omega)
      rw [up_self h5] at hf hl
      have hg2 : gr ((asd σm).1 1) n := by rw [asd_1]; exact ha.1
      refine ⟨gN n (σm.1 1) m (16 + 6 * k + 1), fwS σc (σm.1 1) n k 5 (N_ (σm.1 1) (16 + 6 * k + 5)) m, asd σm, ?_, ?_, R.try (n := n) h fwS_ag⟩
      · simp (disch := omega) only [C_becomes_0, lifeY ha hk, bi_some, on_S, lit, cw1, bp_some, nI_eq, if_neg, lf_tt, gd_tt, C_farSworn_0, e5, hf, hl]
      · simp (disch := omega) only [M_becomes_0, oneY ha hk, bi_some, lit, litL, mi1, bp_some, nI_eq, if_neg]
        rw [copyRow_1_3, bi_some, ← asd, mgoes hg2 (by omega), bi_some, asd_1, itsY (by omega) (by omega), bi_some, mbackN hn, bi_some, rd_st]
    · refine ⟨-1, σc, σm, ?_, ?_, h⟩
      · simp (disch := omega) only [C_becomes_0, lifeY ha hk, bi_some, on_S, lit, cw0 hv, bp_some, if_true]
      · simp (disch := omega) only [M_becomes_0, oneY ha hk, bi_some, lit, litL, mi0 (by omega) (by omega) (neg_any hv), bp_some, nI_eq, if_neg, if_true]
  · refine ⟨-1, σc, σm, ?_, ?_, h⟩
    · simp only [C_becomes_0, lifeN ha hv, bi_some, on_N]
    · simp only [M_becomes_0, oneN ha hv, bi_some, lit, if_true]
end EQFAR
