/-! a year on rows -/
def N_ (g : Nat → Int32) (i : Nat) : Nat := (g i).toNatClampNeg
theorem N_of {g : Nat → Int32} {i k : Nat} (h : g i = nI k) (hk : k < 2 ^ 31) : N_ g i = k := by
  unfold N_
  rw [h, nI_clamp hk]
def tG (g : Nat → Int32) (o : Nat) : Nat := mT (N_ g 3) (N_ g 4) (fun i => N_ g (8 + i)) (g 7) (g 1) (N_ g (16 + 6 * o)) (N_ g (16 + 6 * o + 1)) (N_ g (16 + 6 * o + 2)) (N_ g (16 + 6 * o + 4)) (N_ g (16 + 6 * o + 5))
def gT (g : Nat → Int32) (i : Nat) : Nat → Int32 := fun j => if 16 ≤ j ∧ j < 16 + 6 * i ∧ (j - 16) % 6 = 1 then nI (tG g ((j - 16) / 6)) else g j
def gA (g : Nat → Int32) (n i : Nat) : Nat → Int32 := fun j => if 16 ≤ j ∧ j < 16 + 6 * i ∧ (j - 16) % 6 = 4 then nI (up1 (N_ g j)) else gT g n j
def gO (n : Nat) (g : Nat → Int32) : Nat → Int32 := upd (gA g n n) 1 (g 1 + nI 1)
theorem lvG {g : Nat → Int32} {n o : Nat} (hg : gr g n) (ho : o < n) : lv (fun w => g (16 + 6 * o + w)) (N_ g (16 + 6 * o)) (N_ g (16 + 6 * o + 1)) (N_ g (16 + 6 * o + 2)) (N_ g (16 + 6 * o + 3)) (N_ g (16 + 6 * o + 4)) (N_ g (16 + 6 * o + 5)) := by
  have h := hg.2.2.2.2.2 o ho
  obtain ⟨k0, b0, e0⟩ := h 0 (by omega)
  obtain ⟨k1, b1, e1⟩ := h 1 (by omega)
  obtain ⟨k2, b2, e2⟩ := h 2 (by omega)
  obtain ⟨k3, b3, e3⟩ := h 3 (by omega)
  obtain ⟨k4, b4, e4⟩ := h 4 (by omega)
  obtain ⟨k5, b5, e5⟩ := h 5 (by omega)
  have c0 : k0 ≤ 5 := b0
  have c1 : k1 ≤ 99 := b1
  have c2 : k2 ≤ 9 := b2
  have c3 : k3 ≤ 99 := b3
  have c4 : k4 ≤ 99 := b4
  have c5 : k5 ≤ 7 := b5
  rw [Nat.add_zero] at e0
  rw [N_of e0 (by omega), N_of e1 (by omega), N_of e2 (by omega), N_of e3 (by omega), N_of e4 (by omega), N_of e5 (by omega)]
  exact ⟨⟨c0, c1, c2, c3, c4, c5⟩, e0, e1, e2, e3, e4, e5⟩
theorem evG {g : Nat → Int32} {n : Nat} (hg : gr g n) : ev (fun i => g (3 + i)) (fun i => g (8 + i)) (N_ g 3) (N_ g 4) (fun i => N_ g (8 + i)) := by
  obtain ⟨p, bp, ep⟩ := hg.2.2.1 0 (by omega)
  obtain ⟨u, bu, eu⟩ := hg.2.2.1 1 (by omega)
  have cp : p ≤ 9 := bp
  have cu : u ≤ 9 := bu
  have ep' : g 3 = nI p := ep
  have eu' : g 4 = nI u := eu
  rw [N_of ep' (by omega), N_of eu' (by omega)]
  refine ⟨cp, cu, ep, eu, fun i hi => ?_⟩
  obtain ⟨v, bv, evv⟩ := hg.2.2.2.2.1 i hi
  dsimp only
  rw [N_of evv (by omega)]
  exact ⟨bv, evv⟩
theorem tG_le {g : Nat → Int32} {n o : Nat} (hg : gr g n) (ho : o < n) : tG g o ≤ 99 := by
  have h := lvG hg ho
  have e := evG hg
  unfold tG
  exact mT_le h.1.2.1 (e.2.2.2.2 _ (by have := h.1.2.2.2.2.2; omega)).1
theorem gT_lo {g : Nat → Int32} {i j : Nat} (h : j < 16 ∨ 16 + 6 * i ≤ j) : gT g i j = g j := if_neg (by omega)
theorem gT_s (g : Nat → Int32) (i : Nat) : upd (gT g i) (16 + 6 * i + 1) (nI (tG g i)) = gT g (i + 1) := by
  funext j
  unfold upd gT
  by_cases h : j = 16 + 6 * i + 1
  · subst h
    rw [if_pos rfl, if_pos (by omega), show (16 + 6 * i + 1 - 16) / 6 = i by omega]
  · rw [if_neg h]
    by_cases c : 16 ≤ j ∧ j < 16 + 6 * i ∧ (j - 16) % 6 = 1
    · rw [if_pos c, if_pos (by omega)]
    · rw [if_neg c, if_neg (by omega)]
theorem gT_0 (g : Nat → Int32) : gT g 0 = g := by funext j; exact gT_lo (by omega)
theorem gA_0 (g : Nat → Int32) (n : Nat) : gA g n 0 = gT g n := by funext j; exact if_neg (by omega)
theorem gA_s (g : Nat → Int32) (n i : Nat) : upd (gA g n i) (16 + 6 * i + 4) (nI (up1 (N_ g (16 + 6 * i + 4)))) = gA g n (i + 1) := by
  funext j
  unfold upd gA
  by_cases h : j = 16 + 6 * i + 4
  · subst h
    rw [if_pos rfl, if_pos (by omega)]
  · rw [if_neg h]
    by_cases c : 16 ≤ j ∧ j < 16 + 6 * i ∧ (j - 16) % 6 = 4
    · rw [if_pos c, if_pos (by omega)]
    · rw [if_neg c, if_neg (by omega)]
theorem gO_1 (n : Nat) (g : Nat → Int32) : gO n g 1 = g 1 + nI 1 := by
  unfold gO upd
  rw [if_pos rfl]
theorem gO_lo {n : Nat} {g : Nat → Int32} {j : Nat} (h : j < 16) (h1 : ¬ j = 1) : gO n g j = g j := by
  unfold gO upd
  rw [if_neg h1, gA, if_neg (by omega), gT_lo (by omega)]
theorem gO_t {n : Nat} {g : Nat → Int32} {o : Nat} (h : o < n) : gO n g (16 + 6 * o + 1) = nI (tG g o) := by
  unfold gO upd
  rw [if_neg (by omega), gA, if_neg (by omega), gT, if_pos (by omega), show (16 + 6 * o + 1 - 16) / 6 = o by omega]
theorem gO_a {n : Nat} {g : Nat → Int32} {o : Nat} (h : o < n) : gO n g (16 + 6 * o + 4) = nI (up1 (N_ g (16 + 6 * o + 4))) := by
  unfold gO upd
  rw [if_neg (by omega), gA, if_pos (by omega)]
theorem gO_w {n : Nat} {g : Nat → Int32} {o w : Nat} (hw : w = 0 ∨ w = 2 ∨ w = 3 ∨ w = 5) : gO n g (16 + 6 * o + w) = g (16 + 6 * o + w) := by
  unfold gO upd
  rw [if_neg (by omega), gA, if_neg (by omega), gT, if_neg (by omega)]
theorem wsix {w : Nat} (h : w < 6) : w = 1 ∨ w = 4 ∨ (w = 0 ∨ w = 2 ∨ w = 3 ∨ w = 5) := by omega
theorem gr_gO {g : Nat → Int32} {n : Nat} (hg : gr g n) : gr (gO n g) n := by
  obtain ⟨h1, h2, h3, h4, h5, h6⟩ := id hg
  refine ⟨by rw [gO_lo (by omega) (by omega)]; exact h1, h2, fun i hi => by rw [gO_lo (by omega) (by omega)]; exact h3 i hi, by rw [gO_lo (by omega) (by omega)]; exact h4, fun i hi => by rw [gO_lo (by omega) (by omega)]; exact h5 i hi, fun o ho w hw => ?_⟩
  rcases wsix hw with rfl | rfl | c
  · rw [gO_t ho]; exact ⟨_, tG_le hg ho, rfl⟩
  · rw [gO_a ho]; exact ⟨_, up1_le _, rfl⟩
  · rw [gO_w c]; exact h6 o ho w hw
section GO
variable {σ : Sg} {n : Nat}
theorem mgoesOn (hg : gr (σ.1 1) n) : M_goesOn_0 σ = some ((), st_ σ 1 (gO n (σ.1 1))) := by
  have hn := hg.2.1
  have h0 := hg.1
  have he := evG hg
  generalize eg : σ.1 1 = g at hg h0 he ⊢
  unfold M_goesOn_0
  have := lg2 (F := M_goesOn_2) (z := fun _ _ => none) n (fun i => st_ σ 1 (gT g i)) (fun i => nI i) (some ((), st_ σ 1 (gO n g))) ?_ ?_ (FU_gt (by omega))
  · simp only [gT_0] at this
    rw [← eg, st_self, eg] at this
    exact this
  · intro K i hi
    have hl := lvG hg hi
    have el : lv (fun w => (st_ σ 1 (gT g i)).1 1 (16 + 6 * i + w)) (N_ g (16 + 6 * i)) (N_ g (16 + 6 * i + 1)) (N_ g (16 + 6 * i + 2)) (N_ g (16 + 6 * i + 3)) (N_ g (16 + 6 * i + 4)) (N_ g (16 + 6 * i + 5)) := by
      rw [st_same]
      have : (fun w => gT g i (16 + 6 * i + w)) = fun w => g (16 + 6 * i + w) := by funext w; exact gT_lo (by omega)
      rw [this]; exact hl
    have ee : ev (fun q => (st_ σ 1 (gT g i)).1 1 (3 + q)) (fun q => (st_ σ 1 (gT g i)).1 1 (8 + q)) (N_ g 3) (N_ g 4) (fun i => N_ g (8 + i)) := by
      rw [st_same]
      refine ⟨he.1, he.2.1, (gT_lo (by omega)).trans he.2.2.1, (gT_lo (by omega)).trans he.2.2.2.1, fun q hq => ⟨(he.2.2.2.2 q hq).1, (gT_lo (by omega)).trans (he.2.2.2.2 q hq).2⟩⟩
    have e0 : rd_ (st_ σ 1 (gT g i)) 1 0 = nI n := by rw [rd_st, gT_lo (by omega)]; exact h0
    have ht : rd_ (st_ σ 1 (gT g i)) 1 (16 + 6 * i + 1) = nI (N_ g (16 + 6 * i + 1)) := by rw [rd_st, gT_lo (by omega)]; exact hl.2.2.1
    have e1 : (st_ σ 1 (gT g i)).1 1 1 = g 1 := by rw [st_same, gT_lo (by omega)]
    have e7 : (st_ σ 1 (gT g i)).1 1 7 = g 7 := by rw [st_same, gT_lo (by omega)]
    unfold M_goesOn_2
    rw [e0, if_neg (nI_ge hi (by omega)), myoung (by omega) el ee, bi_some]
    by_cases c : N_ g (16 + 6 * i + 4) < vEn (N_ g 3) (N_ g (16 + 6 * i)) (N_ g (16 + 6 * i + 2))
    · rw [if_pos c, if_neg (by decide), mmoved (by omega) el ee, bi_some]
      have : vGo (N_ g (16 + 6 * i + 1)) (vMv (N_ g 3) (N_ g 4) (N_ g (16 + 6 * i)) (N_ g (16 + 6 * i + 2)) ((st_ σ 1 (gT g i)).1 1 1)) ((fun i => N_ g (8 + i)) (N_ g (16 + 6 * i + 5))) (ezb ((st_ σ 1 (gT g i)).1 1 7) (N_ g (16 + 6 * i + 5))) = tG g i := by
        rw [e1, e7]
        unfold tG mT
        rw [if_pos c]
      rw [this]
      simp (disch := omega) only [M_goesOn_47, lit, pk_mul, nI_add, in_nI, gd_tt, nI_clamp, lt_eq, wr_st, gT_s]
    · rw [if_neg c, if_pos (by decide)]
      have : N_ g (16 + 6 * i + 1) = tG g i := by
        unfold tG mT
        rw [if_neg c]
      rw [this] at ht
      simp (disch := omega) only [M_goesOn_47, itsY, bi_some, ht, lit, pk_mul, nI_add, in_nI, gd_tt, nI_clamp, lt_eq, wr_st, gT_s]
  · intro K
    have e0 : rd_ (st_ σ 1 (gT g n)) 1 0 = nI n := by rw [rd_st, gT_lo (by omega)]; exact h0
    show M_goesOn_2 K (st_ σ 1 (gT g n)) (nI n) = _
    unfold M_goesOn_2
    rw [e0, if_pos (Int32.le_refl _)]
    have := lg2 (F := M_goesOn_56) (z := fun _ _ => none) n (fun i => st_ σ 1 (gA g n i)) (fun i => nI i) (some ((), st_ σ 1 (gO n g))) ?_ ?_ (FU_gt (by omega))
    · simp only [gA_0] at this
      exact this
    · intro K i hi
      have hl := lvG hg hi
      have e0 : rd_ (st_ σ 1 (gA g n i)) 1 0 = nI n := by rw [rd_st, gA, if_neg (by omega), gT_lo (by omega)]; exact h0
      have ha : rd_ (st_ σ 1 (gA g n i)) 1 (16 + 6 * i + 4) = nI (N_ g (16 + 6 * i + 4)) := by rw [rd_st, gA, if_neg (by omega), gT, if_neg (by omega)]; exact hl.2.2.2.2.2.1
      have hb := hl.1.2.2.2.2.1
      have eu : (if N_ g (16 + 6 * i + 4) + 1 ≤ 99 then N_ g (16 + 6 * i + 4) + 1 else 99) = up1 (N_ g (16 + 6 * i + 4)) := rfl
      unfold M_goesOn_56
      simp (disch := omega) only [e0, if_neg, nI_leI, lit, itsY, bi_some, ha, nI_add, mleast, bp_some, pk_mul, in_nI, gd_tt, nI_clamp, lt_eq, wr_st, eu, gA_s]
    · intro K
      have e0 : rd_ (st_ σ 1 (gA g n n)) 1 0 = nI n := by rw [rd_st, gA, if_neg (by omega), gT_lo (by omega)]; exact h0
      have e1 : rd_ (st_ σ 1 (gA g n n)) 1 1 = g 1 := by rw [rd_st, gA, if_neg (by omega), gT_lo (by omega)]
      show M_goesOn_56 K (st_ σ 1 (gA g n n)) (nI n) = _
      unfold M_goesOn_56
      rw [e0, if_pos (Int32.le_refl _), lt_eq, e1, wr_st]
      rfl
end GO
/-- n years on a row -/
def gN (n : Nat) (g : Nat → Int32) : Nat → Nat → Int32
  | 0 => g
  | k + 1 => gO n (gN n g k)
theorem gr_gN {g : Nat → Int32} {n : Nat} (hg : gr g n) (k : Nat) : gr (gN n g k) n := by
  induction k with
  | zero => exact hg
  | succ k ih => exact gr_gO ih
theorem gN_lo {g : Nat → Int32} {n j : Nat} (h : j < 16) (h1 : ¬ j = 1) (k : Nat) : gN n g k j = g j := by
  induction k with
  | zero => rfl
  | succ k ih => exact (gO_lo h h1).trans ih
theorem gN_w {g : Nat → Int32} {n o w : Nat} (hw : w = 0 ∨ w = 2 ∨ w = 3 ∨ w = 5) (k : Nat) : gN n g k (16 + 6 * o + w) = g (16 + 6 * o + w) := by
  induction k with
  | zero => rfl
  | succ k ih => exact (gO_w hw).trans ih
theorem gN_1 (g : Nat → Int32) (n k : Nat) : gN n g k 1 = g 1 + nI k := by
  induction k with
  | zero => exact (Int32.add_zero _).symm
  | succ k ih =>
    show gO n (gN n g k) 1 = _
    rw [gO_1, ih, Int32.add_assoc, nI_add]
theorem mgoes {σ : Sg} {n m : Nat} (hg : gr (σ.1 1) n) (hm : m < 200) : M_goes_0 σ (nI m) = some ((), st_ σ 1 (gN n (σ.1 1) m)) := by
  unfold M_goes_0
  have := lg3 (F := M_goes_2) (z := fun _ _ _ => none) m (fun i => st_ σ 1 (gN n (σ.1 1) i)) (fun _ => nI m) (fun i => nI i) (some ((), st_ σ 1 (gN n (σ.1 1) m))) ?_ ?_ (FU_gt (by omega))
  · simp only [gN, st_self] at this
    exact this
  · intro K i hi
    unfold M_goes_2
    rw [if_neg (nI_ge hi (by omega)), mgoesOn (n := n) (by rw [st_same]; exact gr_gN hg i), bi_some, lt_eq, st_st, st_same, lit, nI_add]
    rfl
  · intro K
    unfold M_goes_2
    rw [if_pos (Int32.le_refl _)]
