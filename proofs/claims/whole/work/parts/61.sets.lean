/-! sets of fewer than nine, as numbers below 256 -/
def setN (P : Nat → Bool) : Nat → Nat
  | 0 => 0
  | i + 1 => if P i = true then setN P i + 2 ^ i else setN P i
theorem setN_lt (P : Nat → Bool) (n : Nat) : setN P n < 2 ^ n := by
  induction n with
  | zero => exact Nat.one_pos
  | succ n ih =>
    unfold setN
    rw [Nat.pow_succ]
    split <;> omega
theorem p256 {n : Nat} (h : n ≤ 8) : 2 ^ n ≤ 256 := (Nat.pow_le_pow_right (by omega : 0 < 2) h : 2 ^ n ≤ 2 ^ 8)
theorem setN_256 (P : Nat → Bool) {n : Nat} (h : n ≤ 8) : setN P n < 256 := Nat.lt_of_lt_of_le (setN_lt P n) (p256 h)
theorem setN_not (P : Nat → Bool) (n : Nat) : setN (fun i => !(P i)) n + setN P n + 1 = 2 ^ n := by
  induction n with
  | zero => rfl
  | succ n ih =>
    unfold setN
    rw [Nat.pow_succ]
    cases h : P n <;> simp only [Bool.not_true, Bool.not_false, if_true, Bool.false_eq_true, if_false] <;> omega
theorem setN_cong {P Q : Nat → Bool} {n : Nat} (h : ∀ i, i < n → P i = Q i) : setN P n = setN Q n := by
  induction n with
  | zero => rfl
  | succ n ih =>
    unfold setN
    rw [h n (by omega), ih (fun i hi => h i (by omega))]
theorem setN_0 {P : Nat → Bool} {n : Nat} : setN P n = 0 ↔ ∀ i, i < n → P i = false := by
  induction n with
  | zero => exact ⟨fun _ i hi => absurd hi (by omega), fun _ => rfl⟩
  | succ n ih =>
    unfold setN
    have := Nat.two_pow_pos n
    cases h : P n
    · simp only [Bool.false_eq_true, if_false]
      rw [ih]
      refine ⟨fun q i hi => ?_, fun q i hi => q i (by omega)⟩
      by_cases c : i = n
      · subst c; exact h
      · exact q i (by omega)
    · simp only [if_true]
      refine ⟨fun q => by omega, fun q => ?_⟩
      rw [q n (by omega)] at h
      exact absurd h (by decide)
theorem or_bit {i X : Nat} (hi : i < 8) (hX : X < 2 ^ i) : nI X ||| (nI 1 <<< (nI i &&& nI 31)) = nI (X + 2 ^ i) := by
  have h2 : 2 ^ i ≤ 256 := p256 (by omega)
  have key : ∀ i : Fin 8, ∀ X : Fin 256, X.1 < 2 ^ i.1 → nI X.1 ||| (nI 1 <<< (nI i.1 &&& nI 31)) = nI (X.1 + 2 ^ i.1) := by decide +kernel
  exact key ⟨i, hi⟩ ⟨X, by omega⟩ hX
theorem or_0 (x : Int32) : x ||| nI 0 = x := by
  show x ||| 0 = x
  exact Int32.or_zero
theorem rest_set {n X : Nat} (hn : n ≤ 8) (hX : X < 2 ^ n) : ((nI 1 <<< (nI n &&& nI 31)) - nI 1) &&& (nI X ^^^ (-1 : Int32)) = nI (2 ^ n - 1 - X) := by
  have h2 : 2 ^ n ≤ 256 := p256 (by omega)
  have key : ∀ i : Fin 9, ∀ X : Fin 256, X.1 < 2 ^ i.1 → ((nI 1 <<< (nI i.1 &&& nI 31)) - nI 1) &&& (nI X.1 ^^^ (-1 : Int32)) = nI (2 ^ i.1 - 1 - X.1) := by decide +kernel
  exact key ⟨n, by omega⟩ ⟨X, by omega⟩ hX
def pc (X : Nat) : Nat := X % 2 + X / 2 % 2 + X / 4 % 2 + X / 8 % 2 + X / 16 % 2 + X / 32 % 2 + X / 64 % 2 + X / 128 % 2
theorem pc_le (X : Nat) : pc X ≤ 8 := by unfold pc; omega
theorem bitc {X : Nat} (h : X < 256) : CJ6_bitCount_0 (nI X) = some (nI (pc X)) := by
  have key : ∀ X : Fin 256, CJ6_bitCount_0 (nI X.1) = some (nI (pc X.1)) := by decide +kernel
  exact key ⟨X, h⟩
theorem msize {X : Nat} (h : X < 256) : M_size_0 (nI X) = some (nI (pc X)) := by
  have key : ∀ X : Fin 256, M_size_0 (nI X.1) = some (nI (pc X.1)) := by decide +kernel
  exact key ⟨X, h⟩
theorem pc_rest {n X : Nat} (hn : n ≤ 8) (hX : X < 2 ^ n) : pc X + pc (2 ^ n - 1 - X) = n := by
  have h2 : 2 ^ n ≤ 256 := p256 (by omega)
  have key : ∀ i : Fin 9, ∀ X : Fin 256, X.1 < 2 ^ i.1 → pc X.1 + pc (2 ^ i.1 - 1 - X.1) = i.1 := by decide +kernel
  exact key ⟨n, by omega⟩ ⟨X, by omega⟩ hX
def bitB (x g : Nat) : Bool := decide (x / 2 ^ g % 2 = 1)
theorem ezb_bit {E g : Nat} (hE : E < 256) (hg : g < 8) : (nI E >>> (nI g &&& nI 31)) &&& nI 1 = if bitB E g = true then nI 1 else nI 0 := by
  have key : ∀ E : Fin 256, ∀ g : Fin 8, (nI E.1 >>> (nI g.1 &&& nI 31)) &&& nI 1 = if bitB E.1 g.1 = true then nI 1 else nI 0 := by decide +kernel
  exact key ⟨E, hE⟩ ⟨g, hg⟩
theorem ezb_eq {E g : Nat} (hE : E < 256) (hg : g < 8) : ezb (nI E) g = bitB E g := by
  unfold ezb
  rw [ezb_bit hE hg]
  cases bitB E g <;> decide
theorem easy_set {E g v : Nat} (hE : E < 256) (hg : g < 8) (hv : v < 2) : ∃ k, k < 256 ∧ (nI E &&& ((nI 1 <<< (nI g &&& nI 31)) ^^^ (-nI 1))) ||| (nI v <<< (nI g &&& nI 31)) = nI k := by
  have key : ∀ E : Fin 256, ∀ g : Fin 8, ∀ v : Fin 2, decide (((nI E.1 &&& ((nI 1 <<< (nI g.1 &&& nI 31)) ^^^ (-nI 1))) ||| (nI v.1 <<< (nI g.1 &&& nI 31))).toBitVec.toNat < 256) = true := by decide +kernel
  have h := of_decide_eq_true (key ⟨E, hE⟩ ⟨g, hg⟩ ⟨v, hv⟩)
  refine ⟨_, h, ?_⟩
  refine Int32.toBitVec_inj.mp (BitVec.eq_of_toNat_eq ?_)
  exact (pk_tn (by dsimp only at h ⊢; omega)).symm
section SUMS
variable {σc σm : Sg} {n : Nat}
theorem RA.cnt (h : RA σc σm n) : rd_ σc 1 3 = nI n := h.2.2.1.trans h.1.1
theorem RA.n0 (h : RA σc σm n) : rd_ σm 1 0 = nI n := h.1.1
theorem RA.tr (h : RA σc σm n) {o w : Nat} (ho : o < n) (hw : w < 6) : rd_ σc (34 + o) w = σm.1 1 (16 + 6 * o + w) := h.2.2.2.2.2.2.2 o ho w hw
def sT (g : Nat → Int32) : Nat → Int32
  | 0 => nI 0
  | i + 1 => sT g i + g (16 + 6 * i + 1)
def sF (g : Nat → Int32) : Nat → Nat
  | 0 => 0
  | i + 1 => sF g i + dd g i
theorem ctraits (h : RA σc σm n) : C1_traitsTogether_0 σc = some (sT (σm.1 1) n, σc) := by
  have hn := h.1.2.1
  unfold C1_traitsTogether_0
  refine lg3 (F := C1_traitsTogether_4) (z := fun _ _ _ => none) n (fun _ => σc) (fun i => sT (σm.1 1) i) (fun i => nI i) _ ?_ ?_ (FU_gt (by omega))
  · intro K i hi
    unfold C1_traitsTogether_4 C1_traitsTogether_29
    rw [h.cnt, if_neg (nI_ge hi (by omega)), lifeY h hi, bi_some, on_S, lf_tt (by omega), gd_tt, lt_eq, lt_eq, h.tr hi (by omega), lit, nI_add]
    rfl
  · intro K
    unfold C1_traitsTogether_4
    rw [h.cnt, if_pos (Int32.le_refl _)]
theorem mtraits {σ : Sg} (hg : gr (σ.1 1) n) : M_traits_0 σ = some (sT (σ.1 1) n, σ) := by
  have hn := hg.2.1
  have h0 : rd_ σ 1 0 = nI n := hg.1
  unfold M_traits_0
  refine lg3 (F := M_traits_4) (z := fun _ _ _ => none) n (fun _ => σ) (fun i => sT (σ.1 1) i) (fun i => nI i) _ ?_ ?_ (FU_gt (by omega))
  · intro K i hi
    unfold M_traits_4
    rw [h0, if_neg (nI_ge hi (by omega)), lit, itsY (by omega) (by omega), bi_some, lt_eq, lt_eq, nI_add]
    rfl
  · intro K
    unfold M_traits_4
    rw [h0, if_pos (Int32.le_refl _)]
theorem cfars (h : RA σc σm n) : C1_farTogether_0 σc = some (nI (sF (σm.1 1) n), σc) := by
  have hn := h.1.2.1
  unfold C1_farTogether_0
  refine lg3 (F := C1_farTogether_4) (z := fun _ _ _ => none) n (fun _ => σc) (fun i => nI (sF (σm.1 1) i)) (fun i => nI i) _ ?_ ?_ (FU_gt (by omega))
  · intro K i hi
    unfold C1_farTogether_4 C1_farTogether_29
    rw [h.cnt, if_neg (nI_ge hi (by omega)), lifeY h hi, bi_some, on_S, lf_tt (by omega), gd_tt, cdist (by omega) h.1 hi (h.cL hi), bi_some, lt_eq, lt_eq, lit, nI_add, nI_add]
    rfl
  · intro K
    unfold C1_farTogether_4
    rw [h.cnt, if_pos (Int32.le_refl _)]
theorem mfars {σ : Sg} (hg : gr (σ.1 1) n) : M_farAll_0 σ = some (nI (sF (σ.1 1) n), σ) := by
  have hn := hg.2.1
  have h0 : rd_ σ 1 0 = nI n := hg.1
  unfold M_farAll_0
  refine lg3 (F := M_farAll_4) (z := fun _ _ _ => none) n (fun _ => σ) (fun i => nI (sF (σ.1 1) i)) (fun i => nI i) _ ?_ ?_ (FU_gt (by omega))
  · intro K i hi
    unfold M_farAll_4
    rw [h0, if_neg (nI_ge hi (by omega)), mdist hg hi, bi_some, lt_eq, lt_eq, lit, nI_add, nI_add]
    rfl
  · intro K
    unfold M_farAll_4
    rw [h0, if_pos (Int32.le_refl _)]
def sV (g : Nat → Int32) : Nat → Int32
  | 0 => nI 0
  | i + 1 => sV g i + g (8 + i)
theorem cvices (h : RA σc σm n) : C1_vicesTogether_0 σc = some (sV (σm.1 1) 8, σc) := by
  unfold C1_vicesTogether_0
  refine lg3 (F := C1_vicesTogether_4) (z := fun _ _ _ => none) 8 (fun _ => σc) (fun i => sV (σm.1 1) i) (fun i => nI i) _ ?_ ?_ (FU_gt (by omega))
  · intro K i hi
    unfold C1_vicesTogether_4
    simp (disch := omega) only [lit, nI_leI, if_neg, in_nI, gd_tt, nI_clamp, lt_eq, nI_add]
    rw [h.2.2.2.2.2.2.1 i hi]
    rfl
  · intro K
    unfold C1_vicesTogether_4
    simp only [lit, Int32.le_refl, if_true]
theorem mvices {σ : Sg} : M_vices_0 σ = some (sV (σ.1 1) 8, σ) := by
  unfold M_vices_0
  refine lg3 (F := M_vices_4) (z := fun _ _ _ => none) 8 (fun _ => σ) (fun i => sV (σ.1 1) i) (fun i => nI i) _ ?_ ?_ (FU_gt (by omega))
  · intro K i hi
    unfold M_vices_4
    simp (disch := omega) only [lit, nI_leI, if_neg, in_nI, gd_tt, nI_clamp, lt_eq, nI_add]
    rfl
  · intro K
    unfold M_vices_4
    simp only [lit, Int32.le_refl, if_true]
/-- who is young -/
def yg (g : Nat → Int32) (o : Nat) : Bool := decide (N_ g (16 + 6 * o + 4) < vEn (N_ g 3) (N_ g (16 + 6 * o)) (N_ g (16 + 6 * o + 2)))
theorem myg {σ : Sg} {o : Nat} (hg : gr (σ.1 1) n) (ho : o < n) : M_isYoung_0 σ (nI o) = some (if yg (σ.1 1) o = true then nI 1 else nI 0, σ) := by
  rw [myoung (by have := hg.2.1; omega) (lvG hg ho) (evG hg)]
  unfold yg
  by_cases c : N_ (σ.1 1) (16 + 6 * o + 4) < vEn (N_ (σ.1 1) 3) (N_ (σ.1 1) (16 + 6 * o)) (N_ (σ.1 1) (16 + 6 * o + 2))
  · rw [if_pos c, decide_eq_true c]; rfl
  · rw [if_neg c, decide_eq_false c]; rfl
theorem mygs {σ : Sg} (hg : gr (σ.1 1) n) : M_youngOnes_0 σ = some (nI (setN (yg (σ.1 1)) n), σ) := by
  have hn := hg.2.1
  have h0 : rd_ σ 1 0 = nI n := hg.1
  unfold M_youngOnes_0
  refine lg3 (F := M_youngOnes_4) (z := fun _ _ _ => none) n (fun _ => σ) (fun i => nI (setN (yg (σ.1 1)) i)) (fun i => nI i) _ ?_ ?_ (FU_gt (by omega))
  · intro K i hi
    unfold M_youngOnes_4 M_youngOnes_30
    rw [h0, if_neg (nI_ge hi (by omega)), myg hg hi, bi_some]
    cases c : yg (σ.1 1) i
    · simp only [Bool.false_eq_true, if_false, lit, if_true, lt_eq, or_0, nI_add, setN, c]
    · simp (disch := omega) only [if_true, lit, nI_eq, if_neg, lt_eq, or_bit (i := i) (by omega) (setN_lt _ i), nI_add, setN, c]
  · intro K
    unfold M_youngOnes_4
    rw [h0, if_pos (Int32.le_refl _)]
def lf (g : Nat → Int32) (o : Nat) : Nat := vEn (N_ g 3) (N_ g (16 + 6 * o)) (N_ g (16 + 6 * o + 2)) - N_ g (16 + 6 * o + 4)
theorem lf_le {g : Nat → Int32} {o : Nat} (hg : gr g n) (ho : o < n) : lf g o ≤ 25 := by
  unfold lf
  have := vEn_le (p := N_ g 3) (k := N_ g (16 + 6 * o)) (lvG hg ho).1.2.2.1
  omega
theorem cleft {o : Nat} (h : RA σc σm n) (ho : o < n) : C1_yearsLeft_0 σc (nI o) = some (nI (lf (σm.1 1) o), σc) := by
  have hn := h.1.2.1
  have hl := lvC h.1 ho (h.cL ho)
  have h25 := vEn_le (p := N_ (σm.1 1) 3) (k := N_ (σm.1 1) (16 + 6 * o)) hl.1.2.2.1
  have h4 := hl.2.2.2.2.2.1
  have h99 := hl.1.2.2.2.2.1
  dsimp only at h4
  unfold C1_yearsLeft_0
  rw [lifeY h ho, bi_some, on_S, cends (by omega) hl (evC h.1 h.cE), bi_some, lf_tt (by omega), gd_tt, h4]
  unfold lf
  by_cases c : N_ (σm.1 1) (16 + 6 * o + 4) < vEn (N_ (σm.1 1) 3) (N_ (σm.1 1) (16 + 6 * o)) (N_ (σm.1 1) (16 + 6 * o + 2))
  · rw [pk_sub (by omega), lit, if_pos (nI_lt (by omega) (by omega))]
  · by_cases d : N_ (σm.1 1) (16 + 6 * o + 4) = vEn (N_ (σm.1 1) 3) (N_ (σm.1 1) (16 + 6 * o)) (N_ (σm.1 1) (16 + 6 * o + 2))
    · rw [d, pk_sub (Nat.le_refl _), Nat.sub_self, if_neg (by decide)]; rfl
    · have e := pk_sneg (a := vEn (N_ (σm.1 1) 3) (N_ (σm.1 1) (16 + 6 * o)) (N_ (σm.1 1) (16 + 6 * o + 2))) (b := N_ (σm.1 1) (16 + 6 * o + 4)) (by omega) (by omega)
      rw [if_neg (Int32.not_lt.mpr (Int32.le_of_lt e))]
      rw [show vEn (N_ (σm.1 1) 3) (N_ (σm.1 1) (16 + 6 * o)) (N_ (σm.1 1) (16 + 6 * o + 2)) - N_ (σm.1 1) (16 + 6 * o + 4) = 0 by omega]
      rfl
theorem yg_lf {g : Nat → Int32} {o : Nat} : yg g o = true ↔ 0 < lf g o := by
  unfold yg lf
  rw [decide_eq_true_iff]
  omega
theorem cofAge (h : RA σc σm n) : C1_ofAge_0 σc = some (nI (setN (fun i => !(yg (σm.1 1) i)) n), σc) := by
  have hn := h.1.2.1
  unfold C1_ofAge_0
  refine lg3 (F := C1_ofAge_4) (z := fun _ _ _ => none) n (fun _ => σc) (fun i => nI (setN (fun i => !(yg (σm.1 1) i)) i)) (fun i => nI i) _ ?_ ?_ (FU_gt (by omega))
  · intro K i hi
    have hb := lf_le h.1 hi
    unfold C1_ofAge_4 C1_ofAge_26
    rw [h.cnt, if_neg (nI_ge hi (by omega)), cleft h hi, bi_some]
    cases c : yg (σm.1 1) i
    · have : ¬ 0 < lf (σm.1 1) i := fun q => by rw [yg_lf.mpr q] at c; exact absurd c (by decide)
      have e0 : lf (σm.1 1) i = 0 := by omega
      rw [e0]
      simp (disch := omega) only [lit, if_true, lt_eq, or_bit (i := i) (by omega) (setN_lt _ i), nI_add, setN, c, Bool.not_false]
    · have : 0 < lf (σm.1 1) i := yg_lf.mp c
      simp (disch := omega) only [lit, nI_eq, if_neg, lt_eq, nI_add, setN, c, Bool.not_true, Bool.false_eq_true, if_false]
  · intro K
    unfold C1_ofAge_4
    rw [h.cnt, if_pos (Int32.le_refl _)]
def sw (g : Nat → Int32) (m : Int32) (o : Nat) : Bool := decide (g (16 + 6 * o + 5) = m)
theorem cswornTo (h : RA σc σm n) (m : Int32) : C1_swornTo_0 σc m = some (nI (setN (sw (σm.1 1) m) n), σc) := by
  have hn := h.1.2.1
  unfold C1_swornTo_0
  refine lg4 (F := C1_swornTo_4) (z := fun _ _ _ _ => none) n (fun _ => σc) (fun _ => m) (fun i => nI (setN (sw (σm.1 1) m) i)) (fun i => nI i) _ ?_ ?_ (FU_gt (by omega))
  · intro K i hi
    unfold C1_swornTo_4 C1_swornTo_39
    rw [h.cnt, if_neg (nI_ge hi (by omega)), lifeY h hi, bi_some, on_S, lf_tt (by omega), gd_tt, h.tr hi (by omega)]
    by_cases c : σm.1 1 (16 + 6 * i + 5) = m
    · have d : sw (σm.1 1) m i = true := decide_eq_true c
      rw [if_pos c]
      simp (disch := omega) only [lit, lt_eq, or_bit (i := i) (by omega) (setN_lt _ i), nI_add, setN, d, if_true]
    · have d : sw (σm.1 1) m i = false := decide_eq_false c
      rw [if_neg c]
      simp (disch := omega) only [lit, lt_eq, nI_add, setN, d, Bool.false_eq_true, if_false]
  · intro K
    unfold C1_swornTo_4
    rw [h.cnt, if_pos (Int32.le_refl _)]
theorem mswornTo {σ : Sg} (hg : gr (σ.1 1) n) (m : Int32) : M_swornTo_0 σ m = some (nI (setN (sw (σ.1 1) m) n), σ) := by
  have hn := hg.2.1
  have h0 : rd_ σ 1 0 = nI n := hg.1
  unfold M_swornTo_0
  refine lg4 (F := M_swornTo_4) (z := fun _ _ _ _ => none) n (fun _ => σ) (fun _ => m) (fun i => nI (setN (sw (σ.1 1) m) i)) (fun i => nI i) _ ?_ ?_ (FU_gt (by omega))
  · intro K i hi
    unfold M_swornTo_4 M_swornTo_32
    rw [h0, if_neg (nI_ge hi (by omega)), lit, itsY (by omega) (by omega), bi_some, rd_row]
    by_cases c : σ.1 1 (16 + 6 * i + 5) = m
    · have d : sw (σ.1 1) m i = true := decide_eq_true c
      rw [if_pos c]
      simp (disch := omega) only [lit, lt_eq, or_bit (i := i) (by omega) (setN_lt _ i), nI_add, setN, d, if_true]
    · have d : sw (σ.1 1) m i = false := decide_eq_false c
      rw [if_neg c]
      simp (disch := omega) only [lit, lt_eq, or_0, nI_add, setN, d, Bool.false_eq_true, if_false]
  · intro K
    unfold M_swornTo_4
    rw [h0, if_pos (Int32.le_refl _)]
end SUMS
section EQ61
variable {σc σm : Sg}
theorem not_k {x : Int32} {b k : Nat} (hb : b < 2 ^ 31) (h : x < 0 ∨ nI b < x) (hk : k ≤ b) : ¬ x = nI k := by
  intro q
  subst q
  rcases h with h | h
  · exact nI_pos (by omega) h
  · exact nI_nlt hk hb h
theorem eq_easy (h : R σc σm) (x1 x2 : Int32) : eqv (C_easy_0 σc x1 x2) (M_easy_0 σm x1 x2) := by
  obtain ⟨⟨n, ha⟩, ho⟩ := id h
  rcases rng x1 7 (by omega) with ⟨k, hk, rfl⟩ | hv
  · rcases rng x2 1 (by omega) with ⟨v, hv, rfl⟩ | hv
    · obtain ⟨E, hE, eE⟩ := ha.1.2.2.2.1
      have ec : rd_ σc 1 2 = nI E := ha.2.1.trans eE
      have em : rd_ σm 1 7 = nI E := eE
      obtain ⟨q, hq, eq⟩ := easy_set (v := v) hE (g := k) (by omega) (by omega)
      refine ⟨if bitB E k = true then nI 1 else nI 0, wr_ σc 1 2 (nI q), wr_ σm 1 7 (nI q), ?_, ?_, R.mk (ha.easy hq) (RO.scr ho (ag.rf.wr (by simp [aC])) (ag.rf.wr (by simp [aM])))⟩
      · simp (disch := omega) only [C_easy_0, C_easy_33, lit, cgm1, cw1, bp_some, nI_eq, if_neg, ceasy (g := k) (by omega), bi_some, ec, eq, lt_eq, ezb_eq hE]
        cases bitB E k <;> simp (disch := omega) only [if_true, Bool.false_eq_true, if_false, nI_eq, if_neg]
      · simp (disch := omega) only [M_easy_0, lit, litL, mgm1, mi1, bp_some, nI_eq, if_neg, em, eq, lt_eq, ezb_bit hE]
    · refine ⟨-1, σc, σm, ?_, ?_, h⟩
      · simp (disch := omega) only [C_easy_0, lit, cgm1, bp_some, nI_eq, if_neg, cw0 hv, if_true]
      · simp (disch := omega) only [M_easy_0, lit, litL, mgm1, bp_some, nI_eq, if_neg, mi0 (by omega) (by omega) (neg_any hv), if_true]
  · refine ⟨-1, σc, σm, ?_, ?_, h⟩
    · simp only [C_easy_0, lit, cgm0 hv, bp_some, if_true]
    · simp only [M_easy_0, lit, mgm0 hv, bp_some, if_true]
theorem eq_godmother (h : R σc σm) (x1 x2 : Int32) : eqv (C_godmother_0 σc x1 x2) (M_godmother_0 σm x1 x2) := by
  obtain ⟨⟨n, ha⟩, ho⟩ := id h
  rcases rng x1 7 (by omega) with ⟨k, hk, rfl⟩ | hv
  · rcases rng x2 2 (by omega) with ⟨v, hv, rfl⟩ | hv
    · have : v = 0 ∨ v = 1 ∨ v = 2 := by omega
      rcases this with rfl | rfl | rfl
      · refine ⟨σm.1 1 (8 + k), σc, σm, ?_, ?_, h⟩
        · simp (disch := omega) only [C_godmother_0, lit, cgm1, bp_some, nI_eq, if_neg, if_true, in_nI, gd_tt, nI_clamp]
          rw [ha.2.2.2.2.2.2.1 k (by omega)]
        · simp (disch := omega) only [M_godmother_0, lit, litL, mgm1, mi1, bp_some, nI_eq, if_neg, if_true, nI_add, lt_eq, in_nI, gd_tt, nI_clamp]
          rfl
      · obtain ⟨E, hE, eE⟩ := ha.1.2.2.2.1
        have ec : rd_ σc 1 2 = nI E := ha.2.1.trans eE
        have em : rd_ σm 1 7 = nI E := eE
        refine ⟨if bitB E k = true then nI 1 else nI 0, σc, σm, ?_, ?_, h⟩
        · simp (disch := omega) only [C_godmother_0, lit, cgm1, bp_some, nI_eq, if_neg, if_true, ceasy (g := k) (by omega), bi_some, ec, ezb_eq hE]
          cases bitB E k <;> simp (disch := omega) only [if_true, Bool.false_eq_true, if_false, nI_eq, if_neg]
        · simp (disch := omega) only [M_godmother_0, lit, litL, mgm1, mi1, bp_some, nI_eq, if_neg, if_true, em, ezb_bit hE]
      · refine ⟨nI (setN (sw (σm.1 1) (nI k)) n), σc, σm, ?_, ?_, h⟩
        · simp (disch := omega) only [C_godmother_0, lit, cgm1, bp_some, nI_eq, if_neg, if_true, cswornTo ha, bi_some]
        · simp (disch := omega) only [M_godmother_0, lit, litL, mgm1, mi1, bp_some, nI_eq, if_neg, mswornTo ha.1, bi_some]
    · have n0 := not_k (k := 0) (by omega) hv (by omega)
      have n1 := not_k (k := 1) (by omega) hv (by omega)
      have n2 := not_k (k := 2) (by omega) hv (by omega)
      refine ⟨-1, σc, σm, ?_, ?_, h⟩
      · simp (disch := omega) only [C_godmother_0, lit, cgm1, bp_some, nI_eq, if_neg, n0, n1, n2, if_false]
      · simp (disch := omega) only [M_godmother_0, lit, litL, mgm1, bp_some, nI_eq, if_neg, mi0 (by omega) (by omega) (neg_any hv), if_true]
  · refine ⟨-1, σc, σm, ?_, ?_, h⟩
    · simp only [C_godmother_0, lit, cgm0 hv, bp_some, if_true]
    · simp only [M_godmother_0, lit, mgm0 hv, bp_some, if_true]
theorem eq_state (h : R σc σm) (x1 : Int32) : eqv (C_state_0 σc x1) (M_state_0 σm x1) := by
  obtain ⟨⟨n, ha⟩, ho⟩ := id h
  have hn := ha.1.2.1
  rcases rng x1 5 (by omega) with ⟨v, hv, rfl⟩ | hv
  · rcases six hv with rfl | rfl | rfl | rfl | rfl | rfl
    · refine ⟨σm.1 1 1, σc, σm, ?_, ?_, h⟩
      · simp only [C_state_0, lit, if_true, ha.yr1]
      · simp only [M_state_0, lit, if_true, rd_row]
    · refine ⟨sT (σm.1 1) n, σc, σm, ?_, ?_, h⟩
      · simp (disch := omega) only [C_state_0, lit, nI_eq, if_neg, if_true, ctraits ha, bi_some]
      · simp (disch := omega) only [M_state_0, lit, nI_eq, if_neg, if_true, mtraits ha.1, bi_some]
    · refine ⟨nI (sF (σm.1 1) n), σc, σm, ?_, ?_, h⟩
      · simp (disch := omega) only [C_state_0, lit, nI_eq, if_neg, if_true, cfars ha, bi_some]
      · simp (disch := omega) only [M_state_0, lit, nI_eq, if_neg, if_true, mfars ha.1, bi_some]
    · refine ⟨nI (setN (fun i => !(yg (σm.1 1) i)) n), σc, σm, ?_, ?_, h⟩
      · simp (disch := omega) only [C_state_0, lit, nI_eq, if_neg, if_true, cofAge ha, bi_some]
      · simp (disch := omega) only [M_state_0, lit, nI_eq, if_neg, if_true, mygs ha.1, bi_some, ha.n0]
        have e := rest_set hn (setN_lt (yg (σm.1 1)) n)
        have e2 := setN_not (yg (σm.1 1)) n
        rw [show 2 ^ n - 1 - setN (yg (σm.1 1)) n = setN (fun i => !(yg (σm.1 1) i)) n by omega] at e
        exact congrArg (fun q => some (q, σm)) e
    · refine ⟨σm.1 1 7, σc, σm, ?_, ?_, h⟩
      · simp (disch := omega) only [C_state_0, lit, nI_eq, if_neg, if_true, ha.2.1]
      · simp (disch := omega) only [M_state_0, lit, nI_eq, if_neg, if_true, rd_row]
    · refine ⟨sV (σm.1 1) 8, σc, σm, ?_, ?_, h⟩
      · simp (disch := omega) only [C_state_0, lit, nI_eq, if_neg, if_true, cvices ha, bi_some]
      · simp (disch := omega) only [M_state_0, lit, nI_eq, if_neg, if_true, mvices, bi_some]
  · have n0 := not_k (k := 0) (by omega) hv (by omega)
    have n1 := not_k (k := 1) (by omega) hv (by omega)
    have n2 := not_k (k := 2) (by omega) hv (by omega)
    have n3 := not_k (k := 3) (by omega) hv (by omega)
    have n4 := not_k (k := 4) (by omega) hv (by omega)
    have n5 := not_k (k := 5) (by omega) hv (by omega)
    refine ⟨-1, σc, σm, ?_, ?_, h⟩
    · simp only [C_state_0, lit, n0, n1, n2, n3, n4, n5, if_false]
    · simp only [M_state_0, lit, n0, n1, n2, n3, n4, n5, if_false]
theorem cinUse {n : Nat} (ha : RA σc σm n) : ∃ r, C1_godmothersInUse_0 σc = some (r, σc) ∧ lp_ M_many_72 (fun _ _ _ => none) FU σm (nI 0) (nI 0) = some (r, σm) := by
  have key : ∀ i, ∃ u : Nat → Int32, u 0 = nI 0 ∧ ∀ j, j < i → u (j + 1) = if setN (sw (σm.1 1) (nI j)) n = 0 then u j else u j + nI 1 := by
    intro i
    refine ⟨fun j => Nat.rec (nI 0) (fun j q => if setN (sw (σm.1 1) (nI j)) n = 0 then q else q + nI 1) j, rfl, fun j _ => rfl⟩
  obtain ⟨u, u0, us⟩ := key 8
  refine ⟨u 8, ?_, ?_⟩
  · unfold C1_godmothersInUse_0
    have := lg3 (F := C1_godmothersInUse_4) (z := fun _ _ _ => none) 8 (fun _ => σc) (fun i => u i) (fun i => nI i) (some (u 8, σc)) ?_ ?_ (FU_gt (by omega))
    · rw [u0] at this; exact this
    · intro K i hi
      unfold C1_godmothersInUse_4 C1_godmothersInUse_21
      have hb := setN_256 (sw (σm.1 1) (nI i)) ha.1.2.1
      rw [us i hi]
      by_cases c : setN (sw (σm.1 1) (nI i)) n = 0
      · simp (disch := omega) only [lit, nI_leI, if_neg, cswornTo ha, bi_some, c, if_true, lt_eq, nI_add]
      · simp (disch := omega) only [lit, nI_leI, if_neg, cswornTo ha, bi_some, c, if_false, nI_eq, lt_eq, nI_add]
    · intro K
      unfold C1_godmothersInUse_4
      simp only [lit, Int32.le_refl, if_true]
  · have := lg3 (F := M_many_72) (z := fun _ _ _ => none) 8 (fun _ => σm) (fun i => u i) (fun i => nI i) (some (u 8, σm)) ?_ ?_ (FU_gt (by omega))
    · rw [u0] at this; exact this
    · intro K i hi
      unfold M_many_72 M_many_92
      have hb := setN_256 (sw (σm.1 1) (nI i)) ha.1.2.1
      rw [us i hi]
      by_cases c : setN (sw (σm.1 1) (nI i)) n = 0
      · have z : u i + nI 0 = u i := Int32.add_zero _
        simp (disch := omega) only [lit, nI_leI, if_neg, mswornTo ha.1, bi_some, c, if_true, lt_eq, nI_add, z]
      · simp (disch := omega) only [lit, nI_leI, if_neg, mswornTo ha.1, bi_some, c, if_false, nI_eq, lt_eq, nI_add]
    · intro K
      unfold M_many_72
      simp only [lit, Int32.le_refl, if_true]
theorem eq_many (h : R σc σm) (x1 : Int32) : eqv (C_many_0 σc x1) (M_many_0 σm x1) := by
  obtain ⟨⟨n, ha⟩, ho⟩ := id h
  have hn := ha.1.2.1
  rcases rng x1 6 (by omega) with ⟨v, hv, rfl⟩ | hv
  · have : v = 0 ∨ v = 1 ∨ v = 2 ∨ v = 3 ∨ v = 4 ∨ v = 5 ∨ v = 6 := by omega
    rcases this with rfl | rfl | rfl | rfl | rfl | rfl | rfl
    · refine ⟨nI n, σc, σm, ?_, ?_, h⟩
      · simp only [C_many_0, lit, if_true, ha.cnt]
      · simp only [M_many_0, lit, if_true, ha.n0]
    · have e2 := setN_not (yg (σm.1 1)) n
      have e3 := pc_rest hn (setN_lt (yg (σm.1 1)) n)
      have l1 := setN_256 (yg (σm.1 1)) hn
      have l2 := setN_256 (fun i => !(yg (σm.1 1) i)) hn
      rw [show 2 ^ n - 1 - setN (yg (σm.1 1)) n = setN (fun i => !(yg (σm.1 1) i)) n by omega] at e3
      refine ⟨nI (pc (setN (yg (σm.1 1)) n)), σc, σm, ?_, ?_, h⟩
      · simp (disch := omega) only [C_many_0, lit, nI_eq, if_neg, if_true, cofAge ha, bi_some, bitc l2, bp_some, ha.cnt, pk_sub]
        rw [show n - pc (setN (fun i => !(yg (σm.1 1) i)) n) = pc (setN (yg (σm.1 1)) n) by omega]
      · simp (disch := omega) only [M_many_0, lit, nI_eq, if_neg, if_true, mygs ha.1, bi_some, msize l1, bp_some]
    · obtain ⟨E, hE, eE⟩ := ha.1.2.2.2.1
      have ec : rd_ σc 1 2 = nI E := ha.2.1.trans eE
      have em : rd_ σm 1 7 = nI E := eE
      refine ⟨nI (pc E), σc, σm, ?_, ?_, h⟩
      · simp (disch := omega) only [C_many_0, lit, nI_eq, if_neg, if_true, ec, bitc hE, bp_some]
      · simp (disch := omega) only [M_many_0, lit, nI_eq, if_neg, if_true, em, msize hE, bp_some]
    · obtain ⟨r, h1, h2⟩ := cinUse ha
      refine ⟨r, σc, σm, ?_, ?_, h⟩
      · simp (disch := omega) only [C_many_0, lit, nI_eq, if_neg, if_true, h1, bi_some]
      · simp (disch := omega) only [M_many_0, lit, nI_eq, if_neg, if_true, h2]
    · obtain ⟨k, -, h1, h2, -⟩ := ho.2.2.1
      refine ⟨nI k, σc, σm, ?_, ?_, h⟩
      · simp (disch := omega) only [C_many_0, lit, nI_eq, if_neg, if_true, h1]
      · simp (disch := omega) only [M_many_0, lit, nI_eq, if_neg, if_true, h2]
    · obtain ⟨k, -, h1, h2, -⟩ := ho.2.1
      refine ⟨nI k, σc, σm, ?_, ?_, h⟩
      · simp (disch := omega) only [C_many_0, lit, nI_eq, if_neg, if_true, h1]
      · simp (disch := omega) only [M_many_0, lit, nI_eq, if_neg, if_true, h2]
    · obtain ⟨k, -, h1, h2, -⟩ := ho.2.2.2.2.2
      refine ⟨nI k, σc, σm, ?_, ?_, h⟩
      · simp (disch := omega) only [C_many_0, lit, nI_eq, if_neg, if_true, h1]
      · simp (disch := omega) only [M_many_0, lit, nI_eq, if_neg, if_true, h2]
  · have n0 := not_k (k := 0) (by omega) hv (by omega)
    have n1 := not_k (k := 1) (by omega) hv (by omega)
    have n2 := not_k (k := 2) (by omega) hv (by omega)
    have n3 := not_k (k := 3) (by omega) hv (by omega)
    have n4 := not_k (k := 4) (by omega) hv (by omega)
    have n5 := not_k (k := 5) (by omega) hv (by omega)
    have n6 := not_k (k := 6) (by omega) hv (by omega)
    refine ⟨-1, σc, σm, ?_, ?_, h⟩
    · simp only [C_many_0, lit, n0, n1, n2, n3, n4, n5, n6, if_false]
    · simp only [M_many_0, lit, n0, n1, n2, n3, n4, n5, n6, if_false]
end EQ61
