/-! which are enough -/
def nb1 (b : Bool) : Nat := if b = true then 1 else 0
theorem nb1_le (b : Bool) : nb1 b ≤ 1 := by cases b <;> decide
section EN
variable (F : Nat → Nat → Nat) (rm : Nat)
def sv (s o : Nat) : Nat → Bool
  | 0 => false
  | i + 1 => sv s o i || (bitB s i && decide (F o i ≤ rm))
def en (s : Nat) : Nat → Bool
  | 0 => true
  | o + 1 => en s o && sv F rm s o 8
theorem sv_mono {s o i j : Nat} (h : i ≤ j) (e : sv F rm s o i = true) : sv F rm s o j = true := by
  induction j with
  | zero => have : i = 0 := by omega
            subst this; exact e
  | succ j ih =>
    by_cases c : i = j + 1
    · subst c; exact e
    · unfold sv; rw [ih (by omega)]; rfl
theorem en_mono {s i j : Nat} (h : i ≤ j) (e : en F rm s i = false) : en F rm s j = false := by
  induction j with
  | zero => have : i = 0 := by omega
            subst this; exact e
  | succ j ih =>
    by_cases c : i = j + 1
    · subst c; exact e
    · unfold en; rw [ih (by omega)]; rfl
end EN
section ENC
variable {σ : Sg} {n rm : Nat} {F : Nat → Nat → Nat}
theorem cen18 {s o : Nat} {K : Sg → Int32 → Int32 → Option (Int32 × Sg)} (hn : n ≤ 8) (hF : ∀ o g, o < n → g < 8 → F o g ≤ 99) (hf : ∀ o g, o < n → g < 8 → rd_ σ 32 (8 * o + g) = nI (F o g)) (hrm : rm ≤ 99) (er : rd_ σ 4 2 = nI rm) (hs : s < 256) (ho : o < n) : lp_ (C_isEnough_18 K) (fun _ _ _ _ _ => none) FU σ (nI s) (nI o) (nI 0) (nI 0) = C_isEnough_70 K σ (nI s) (nI o) (nI (nb1 (sv F rm s o 8))) := by
  obtain ⟨b, -, hb⟩ := lj5 (F := C_isEnough_18 K) (z := fun _ _ _ _ _ => none) 8 (fun i τ x1 x2 x3 x4 => τ = σ ∧ x1 = nI s ∧ x2 = nI o ∧ x3 = nI (nb1 (sv F rm s o i)) ∧ x4 = nI i) (fun _ : Unit => True) (fun _ => C_isEnough_70 K σ (nI s) (nI o) (nI (nb1 (sv F rm s o 8)))) σ (nI s) (nI o) (nI 0) (nI 0) ⟨rfl, rfl, rfl, rfl, rfl⟩ (by
    rintro K2 i τ x1 x2 x3 x4 hi ⟨rfl, rfl, rfl, rfl, rfl⟩
    cases c : sv F rm s o i
    · have e0 : nb1 false = 0 := rfl
      have eb := ezb_bit hs hi
      have hv := hF o i ho hi
      left
      refine ⟨τ, nI s, nI o, nI (nb1 (sv F rm s o (i + 1))), nI (i + 1), ⟨rfl, rfl, rfl, rfl, rfl⟩, ?_⟩
      rw [sv, c]
      cases hb : bitB s i
      · rw [hb] at eb
        simp only [Bool.false_eq_true, if_false] at eb
        unfold C_isEnough_18 C_isEnough_62 C_isEnough_63
        simp (disch := omega) only [lit, nI_leI, if_neg, e0, if_true, eb, nI_eq, lt_eq, nI_add, Bool.false_and, Bool.or_false]
      · rw [hb] at eb
        simp only [if_true] at eb
        unfold C_isEnough_18 C_isEnough_62 C_isEnough_63
        by_cases d : F o i ≤ rm
        · rw [decide_eq_true d]
          simp (disch := omega) only [lit, nI_leI, if_neg, e0, if_true, eb, cfarAt, bi_some, hf o i ho hi, er, nI_ltI, lt_eq, nI_add, Bool.true_and, Bool.false_or]
          rfl
        · rw [decide_eq_false d]
          simp (disch := omega) only [lit, nI_leI, if_neg, e0, if_true, eb, cfarAt, bi_some, hf o i ho hi, er, nI_ltI, if_pos, lt_eq, nI_add, Bool.true_and, Bool.or_false]
    · right
      refine ⟨(), trivial, ?_⟩
      have e1 : nb1 true = 1 := rfl
      rw [sv_mono F rm (j := 8) (by omega) c]
      unfold C_isEnough_18
      simp (disch := omega) only [lit, nI_leI, if_neg, e1, nI_eq]) (by
    rintro K2 τ x1 x2 x3 x4 ⟨rfl, rfl, rfl, rfl, rfl⟩
    refine ⟨(), trivial, ?_⟩
    unfold C_isEnough_18
    simp only [lit, Int32.le_refl, if_true]) (FU_gt (N := 8) (by omega))
  exact hb
theorem cen {s : Nat} (hn : n ≤ 8) (hc : rd_ σ 1 3 = nI n) (hF : ∀ o g, o < n → g < 8 → F o g ≤ 99) (hf : ∀ o g, o < n → g < 8 → rd_ σ 32 (8 * o + g) = nI (F o g)) (hrm : rm ≤ 99) (er : rd_ σ 4 2 = nI rm) (hs : s < 256) : C_isEnough_0 σ (nI s) = some (nI (nb1 (en F rm s n)), σ) := by
  unfold C_isEnough_0
  obtain ⟨b, hb1, hb⟩ := li3 (F := C_isEnough_2) (z := fun _ _ _ => none) n (fun o τ x1 x2 => τ = σ ∧ x1 = nI s ∧ x2 = nI o ∧ en F rm s o = true) (fun b => b = (nI (nb1 (en F rm s n)), σ)) σ (nI s) (nI 0) ⟨rfl, rfl, rfl, rfl⟩ (by
    rintro K o τ x1 x2 ho ⟨rfl, rfl, rfl, he⟩
    have e2 : C_isEnough_2 K τ (nI s) (nI o) = C_isEnough_70 K τ (nI s) (nI o) (nI (nb1 (sv F rm s o 8))) := by
      unfold C_isEnough_2
      rw [hc, if_neg (nI_ge ho (by omega)), ← cen18 (K := K) hn hF hf hrm er hs ho]
      rfl
    cases c : sv F rm s o 8
    · right
      have : en F rm s (o + 1) = false := by unfold en; rw [c, Bool.and_false]
      refine ⟨_, rfl, ?_⟩
      rw [e2, c, en_mono F rm (j := n) (by omega) this]
      unfold C_isEnough_70
      rw [if_pos (by decide)]
      rfl
    · left
      refine ⟨τ, nI s, nI (o + 1), ⟨rfl, rfl, rfl, by unfold en; rw [he, c]; rfl⟩, ?_⟩
      rw [e2, c]
      unfold C_isEnough_70
      rw [if_neg (by decide), lt_eq, lit, nI_add]) (by
    rintro K τ x1 x2 ⟨rfl, rfl, rfl, he⟩
    refine ⟨_, rfl, ?_⟩
    unfold C_isEnough_2
    rw [hc, if_pos (Int32.le_refl _), he]
    rfl) (FU_gt (N := n) (by omega))
  rw [hb1] at hb
  exact hb
theorem or01 (a b : Bool) : nI (nb1 a) ||| nI (nb1 b) = nI (nb1 (a || b)) := by cases a <;> cases b <;> decide
theorem and01 (a b : Bool) : nI (nb1 a) &&& nI (nb1 b) = nI (nb1 (a && b)) := by cases a <;> cases b <;> decide
theorem men {s : Nat} (hn : n ≤ 8) (hc : rd_ σ 1 0 = nI n) (hF : ∀ o g, o < n → g < 8 → F o g ≤ 99) (hf : ∀ o g, o < n → g < 8 → rd_ σ 6 (8 * o + g) = nI (F o g)) (hrm : rm ≤ 99) (er : rd_ σ 1 5 = nI rm) (hs : s < 256) : M_areEnough_0 σ (nI s) = some (nI (nb1 (en F rm s n)), σ) := by
  unfold M_areEnough_0
  refine lg4 (F := M_areEnough_4) (z := fun _ _ _ _ => none) n (fun _ => σ) (fun _ => nI s) (fun o => nI (nb1 (en F rm s o))) (fun o => nI o) _ ?_ ?_ (FU_gt (by omega))
  · intro K o ho
    have inner : lp_ (M_areEnough_20 K) (fun _ _ _ _ _ _ => none) FU σ (nI s) (nI (nb1 (en F rm s o))) (nI o) (nI 0) (nI 0) = K σ (nI s) (nI (nb1 (en F rm s (o + 1)))) (nI (o + 1)) := by
      refine lg6 (F := M_areEnough_20 K) (z := fun _ _ _ _ _ _ => none) 8 (fun _ => σ) (fun _ => nI s) (fun _ => nI (nb1 (en F rm s o))) (fun _ => nI o) (fun i => nI (nb1 (sv F rm s o i))) (fun i => nI i) _ ?_ ?_ (FU_gt (by omega))
      · intro K2 i hi
        have eb := ezb_bit hs hi
        have hv := hF o i ho hi
        have o0 := or01 (sv F rm s o i) false
        have o1 := or01 (sv F rm s o i) true
        rw [show nb1 false = 0 from rfl] at o0
        rw [show nb1 true = 1 from rfl] at o1
        rw [sv]
        cases hb : bitB s i
        · rw [hb] at eb
          simp only [Bool.false_eq_true, if_false] at eb
          unfold M_areEnough_20 M_areEnough_64 M_areEnough_65
          simp (disch := omega) only [lit, nI_leI, if_neg, eb, nI_eq, lt_eq, nI_add, o0, Bool.false_and]
        · rw [hb] at eb
          simp only [if_true] at eb
          unfold M_areEnough_20 M_areEnough_64 M_areEnough_65
          by_cases d : F o i ≤ rm
          · rw [decide_eq_true d]
            simp (disch := omega) only [lit, nI_leI, if_neg, eb, if_true, lt_eq, pk_mul, nI_add, in_nI, gd_tt, nI_clamp, hf o i ho hi, er, nI_ltI, o1, Bool.true_and]
          · rw [decide_eq_false d]
            simp (disch := omega) only [lit, nI_leI, if_neg, eb, if_true, lt_eq, pk_mul, nI_add, in_nI, gd_tt, nI_clamp, hf o i ho hi, er, nI_ltI, if_pos, o0, Bool.true_and]
      · intro K2
        unfold M_areEnough_20
        simp only [lit, Int32.le_refl, if_true, lt_eq, and01, nI_add]
        rfl
    unfold M_areEnough_4
    rw [hc, if_neg (nI_ge ho (by omega))]
    exact inner
  · intro K
    unfold M_areEnough_4
    have : bo_ (nI (nb1 (en F rm s n))) = true := by cases en F rm s n <;> decide
    rw [hc, if_pos (Int32.le_refl _), this, gd_tt]
def be (F : Nat → Nat → Nat) (rm n : Nat) : Nat → Int32 × Nat
  | 0 => (-3, 9)
  | i + 1 => if pc i < (be F rm n i).2 ∧ en F rm i n = true then (nI i, pc i) else be F rm n i
theorem be_cases (i : Nat) (hi : i ≤ 256) : ((be F rm n i).1 = -3 ∧ (be F rm n i).2 = 9) ∨ ∃ b, b < 256 ∧ (be F rm n i).1 = nI b ∧ (be F rm n i).2 = pc b := by
  induction i with
  | zero => exact Or.inl ⟨rfl, rfl⟩
  | succ i ih =>
    rw [be]
    split
    · exact Or.inr ⟨i, by omega, rfl, rfl⟩
    · exact ih (by omega)
theorem cenough (hn : n ≤ 8) (hc : rd_ σ 1 3 = nI n) (hF : ∀ o g, o < n → g < 8 → F o g ≤ 99) (hf : ∀ o g, o < n → g < 8 → rd_ σ 32 (8 * o + g) = nI (F o g)) (hrm : rm ≤ 99) (er : rd_ σ 4 2 = nI rm) : lp_ C_enough_23 (fun _ _ _ _ => none) FU σ (-3) (nI 9) (nI 0) = some ((be F rm n 256).1, σ) := by
  refine lg4 (F := C_enough_23) (z := fun _ _ _ _ => none) 256 (fun _ => σ) (fun i => (be F rm n i).1) (fun i => nI (be F rm n i).2) (fun i => nI i) _ ?_ ?_ (FU_gt (by omega))
  · intro K i hi
    have pl := pc_le i
    have hb : (be F rm n i).2 ≤ 9 := by
      rcases be_cases (F := F) (rm := rm) (n := n) i (by omega) with h | ⟨b, -, -, h⟩
      · omega
      · have := pc_le b; omega
    unfold C_enough_23 C_enough_59
    rw [lit, if_neg (nI_ge hi (by omega)), bitc hi, bp_some, be]
    by_cases c : pc i < (be F rm n i).2
    · rw [if_neg (nI_ge c (by omega)), cen hn hc hF hf hrm er hi, bi_some]
      cases d : en F rm i n
      · rw [if_pos (by decide), if_neg (fun q => absurd q.2 (by decide)), lt_eq, lit, nI_add]
      · rw [if_neg (by decide), if_pos ⟨c, rfl⟩, lt_eq, lit, nI_add]
    · rw [if_pos (nI_le (by omega) (by omega)), if_neg (fun q => c q.1), lt_eq, lit, nI_add]
  · intro K
    unfold C_enough_23
    rw [lit, if_pos (Int32.le_refl _)]
theorem menough (hn : n ≤ 8) (hc : rd_ σ 1 0 = nI n) (hF : ∀ o g, o < n → g < 8 → F o g ≤ 99) (hf : ∀ o g, o < n → g < 8 → rd_ σ 6 (8 * o + g) = nI (F o g)) (hrm : rm ≤ 99) (er : rd_ σ 1 5 = nI rm) : lp_ M_enough_19 (fun _ _ _ => none) FU σ (-3) (nI 0) = some ((be F rm n 256).1, σ) := by
  refine lg3 (F := M_enough_19) (z := fun _ _ _ => none) 256 (fun _ => σ) (fun i => (be F rm n i).1) (fun i => nI i) _ ?_ ?_ (FU_gt (by omega))
  · intro K i hi
    have pl := pc_le i
    have e41 : M_enough_41 K σ (be F rm n i).1 (nI i) = K σ (if en F rm i n = true then nI i else (be F rm n i).1) (nI (i + 1)) := by
      unfold M_enough_41 M_enough_53 M_enough_54
      rw [men hn hc hF hf hrm er hi, bi_some]
      cases d : en F rm i n
      · rw [if_pos (by decide), lt_eq, lit, nI_add]; rfl
      · rw [if_neg (by decide), lt_eq, lit, nI_add]; rfl
    unfold M_enough_19
    rw [lit, if_neg (nI_ge hi (by omega)), e41, be]
    rcases be_cases (F := F) (rm := rm) (n := n) i (by omega) with ⟨h1, h2⟩ | ⟨b, hb, h1, h2⟩
    · rw [h1, if_pos (by decide)]
      have c9 : pc i < (be F rm n i).2 := by omega
      cases d : en F rm i n
      · simp only [Bool.false_eq_true, and_false, if_false, h1]
      · simp only [and_true, if_true, c9]
    · have pb := pc_le b
      rw [h1, if_neg (nI_pos (by omega)), msize hi, bp_some, msize hb, bp_some]
      by_cases c : pc i < pc b
      · rw [if_neg (nI_ge c (by omega))]
        have c9 : pc i < (be F rm n i).2 := by omega
        cases d : en F rm i n
        · simp only [Bool.false_eq_true, and_false, if_false, h1]
        · simp only [and_true, if_true, c9]
      · unfold M_enough_53 M_enough_54
        rw [if_pos (nI_le (by omega) (by omega)), if_neg (fun q => c (by omega)), lt_eq, lit, nI_add, h1]
  · intro K
    unfold M_enough_19
    rw [lit, if_pos (Int32.le_refl _)]
end ENC
section EQEN
variable {σc σm : Sg}
theorem eq_enough (h : R σc σm) (x1 : Int32) : eqv (C_enough_0 σc x1) (M_enough_0 σm x1) := by
  obtain ⟨⟨n, ha⟩, ho⟩ := id h
  have hn := ha.1.2.1
  rcases below1 (v := x1) (b := 30) (by omega) with ⟨m, h1, h2, rfl⟩ | hv
  · obtain ⟨τc, a1, w1, e1⟩ := cfill ha h1 h2
    obtain ⟨τm, a2, w2, e2⟩ := mfill ha h1 h2
    have hF : ∀ o g, o < n → g < 8 → FF (σm.1 1) n m o g ≤ 99 := fun o g ho hg => FF_le ha.1 ho hg
    obtain ⟨rm, hr, er⟩ := ha.1.2.2.1 2 (by omega)
    have ec : rd_ τc 4 2 = nI rm := by rw [a1.1 _ _ (by unfold sQ; omega)]; exact (ha.2.2.2.2.2.1 2 (by omega)).trans er
    have em : rd_ τm 1 5 = nI rm := by rw [a2.1 _ _ (by simp [sM])]; exact er
    have f1 := cenough (σ := τc) hn (by rw [a1.1 _ _ (by unfold sQ; omega)]; exact ha.cnt) hF w1 (show rm ≤ 99 from hr) ec
    have f2 := menough (σ := τm) hn (by rw [a2.1 _ _ (by simp [sM])]; exact ha.n0) hF w2 (show rm ≤ 99 from hr) em
    refine ⟨(be (FF (σm.1 1) n m) rm n 256).1, τc, τm, ?_, ?_, R.scr h (a1.mo (fun _ _ q => ?_)) a2⟩
    · unfold C_enough_0
      rw [cplan1 h1 h2, bp_some, if_neg (by decide), e1, bi_some]
      exact f1
    · unfold M_enough_0
      rw [mshort1 h1 h2, bp_some, if_neg (by decide), e2, bi_some]
      exact f2
    · unfold sQ at q; unfold sC; omega
  · refine ⟨-1, σc, σm, ?_, ?_, h⟩
    · unfold C_enough_0
      rw [cplan0 hv, bp_some, if_pos (by decide)]
    · unfold M_enough_0
      rw [mshort0 hv, bp_some, if_pos (by decide)]
end EQEN
