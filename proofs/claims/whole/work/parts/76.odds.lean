/-! odds -/
theorem lc_l0 {y : Nat} (hy : y < 2 ^ 63) : lg_cmp (lN y) 0 = 0 ↔ y = 0 := by
  have e0 : (0 : Int64) = lN 0 := rfl
  rw [e0]
  constructor
  · intro h
    by_cases c : y = 0
    · exact c
    · rw [lc_gt ((pk_lLT (by omega) hy).mpr (by omega))] at h
      exact absurd h (by decide)
  · intro h; subst h; exact lc_eq _
theorem nl_tt {y : Nat} (h0 : 0 < y) (hy : y < 2 ^ 63) : nl_ (lN y) = true := decide_eq_true (fun q => by
  have e0 : (0 : Int64) = lN 0 := rfl
  rw [e0] at q
  have := (pk_lEQ hy (by omega)).mp q
  omega)
theorem gcd_st {x y : Nat} : Nat.gcd x y = Nat.gcd y (x % y) := by
  rw [Nat.gcd_comm x y, Nat.gcd_rec y x, Nat.gcd_comm]
theorem half {x y k : Nat} (hy : 0 < y) (h : y < 2 ^ (k + 1)) (hr : 0 < x % y) : y % (x % y) < 2 ^ k := by
  have h1 : x % y < y := Nat.mod_lt _ hy
  have h2 : y % (x % y) < x % y := Nat.mod_lt _ hr
  have h3 : y % (x % y) + (x % y) * (y / (x % y)) = y := Nat.mod_add_div _ _
  have h4 : 1 ≤ y / (x % y) := Nat.div_pos (by omega) hr
  have h5 : x % y ≤ (x % y) * (y / (x % y)) := Nat.le_mul_of_pos_right _ h4
  rw [Nat.pow_succ] at h
  omega
theorem cgcd (k : Nat) : ∀ (x y i f : Nat), x < 2 ^ 63 → y < 2 ^ 63 → y < 2 ^ k → i + 2 * k ≤ 199 → 2 * k < f → lp_ C_commonDivisor_9 (fun _ _ _ => none) f (lN x) (lN y) (nI i) = some (lN (Nat.gcd x y)) := by
  induction k with
  | zero =>
    intro x y i f hx hy hk hi hf
    have : y = 0 := by simp at hk; omega
    subst this
    obtain ⟨q, rfl⟩ : ∃ q, f = q + 1 := ⟨f - 1, by omega⟩
    show C_commonDivisor_9 _ (lN x) (lN 0) (nI i) = _
    unfold C_commonDivisor_9
    rw [lit, if_neg (nI_ge (by omega) (by omega)), if_pos ((lc_l0 (by omega)).mpr rfl), Nat.gcd_zero_right]
  | succ k ih =>
    intro x y i f hx hy hk hi hf
    obtain ⟨q, rfl⟩ : ∃ q, f = q + 1 + 1 := ⟨f - 2, by omega⟩
    by_cases c : y = 0
    · subst c
      show C_commonDivisor_9 _ (lN x) (lN 0) (nI i) = _
      unfold C_commonDivisor_9
      rw [lit, if_neg (nI_ge (by omega) (by omega)), if_pos ((lc_l0 (by omega)).mpr rfl), Nat.gcd_zero_right]
    · have hm : x % y < y := Nat.mod_lt _ (by omega)
      have s1 : lp_ C_commonDivisor_9 (fun _ _ _ => none) (q + 1 + 1) (lN x) (lN y) (nI i) = lp_ C_commonDivisor_9 (fun _ _ _ => none) (q + 1) (lN y) (lN (x % y)) (nI (i + 1)) := by
        show C_commonDivisor_9 _ (lN x) (lN y) (nI i) = _
        unfold C_commonDivisor_9
        rw [show (200 : Int32) = nI 200 from rfl, if_neg (nI_ge (by omega) (by omega)), if_neg (fun z => c ((lc_l0 hy).mp z)), nl_tt (by omega) hy, gd_tt, lt_eq, lt_eq, pk_lRem hx (by omega) hy, show (1 : Int32) = nI 1 from rfl, nI_add]
      rw [s1, gcd_st]
      by_cases d : x % y = 0
      · rw [d]
        show C_commonDivisor_9 _ (lN y) (lN 0) (nI (i + 1)) = _
        unfold C_commonDivisor_9
        rw [lit, if_neg (nI_ge (by omega) (by omega)), if_pos ((lc_l0 (by omega)).mpr rfl), Nat.gcd_zero_right]
      · have hm2 : y % (x % y) < x % y := Nat.mod_lt _ (by omega)
        have s2 : lp_ C_commonDivisor_9 (fun _ _ _ => none) (q + 1) (lN y) (lN (x % y)) (nI (i + 1)) = lp_ C_commonDivisor_9 (fun _ _ _ => none) q (lN (x % y)) (lN (y % (x % y))) (nI (i + 1 + 1)) := by
          show C_commonDivisor_9 _ (lN y) (lN (x % y)) (nI (i + 1)) = _
          unfold C_commonDivisor_9
          rw [show (200 : Int32) = nI 200 from rfl, if_neg (nI_ge (by omega) (by omega)), if_neg (fun z => d ((lc_l0 (by omega)).mp z)), nl_tt (by omega) (by omega), gd_tt, lt_eq, lt_eq, pk_lRem hy (by omega) (by omega), show (1 : Int32) = nI 1 from rfl, nI_add]
        rw [s2, gcd_st, ih (x % y) (y % (x % y)) (i + 1 + 1) q (by omega) (by omega) (half (by omega) hk (by omega)) (by omega) (by omega)]
theorem mgcd (k : Nat) (x0 x2 : Int64) (x4 : Int32) : ∀ (x y f : Nat), x < 2 ^ 63 → y < 2 ^ 63 → y < 2 ^ k → 2 * k < f → 0 < Nat.gcd x y → lp_ M_partOf_6 (fun _ _ _ _ _ => none) f x0 x2 x4 (lN x) (lN y) = some (if x4 = 0 then x0 / lN (Nat.gcd x y) else x2 / lN (Nat.gcd x y)) := by
  have fin : ∀ (K : Int64 → Int64 → Int32 → Int64 → Int64 → Option Int64) (x : Nat), x < 2 ^ 63 → 0 < x → M_partOf_6 K x0 x2 x4 (lN x) (lN 0) = some (if x4 = 0 then x0 / lN x else x2 / lN x) := fun K x hx h0 => by
    unfold M_partOf_6
    rw [if_pos ((lc_l0 (by omega)).mpr rfl), nl_tt h0 hx, gd_tt, gd_tt]
    split <;> rfl
  have st : ∀ (K : Int64 → Int64 → Int32 → Int64 → Int64 → Option Int64) (x y : Nat), x < 2 ^ 63 → y < 2 ^ 63 → ¬ y = 0 → M_partOf_6 K x0 x2 x4 (lN x) (lN y) = K x0 x2 x4 (lN y) (lN (x % y)) := fun K x y hx hy h0 => by
    unfold M_partOf_6
    rw [if_neg (fun z => h0 ((lc_l0 hy).mp z)), nl_tt (by omega) hy, gd_tt, lt_eq, pk_lRem hx (by omega) hy]
  induction k with
  | zero =>
    intro x y f hx hy hk hf hg
    have : y = 0 := by simp at hk; omega
    subst this
    rw [Nat.gcd_zero_right] at hg ⊢
    obtain ⟨q, rfl⟩ : ∃ q, f = q + 1 := ⟨f - 1, by omega⟩
    exact fin _ x hx hg
  | succ k ih =>
    intro x y f hx hy hk hf hg
    obtain ⟨q, rfl⟩ : ∃ q, f = q + 1 + 1 := ⟨f - 2, by omega⟩
    by_cases c : y = 0
    · subst c
      rw [Nat.gcd_zero_right] at hg ⊢
      exact fin _ x hx hg
    · have hm : x % y < y := Nat.mod_lt _ (by omega)
      refine (st _ x y hx hy c).trans ?_
      rw [gcd_st] at hg ⊢
      by_cases d : x % y = 0
      · rw [d] at hg ⊢
        rw [Nat.gcd_zero_right]
        exact fin _ y hy (by omega)
      · have hm2 : y % (x % y) < x % y := Nat.mod_lt _ (by omega)
        refine (st _ y (x % y) hy (by omega) d).trans ?_
        rw [gcd_st] at hg ⊢
        exact ih (x % y) (y % (x % y)) q (by omega) (by omega) (half (by omega) hk (by omega)) (by omega) hg
theorem part_eq {a b : Nat} (x4 : Int32) (ha : a < 2 ^ 63) (hb : b < 2 ^ 63) (h0 : 0 < b) : ∃ r, C_partOf_0 (lN a) (lN b) x4 = some r ∧ M_partOf_0 (lN a) (lN b) x4 = some r := by
  have hg : 0 < Nat.gcd a b := Nat.gcd_pos_of_pos_right _ h0
  have hgl : Nat.gcd a b ≤ b := Nat.gcd_le_right _ h0
  have hc : C_commonDivisor_0 (lN a) (lN b) = some (lN (Nat.gcd a b)) := cgcd 63 a b 0 FU ha hb hb (by omega) (by decide)
  have hm := mgcd 63 (lN a) (lN b) x4 b a FU hb ha ha (by decide) (by rw [Nat.gcd_comm]; exact hg)
  refine ⟨_, ?_, hm⟩
  unfold C_partOf_0
  rw [hc, bp_some, if_neg (fun z => by have := (lc_l0 (by omega)).mp z; omega), nl_tt hg (by omega), gd_tt, gd_tt, Nat.gcd_comm b a]
  split <;> rfl
def wy (n k : Nat) : Nat := Nat.rec (motive := fun _ => Nat → Nat) (fun k => if k = 0 then 1 else 0) (fun _ r k => if k = 0 then 1 else r (k - 1) + r k) n k
theorem ways {n k : Nat} (hn : n ≤ 8) (hk : k ≤ n) : C_ways_0 (nI n) (nI k) = some (lN (wy n k)) ∧ wy n k ≤ 70 ∧ ∃ p q r, M_product_0 (nI n) = some p ∧ M_product_0 (nI k) = some q ∧ M_product_0 (nI (n - k)) = some r ∧ nl_ q = true ∧ nl_ r = true ∧ p / q / r = lN (wy n k) := by
  have key : ∀ n : Fin 9, ∀ k : Fin 9, k.1 ≤ n.1 → C_ways_0 (nI n.1) (nI k.1) = some (lN (wy n.1 k.1)) ∧ wy n.1 k.1 ≤ 70 ∧ (M_product_0 (nI n.1)).isSome = true ∧ (M_product_0 (nI k.1)).isSome = true ∧ (M_product_0 (nI (n.1 - k.1))).isSome = true ∧ nl_ ((M_product_0 (nI k.1)).getD 0) = true ∧ nl_ ((M_product_0 (nI (n.1 - k.1))).getD 0) = true ∧ ((M_product_0 (nI n.1)).getD 0) / ((M_product_0 (nI k.1)).getD 0) / ((M_product_0 (nI (n.1 - k.1))).getD 0) = lN (wy n.1 k.1) := by decide +kernel
  obtain ⟨h1, h2, h3, h4, h5, h6, h7, h8⟩ := key ⟨n, by omega⟩ ⟨k, by omega⟩ hk
  dsimp only at h1 h2 h3 h4 h5 h6 h7 h8
  obtain ⟨p, hp⟩ := Option.isSome_iff_exists.mp h3
  obtain ⟨q, hq⟩ := Option.isSome_iff_exists.mp h4
  obtain ⟨r, hr⟩ := Option.isSome_iff_exists.mp h5
  rw [hq] at h6 h8
  rw [hr] at h7 h8
  rw [hp] at h8
  exact ⟨h1, h2, p, q, r, hp, hq, hr, h6, h7, h8⟩
theorem cpow {b m : Nat} (hm : m ≤ 8) : C_power_0 (lN b) (nI m) = some (lN (b ^ m)) := by
  unfold C_power_0
  refine lg4 (F := C_power_5) (z := fun _ _ _ _ => none) m (fun _ => lN b) (fun _ => nI m) (fun i => lN (b ^ i)) (fun i => nI i) _ ?_ ?_ (FU_gt (by omega))
  · intro K i hi
    unfold C_power_5
    rw [if_neg (nI_ge hi (by omega)), lt_eq, lt_eq, lN_mul, lit, nI_add, Nat.pow_succ]
  · intro K
    unfold C_power_5
    rw [if_pos (Int32.le_refl _)]
theorem pow_le_100 {s k : Nat} (h : s ≤ 100) : s ^ k ≤ 100 ^ k := Nat.pow_le_pow_left h k
theorem odd_lt {w s n k : Nat} (hw : w ≤ 70) (hs : s ≤ 100) (hn : n ≤ 8) (hk : k ≤ n) : w * s ^ k * (100 - s) ^ (n - k) < 2 ^ 63 := by
  have h1 : s ^ k ≤ 100 ^ k := Nat.pow_le_pow_left hs k
  have h2 : (100 - s) ^ (n - k) ≤ 100 ^ (n - k) := Nat.pow_le_pow_left (by omega) _
  have h3 : w * s ^ k ≤ 70 * 100 ^ k := Nat.mul_le_mul hw h1
  have h4 : w * s ^ k * (100 - s) ^ (n - k) ≤ 70 * 100 ^ k * 100 ^ (n - k) := Nat.mul_le_mul h3 h2
  have h5 : 70 * 100 ^ k * 100 ^ (n - k) = 70 * 100 ^ n := by rw [Nat.mul_assoc, ← Nat.pow_add, show k + (n - k) = n by omega]
  have h6 : 100 ^ n ≤ 100 ^ 8 := Nat.pow_le_pow_right (by omega) hn
  have h7 : (100 : Nat) ^ 8 = 10000000000000000 := by decide
  omega
section ODDS
variable {σc σm : Sg}
theorem eq_hope (h : R σc σm) (x1 x2 : Int32) : eqv (C_hope_0 σc x1 x2) (M_hope_0 σm x1 x2) := by
  obtain ⟨⟨n, ha⟩, ho⟩ := id h
  obtain ⟨s, hs, es⟩ := ha.1.2.2.1 3 (by omega)
  have hs9 : s ≤ 99 := hs
  have ec : rd_ σc 4 3 = nI s := (ha.2.2.2.2.2.1 3 (by omega)).trans es
  have em : rd_ σm 1 6 = nI s := es
  rcases rng x1 99 (by omega) with ⟨k, hk, rfl⟩ | hv
  · rcases rng x2 1 (by omega) with ⟨p, hp, rfl⟩ | hv
    · have hks : k * s ≤ 99 * 99 := Nat.mul_le_mul hk hs9
      obtain ⟨r, e1, e2⟩ := part_eq (a := k * s) (b := 100) (nI p) (by omega) (by omega) (by omega)
      refine ⟨r, σc, σm, ?_, ?_, h⟩
      · simp (disch := omega) only [C_hope_0, lit, cw1, bp_some, nI_eq, if_neg, ec, wide, lN_mul, litL, e1]
      · unfold M_hope_0
        rw [show (0 : Int64) = lN 0 from rfl, show (99 : Int64) = lN 99 from rfl, mi1 (by omega) hk (by omega), bp_some, if_neg (by decide), show (1 : Int64) = lN 1 from rfl, mi1 (by omega) hp (by omega), bp_some, if_neg (by decide), em, wide k (by omega), wide s (by omega), lN_mul, show (100 : Int64) = lN 100 from rfl, e2, bp_some]
    · refine ⟨-1, σc, σm, ?_, ?_, h⟩
      · simp (disch := omega) only [C_hope_0, lit, cw1, cw0 hv, bp_some, nI_eq, if_neg, if_true]
      · simp (disch := omega) only [M_hope_0, lit, litL, mi1, mi0 (by omega) (by omega) (neg_any hv), bp_some, nI_eq, if_neg, if_true]
  · refine ⟨-1, σc, σm, ?_, ?_, h⟩
    · simp (disch := omega) only [C_hope_0, lit, cw0 hv, bp_some, if_true]
    · simp (disch := omega) only [M_hope_0, lit, litL, mi0 (by omega) (by omega) (neg_any hv), bp_some, if_true]
theorem modds {n k s : Nat} {x3 : Int32} {w : Nat} (hn : n ≤ 8) (hk : k ≤ n) (hs : s ≤ 99) (em : rd_ σm 1 6 = nI s) : lp_ M_odds_61 (fun _ _ _ _ _ _ _ => none) FU σm (nI n) (nI k) x3 (lN w) (lN 1) (nI 0) = bp_ (M_partOf_0 (lN (w * s ^ k * (100 - s) ^ (n - k))) (lN (100 ^ n)) x3) fun r => some (r, σm) := by
  have h0 : lp_ M_odds_61 (fun _ _ _ _ _ _ _ => none) FU σm (nI n) (nI k) x3 (lN (w * s ^ (if 0 ≤ k then 0 else k) * (100 - s) ^ (0 - k))) (lN (100 ^ 0)) (nI 0) = bp_ (M_partOf_0 (lN (w * s ^ (if n ≤ k then n else k) * (100 - s) ^ (n - k))) (lN (100 ^ n)) x3) fun r => some (r, σm) := by
    refine lg7 (F := M_odds_61) (z := fun _ _ _ _ _ _ _ => none) n (fun _ => σm) (fun _ => nI n) (fun _ => nI k) (fun _ => x3) (fun i => lN (w * s ^ (if i ≤ k then i else k) * (100 - s) ^ (i - k))) (fun i => lN (100 ^ i)) (fun i => nI i) _ ?_ ?_ (FU_gt (by omega))
    · intro K i hi
      have e100 : ((100 : Int32) - nI s).toInt64 = lN (100 - s) := by rw [show (100 : Int32) = nI 100 from rfl, pk_sub (by omega), wide _ (by omega)]
      unfold M_odds_61 M_odds_97
      rw [if_neg (nI_ge hi (by omega)), em, e100, wide s (by omega)]
      by_cases c : k ≤ i
      · rw [if_pos (nI_le c (by omega)), lt_eq, lt_eq, lt_eq, lN_mul, show (100 : Int64) = lN 100 from rfl, lN_mul, show (1 : Int32) = nI 1 from rfl, nI_add, ← Nat.pow_succ, Nat.mul_assoc, ← Nat.pow_succ]
        have q1 : (if i + 1 ≤ k then i + 1 else k) = if i ≤ k then i else k := by split <;> split <;> omega
        rw [q1, show i + 1 - k = (i - k).succ by omega]
      · rw [if_neg (nI_ge (by omega) (by omega)), lt_eq, lt_eq, lt_eq, lN_mul, show (100 : Int64) = lN 100 from rfl, lN_mul, show (1 : Int32) = nI 1 from rfl, nI_add, ← Nat.pow_succ, if_pos (show i ≤ k by omega), if_pos (show i + 1 ≤ k by omega), show i - k = 0 by omega, show i + 1 - k = 0 by omega, Nat.pow_zero, Nat.mul_one, Nat.mul_one, Nat.mul_assoc, ← Nat.pow_succ]
    · intro K
      unfold M_odds_61
      rw [if_pos (Int32.le_refl _)]
  have e1 : w * s ^ (if 0 ≤ k then 0 else k) * (100 - s) ^ (0 - k) = w := by
    rw [if_pos (by omega), show 0 - k = 0 by omega, Nat.pow_zero, Nat.pow_zero, Nat.mul_one, Nat.mul_one]
  have e2 : (if n ≤ k then n else k) = k := by split <;> omega
  rw [e1, e2, Nat.pow_zero] at h0
  exact h0
theorem eq_odds (h : R σc σm) (x1 x2 x3 : Int32) : eqv (C_odds_0 σc x1 x2 x3) (M_odds_0 σm x1 x2 x3) := by
  obtain ⟨⟨n0, ha⟩, ho⟩ := id h
  obtain ⟨s, hs, es⟩ := ha.1.2.2.1 3 (by omega)
  have hs9 : s ≤ 99 := hs
  have ec : rd_ σc 4 3 = nI s := (ha.2.2.2.2.2.1 3 (by omega)).trans es
  have em : rd_ σm 1 6 = nI s := es
  rcases rng x1 8 (by omega) with ⟨n, hn, rfl⟩ | hv
  · rcases rng x2 n (by omega) with ⟨k, hk, rfl⟩ | hv
    · rcases rng x3 1 (by omega) with ⟨p, hp, rfl⟩ | hv
      · obtain ⟨w1, w2, a, b, c, m1', m2', m3', n1, n2, m4⟩ := ways hn hk
        have hlt := odd_lt (s := s) w2 (by omega) hn hk
        have hb : 100 ^ n ≤ 100 ^ 8 := Nat.pow_le_pow_right (by omega) hn
        have h7 : (100 : Nat) ^ 8 = 10000000000000000 := by decide
        have h0 : 0 < 100 ^ n := Nat.pow_pos (by omega)
        obtain ⟨r, e1, e2⟩ := part_eq (nI p) hlt (show 100 ^ n < 2 ^ 63 by omega) h0
        refine ⟨r, σc, σm, ?_, ?_, h⟩
        · unfold C_odds_0
          rw [show (8 : Int32) = nI 8 from rfl, cw1 hn (by omega), bp_some, if_neg (by decide), cw1 hk (by omega), bp_some, if_neg (by decide), show (1 : Int32) = nI 1 from rfl, cw1 hp (by omega), bp_some, if_neg (by decide), lt_eq, w1, bp_some, ec, wide s (by omega), cpow (by omega), bp_some, show (100 : Int64) = lN 100 from rfl, lN_sub (by omega), pk_sub hk, cpow (by omega), bp_some, lt_eq, cpow (by omega), bp_some, lN_mul, lN_mul, e1, bp_some]
        · unfold M_odds_0
          rw [show (8 : Int64) = lN 8 from rfl, show (0 : Int64) = lN 0 from rfl, mi1 (by omega) hn (by omega), bp_some, if_neg (by decide), wide n (by omega), mi1 (by omega) hk (by omega), bp_some, if_neg (by decide), show (1 : Int64) = lN 1 from rfl, mi1 (by omega) hp (by omega), bp_some, if_neg (by decide), m1', bp_some, m2', bp_some, n1, gd_tt, pk_sub hk, m3', bp_some, n2, gd_tt, lt_eq, m4, show (0 : Int32) = nI 0 from rfl, modds hn hk hs9 em, e2, bp_some]
      · refine ⟨-1, σc, σm, ?_, ?_, h⟩
        · simp (disch := omega) only [C_odds_0, lit, cw1, cw0 hv, bp_some, nI_eq, if_neg, if_true]
        · simp (disch := omega) only [M_odds_0, lit, litL, wide n (show n < 2 ^ 31 by omega), bp_some, nI_eq, if_neg, if_true, mi0 (by omega) (by omega) (neg_any hv)]
          have q1 := mi1 (k := n) (lo := 0) (b := 8) (by omega) hn (by omega)
          have q2 := mi1 (k := k) (lo := 0) (b := n) (by omega) hk (by omega)
          rw [wide n (by omega)] at q1
          rw [q1, bp_some, if_neg (by decide), q2, bp_some, if_neg (by decide)]
    · refine ⟨-1, σc, σm, ?_, ?_, h⟩
      · simp (disch := omega) only [C_odds_0, lit, cw1, cw0 hv, bp_some, nI_eq, if_neg, if_true]
      · unfold M_odds_0
        rw [show (8 : Int64) = lN 8 from rfl, show (0 : Int64) = lN 0 from rfl, mi1 (by omega) hn (by omega), bp_some, if_neg (by decide), wide n (by omega), mi0 (by omega) (by omega) (neg_any hv), bp_some, if_pos (by decide)]
  · refine ⟨-1, σc, σm, ?_, ?_, h⟩
    · simp (disch := omega) only [C_odds_0, lit, cw0 hv, bp_some, if_true]
    · simp (disch := omega) only [M_odds_0, lit, litL, mi0 (by omega) (by omega) (neg_any hv), bp_some, if_true]
end ODDS
