/-! least over what is allowed -/
def run (P : Nat → Bool) (v : Nat → Nat) (B : Nat) : Nat → Nat
  | 0 => B
  | t + 1 => if P t = true then (if v t ≤ run P v B t then v t else run P v B t) else run P v B t
theorem run_cong {P Q : Nat → Bool} {v w : Nat → Nat} {B n : Nat} (h : ∀ i, i < n → P i = Q i) (hv : ∀ i, i < n → P i = true → v i = w i) : run P v B n = run Q w B n := by
  induction n with
  | zero => rfl
  | succ n ih =>
    have ih := ih (fun i hi => h i (by omega)) (fun i hi => hv i (by omega))
    have h1 := h n (by omega)
    have h2 := hv n (by omega)
    unfold run
    rw [← h1, ih]
    cases c : P n
    · rfl
    · rw [h2 c]
theorem run_le {P : Nat → Bool} {v : Nat → Nat} {B n i : Nat} (hi : i < n) (hp : P i = true) : run P v B n ≤ v i := by
  induction n with
  | zero => omega
  | succ n ih =>
    unfold run
    by_cases c : i = n
    · subst c
      rw [if_pos hp]
      split <;> omega
    · have := ih (by omega)
      split
      · split <;> omega
      · omega
theorem run_B {P : Nat → Bool} {v : Nat → Nat} {B n : Nat} : run P v B n ≤ B := by
  induction n with
  | zero => exact Nat.le_refl _
  | succ n ih =>
    unfold run
    split
    · split <;> omega
    · omega
theorem run_min {P : Nat → Bool} {v : Nat → Nat} {B B' n : Nat} (h : B ≤ B') : run P v B n = if run P v B' n ≤ B then run P v B' n else B := by
  induction n with
  | zero => show B = if B' ≤ B then B' else B; split <;> omega
  | succ n ih =>
    unfold run
    rw [ih]
    cases P n
    · rfl
    · simp only [if_true]
      by_cases c : run P v B' n ≤ B
      · rw [if_pos c]
        by_cases d : v n ≤ run P v B' n
        · rw [if_pos d, if_pos (by omega)]
        · rw [if_neg d, if_pos c]
      · rw [if_neg c]
        by_cases d : v n ≤ run P v B' n
        · rw [if_pos d]
        · rw [if_neg d, if_neg (by omega), if_neg c]
theorem run_init {P : Nat → Bool} {v : Nat → Nat} {B B' n i : Nat} (h : B ≤ B') (hi : i < n) (hp : P i = true) (hv : v i ≤ B) : run P v B n = run P v B' n := by
  rw [run_min h, if_pos]
  have := run_le (v := v) (B := B') hi hp
  omega
theorem run_add {P Q : Nat → Bool} {v : Nat → Nat} {B n i : Nat} (hi : i < n) (hp : P i = false) (hq : Q i = true) (h : ∀ j, j < n → ¬ j = i → P j = Q j) : run Q v B n = if v i ≤ run P v B n then v i else run P v B n := by
  induction n with
  | zero => omega
  | succ n ih =>
    by_cases c : i = n
    · subst c
      have e : run Q v B i = run P v B i := run_cong (fun j hj => (h j (by omega) (by omega)).symm) (fun _ _ _ => rfl)
      unfold run
      rw [e, hp, hq]
      simp only [if_true, Bool.false_eq_true, if_false]
    · have e := ih (by omega) (fun j hj => h j (by omega))
      have e2 := h n (by omega) (fun q => c q.symm)
      unfold run
      rw [e, ← e2]
      cases P n
      · rfl
      · simp only [if_true]
        repeat' split
        all_goals omega
/-! sets by bits -/
theorem bit_some {t : Nat} (h0 : ¬ t = 0) (h : t < 256) : ∃ g, g < 8 ∧ bitB t g = true := by
  have key : ∀ t : Fin 256, ¬ t.1 = 0 → ∃ g : Fin 8, bitB t.1 g.1 = true := by decide +kernel
  obtain ⟨g, hg⟩ := key ⟨t, h⟩ h0
  exact ⟨g.1, g.2, hg⟩
theorem bit_facts {t g : Nat} (h : t < 256) (hg : g < 8) (hb : bitB t g = true) : 2 ^ g ≤ t ∧ pc (t - 2 ^ g) + 1 = pc t ∧ bitB (t - 2 ^ g) g = false ∧ 0 < 2 ^ g := by
  have key : ∀ t : Fin 256, ∀ g : Fin 8, bitB t.1 g.1 = true → 2 ^ g.1 ≤ t.1 ∧ pc (t.1 - 2 ^ g.1) + 1 = pc t.1 ∧ bitB (t.1 - 2 ^ g.1) g.1 = false ∧ 0 < 2 ^ g.1 := by decide +kernel
  exact key ⟨t, h⟩ ⟨g, hg⟩ hb
theorem bit_add {t g : Nat} (h : t < 256) (hg : g < 8) (hb : bitB t g = false) : t + 2 ^ g < 256 ∧ pc (t + 2 ^ g) = pc t + 1 ∧ bitB (t + 2 ^ g) g = true ∧ nI t ||| (nI 1 <<< (nI g &&& nI 31)) = nI (t + 2 ^ g) := by
  have key : ∀ t : Fin 256, ∀ g : Fin 8, bitB t.1 g.1 = false → t.1 + 2 ^ g.1 < 256 ∧ pc (t.1 + 2 ^ g.1) = pc t.1 + 1 ∧ bitB (t.1 + 2 ^ g.1) g.1 = true ∧ nI t.1 ||| (nI 1 <<< (nI g.1 &&& nI 31)) = nI (t.1 + 2 ^ g.1) := by decide +kernel
  exact key ⟨t, h⟩ ⟨g, hg⟩ hb
theorem bit_or {t g : Nat} (h : t < 256) (hg : g < 8) (hb : bitB t g = true) : nI t ||| (nI 1 <<< (nI g &&& nI 31)) = nI t ∧ nI t &&& ((nI 1 <<< (nI g &&& nI 31)) ^^^ (-nI 1)) = nI (t - 2 ^ g) := by
  have key : ∀ t : Fin 256, ∀ g : Fin 8, bitB t.1 g.1 = true → nI t.1 ||| (nI 1 <<< (nI g.1 &&& nI 31)) = nI t.1 ∧ nI t.1 &&& ((nI 1 <<< (nI g.1 &&& nI 31)) ^^^ (-nI 1)) = nI (t.1 - 2 ^ g.1) := by decide +kernel
  exact key ⟨t, h⟩ ⟨g, hg⟩ hb
theorem pow_ne {g h : Nat} (hg : g < 8) (hh : h < 8) (e : 2 ^ g = 2 ^ h) : g = h := by
  have key : ∀ g : Fin 8, ∀ h : Fin 8, 2 ^ g.1 = 2 ^ h.1 → g.1 = h.1 := by decide +kernel
  exact key ⟨g, hg⟩ ⟨h, hh⟩ e
theorem pc_0 : pc 0 = 0 := rfl
theorem pc_full {n : Nat} (h : n ≤ 8) : pc (2 ^ n - 1) = n ∧ 2 ^ n - 1 < 256 := by
  have key : ∀ n : Fin 9, pc (2 ^ n.1 - 1) = n.1 ∧ 2 ^ n.1 - 1 < 256 := by decide +kernel
  exact key ⟨n, by omega⟩
theorem pc_pos {t : Nat} (h0 : ¬ t = 0) (h : t < 256) : 0 < pc t := by
  obtain ⟨g, hg, hb⟩ := bit_some h0 h
  have := bit_facts h hg hb
  omega
section DP
variable (F : Nat → Nat → Nat)
def Lf : Nat → Nat → Nat
  | 0, _ => 0
  | k + 1, t => if t = 0 then 0 else run (bitB t) (fun g => Lf k (t - 2 ^ g) + F (pc t - 1) g) 100000 8
def LL (t : Nat) : Nat := Lf F t t
def vv (t g : Nat) : Nat := LL F (t - 2 ^ g) + F (pc t - 1) g
theorem Lf_st {k t : Nat} (ht : t < 256) (h : t ≤ k) : Lf F k t = LL F t := by
  have key : ∀ t, t < 256 → ∀ k k', t ≤ k → t ≤ k' → Lf F k t = Lf F k' t := by
    intro t
    induction t using Nat.strongRecOn with
    | ind t ih =>
      intro ht k k' hk hk'
      by_cases c : t = 0
      · subst c
        cases k <;> cases k' <;> rfl
      · obtain ⟨q, rfl⟩ : ∃ q, k = q + 1 := ⟨k - 1, by omega⟩
        obtain ⟨q', rfl⟩ : ∃ q', k' = q' + 1 := ⟨k' - 1, by omega⟩
        unfold Lf
        rw [if_neg c, if_neg c]
        refine run_cong (fun _ _ => rfl) (fun g hg hb => ?_)
        have hf := bit_facts ht hg hb
        rw [ih (t - 2 ^ g) (by omega) (by omega) q q' (by omega) (by omega)]
  exact key t ht k t h (Nat.le_refl _)
theorem LL_0 : LL F 0 = 0 := rfl
theorem LL_s {t : Nat} (h0 : ¬ t = 0) (ht : t < 256) : LL F t = run (bitB t) (vv F t) 100000 8 := by
  have e : LL F t = Lf F (t + 1) t := (Lf_st F ht (by omega)).symm
  rw [e]
  unfold Lf
  rw [if_neg h0]
  refine run_cong (fun _ _ => rfl) (fun g hg hb => ?_)
  have hf := bit_facts ht hg hb
  unfold vv
  rw [Lf_st F (by omega) (by omega)]
theorem LL_le {n : Nat} (hF : ∀ o g, o < n → g < 8 → F o g ≤ 99) {t : Nat} (ht : t < 256) (hp : pc t ≤ n) : LL F t ≤ 99 * pc t := by
  induction t using Nat.strongRecOn with
  | ind t ih =>
    by_cases c : t = 0
    · subst c; rw [LL_0]; exact Nat.zero_le _
    · obtain ⟨g, hg, hb⟩ := bit_some c ht
      have hf := bit_facts ht hg hb
      have h1 := ih (t - 2 ^ g) (by omega) (by omega) (by omega)
      have h2 := hF (pc t - 1) g (by omega) hg
      have h3 := run_le (v := vv F t) (B := 100000) hg hb
      have e : vv F t g = LL F (t - 2 ^ g) + F (pc t - 1) g := rfl
      rw [LL_s F c ht]
      omega
theorem vv_le {n : Nat} (hF : ∀ o g, o < n → g < 8 → F o g ≤ 99) {t g : Nat} (ht : t < 256) (hp : pc t ≤ n) (hg : g < 8) (hb : bitB t g = true) : vv F t g ≤ 99 * pc t := by
  have hf := bit_facts ht hg hb
  have h1 := LL_le F hF (t := t - 2 ^ g) (by omega) (by omega)
  have h2 := hF (pc t - 1) g (by omega) hg
  unfold vv
  omega
/-- what has come to a set, when those below s, and s for the first i godmothers, have been met -/
def okP (n s i t g : Nat) : Bool := bitB t g && decide (pc t ≤ n) && decide (t - 2 ^ g < s ∨ (t - 2 ^ g = s ∧ g < i))
def cl (n s i t : Nat) : Nat := if t = 0 then 0 else run (okP n s i t) (vv F t) 10000 8
theorem cl_self {n : Nat} (hn : n ≤ 8) (hF : ∀ o g, o < n → g < 8 → F o g ≤ 99) {s : Nat} (hs : s < 256) (hp : pc s ≤ n) (i : Nat) : cl F n s i s = LL F s := by
  unfold cl
  by_cases c : s = 0
  · subst c; rw [if_pos rfl, LL_0]
  · rw [if_neg c, LL_s F c hs]
    obtain ⟨g, hg, hb⟩ := bit_some c hs
    have hv := vv_le F hF hs hp hg hb
    rw [← run_init (P := bitB s) (v := vv F s) (B := 10000) (B' := 100000) (by omega) hg hb (by omega)]
    refine run_cong (fun g hg => ?_) (fun _ _ _ => rfl)
    unfold okP
    cases hb : bitB s g
    · rfl
    · have hf := bit_facts hs hg hb
      rw [decide_eq_true hp, decide_eq_true (Or.inl (by omega))]; rfl
theorem cl_step {n s i : Nat} (hs : s < 256) (hi : i < 8) (hb : bitB s i = false) (hp : pc s < n) {t : Nat} (ht : t < 256) : cl F n s (i + 1) t = if t = s + 2 ^ i then (if LL F s + F (pc s) i ≤ cl F n s i t then LL F s + F (pc s) i else cl F n s i t) else cl F n s i t := by
  have ha := bit_add hs hi hb
  by_cases c : t = s + 2 ^ i
  · rw [if_pos c]
    subst c
    unfold cl
    have h2 := Nat.two_pow_pos i
    simp only [if_neg (show ¬ s + 2 ^ i = 0 by omega)]
    have e : LL F s + F (pc s) i = vv F (s + 2 ^ i) i := by
      unfold vv
      rw [Nat.add_sub_cancel, ha.2.1, Nat.add_sub_cancel]
    rw [e]
    refine run_add hi ?_ ?_ (fun g hg hne => ?_)
    · unfold okP
      rw [decide_eq_false (p := s + 2 ^ i - 2 ^ i < s ∨ _) (by omega)]
      exact Bool.and_false _
    · unfold okP
      rw [ha.2.2.1, decide_eq_true (by omega), decide_eq_true (Or.inr ⟨by omega, by omega⟩)]; rfl
    · unfold okP
      cases hb2 : bitB (s + 2 ^ i) g
      · rfl
      · have hf := bit_facts ha.1 hg hb2
        have : ¬ s + 2 ^ i - 2 ^ g = s := fun q => hne (pow_ne hg hi (by omega))
        have e1 : decide (s + 2 ^ i - 2 ^ g < s ∨ (s + 2 ^ i - 2 ^ g = s ∧ g < i)) = decide (s + 2 ^ i - 2 ^ g < s ∨ (s + 2 ^ i - 2 ^ g = s ∧ g < i + 1)) := by
          refine decide_eq_decide.mpr ?_
          constructor
          · rintro (q | q); exact Or.inl q; exact absurd q.1 this
          · rintro (q | q); exact Or.inl q; exact absurd q.1 this
        rw [e1]
  · rw [if_neg c]
    unfold cl
    by_cases d : t = 0
    · rw [if_pos d, if_pos d]
    · rw [if_neg d, if_neg d]
      refine run_cong (fun g hg => ?_) (fun _ _ _ => rfl)
      unfold okP
      cases hb2 : bitB t g
      · rfl
      · have hf := bit_facts ht hg hb2
        have e1 : decide (t - 2 ^ g < s ∨ (t - 2 ^ g = s ∧ g < i + 1)) = decide (t - 2 ^ g < s ∨ (t - 2 ^ g = s ∧ g < i)) := by
          refine decide_eq_decide.mpr ?_
          constructor
          · rintro (q | ⟨q1, q2⟩)
            · exact Or.inl q
            · by_cases g1 : g = i
              · subst g1; exact absurd (by omega) c
              · exact Or.inr ⟨q1, by omega⟩
          · rintro (q | ⟨q1, q2⟩); exact Or.inl q; exact Or.inr ⟨q1, by omega⟩
        rw [e1]
theorem cl_skip {n s i : Nat} (hs : s < 256) (hi : i < 8) (hb : bitB s i = true) {t : Nat} (ht : t < 256) : cl F n s (i + 1) t = cl F n s i t := by
  unfold cl
  by_cases d : t = 0
  · rw [if_pos d, if_pos d]
  · rw [if_neg d, if_neg d]
    refine run_cong (fun g hg => ?_) (fun _ _ _ => rfl)
    unfold okP
    cases hb2 : bitB t g
    · rfl
    · have hf := bit_facts ht hg hb2
      have e1 : decide (t - 2 ^ g < s ∨ (t - 2 ^ g = s ∧ g < i + 1)) = decide (t - 2 ^ g < s ∨ (t - 2 ^ g = s ∧ g < i)) := by
        refine decide_eq_decide.mpr ?_
        constructor
        · rintro (q | ⟨q1, q2⟩)
          · exact Or.inl q
          · by_cases g1 : g = i
            · subst g1
              rw [q1, hb] at hf
              exact absurd hf.2.2.1 (by decide)
            · exact Or.inr ⟨q1, by omega⟩
        · rintro (q | ⟨q1, q2⟩); exact Or.inl q; exact Or.inr ⟨q1, by omega⟩
      rw [e1]
theorem cl_next {n s t : Nat} (ht : t < 256) : cl F n s 8 t = cl F n (s + 1) 0 t := by
  unfold cl
  by_cases d : t = 0
  · rw [if_pos d, if_pos d]
  · rw [if_neg d, if_neg d]
    refine run_cong (fun g hg => ?_) (fun _ _ _ => rfl)
    unfold okP
    have e1 : decide (t - 2 ^ g < s ∨ (t - 2 ^ g = s ∧ g < 8)) = decide (t - 2 ^ g < s + 1 ∨ (t - 2 ^ g = s + 1 ∧ g < 0)) := by
      refine decide_eq_decide.mpr ?_
      constructor
      · rintro (q | ⟨q1, q2⟩); exact Or.inl (by omega); exact Or.inl (by omega)
      · rintro (q | ⟨q1, q2⟩)
        · by_cases z : t - 2 ^ g = s
          · exact Or.inr ⟨z, hg⟩
          · exact Or.inl (by omega)
        · omega
    rw [e1]
theorem cl_full {n s t : Nat} (ht : t < 256) (hp : n ≤ pc s) : cl F n s 0 t = cl F n (s + 1) 0 t := by
  unfold cl
  by_cases d : t = 0
  · rw [if_pos d, if_pos d]
  · rw [if_neg d, if_neg d]
    refine run_cong (fun g hg => ?_) (fun _ _ _ => rfl)
    unfold okP
    cases hb2 : bitB t g
    · rfl
    · have hf := bit_facts ht hg hb2
      by_cases c : pc t ≤ n
      · have z : ¬ t - 2 ^ g = s := fun q => by rw [q] at hf; omega
        have e1 : decide (t - 2 ^ g < s ∨ (t - 2 ^ g = s ∧ g < 0)) = decide (t - 2 ^ g < s + 1 ∨ (t - 2 ^ g = s + 1 ∧ g < 0)) := by
          refine decide_eq_decide.mpr ?_
          constructor
          · rintro (q | ⟨q1, q2⟩); exact Or.inl (by omega); omega
          · rintro (q | ⟨q1, q2⟩); exact Or.inl (by omega); omega
        rw [e1]
      · rw [decide_eq_false c]; rfl
theorem cl_0 {n t : Nat} (h : ¬ t = 0) : cl F n 0 0 t = 10000 := by
  unfold cl
  rw [if_neg h]
  have : run (okP n 0 0 t) (vv F t) 10000 8 = run (fun _ => false) (vv F t) 10000 8 := by
    refine run_cong (fun g hg => ?_) (fun _ _ _ => rfl)
    unfold okP
    rw [decide_eq_false (p := t - 2 ^ g < 0 ∨ _) (by omega), Bool.and_false]
  rw [this]
  rfl
/-- the best of all sets that are met -/
def bB (n B : Nat) (t : Nat) : Nat := run (fun s => decide (pc s = n)) (LL F) B t
theorem bB_eq {n : Nat} (hn : n ≤ 8) (hF : ∀ o g, o < n → g < 8 → F o g ≤ 99) : bB F n 10000 256 = bB F n 100000 256 := by
  have hp := pc_full hn
  have hl := LL_le F hF hp.2 (by omega)
  exact run_init (i := 2 ^ n - 1) (by omega) hp.2 (decide_eq_true hp.1) (by omega)
end DP
