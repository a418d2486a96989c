/-! numbers -/
theorem lit (n : Nat) : (OfNat.ofNat n : Int32) = nI (OfNat.ofNat n) := Eq.trans rfl rfl
theorem litL (n : Nat) : (OfNat.ofNat n : Int64) = lN (OfNat.ofNat n) := Eq.trans rfl rfl
theorem bi_some {α β : Type} (r : α) (σ : Sg) (k : α → Sg → Option β) : bi_ (some (r, σ)) k = k r σ := rfl
theorem bp_some {α β : Type} (r : α) (k : α → Option β) : bp_ (some r) k = k r := rfl
theorem gd_tt {β : Type} (x : Option β) : gd_ true x = x := rfl
theorem lt_eq {α β : Type} (v : α) (k : α → Option β) : lt_ v k = k v := rfl
theorem on_N {β : Type} (A : Option β) (B : Nat → Option β) : on_ none A B = A := rfl
theorem on_S {β : Type} (j : Nat) (A : Option β) (B : Nat → Option β) : on_ (some j) A B = B j := rfl
theorem in_nI {k n : Nat} (h : k < n) (hn : n < 2 ^ 31) : in_ (nI k) n = true := by
  unfold in_
  exact decide_eq_true (nI_in h hn)
theorem lf_tt {j n : Nat} (h : j < n) : lf_ j n = true := decide_eq_true h
theorem bo_0 : bo_ (nI 0) = true := by decide
theorem bo_1 : bo_ (nI 1) = true := by decide
theorem nz_tt {k : Nat} (h : 0 < k) (hk : k < 2 ^ 31) : nz_ (nI k) = true := decide_eq_true (nI_ne0 h hk)
theorem rd_wr (σ : Sg) (k j : Nat) (v : Int32) (k' j' : Nat) : rd_ (wr_ σ k j v) k' j' = if k' = k ∧ j' = j then v else rd_ σ k' j' := by
  unfold rd_ wr_ va_up upd
  by_cases h : k' = k
  · subst h
    by_cases h2 : j' = j <;> simp [h2]
  · simp [h]
theorem rd_same (σ : Sg) (k j : Nat) (v : Int32) : rd_ (wr_ σ k j v) k j = v := by rw [rd_wr, if_pos ⟨rfl, rfl⟩]
theorem rd_k {σ : Sg} {k j : Nat} {v : Int32} {k' j' : Nat} (h : ¬ k' = k) : rd_ (wr_ σ k j v) k' j' = rd_ σ k' j' := by rw [rd_wr, if_neg (fun q => h q.1)]
theorem rd_j {σ : Sg} {k j : Nat} {v : Int32} {k' j' : Nat} (h : ¬ j' = j) : rd_ (wr_ σ k j v) k' j' = rd_ σ k' j' := by rw [rd_wr, if_neg (fun q => h q.2)]
theorem row_same (σ : Sg) (k j : Nat) (v : Int32) : (wr_ σ k j v).1 k = upd (σ.1 k) j v := by simp [wr_, va_up]
theorem row_k {σ : Sg} {k j : Nat} {v : Int32} {k' : Nat} (h : ¬ k' = k) : (wr_ σ k j v).1 k' = σ.1 k' := by simp [wr_, va_up, h]
theorem two_wr (σ : Sg) (k j : Nat) (v : Int32) : (wr_ σ k j v).2 = σ.2 := rfl
theorem rl_wr (σ : Sg) (k j : Nat) (v : Int32) (i : Nat) : rl_ (wr_ σ k j v) i = rl_ σ i := rfl
theorem rd_wl (σ : Sg) (j : Nat) (v : Int64) (k' j' : Nat) : rd_ (wl_ σ j v) k' j' = rd_ σ k' j' := rfl
theorem row_wl (σ : Sg) (j : Nat) (v : Int64) (k' : Nat) : (wl_ σ j v).1 k' = σ.1 k' := rfl
theorem rl_wl (σ : Sg) (j : Nat) (v : Int64) (i : Nat) : rl_ (wl_ σ j v) i = if i = j then v else rl_ σ i := rfl
theorem rd_row (σ : Sg) (k j : Nat) : rd_ σ k j = σ.1 k j := rfl
theorem rng (v : Int32) (b : Nat) (hb : b < 2 ^ 31) : (∃ k : Nat, k ≤ b ∧ v = nI k) ∨ (v < 0 ∨ nI b < v) := by
  by_cases h : v < 0
  · exact Or.inr (Or.inl h)
  · obtain ⟨j, hj, rfl⟩ := nI_of h
    by_cases h2 : j ≤ b
    · exact Or.inl ⟨j, h2, rfl⟩
    · exact Or.inr (Or.inr (nI_lt (by omega) hj))
theorem nI_n0 {k : Nat} (h : k < 2 ^ 31) : ¬ nI k < nI 0 := nI_pos h
theorem cw1 {k b : Nat} (h : k ≤ b) (hb : b < 2 ^ 31) : C_within_0 (nI k) (nI b) = some (nI 1) := by
  unfold C_within_0
  rw [if_neg (nI_pos (by omega)), if_neg (nI_nlt h hb)]
  rfl
theorem cw0 {v : Int32} {b : Nat} (h : v < 0 ∨ nI b < v) : C_within_0 v (nI b) = some (nI 0) := by
  unfold C_within_0
  rcases h with h | h
  · rw [if_pos h]; rfl
  · by_cases h2 : v < 0
    · rw [if_pos h2]; rfl
    · rw [if_neg h2, if_pos h]; rfl
theorem wide (k : Nat) (h : k < 2 ^ 31) : (nI k).toInt64 = lN k := nI_l h
theorem lc_lt {x y : Int64} (h : x < y) : lg_cmp x y = -1 := by
  unfold lg_cmp
  rw [if_neg (Int64.lt_asymm h), if_neg (Int64.ne_of_lt h)]
theorem lc_gt {x y : Int64} (h : y < x) : lg_cmp x y = 1 := by
  unfold lg_cmp
  rw [if_pos h]
theorem lc_eq (x : Int64) : lg_cmp x x = 0 := by
  unfold lg_cmp
  rw [if_neg (Int64.lt_irrefl), if_pos rfl]
theorem lc_le {x y : Int64} (h : x ≤ y) : lg_cmp x y = -1 ∨ lg_cmp x y = 0 := by
  by_cases e : x = y
  · subst e; exact Or.inr (lc_eq x)
  · exact Or.inl (lc_lt (Int64.lt_of_le_of_ne h e))
theorem mi1 {k lo b : Nat} (h1 : lo ≤ k) (h2 : k ≤ b) (hb : b < 2 ^ 31) : M_isIn_0 (nI k).toInt64 (lN lo) (lN b) = some (nI 1) := by
  unfold M_isIn_0
  rw [wide k (by omega)]
  have e1 : ¬ lg_cmp (lN k) (lN lo) < 0 := by
    by_cases e : k = lo
    · subst e; rw [lc_eq]; decide
    · rw [lc_gt ((lN_lt (by omega) (by omega)).mpr (by omega))]; decide
  have e2 : ¬ 0 < lg_cmp (lN k) (lN b) := by
    rcases lc_le ((lN_le (by omega) (by omega)).mpr h2 : lN k ≤ lN b) with q | q <;> rw [q] <;> decide
  rw [if_neg e1, if_neg e2]
  rfl
theorem mi0 {v : Int32} {lo b : Nat} (hlo : lo < 2 ^ 31) (hb : b < 2 ^ 31) (h : v < nI lo ∨ nI b < v) : M_isIn_0 v.toInt64 (lN lo) (lN b) = some (nI 0) := by
  unfold M_isIn_0
  rw [← wide lo hlo, ← wide b hb]
  rcases h with h | h
  · rw [lc_lt ((Int32.toInt64_lt).mpr h), if_pos (by decide)]; rfl
  · by_cases h2 : lg_cmp v.toInt64 (nI lo).toInt64 < 0
    · rw [if_pos h2]; rfl
    · rw [if_neg h2, lc_gt ((Int32.toInt64_lt).mpr h), if_pos (by decide)]; rfl
