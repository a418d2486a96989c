/-! one year of one child -/
def vMv (p u k f : Nat) (y : Int32) : Nat := if k = 1 then f / 2 else if k = 2 then f + u else if k = 3 then f / 2 + p else if k = 4 then 2 * (f + u) else if k = 5 then (if y - y / nI 2 * nI 2 = nI 0 then f else 0) else f
def vEn (p k f : Nat) : Nat := if k = 1 then 25 else if k = 2 then 14 else if k = 3 then 25 - p else if k = 4 then 14 + f else 21
def ezb (E : Int32) (s : Nat) : Bool := decide (((E >>> (nI s &&& nI 31)) &&& nI 1) = nI 1)
def vGo (t b v : Nat) (e : Bool) : Nat := if e = true then (if v ≤ t then (if v ≤ t - b then t - b else v) else (if t + b ≤ v then t + b else v)) else (if t < v then t - b else (if t + b ≤ 99 then t + b else 99))
def mT (p u : Nat) (V : Nat → Nat) (E y : Int32) (k t f a s : Nat) : Nat := if a < vEn p k f then vGo t (vMv p u k f y) (V s) (ezb E s) else t
def up1 (a : Nat) : Nat := if a + 1 ≤ 99 then a + 1 else 99
def lv (h : Nat → Int32) (k t f w a s : Nat) : Prop := (k ≤ 5 ∧ t ≤ 99 ∧ f ≤ 9 ∧ w ≤ 99 ∧ a ≤ 99 ∧ s ≤ 7) ∧ h 0 = nI k ∧ h 1 = nI t ∧ h 2 = nI f ∧ h 3 = nI w ∧ h 4 = nI a ∧ h 5 = nI s
def ev (l v : Nat → Int32) (p u : Nat) (V : Nat → Nat) : Prop := p ≤ 9 ∧ u ≤ 9 ∧ l 0 = nI p ∧ l 1 = nI u ∧ ∀ i, i < 8 → V i ≤ 99 ∧ v i = nI (V i)
theorem vMv_le {p u k f : Nat} {y : Int32} (hp : p ≤ 9) (hu : u ≤ 9) (hf : f ≤ 9) : vMv p u k f y ≤ 36 := by
  unfold vMv
  repeat' split
  all_goals omega
theorem vEn_le {p k f : Nat} (hf : f ≤ 9) : vEn p k f ≤ 25 := by
  unfold vEn
  repeat' split
  all_goals omega
theorem vGo_le {t b v : Nat} {e : Bool} (ht : t ≤ 99) (hv : v ≤ 99) : vGo t b v e ≤ 99 := by
  unfold vGo
  repeat' split
  all_goals omega
theorem mT_le {p u : Nat} {V : Nat → Nat} {E y : Int32} {k t f a s : Nat} (ht : t ≤ 99) (hv : V s ≤ 99) : mT p u V E y k t f a s ≤ 99 := by
  unfold mT
  split
  · exact vGo_le ht hv
  · exact ht
theorem up1_le (a : Nat) : up1 a ≤ 99 := by unfold up1; split <;> omega
theorem six {k : Nat} (h : k ≤ 5) : k = 0 ∨ k = 1 ∨ k = 2 ∨ k = 3 ∨ k = 4 ∨ k = 5 := by omega
section YM
variable {σ : Sg} {o k t f w a s p u : Nat} {V : Nat → Nat}
theorem mmoves (ho : o < 8) (h : lv (fun w => σ.1 1 (16 + 6 * o + w)) k t f w a s) (e : ev (fun i => σ.1 1 (3 + i)) (fun i => σ.1 1 (8 + i)) p u V) : M_moves_0 σ (nI o) = some (nI (vMv p u k f (σ.1 1 1)), σ) := by
  obtain ⟨⟨b1, b2, b3, b4, b5, b6⟩, h0, h1, h2, h3, h4, h5⟩ := h
  obtain ⟨e1, e2, e3, e4, e5⟩ := e
  simp only [Nat.add_zero] at h0 e3
  have e4' : σ.1 1 4 = nI u := e4
  rcases six b1 with rfl | rfl | rfl | rfl | rfl | rfl <;> simp (disch := omega) only [M_moves_0, lit, itsY, bi_some, rd_row, Nat.add_zero, h0, h2, e3, e4', nI_eq, if_neg, if_true, pk_div, nI_add, pk_mul, vMv]
  split <;> rfl
theorem mends (ho : o < 8) (h : lv (fun w => σ.1 1 (16 + 6 * o + w)) k t f w a s) (e : ev (fun i => σ.1 1 (3 + i)) (fun i => σ.1 1 (8 + i)) p u V) : M_ends_0 σ (nI o) = some (nI (vEn p k f), σ) := by
  obtain ⟨⟨b1, b2, b3, b4, b5, b6⟩, h0, h1, h2, h3, h4, h5⟩ := h
  obtain ⟨e1, e2, e3, e4, e5⟩ := e
  simp only [Nat.add_zero] at h0 e3
  rcases six b1 with rfl | rfl | rfl | rfl | rfl | rfl <;> simp (disch := omega) only [M_ends_0, lit, itsY, bi_some, rd_row, Nat.add_zero, h0, h2, e3, nI_eq, if_neg, if_true, pk_sub, nI_add, vEn]
theorem myoung (ho : o < 8) (h : lv (fun w => σ.1 1 (16 + 6 * o + w)) k t f w a s) (e : ev (fun i => σ.1 1 (3 + i)) (fun i => σ.1 1 (8 + i)) p u V) : M_isYoung_0 σ (nI o) = some (if a < vEn p k f then nI 1 else nI 0, σ) := by
  have hm := mends ho h e
  obtain ⟨⟨b1, b2, b3, b4, b5, b6⟩, h0, h1, h2, h3, h4, h5⟩ := h
  have := vEn_le (p := p) (k := k) b3
  by_cases c : a < vEn p k f <;> simp (disch := omega) only [M_isYoung_0, lit, itsY, bi_some, rd_row, h4, hm, nI_leI, if_pos, if_neg]
theorem mleast (a b : Nat) (ha : a < 2 ^ 31) (hb : b < 2 ^ 31) : M_least_0 (nI a) (nI b) = some (nI (if b ≤ a then b else a)) := by
  by_cases c : b ≤ a <;> simp (disch := omega) only [M_least_0, nI_leI, if_pos, if_neg]
theorem mgreatest {v t b : Nat} (hv : v ≤ 99) (ht : t ≤ 99) (hb : b ≤ 99) : M_greatest_0 (nI v) (nI t - nI b) = some (nI (if v ≤ t - b then t - b else v)) := by
  unfold M_greatest_0
  by_cases c : b ≤ t
  · rw [pk_sub c]
    by_cases d : v ≤ t - b <;> simp (disch := omega) only [nI_leI, if_pos, if_neg]
  · by_cases d : v = 0
    · subst d
      have e : ¬ nI 0 ≤ nI t - nI b := fun q => absurd (pk_sneg (a := t) (b := b) (by omega) (by omega)) (Int32.not_lt.mpr q)
      have z : t - b = 0 := by omega
      rw [if_neg e, z, if_pos (by omega)]
    · have e : ¬ nI v ≤ nI t - nI b := fun q => by
        have h1 := Int32.le_iff_toInt_le.mp q
        rw [pk_sub_toInt (by omega) (by omega), nI_toInt (by omega)] at h1
        omega
      rw [if_neg e, if_neg (by omega)]
theorem mwithin (a : Nat) (ha : a < 2 ^ 31) : M_within_0 (nI a) = some (nI (if a ≤ 99 then a else 99)) := by
  by_cases c : a ≤ 99 <;> simp (disch := omega) only [M_within_0, lit, nI_leI, if_pos, if_neg]
theorem mwithin_neg {t b : Nat} (ht : t ≤ 99) (hb : b ≤ 99) : M_within_0 (nI t - nI b) = some (nI (t - b)) := by
  by_cases c : b ≤ t
  · rw [pk_sub c, mwithin _ (by omega), if_pos (by omega)]
  · have e : ¬ 0 ≤ nI t - nI b := fun q => absurd (pk_sneg (a := t) (b := b) (by omega) (by omega)) (Int32.not_lt.mpr q)
    have z : t - b = 0 := by omega
    rw [M_within_0, if_neg e, z]
    rfl
theorem mmoved (ho : o < 8) (h : lv (fun w => σ.1 1 (16 + 6 * o + w)) k t f w a s) (e : ev (fun i => σ.1 1 (3 + i)) (fun i => σ.1 1 (8 + i)) p u V) : M_moved_0 σ (nI o) = some (nI (vGo t (vMv p u k f (σ.1 1 1)) (V s) (ezb (σ.1 1 7) s)), σ) := by
  have hm := mmoves ho h e
  obtain ⟨⟨b1, b2, b3, b4, b5, b6⟩, h0, h1, h2, h3, h4, h5⟩ := h
  obtain ⟨e1, e2, e3, e4, e5⟩ := e
  obtain ⟨v1, v2⟩ := e5 s (by omega)
  have hb := vMv_le (p := p) (u := u) (k := k) (f := f) (y := σ.1 1 1) e1 e2 b3
  generalize vMv p u k f (σ.1 1 1) = b at hm hb
  by_cases c : ((σ.1 1 7 >>> (nI s &&& nI 31)) &&& nI 1) = nI 1
  · have ce : ezb (σ.1 1 7) s = true := decide_eq_true c
    by_cases d : V s ≤ t <;> simp (disch := omega) only [M_moved_0, lit, itsY, bi_some, rd_row, h1, h5, hm, nI_add, lt_eq, in_nI, gd_tt, nI_clamp, v2, c, if_true, nI_leI, if_pos, if_neg, mgreatest, mleast, bp_some, vGo, ce]
  · have ce : ezb (σ.1 1 7) s = false := decide_eq_false c
    by_cases d : t < V s <;> simp (disch := omega) only [M_moved_0, M_moved_90, lit, itsY, bi_some, rd_row, h1, h5, hm, nI_add, lt_eq, in_nI, gd_tt, nI_clamp, v2, c, if_false, nI_ltI, if_pos, if_neg, mwithin, mwithin_neg, bp_some, vGo, ce, Bool.false_eq_true]
end YM
