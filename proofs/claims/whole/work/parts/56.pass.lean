theorem wr_self {σ : Sg} {k j : Nat} {v : Int32} (h : rd_ σ k j = v) : wr_ σ k j v = σ := by
  refine Prod.ext ?_ rfl
  funext q
  by_cases e : q = k
  · subst e
    funext i
    by_cases e2 : i = j
    · subst e2; simp only [wr_, va_up, if_true, upd]; exact h.symm
    · simp only [wr_, va_up, if_true, upd, e2, if_false]
  · simp only [wr_, va_up, e, if_false]
def pa (σ : Sg) (j t a : Nat) : Sg := wr_ (wr_ σ (34 + j) 1 (nI t)) (34 + j) 4 (nI a)
theorem pa_ag {S : Nat → Nat → Prop} {σ : Sg} {j t a : Nat} (h1 : S (34 + j) 1) (h4 : S (34 + j) 4) : ag S σ (pa σ j t a) := (ag.rf.wr h1).wr h4
theorem held_p {a : Nat} (ha : a < 2 ^ 31) : C_held_0 (nI a) = some (nI (if a ≤ 99 then a else 99)) := by
  unfold C_held_0
  rw [lit, lit]
  by_cases c : a < 99
  · rw [if_pos (show a ≤ 99 by omega), if_pos ((nI_ltI ha (by omega)).mpr c)]
    by_cases d : a = 0
    · subst d; rw [if_neg (by decide)]
    · rw [if_pos ((nI_ltI (by omega) (by omega)).mpr (by omega))]
  · rw [if_neg (fun q => c ((nI_ltI ha (by omega)).mp q)), if_pos (by decide)]
    by_cases d : a = 99
    · subst d; rfl
    · rw [if_neg (show ¬ a ≤ 99 by omega)]
theorem held_n {t b : Nat} (ht : t ≤ 99) (hb : b ≤ 99) : C_held_0 (nI t - nI b) = some (nI (t - b)) := by
  by_cases c : b ≤ t
  · rw [pk_sub c, held_p (by omega), if_pos (by omega)]
  · have e : nI t - nI b < 0 := pk_sneg (a := t) (b := b) (by omega) (by omega)
    have z : t - b = 0 := by omega
    unfold C_held_0
    have e2 : nI t - nI b < 99 := by
      rw [Int32.lt_iff_toInt_lt] at e ⊢
      have h1 : (0 : Int32).toInt = 0 := by decide
      have h2 : (99 : Int32).toInt = 99 := by decide
      omega
    rw [if_pos e2, if_neg (Int32.not_lt.mpr (Int32.le_of_lt e)), z]
    rfl
section YC
variable {σ : Sg} {j k t f w a s p u : Nat} {V : Nat → Nat}
theorem ckind (hj : j < 25) (hk : k ≤ 5) (h : rd_ σ (34 + j) 0 = nI k) : C1_kindOf_0 σ j = some (k, σ) := by
  simp (disch := omega) only [C1_kindOf_0, lf_tt, gd_tt, h, lit, cw1, bp_some, nI_eq, if_neg, lt_eq, in_nI, nI_clamp]
theorem cends (hj : j < 25) (h : lv (fun w => rd_ σ (34 + j) w) k t f w a s) (e : ev (fun i => rd_ σ 4 i) (fun i => rd_ σ 7 i) p u V) : C1_endsOf_0 σ j = some (nI (vEn p k f), σ) := by
  obtain ⟨⟨b1, b2, b3, b4, b5, b6⟩, h0, h1, h2, h3, h4, h5⟩ := h
  obtain ⟨e1, e2, e3, e4, e5⟩ := e
  have e3' : rd_ σ 4 0 = nI p := e3
  rcases six b1 with rfl | rfl | rfl | rfl | rfl | rfl <;> simp (disch := omega) only [C1_endsOf_0, ckind hj b1 h0, lf_tt, gd_tt, bi_some, h2, if_neg, if_true, C0_ends_k0_0, C5_ends_k1_0, C0_ends_k1_0, C10_ends_k2_0, C0_ends_k2_0, C3_ends_k3_0, C5_ends_k3_0, C0_ends_k3_0, C7_ends_k4_0, C10_ends_k4_0, C0_ends_k4_0, C0_ends_k5_0, lit, nI_add, pk_sub, e3', vEn]
theorem cmoves (hj : j < 25) (h : lv (fun w => rd_ σ (34 + j) w) k t f w a s) (e : ev (fun i => rd_ σ 4 i) (fun i => rd_ σ 7 i) p u V) : C1_movesOf_0 σ j = some (nI (vMv p u k f (rd_ σ 1 4)), σ) := by
  obtain ⟨⟨b1, b2, b3, b4, b5, b6⟩, h0, h1, h2, h3, h4, h5⟩ := h
  obtain ⟨e1, e2, e3, e4, e5⟩ := e
  have e3' : rd_ σ 4 0 = nI p := e3
  have e4' : rd_ σ 4 1 = nI u := e4
  rcases six b1 with rfl | rfl | rfl | rfl | rfl | rfl <;> simp (disch := omega) only [C1_movesOf_0, ckind hj b1 h0, lf_tt, gd_tt, bi_some, h2, if_neg, if_true, C0_moves_k0_0, C5_moves_k1_0, C0_moves_k1_0, C10_moves_k2_0, C0_moves_k2_0, C3_moves_k3_0, C5_moves_k3_0, C0_moves_k3_0, C7_moves_k4_0, C10_moves_k4_0, C0_moves_k4_0, C0_moves_k5_0, C9_moves_k5_0, lit, nI_add, pk_mul, pk_div, e3', e4', vMv, Nat.mul_comm]
  split <;> rfl
theorem cmove {b v : Nat} {z : Int32} {e : Bool} (hj : j < 25) (ht : t ≤ 99) (hb : b ≤ 36) (hv : v ≤ 99) (h1 : rd_ σ (34 + j) 1 = nI t) (hz : z = if e = true then nI 1 else nI 0) : C6_move_0 σ j (nI b) (nI v) z = some ((), wr_ σ (34 + j) 1 (nI (vGo t b v e))) := by
  cases e
  · have : z = nI 0 := hz
    subst this
    by_cases d : t < v <;> simp (disch := omega) only [C6_move_0, C6_move_28, lit, if_true, lf_tt, gd_tt, h1, nI_ltI, if_pos, if_neg, held_n, nI_add, held_p, bp_some, lt_eq, vGo, Bool.false_eq_true, if_false]
  · have : z = nI 1 := hz
    subst this
    by_cases d : v ≤ t
    · have e1 : (if nI v < nI t - nI b then nI t - nI b else nI v) = nI (if v ≤ t - b then t - b else v) := by
        by_cases c : b ≤ t
        · rw [pk_sub c]
          by_cases c2 : v < t - b
          · simp (disch := omega) only [nI_ltI, if_pos]
          · rw [if_neg (by rw [nI_ltI (by omega) (by omega)]; exact c2)]
            by_cases c3 : v ≤ t - b
            · rw [if_pos c3, show v = t - b by omega]
            · rw [if_neg c3]
        · have e : nI t - nI b < 0 := pk_sneg (a := t) (b := b) (by omega) (by omega)
          have e2 : ¬ nI v < nI t - nI b := by
            rw [Int32.lt_iff_toInt_lt] at e ⊢
            rw [nI_toInt (by omega)]
            have h1 : (0 : Int32).toInt = 0 := by decide
            omega
          rw [if_neg e2]
          by_cases c3 : v ≤ t - b
          · rw [if_pos c3, show v = t - b by omega]
          · rw [if_neg c3]
      simp (disch := omega) only [C6_move_0, lit, nI_eq, if_neg, if_true, lf_tt, gd_tt, h1, nI_leI, if_pos, lt_eq, vGo, e1]
    · have e1 : (if nI t + nI b < nI v then nI t + nI b else nI v) = nI (if t + b ≤ v then t + b else v) := by
        rw [nI_add]
        by_cases c2 : t + b < v
        · simp (disch := omega) only [nI_ltI, if_pos]
        · rw [if_neg (by rw [nI_ltI (by omega) (by omega)]; exact c2)]
          by_cases c3 : t + b ≤ v
          · rw [if_pos c3, show v = t + b by omega]
          · rw [if_neg c3]
      simp (disch := omega) only [C6_move_0, lit, nI_eq, if_neg, if_true, lf_tt, gd_tt, h1, nI_leI, if_pos, lt_eq, vGo, e1]
theorem c63 (hj : j < 25) (ha : a ≤ 99) (h : rd_ σ (34 + j) 4 = nI a) : C1_passYearOf_63 σ j = some ((), wr_ σ (34 + j) 4 (nI (up1 a))) := by
  by_cases c : a + 1 < 99
  · simp (disch := omega) only [C1_passYearOf_63, lf_tt, gd_tt, h, lit, nI_add, nI_ltI, if_pos, lt_eq, up1]
  · have : up1 a = 99 := by unfold up1; split <;> omega
    simp (disch := omega) only [C1_passYearOf_63, lf_tt, gd_tt, h, lit, nI_add, nI_ltI, if_neg, lt_eq, this]
theorem ceasy {g : Nat} (hg : g < 8) : C1_isEasy_0 σ (nI g) = some (if ezb (rd_ σ 1 2) g = true then nI 1 else nI 0, σ) := by
  unfold C1_isEasy_0 ezb
  simp only [lit]
  by_cases c : ((rd_ σ 1 2 >>> (nI g &&& nI 31)) &&& nI 1) = nI 1
  · rw [if_pos c, decide_eq_true c]; rfl
  · rw [if_neg c, decide_eq_false c]; rfl
theorem cpass {y : Int32} (hj : j < 25) (h : lv (fun w => rd_ σ (34 + j) w) k t f w a s) (e : ev (fun i => rd_ σ 4 i) (fun i => rd_ σ 7 i) p u V) : C1_passYearOf_0 σ j y = some ((), pa σ j (mT p u V (rd_ σ 1 2) y k t f a s) (up1 a)) := by
  have hl := h
  have he := e
  obtain ⟨⟨b1, b2, b3, b4, b5, b6⟩, h0, h1, h2, h3, h4, h5⟩ := h
  obtain ⟨e1, e2, e3, e4, e5⟩ := e
  have e3' : rd_ σ 4 0 = nI p := e3
  have e4' : rd_ σ 4 1 = nI u := e4
  obtain ⟨v1, v2⟩ := e5 s (by omega)
  have hen := vEn_le (p := p) (k := k) b3
  have hmv := vMv_le (p := p) (u := u) (k := k) (f := f) (y := y) e1 e2 b3
  have E : (if k = 0 then C0_ends_k0_0 σ (nI f) else if k = 1 then C5_ends_k1_0 σ (nI f) else if k = 2 then C10_ends_k2_0 σ (nI f) else if k = 3 then C3_ends_k3_0 σ (nI f) else if k = 4 then C7_ends_k4_0 σ (nI f) else if k = 5 then C0_ends_k5_0 σ (nI f) else none) = some (nI (vEn p k f), σ) := by
    rcases six b1 with rfl | rfl | rfl | rfl | rfl | rfl <;> simp (disch := omega) only [bi_some, if_neg, if_true, C0_ends_k0_0, C5_ends_k1_0, C0_ends_k1_0, C10_ends_k2_0, C0_ends_k2_0, C3_ends_k3_0, C5_ends_k3_0, C0_ends_k3_0, C7_ends_k4_0, C10_ends_k4_0, C0_ends_k4_0, C0_ends_k5_0, lit, nI_add, pk_sub, e3', vEn]
  have M : (if k = 0 then C0_moves_k0_0 σ (nI f) y else if k = 1 then C5_moves_k1_0 σ (nI f) y else if k = 2 then C10_moves_k2_0 σ (nI f) y else if k = 3 then C3_moves_k3_0 σ (nI f) y else if k = 4 then C7_moves_k4_0 σ (nI f) y else if k = 5 then C9_moves_k5_0 σ (nI f) y else none) = some (nI (vMv p u k f y), σ) := by
    rcases six b1 with rfl | rfl | rfl | rfl | rfl | rfl <;> simp (disch := omega) only [bi_some, if_neg, if_true, C0_moves_k0_0, C5_moves_k1_0, C0_moves_k1_0, C10_moves_k2_0, C0_moves_k2_0, C3_moves_k3_0, C5_moves_k3_0, C0_moves_k3_0, C7_moves_k4_0, C10_moves_k4_0, C0_moves_k4_0, C0_moves_k5_0, C9_moves_k5_0, lit, nI_add, pk_mul, pk_div, e3', e4', vMv, Nat.mul_comm]
    split <;> rfl
  unfold C1_passYearOf_0
  rw [ckind hj b1 h0, bi_some, lf_tt hj, gd_tt]
  dsimp only at h2 h4 h5 h1 v2
  rw [h2, E, bi_some, h4]
  by_cases c : a < vEn p k f
  · rw [if_neg (nI_ge c (by omega)), h5, cgm1 (by omega), bp_some, if_neg (by decide), h2, M, bi_some, lt_eq, h5, in_nI (by omega) (by omega), gd_tt, ceasy (by omega), bi_some, nI_clamp (by omega), v2]
    rw [cmove (e := ezb (rd_ σ 1 2) s) hj b2 hmv v1 h1 rfl, bi_some, c63 hj b5 (by rw [rd_j (by omega)]; exact h4)]
    unfold pa mT
    rw [if_pos c]
  · rw [if_pos (nI_le (by omega) (by omega)), c63 hj b5 h4]
    unfold pa mT
    rw [if_neg c, wr_self h1]
end YC
