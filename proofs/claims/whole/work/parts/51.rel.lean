/-! the two states, held together -/
def m1 : Int32 := -1
theorem neg1 : -(nI 1) = m1 := rfl
theorem m1_lt {k : Nat} (h : k < 2 ^ 31) : m1 < nI k := by
  rw [Int32.lt_iff_toInt_lt, nI_toInt h]
  have : m1.toInt = -1 := by decide
  omega
theorem m1_ne {k : Nat} (h : k < 2 ^ 31) : ¬ nI k = m1 := fun q => by
  have := m1_lt h
  rw [q] at this
  exact Int32.lt_irrefl this
def bw (w : Nat) : Nat := if w = 0 then 5 else if w = 2 then 9 else if w = 5 then 7 else 99
def bl (i : Nat) : Nat := if i < 2 then 9 else 99
theorem bw_le (w : Nat) : bw w ≤ 99 := by unfold bw; split; omega; split; omega; split <;> omega
theorem bl_le (w : Nat) : bl w ≤ 99 := by unfold bl; split <;> omega
def gr (f : Nat → Int32) (n : Nat) : Prop := f 0 = nI n ∧ n ≤ 8 ∧ (∀ i, i < 4 → ∃ k, k ≤ bl i ∧ f (3 + i) = nI k) ∧ (∃ k, k < 256 ∧ f 7 = nI k) ∧ (∀ g, g < 8 → ∃ k, k ≤ 99 ∧ f (8 + g) = nI k) ∧ ∀ o, o < n → ∀ w, w < 6 → ∃ k, k ≤ bw w ∧ f (16 + 6 * o + w) = nI k
def rc (σ : Sg) (pC pL pV : Nat) (pl : Nat → Nat) (f : Nat → Int32) (n : Nat) : Prop := rd_ σ pC 2 = f 7 ∧ rd_ σ pC 3 = f 0 ∧ rd_ σ pC 4 = f 1 ∧ rd_ σ pC 5 = f 2 ∧ (∀ i, i < 4 → rd_ σ pL i = f (3 + i)) ∧ (∀ g, g < 8 → rd_ σ pV g = f (8 + g)) ∧ ∀ o, o < n → ∀ w, w < 6 → rd_ σ (pl o) w = f (16 + 6 * o + w)
def sgb (v : Nat) : Int32 := if v < 128 then nI v else nI v - nI 256
def RA (σc σm : Sg) (n : Nat) : Prop := gr (σm.1 1) n ∧ rc σc 1 4 7 (fun o => 34 + o) (σm.1 1) n
def RK (σc σm : Sg) : Prop := (rd_ σc 0 11 = nI 0 ∧ rd_ σm 0 4 = nI 0) ∨ (rd_ σc 0 11 = nI 1 ∧ rd_ σm 0 4 = nI 1 ∧ ∃ n, gr (σm.1 2) n ∧ rc σc 2 5 8 (fun o => 34 + (8 + o)) (σm.1 2) n)
def RT (σc σm : Sg) : Prop := ∃ t, t ≤ 200 ∧ rd_ σc 20 0 = nI t ∧ rd_ σm 0 6 = nI t ∧ ∀ i, i < t → ∃ v, v < 256 ∧ rd_ σm 5 i = nI v ∧ rd_ σc 21 i = sgb v
def RW (σc σm : Sg) : Prop := ∃ k, k ≤ 10 ∧ rd_ σc 0 10 = nI k ∧ rd_ σm 0 15 = nI k ∧ ∀ i, i < 30 → rd_ σc 31 i = rd_ σm 8 i
def rs1 (σc σm : Sg) (t : Nat) : Prop := (rd_ σc 23 t = m1 ∧ rd_ σm 9 t = m1 ∧ rd_ σc 24 t = nI 0 ∧ rd_ σm 10 t = nI 0) ∨ ∃ s z, s ≤ 3 ∧ z ≤ 40 ∧ rd_ σc 23 t = nI s ∧ rd_ σm 9 t = nI s ∧ rd_ σc 24 t = nI z ∧ rd_ σm 10 t = nI z ∧ ∀ i, i < z → rl_ σc (t * 40 + i) = (rd_ σm 11 (40 * t + i)).toInt64
def RS (σc σm : Sg) : Prop := ∀ t, t < 4 → rs1 σc σm t
def rh1 (σc σm : Sg) (h : Nat) : Prop := (∃ j, j ≤ 7 ∧ rd_ σm 12 h = nI 1 ∧ rd_ σm 13 h = nI j ∧ rd_ σc 25 h = m1 ∧ rd_ σc 27 h = nI j) ∨ (∃ s z, s ≤ 3 ∧ z ≤ 40 ∧ rd_ σm 12 h = nI 2 ∧ rd_ σm 13 h = nI s ∧ rd_ σm 14 h = nI z ∧ rd_ σc 25 h = nI s ∧ rd_ σc 26 h = nI z ∧ rd_ σc 27 h = m1) ∨ (rd_ σm 12 h = nI 0 ∧ rd_ σc 25 h = m1 ∧ rd_ σc 27 h = m1)
def RH (σc σm : Sg) : Prop := ∀ h, h < 4 → rh1 σc σm h
def RD (σc σm : Sg) : Prop := ∃ k, k ≤ 30 ∧ rd_ σc 29 1 = nI k ∧ rd_ σm 0 23 = nI k ∧ ∀ i, i < k → rd_ σc 30 i = rd_ σm 15 i
def R (σc σm : Sg) : Prop := (∃ n, RA σc σm n) ∧ RK σc σm ∧ RT σc σm ∧ RW σc σm ∧ RS σc σm ∧ RH σc σm ∧ RD σc σm
/-! agreement outside some places -/
def ag (S : Nat → Nat → Prop) (σ τ : Sg) : Prop := (∀ k j, ¬ S k j → rd_ τ k j = rd_ σ k j) ∧ ∀ i, rl_ τ i = rl_ σ i
theorem ag.rf {S : Nat → Nat → Prop} {σ : Sg} : ag S σ σ := ⟨fun _ _ _ => rfl, fun _ => rfl⟩
theorem ag.tr {S : Nat → Nat → Prop} {σ τ υ : Sg} (h1 : ag S σ τ) (h2 : ag S τ υ) : ag S σ υ := ⟨fun k j h => (h2.1 k j h).trans (h1.1 k j h), fun i => (h2.2 i).trans (h1.2 i)⟩
theorem ag.wr {S : Nat → Nat → Prop} {σ τ : Sg} (h1 : ag S σ τ) {k j : Nat} {v : Int32} (h : S k j) : ag S σ (wr_ τ k j v) := by
  refine ⟨fun k' j' h' => ?_, fun i => h1.2 i⟩
  rw [rd_wr, if_neg (fun q => h' (by rw [q.1, q.2]; exact h))]
  exact h1.1 k' j' h'
theorem ag.mo {S S' : Nat → Nat → Prop} {σ τ : Sg} (h1 : ag S σ τ) (h : ∀ k j, S k j → S' k j) : ag S' σ τ := ⟨fun k j q => h1.1 k j (fun z => q (h k j z)), h1.2⟩
theorem gr_cong {f g : Nat → Int32} {n : Nat} (h : gr f n) (e : ∀ i, i < 64 → g i = f i) : gr g n := by
  obtain ⟨h1, h2, h3, h4, h5, h6⟩ := h
  refine ⟨by rw [e 0 (by omega)]; exact h1, h2, fun i hi => by rw [e _ (by omega)]; exact h3 i hi, by rw [e 7 (by omega)]; exact h4, fun g hg => by rw [e _ (by omega)]; exact h5 g hg, fun o ho w hw => by rw [e _ (by omega)]; exact h6 o ho w hw⟩
theorem rc_cong {σ τ : Sg} {pC pL pV : Nat} {pl : Nat → Nat} {f g : Nat → Int32} {n : Nat} (h : rc σ pC pL pV pl f n) (hn : n ≤ 8) (e : ∀ i, i < 64 → g i = f i) (e1 : ∀ j, 2 ≤ j → j < 6 → rd_ τ pC j = rd_ σ pC j) (e2 : ∀ j, rd_ τ pL j = rd_ σ pL j) (e3 : ∀ j, rd_ τ pV j = rd_ σ pV j) (e4 : ∀ o j, o < n → rd_ τ (pl o) j = rd_ σ (pl o) j) : rc τ pC pL pV pl g n := by
  obtain ⟨h1, h2, h3, h4, h5, h6, h7⟩ := h
  refine ⟨by rw [e1 2 (by omega) (by omega), e 7 (by omega)]; exact h1, by rw [e1 3 (by omega) (by omega), e 0 (by omega)]; exact h2, by rw [e1 4 (by omega) (by omega), e 1 (by omega)]; exact h3, by rw [e1 5 (by omega) (by omega), e 2 (by omega)]; exact h4, fun i hi => by rw [e2, e _ (by omega)]; exact h5 i hi, fun g hg => by rw [e3, e _ (by omega)]; exact h6 g hg, fun o ho w hw => by rw [e4 o w ho, e _ (by omega)]; exact h7 o ho w hw⟩
section FRAMES
variable {S T : Nat → Nat → Prop} {σc σm τc τm : Sg}
theorem RA.fr {n : Nat} (h : RA σc σm n) (a : ag S σc τc) (b : ag T σm τm) (s1 : ∀ j, ¬ S 1 j) (s2 : ∀ j, ¬ S 4 j) (s3 : ∀ j, ¬ S 7 j) (s4 : ∀ o j, o < 8 → ¬ S (34 + o) j) (t1 : ∀ j, j < 64 → ¬ T 1 j) : RA τc τm n := by
  have hn := h.1.2.1
  exact ⟨gr_cong h.1 (fun i hi => b.1 1 i (t1 i hi)), rc_cong h.2 hn (fun i hi => b.1 1 i (t1 i hi)) (fun j _ _ => a.1 _ _ (s1 j)) (fun j => a.1 _ _ (s2 j)) (fun j => a.1 _ _ (s3 j)) (fun o j ho => a.1 _ _ (s4 o j (by omega)))⟩
theorem RK.fr (h : RK σc σm) (a : ag S σc τc) (b : ag T σm τm) (s0 : ¬ S 0 11) (s1 : ∀ j, ¬ S 2 j) (s2 : ∀ j, ¬ S 5 j) (s3 : ∀ j, ¬ S 8 j) (s4 : ∀ o j, o < 8 → ¬ S (34 + (8 + o)) j) (t0 : ¬ T 0 4) (t1 : ∀ j, j < 64 → ¬ T 2 j) : RK τc τm := by
  unfold RK
  rw [a.1 _ _ s0, b.1 _ _ t0]
  rcases h with h | ⟨h1, h2, n, h3, h4⟩
  · exact Or.inl h
  · exact Or.inr ⟨h1, h2, n, gr_cong h3 (fun i hi => b.1 2 i (t1 i hi)), rc_cong h4 h3.2.1 (fun i hi => b.1 2 i (t1 i hi)) (fun j _ _ => a.1 _ _ (s1 j)) (fun j => a.1 _ _ (s2 j)) (fun j => a.1 _ _ (s3 j)) (fun o j ho => a.1 _ _ (s4 o j (by have := h3.2.1; omega)))⟩
theorem RT.fr (h : RT σc σm) (a : ag S σc τc) (b : ag T σm τm) (s0 : ¬ S 20 0) (s1 : ∀ j, ¬ S 21 j) (t0 : ¬ T 0 6) (t1 : ∀ j, ¬ T 5 j) : RT τc τm := by
  obtain ⟨t, h1, h2, h3, h4⟩ := h
  exact ⟨t, h1, by rw [a.1 _ _ s0]; exact h2, by rw [b.1 _ _ t0]; exact h3, fun i hi => by rw [a.1 _ _ (s1 i), b.1 _ _ (t1 i)]; exact h4 i hi⟩
theorem RW.fr (h : RW σc σm) (a : ag S σc τc) (b : ag T σm τm) (s0 : ¬ S 0 10) (s1 : ∀ j, ¬ S 31 j) (t0 : ¬ T 0 15) (t1 : ∀ j, ¬ T 8 j) : RW τc τm := by
  obtain ⟨t, h1, h2, h3, h4⟩ := h
  exact ⟨t, h1, by rw [a.1 _ _ s0]; exact h2, by rw [b.1 _ _ t0]; exact h3, fun i hi => by rw [a.1 _ _ (s1 i), b.1 _ _ (t1 i)]; exact h4 i hi⟩
theorem rs1.fr {t : Nat} (h : rs1 σc σm t) (a : ag S σc τc) (b : ag T σm τm) (s1 : ¬ S 23 t) (s2 : ¬ S 24 t) (t1 : ¬ T 9 t) (t2 : ¬ T 10 t) (t3 : ∀ i, i < 40 → ¬ T 11 (40 * t + i)) : rs1 τc τm t := by
  unfold rs1
  rw [a.1 _ _ s1, a.1 _ _ s2, b.1 _ _ t1, b.1 _ _ t2]
  rcases h with h | ⟨s, z, h1, h2, h3, h4, h5, h6, h7⟩
  · exact Or.inl h
  · exact Or.inr ⟨s, z, h1, h2, h3, h4, h5, h6, fun i hi => by rw [a.2, b.1 _ _ (t3 i (by omega))]; exact h7 i hi⟩
theorem RS.fr (h : RS σc σm) (a : ag S σc τc) (b : ag T σm τm) (s1 : ∀ j, ¬ S 23 j) (s2 : ∀ j, ¬ S 24 j) (t1 : ∀ j, ¬ T 9 j) (t2 : ∀ j, ¬ T 10 j) (t3 : ∀ j, ¬ T 11 j) : RS τc τm := fun t ht => (h t ht).fr a b (s1 t) (s2 t) (t1 t) (t2 t) (fun _ _ => t3 _)
theorem rh1.fr {i : Nat} (h : rh1 σc σm i) (a : ag S σc τc) (b : ag T σm τm) (s1 : ¬ S 25 i) (s2 : ¬ S 26 i) (s3 : ¬ S 27 i) (t1 : ¬ T 12 i) (t2 : ¬ T 13 i) (t3 : ¬ T 14 i) : rh1 τc τm i := by
  unfold rh1
  rw [a.1 _ _ s1, a.1 _ _ s2, a.1 _ _ s3, b.1 _ _ t1, b.1 _ _ t2, b.1 _ _ t3]
  exact h
theorem RH.fr (h : RH σc σm) (a : ag S σc τc) (b : ag T σm τm) (s1 : ∀ j, ¬ S 25 j) (s2 : ∀ j, ¬ S 26 j) (s3 : ∀ j, ¬ S 27 j) (t1 : ∀ j, ¬ T 12 j) (t2 : ∀ j, ¬ T 13 j) (t3 : ∀ j, ¬ T 14 j) : RH τc τm := fun i hi => (h i hi).fr a b (s1 i) (s2 i) (s3 i) (t1 i) (t2 i) (t3 i)
theorem RD.fr (h : RD σc σm) (a : ag S σc τc) (b : ag T σm τm) (s0 : ¬ S 29 1) (s1 : ∀ j, ¬ S 30 j) (t0 : ¬ T 0 23) (t1 : ∀ j, ¬ T 15 j) : RD τc τm := by
  obtain ⟨t, h1, h2, h3, h4⟩ := h
  exact ⟨t, h1, by rw [a.1 _ _ s0]; exact h2, by rw [b.1 _ _ t0]; exact h3, fun i hi => by rw [a.1 _ _ (s1 i), b.1 _ _ (t1 i)]; exact h4 i hi⟩
end FRAMES
/-- scratch of either side -/
def sC (k j : Nat) : Prop := k = 58 ∨ k = 32 ∨ k = 33 ∨ k = 3 ∨ k = 6 ∨ k = 9 ∨ (50 ≤ k ∧ k ≤ 57) ∨ (k = 20 ∧ 2 ≤ j) ∨ (k = 29 ∧ 2 ≤ j)
def sM (k j : Nat) : Prop := k = 3 ∨ k = 4 ∨ k = 6 ∨ k = 7 ∨ (k = 0 ∧ ((7 ≤ j ∧ j ≤ 11) ∨ 24 ≤ j))
/-- scratch, and the church that is now -/
def aC (k j : Nat) : Prop := sC k j ∨ k = 1 ∨ k = 4 ∨ k = 7 ∨ (34 ≤ k ∧ k ≤ 41)
def aM (k j : Nat) : Prop := sM k j ∨ k = 1
theorem RA.scr {n : Nat} {σc σm τc τm : Sg} (h : RA σc σm n) (a : ag sC σc τc) (b : ag sM σm τm) : RA τc τm n := h.fr a b (fun j => by simp [sC]) (fun j => by simp [sC]) (fun j => by simp [sC]) (fun o j ho => by simp [sC]; omega) (fun j _ => by simp [sM])
/-- all but the church that is now -/
def RO (σc σm : Sg) : Prop := RK σc σm ∧ RT σc σm ∧ RW σc σm ∧ RS σc σm ∧ RH σc σm ∧ RD σc σm
theorem RO.scr {σc σm τc τm : Sg} (h : RO σc σm) (a : ag aC σc τc) (b : ag aM σm τm) : RO τc τm := by
  obtain ⟨h1, h2, h3, h4, h5, h6⟩ := h
  exact ⟨h1.fr a b (by simp [aC, sC]) (fun j => by simp [aC, sC]) (fun j => by simp [aC, sC]) (fun j => by simp [aC, sC]) (fun o j ho => by simp [aC, sC]; omega) (by simp [aM, sM]) (fun j _ => by simp [aM, sM]), h2.fr a b (by simp [aC, sC]) (fun j => by simp [aC, sC]) (by simp [aM, sM]) (fun j => by simp [aM, sM]), h3.fr a b (by simp [aC, sC]) (fun j => by simp [aC, sC]) (by simp [aM, sM]) (fun j => by simp [aM, sM]), h4.fr a b (fun j => by simp [aC, sC]) (fun j => by simp [aC, sC]) (fun j => by simp [aM, sM]) (fun j => by simp [aM, sM]) (fun j => by simp [aM, sM]), h5.fr a b (fun j => by simp [aC, sC]) (fun j => by simp [aC, sC]) (fun j => by simp [aC, sC]) (fun j => by simp [aM, sM]) (fun j => by simp [aM, sM]) (fun j => by simp [aM, sM]), h6.fr a b (by simp [aC, sC]) (fun j => by simp [aC, sC]) (by simp [aM, sM]) (fun j => by simp [aM, sM])⟩
theorem R.mk {n : Nat} {σc σm : Sg} (h : RA σc σm n) (o : RO σc σm) : R σc σm := ⟨⟨n, h⟩, o⟩
theorem R.scr {σc σm τc τm : Sg} (h : R σc σm) (a : ag sC σc τc) (b : ag sM σm τm) : R τc τm := by
  obtain ⟨⟨n, hn⟩, ho⟩ := h
  exact ⟨⟨n, hn.scr a b⟩, RO.scr ho (a.mo (fun _ _ q => Or.inl q)) (b.mo (fun _ _ q => Or.inl q))⟩
/-- what is owed of a call -/
def eqv {α : Type} (c m : Option (α × Sg)) : Prop := ∃ (r : α) (τc τm : Sg), c = some (r, τc) ∧ m = some (r, τm) ∧ R τc τm
/-! children by their numbers -/
theorem cw0' {v m : Int32} (h : v < 0 ∨ m < v) : C_within_0 v m = some (nI 0) := by
  unfold C_within_0
  rcases h with h | h
  · rw [if_pos h]; rfl
  · by_cases h2 : v < 0
    · rw [if_pos h2]; rfl
    · rw [if_neg h2, if_pos h]; rfl
theorem ixn (v : Int32) {n : Nat} (hn : n ≤ 8) : (∃ k, k < n ∧ v = nI k) ∨ (v < 0 ∨ nI n ≤ v) := by
  rcases pk_ix v (n := n) (by omega) with h | h | h
  · exact Or.inr (Or.inl h)
  · exact Or.inr (Or.inr h)
  · exact Or.inl h
theorem cntc (n : Nat) (hn : n ≤ 8) : (if nI 8 < nI n then nI 8 else nI n) = nI n := by rw [if_neg (nI_nlt hn (by omega))]
theorem pred_lt {n j : Nat} (hn : n ≤ 8) (hj : j < 2 ^ 31) (h : n ≤ j) : nI n - nI 1 < nI j := by
  rw [Int32.lt_iff_toInt_lt, pk_sub_toInt (by omega) (by omega), nI_toInt hj]
  omega
section LIVES
variable {σc σm : Sg} {n : Nat}
theorem lifeY (h : RA σc σm n) {k : Nat} (hk : k < n) : C1_life_0 σc (nI k) = some (some k, σc) := by
  have hn := h.1.2.1
  have e : rd_ σc 1 3 = nI n := h.2.2.1.trans h.1.1
  unfold C1_life_0
  simp (disch := omega) only [lit, e, cntc, pk_sub, cw1, bp_some, nI_eq, if_neg, in_nI, gd_tt, nI_clamp]
theorem lifeN (h : RA σc σm n) {v : Int32} (hv : v < 0 ∨ nI n ≤ v) : C1_life_0 σc v = some (none, σc) := by
  have hn := h.1.2.1
  have e : rd_ σc 1 3 = nI n := h.2.2.1.trans h.1.1
  have hw : v < 0 ∨ nI n - nI 1 < v := by
    rcases hv with q | q
    · exact Or.inl q
    · by_cases h0 : v < 0
      · exact Or.inl h0
      · obtain ⟨j, hj, rfl⟩ := nI_of h0
        exact Or.inr (pred_lt hn hj ((nI_leI (by omega) hj).mp q))
  unfold C1_life_0
  simp (disch := omega) only [lit, e, cntc]
  rw [cw0' hw, bp_some, if_pos rfl]
theorem oneY (h : RA σc σm n) {k : Nat} (hk : k < n) : M_isOne_0 σm (nI k) = some (nI 1, σm) := by
  have hn := h.1.2.1
  have e : rd_ σm 1 0 = nI n := h.1.1
  unfold M_isOne_0
  rw [if_neg (nI_pos (by omega)), e, if_neg (nI_ge hk (by omega))]
  rfl
theorem oneN (h : RA σc σm n) {v : Int32} (hv : v < 0 ∨ nI n ≤ v) : M_isOne_0 σm v = some (nI 0, σm) := by
  have e : rd_ σm 1 0 = nI n := h.1.1
  unfold M_isOne_0
  rcases hv with q | q
  · rw [if_pos q]; rfl
  · by_cases h0 : v < 0
    · rw [if_pos h0]; rfl
    · rw [if_neg h0, e, if_pos q]; rfl
theorem itsY {k w : Nat} (hk : k < 8) (hw : w < 6) : M_its_0 σm (nI k) (nI w) = some (rd_ σm 1 (16 + 6 * k + w), σm) := by
  unfold M_its_0
  simp (disch := omega) only [lit, pk_mul, nI_add, lt_eq, in_nI, gd_tt, nI_clamp]
end LIVES
theorem cgm1 {k : Nat} (h : k < 8) : C_isGodmother_0 (nI k) = some (nI 1) := by
  unfold C_isGodmother_0
  simp (disch := omega) only [lit, cw1, bp_some, bo_1, gd_tt]
theorem cgm0 {v : Int32} (h : v < 0 ∨ nI 7 < v) : C_isGodmother_0 v = some (nI 0) := by
  unfold C_isGodmother_0
  simp only [lit, cw0 h, bp_some, bo_0, gd_tt]
theorem mgm1 {k : Nat} (h : k < 8) : M_isMother_0 (nI k) = some (nI 1) := by
  unfold M_isMother_0
  rw [if_neg (nI_pos (by omega)), lit, if_neg (nI_ge h (by omega))]
  rfl
theorem mgm0 {v : Int32} (h : v < 0 ∨ nI 7 < v) : M_isMother_0 v = some (nI 0) := by
  unfold M_isMother_0
  by_cases h0 : v < 0
  · rw [if_pos h0]; rfl
  · obtain ⟨j, hj, rfl⟩ := nI_of h0
    rcases h with q | q
    · exact absurd q h0
    · rw [if_neg h0, lit, if_pos (nI_le (by have := (nI_ltI (by omega) hj).mp q; omega) hj)]; rfl
theorem neg_any {v : Int32} {b : Nat} (h : v < 0 ∨ nI b < v) : v < nI 0 ∨ nI b < v := h
