/-! the church that is told -/
def TO (σ : Sg) (g : Nat → Int32) (n : Nat) : Prop := gr g n ∧ rc σ 3 6 9 (fun o => 34 + (16 + o)) g n
def uC (k j : Nat) : Prop := k = 3 ∨ k = 6 ∨ k = 9 ∨ (50 ≤ k ∧ k ≤ 57) ∨ (k = 20 ∧ 2 ≤ j)
def uM (k j : Nat) : Prop := k = 1 ∨ (k = 0 ∧ 7 ≤ j ∧ j ≤ 11)
theorem fC_uC {k j : Nat} (h : fC' k j) : uC k j := Or.inr (Or.inr (Or.inr (Or.inr h)))
theorem fM_uM {k j : Nat} (h : fM' k j) : uM k j := Or.inr h
section TOLD
variable {σ : Sg} {g : Nat → Int32} {n : Nat}
theorem TO.ff {τ : Sg} (h : TO σ g n) (a : ag fC' σ τ) : TO τ g n := by
  have hn := h.1.2.1
  exact ⟨h.1, rc_cong h.2 hn (fun _ _ => rfl) (fun j _ _ => a.1 _ _ (by unfold fC'; omega)) (fun j => a.1 _ _ (by unfold fC'; omega)) (fun j => a.1 _ _ (by unfold fC'; omega)) (fun o j ho => a.1 _ _ (by unfold fC'; omega))⟩
theorem gr_u {f : Nat → Int32} (hg : gr g n) (i : Nat) (v : Int32) (hi : 3 ≤ i) (hi2 : i < 16) (hv : (∀ w, w < 4 → i = 3 + w → ∃ k, k ≤ bl w ∧ v = nI k) ∧ (i = 7 → ∃ k, k < 256 ∧ v = nI k) ∧ (8 ≤ i → ∃ k, k ≤ 99 ∧ v = nI k)) (e : f = upd g i v) : gr f n := by
  subst e
  obtain ⟨h1, h2, h3, h4, h5, h6⟩ := hg
  refine ⟨(if_neg (by omega)).trans h1, h2, fun w hw => ?_, ?_, fun w hw => ?_, fun o ho w hw => ?_⟩
  · rw [upd]
    by_cases c : 3 + w = i
    · rw [if_pos c]; exact hv.1 w hw c.symm
    · rw [if_neg c]; exact h3 w hw
  · rw [upd]
    by_cases c : 7 = i
    · rw [if_pos c]; exact hv.2.1 c.symm
    · rw [if_neg c]; exact h4
  · rw [upd]
    by_cases c : 8 + w = i
    · rw [if_pos c]; exact hv.2.2 (by omega)
    · rw [if_neg c]; exact h5 w hw
  · rw [upd, if_neg (by omega)]; exact h6 o ho w hw
theorem TO.law (h : TO σ g n) {i k : Nat} (hi : i < 4) (hk : k ≤ bl i) : TO (wr_ σ 6 i (nI k)) (upd g (3 + i) (nI k)) n := by
  refine ⟨gr_u h.1 (3 + i) (nI k) (by omega) (by omega) ⟨fun w hw q => ⟨k, by rw [show w = i by omega]; exact hk, rfl⟩, fun q => absurd q (by omega), fun q => absurd q (by omega)⟩ rfl, ?_⟩
  obtain ⟨r1, r2, r3, r4, r5, r6, r7⟩ := h.2
  refine ⟨by rw [rd_k (by omega), upd, if_neg (by omega)]; exact r1, by rw [rd_k (by omega), upd, if_neg (by omega)]; exact r2, by rw [rd_k (by omega), upd, if_neg (by omega)]; exact r3, by rw [rd_k (by omega), upd, if_neg (by omega)]; exact r4, fun j hj => ?_, fun j hj => by rw [rd_k (by omega), upd, if_neg (by omega)]; exact r6 j hj, fun o ho w hw => by show rd_ _ (34 + (16 + o)) w = _; rw [rd_k (by omega), upd, if_neg (by omega)]; exact r7 o ho w hw⟩
  rw [rd_wr, upd]
  by_cases c : j = i
  · rw [if_pos ⟨rfl, c⟩, if_pos (by omega)]
  · rw [if_neg (fun z => c z.2), if_neg (by omega)]; exact r5 j hj
theorem TO.vice (h : TO σ g n) {i k : Nat} (hi : i < 8) (hk : k ≤ 99) : TO (wr_ σ 9 i (nI k)) (upd g (8 + i) (nI k)) n := by
  refine ⟨gr_u h.1 (8 + i) (nI k) (by omega) (by omega) ⟨fun w hw q => absurd q (by omega), fun q => absurd q (by omega), fun q => ⟨k, hk, rfl⟩⟩ rfl, ?_⟩
  obtain ⟨r1, r2, r3, r4, r5, r6, r7⟩ := h.2
  refine ⟨by rw [rd_k (by omega), upd, if_neg (by omega)]; exact r1, by rw [rd_k (by omega), upd, if_neg (by omega)]; exact r2, by rw [rd_k (by omega), upd, if_neg (by omega)]; exact r3, by rw [rd_k (by omega), upd, if_neg (by omega)]; exact r4, fun j hj => by rw [rd_k (by omega), upd, if_neg (by omega)]; exact r5 j hj, fun j hj => ?_, fun o ho w hw => by show rd_ _ (34 + (16 + o)) w = _; rw [rd_k (by omega), upd, if_neg (by omega)]; exact r7 o ho w hw⟩
  rw [rd_wr, upd]
  by_cases c : j = i
  · rw [if_pos ⟨rfl, c⟩, if_pos (by omega)]
  · rw [if_neg (fun z => c z.2), if_neg (by omega)]; exact r6 j hj
theorem TO.easy (h : TO σ g n) {k : Nat} (hk : k < 256) : TO (wr_ σ 3 2 (nI k)) (upd g 7 (nI k)) n := by
  refine ⟨gr_u h.1 7 (nI k) (by omega) (by omega) ⟨fun w hw q => absurd q (by omega), fun q => ⟨k, hk, rfl⟩, fun q => absurd q (by omega)⟩ rfl, ?_⟩
  obtain ⟨r1, r2, r3, r4, r5, r6, r7⟩ := h.2
  exact ⟨by rw [rd_same, upd, if_pos rfl], by rw [rd_j (by omega), upd, if_neg (by omega)]; exact r2, by rw [rd_j (by omega), upd, if_neg (by omega)]; exact r3, by rw [rd_j (by omega), upd, if_neg (by omega)]; exact r4, fun j hj => by rw [rd_k (by omega), upd, if_neg (by omega)]; exact r5 j hj, fun j hj => by rw [rd_k (by omega), upd, if_neg (by omega)]; exact r6 j hj, fun o ho w hw => by show rd_ _ (34 + (16 + o)) w = _; rw [rd_k (by omega), upd, if_neg (by omega)]; exact r7 o ho w hw⟩
theorem cmR_5 {k t f s s' : Nat} : upd (cmR g n k t f s) (16 + 6 * n + 5) (nI s') = cmR g n k t f s' := by
  funext j
  unfold cmR upd
  by_cases h0 : j = 0
  · subst h0; rw [if_neg (by omega), if_pos rfl, if_pos rfl]
  · by_cases h5 : j = 16 + 6 * n + 5
    · rw [if_pos h5, if_neg h0, if_pos h5]
    · rw [if_neg h5, if_neg h0, if_neg h5, if_neg h0, if_neg h5]
theorem cmR_1 {k t f s t' : Nat} : upd (cmR g n k t f s) (16 + 6 * n + 1) (nI t') = cmR g n k t' f s := by
  funext j
  unfold cmR upd
  by_cases h1 : j = 16 + 6 * n + 1
  · subst h1; simp (disch := omega) only [if_neg, if_true]
  · simp only [h1, if_false]
theorem cmR_2 {k t f s f' : Nat} : upd (cmR g n k t f s) (16 + 6 * n + 2) (nI f') = cmR g n k t f' s := by
  funext j
  unfold cmR upd
  by_cases h1 : j = 16 + 6 * n + 2
  · subst h1; simp (disch := omega) only [if_neg, if_true]
  · simp only [h1, if_false]
theorem lfv_le {k t f s w : Nat} (hw : w < 6) (hk : k ≤ 5) (ht : t ≤ 99) (hf : f ≤ 9) (hs : s ≤ 7) : lfv k t f s w ≤ bw w := by
  have : w = 0 ∨ w = 1 ∨ w = 2 ∨ w = 3 ∨ w = 4 ∨ w = 5 := by omega
  rcases this with rfl | rfl | rfl | rfl | rfl | rfl
  · exact hk
  · exact ht
  · exact hf
  · show 50 ≤ 99; omega
  · show 0 ≤ 99; omega
  · exact hs
theorem TO.come {k t f s w a : Nat} (h : TO σ g n) (hn : n < 8) (hk : k ≤ 5) (ht : t ≤ 99) (hf : f ≤ 9) (hs : s ≤ 7) (hw : w ≤ 99) (ha : a ≤ 99) {τ : Sg} (e3 : rd_ τ 3 3 = nI (n + 1)) (e3' : ∀ j, ¬ j = 3 → rd_ τ 3 j = rd_ σ 3 j) (e6 : ∀ j, rd_ τ 6 j = rd_ σ 6 j) (e9 : ∀ j, rd_ τ 9 j = rd_ σ 9 j) (eo : ∀ o j, o < n → rd_ τ (34 + (16 + o)) j = rd_ σ (34 + (16 + o)) j) (en : ∀ q, q < 6 → rd_ τ (34 + (16 + n)) q = nI (if q = 3 then w else if q = 4 then a else lfv k t f s q)) : TO τ (upd (upd (cmR g n k t f s) (16 + 6 * n + 3) (nI w)) (16 + 6 * n + 4) (nI a)) (n + 1) := by
  obtain ⟨r1, r2, r3, r4, r5, r6, r7⟩ := h.2
  have lo : ∀ i, ¬ i = 0 → i < 16 + 6 * n → upd (upd (cmR g n k t f s) (16 + 6 * n + 3) (nI w)) (16 + 6 * n + 4) (nI a) i = g i := fun i h0 h1 => by
    rw [upd, if_neg (by omega), upd, if_neg (by omega), cmR_lo h0 h1]
  have at' : ∀ q, q < 6 → upd (upd (cmR g n k t f s) (16 + 6 * n + 3) (nI w)) (16 + 6 * n + 4) (nI a) (16 + 6 * n + q) = nI (if q = 3 then w else if q = 4 then a else lfv k t f s q) := fun q hq => by
    unfold upd
    by_cases c3 : q = 3
    · subst c3; rw [if_neg (by omega), if_pos rfl, if_pos rfl]
    · by_cases c4 : q = 4
      · subst c4; rw [if_pos rfl, if_neg c3, if_pos rfl]
      · rw [if_neg (by omega), if_neg (by omega), if_neg c3, if_neg c4]
        exact cmR_at hq
  have z0 : upd (upd (cmR g n k t f s) (16 + 6 * n + 3) (nI w)) (16 + 6 * n + 4) (nI a) 0 = nI (n + 1) := by
    rw [upd, if_neg (by omega), upd, if_neg (by omega), cmR_0]
  obtain ⟨g1, g2, g3, g4, g5, g6⟩ := h.1
  refine ⟨⟨z0, by omega, fun i hi => by rw [lo _ (by omega) (by omega)]; exact g3 i hi, by rw [lo _ (by omega) (by omega)]; exact g4, fun i hi => by rw [lo _ (by omega) (by omega)]; exact g5 i hi, fun o ho q hq => ?_⟩, ?_⟩
  · by_cases c : o = n
    · subst c
      rw [at' q hq]
      refine ⟨_, ?_, rfl⟩
      by_cases c3 : q = 3
      · subst c3; rw [if_pos rfl]; exact hw
      · by_cases c4 : q = 4
        · subst c4; rw [if_neg (by omega), if_pos rfl]; exact ha
        · rw [if_neg c3, if_neg c4]; exact lfv_le hq hk ht hf hs
    · rw [lo _ (by omega) (by omega)]; exact g6 o (by omega) q hq
  · refine ⟨?_, ?_, ?_, ?_, fun i hi => ?_, fun i hi => ?_, fun o ho q hq => ?_⟩
    · rw [e3' 2 (by omega), lo _ (by omega) (by omega)]; exact r1
    · rw [e3, z0]
    · rw [e3' 4 (by omega), lo _ (by omega) (by omega)]; exact r3
    · rw [e3' 5 (by omega), lo _ (by omega) (by omega)]; exact r4
    · rw [e6, lo _ (by omega) (by omega)]; exact r5 i hi
    · rw [e9, lo _ (by omega) (by omega)]; exact r6 i hi
    · show rd_ τ (34 + (16 + o)) q = _
      by_cases c : o = n
      · subst c; rw [en q hq, at' q hq]
      · rw [eo o q (by omega), lo _ (by omega) (by omega)]; exact r7 o (by omega) q hq
theorem add3 (hn : n < 8) (e : rd_ σ 3 3 = nI n) : C1_added_3_0 σ = some (some (16 + n), wr_ σ 3 3 (nI (n + 1))) := by
  have e2 : rd_ (wr_ σ 3 3 (nI (n + 1))) 3 3 = nI (n + 1) := rd_same _ _ _ _
  have el : C1_life_3_0 (wr_ σ 3 3 (nI (n + 1))) (nI n) = some (some (16 + n), wr_ σ 3 3 (nI (n + 1))) := by
    unfold C1_life_3_0
    simp (disch := omega) only [lit, e2, cntc, pk_sub, cw1, bp_some, nI_eq, if_neg, in_nI, gd_tt, nI_clamp]
  unfold C1_added_3_0
  simp (disch := omega) only [e, lit, nI_ltI, if_pos, nI_add, lt_eq, e2, pk_sub, Nat.add_sub_cancel]
  rw [el, bi_some, on_S]
theorem add38 (e : rd_ σ 3 3 = nI 8) : C1_added_3_0 σ = some (none, σ) := by
  unfold C1_added_3_0
  rw [e, if_neg (by decide)]
end TOLD
section STMT
variable {t : Nat} {B : Nat → Nat} {τc τm : Sg} {p b e c n : Nat}
theorem NS.wrC {k j : Nat} {v : Int32} (h : NS t B τc τm p b e c) (hk : ¬ k = 20 ∧ ¬ k = 21) : NS t B (wr_ τc k j v) τm p b e c := by
  obtain ⟨x, kc, km, f1, f2⟩ := h
  have a : ag (fun q _ => q = k) τc (wr_ τc k j v) := ag.rf.wr rfl
  exact ⟨x.fr a (ag.rf (S := fun _ _ => False)) (by omega) (fun j => by omega) (by simp) (fun j => by simp), kc.ff (rd_k (by omega)) (rd_k (by omega)) (rd_k (by omega)), km, by rw [rd_k (by omega)]; exact f1, f2⟩
theorem NS.agM {υm : Sg} (h : NS t B τc τm p b e c) (a : ag (fun k _ => k = 1) τm υm) : NS t B τc υm p b e c := by
  obtain ⟨x, kc, km, f1, f2⟩ := h
  refine ⟨x.fr (ag.rf (S := fun _ _ => False)) a (by simp) (fun j => by simp) (by simp) (fun j => by simp), kc, ⟨?_, ?_, ?_, km.2.2.2.1, fun q => ?_⟩, f1, ?_⟩
  · rw [a.1 _ _ (by omega)]; exact km.1
  · rw [a.1 _ _ (by omega)]; exact km.2.1
  · rw [a.1 _ _ (by omega)]; exact km.2.2.1
  · rw [a.1 _ _ (by omega)]; exact km.2.2.2.2 q
  · rw [a.1 _ _ (by omega)]; exact f2
theorem FS.wrC {k j : Nat} {v : Int32} (h : FS t B τc τm) (hk : ¬ k = 20 ∧ ¬ k = 21) : FS t B (wr_ τc k j v) τm := by
  obtain ⟨x, ⟨p1, b1, e1, c1, kc⟩, ⟨p2, b2, e2, c2, km, f1⟩, f2⟩ := h
  have a : ag (fun q _ => q = k) τc (wr_ τc k j v) := ag.rf.wr rfl
  exact ⟨x.fr a (ag.rf (S := fun _ _ => False)) (by omega) (fun j => by omega) (by simp) (fun j => by simp), ⟨p1, b1, e1, c1, kc.ff (rd_k (by omega)) (rd_k (by omega)) (rd_k (by omega))⟩, ⟨p2, b2, e2, c2, km, by rw [rd_k (by omega)]; exact f1⟩, f2⟩
theorem FS.agM {υm : Sg} (h : FS t B τc τm) (a : ag (fun k _ => k = 1) τm υm) : FS t B τc υm := by
  obtain ⟨x, kc, ⟨p2, b2, e2, c2, km, f1⟩, f2⟩ := h
  refine ⟨x.fr (ag.rf (S := fun _ _ => False)) a (by simp) (fun j => by simp) (by simp) (fun j => by simp), kc, ⟨p2, b2, e2, c2, ⟨?_, ?_, ?_, km.2.2.2.1, fun q => ?_⟩, f1⟩, ?_⟩
  · rw [a.1 _ _ (by omega)]; exact km.1
  · rw [a.1 _ _ (by omega)]; exact km.2.1
  · rw [a.1 _ _ (by omega)]; exact km.2.2.1
  · rw [a.1 _ _ (by omega)]; exact km.2.2.2.2 q
  · rw [a.1 _ _ (by omega)]; exact f2
/-- what comes of a statement -/
def OUT (t : Nat) (B : Nat → Nat) (e : Nat) (σc σm : Sg) (cc mm : Option (Unit × Sg)) : Prop := ∃ υc υm, cc = some ((), υc) ∧ mm = some ((), υm) ∧ ag uC σc υc ∧ ag uM σm υm ∧ ((∃ p' b' e' c' n', NS t B υc υm p' b' e' c' ∧ e + 1 ≤ e' ∧ TO υc (υm.1 1) n') ∨ FS t B υc υm)
theorem row_fM {υm : Sg} (a : ag fM' τm υm) : υm.1 1 = τm.1 1 := by
  funext j
  exact a.1 1 j (by unfold fM'; omega)
/-- its last part -/
theorem outN {σc σm : Sg} {e0 : Nat} (a : ag uC σc τc) (am : ag uM σm τm) (h : NS t B τc τm p b e c) (he : e0 ≤ p) (ht : TO τc (τm.1 1) n) : OUT t B e0 σc σm (C8_tellStatement_3_129 τc) (M_itemHere_105 τm) := by
  have hl := h.2.1.2.2.2.le
  unfold C8_tellStatement_3_129
  rcases semiN h with ⟨υc, υm, b', e', c', s1, s2, s3, s4, s5, s6⟩ | ⟨υc, υm, s1, s2, s3, s4, s5⟩
  · have hl2 := s3.2.1.2.2.2.le
    exact ⟨υc, υm, by rw [s1, bi_some], s2, a.tr (s5.mo (fun _ _ q => fC_uC q)), am.tr (s6.mo (fun _ _ q => fM_uM q)), Or.inl ⟨e, b', e', c', n, s3, by omega, by rw [row_fM s6]; exact ht.ff s5⟩⟩
  · exact ⟨υc, υm, by rw [s1, bi_some], s2, a.tr (s4.mo (fun _ _ q => fC_uC q)), am.tr (s5.mo (fun _ _ q => fM_uM q)), Or.inr s3⟩
theorem outF {σc σm : Sg} {e0 : Nat} (a : ag uC σc τc) (am : ag uM σm τm) (h : FS t B τc τm) : OUT t B e0 σc σm (C8_tellStatement_3_129 τc) (M_itemHere_105 τm) := by
  unfold C8_tellStatement_3_129
  obtain ⟨υc, s1, s2, s3, s4⟩ := semiF h
  exact ⟨υc, τm, by rw [s1, bi_some], s2, a.tr (s4.mo (fun _ _ q => fC_uC q)), am, Or.inr s3⟩
end STMT
