/-! a child that is told -/
def U2 (σ : Sg) (x : Nat) : Option (Unit × Sg) := bi_ (M_isName_0 σ (nI 3) (nI 97) (nI 103) (nI 101) (nI 101)) fun r σ1 => bi_ (M_perhaps_0 σ1 r (nI (x + 4)) (nI 99)) fun _ σ2 => some ((), σ2)
def U3 (σ : Sg) (x : Nat) : Option (Unit × Sg) := bi_ (M_isFour_0 σ (nI 119) (nI 105) (nI 115) (nI 104)) fun r σ1 => bi_ (M_perhaps_0 σ1 r (nI (x + 3)) (nI 99)) fun _ σ2 => U2 σ2 x
def U4 (σ : Sg) (x : Nat) : Option (Unit × Sg) := bi_ (M_isFour_0 σ (nI 102) (nI 105) (nI 114) (nI 101)) fun r σ1 => bi_ (M_perhaps_0 σ1 r (nI (x + 2)) (nI 9)) fun _ σ2 => U3 σ2 x
def U5 (σ : Sg) (x : Nat) : Option (Unit × Sg) := bi_ (M_isFive_0 σ (nI 116) (nI 114) (nI 97) (nI 105) (nI 116)) fun r σ1 => bi_ (M_perhaps_0 σ1 r (nI (x + 1)) (nI 99)) fun _ σ2 => U4 σ2 x
theorem m76 {σ : Sg} {x : Nat} {t1 : Int32} : M_childHere_76 σ (nI x) t1 = bi_ (M_numberTo_0 σ t1 (nI 7)) fun _ σ1 => U5 σ1 x := by
  unfold M_childHere_76 U5 U4 U3 U2
  simp only [lit, nI_add]
def T2 (σ : Sg) (j : Nat) : Option (Unit × Sg) := bi_ (C8_option_0 σ 7 (nI 99) (nI 0)) fun r σ1 => lt_ (wr_ σ1 (34 + j) 4 r) fun σ2 => some ((), σ2)
def T3 (σ : Sg) (j : Nat) : Option (Unit × Sg) := bi_ (C8_option_0 σ 6 (nI 99) (nI 50)) fun r σ1 => lt_ (wr_ σ1 (34 + j) 3 r) fun σ2 => T2 σ2 j
def T4 (σ : Sg) (j : Nat) (x2 r13 r16 : Int32) : Option (Unit × Sg) := bi_ (C8_option_0 σ 5 (nI 9) (nI 5)) fun r19 σ1 => gd_ (lf_ j 25) (bi_ (C6_begin_0 σ1 j x2 r16 r19 r13) fun _ σ2 => T3 σ2 j)
def T5 (σ : Sg) (j : Nat) (x2 r13 : Int32) : Option (Unit × Sg) := bi_ (C8_option_0 σ 4 (nI 99) (nI 50)) fun r16 σ1 => T4 σ1 j x2 r13 r16
def T7 (σ : Sg) (j : Nat) (x2 : Int32) : Option (Unit × Sg) := bi_ (C8_step_0 σ) fun _ σ1 => bi_ (C8_name_0 σ1 3) fun _ σ2 => bi_ (C8_number_0 σ2 (nI 7)) fun r13 σ3 => T5 σ3 j x2 r13
theorem tellC {σ : Sg} {x2 : Int32} : C8_tellChild_3_0 σ x2 = bi_ (C1_added_3_0 σ) fun r σ1 => on_ r (bi_ (C8_failHere_0 σ1) fun _ σ2 => some ((), σ2)) fun j => T7 σ1 j x2 := by
  unfold C8_tellChild_3_0 T7 T5 T4 T3 T2
  simp only [lit]
section CHILD
variable {t : Nat} {B : Nat → Nat} {τc τm : Sg} {p b e c n : Nat}
/-- behind a fault -/
theorem U2F (h : FS t B τc τm) {x : Nat} : U2 τm x = some ((), τm) := by
  obtain ⟨x0, kc, ⟨p2, b2, e2, c2, km, f1⟩, f2⟩ := id h
  unfold U2
  rw [misAge x0 km, bi_some, (optF (z := 0) (u := 0) h).2, bi_some]
theorem U3F (h : FS t B τc τm) {x : Nat} : U3 τm x = some ((), τm) := by
  obtain ⟨x0, kc, ⟨p2, b2, e2, c2, km, f1⟩, f2⟩ := id h
  unfold U3
  rw [misFour (z := 6) x0 km rfl (by omega) (by omega) (by omega) (by omega), bi_some, (optF (z := 0) (u := 0) h).2, bi_some, U2F h]
theorem U4F (h : FS t B τc τm) {x : Nat} : U4 τm x = some ((), τm) := by
  obtain ⟨x0, kc, ⟨p2, b2, e2, c2, km, f1⟩, f2⟩ := id h
  unfold U4
  rw [misFour (z := 5) x0 km rfl (by omega) (by omega) (by omega) (by omega), bi_some, (optF (z := 0) (u := 0) h).2, bi_some, U3F h]
theorem U5F (h : FS t B τc τm) {x : Nat} : U5 τm x = some ((), τm) := by
  obtain ⟨x0, kc, ⟨p2, b2, e2, c2, km, f1⟩, f2⟩ := id h
  unfold U5
  rw [misFive (z := 4) x0 km rfl (by omega) (by omega) (by omega) (by omega) (by omega), bi_some, (optF (z := 0) (u := 0) h).2, bi_some, U4F h]
theorem m61F (h : FS t B τc τm) {x : Nat} : M_childHere_61 τm (nI x) = some ((), τm) := by
  unfold M_childHere_61
  rw [h.2.2.2, if_neg (by decide), m76, (numF (most := 7) (by omega) h).2, bi_some, U5F h]
theorem T2F (h : FS t B τc τm) {j : Nat} (hj : 16 ≤ j ∧ j < 24) : ∃ υ, T2 τc j = some ((), υ) ∧ FS t B υ τm ∧ ag uC τc υ := by
  unfold T2
  rw [(optF (q := 0) (at' := 0) h).1, bi_some, lt_eq]
  exact ⟨_, rfl, h.wrC ⟨by omega, by omega⟩, ag.rf.wr (uC_L hj)⟩
theorem T3F (h : FS t B τc τm) {j : Nat} (hj : 16 ≤ j ∧ j < 24) : ∃ υ, T3 τc j = some ((), υ) ∧ FS t B υ τm ∧ ag uC τc υ := by
  unfold T3
  rw [(optF (q := 0) (at' := 0) h).1, bi_some, lt_eq]
  obtain ⟨υ, h1, h2, h3⟩ := T2F (h.wrC (k := 34 + j) (j := 3) (v := nI 50) ⟨by omega, by omega⟩) hj
  exact ⟨υ, h1, h2, (ag.rf.wr (uC_L hj)).tr h3⟩
theorem TbF (h : FS t B τc τm) {j : Nat} {x2 r13 r16 r19 : Int32} (hj : 16 ≤ j ∧ j < 24) : ∃ υ, (gd_ (lf_ j 25) (bi_ (C6_begin_0 τc j x2 r16 r19 r13) fun _ σ2 => T3 σ2 j)) = some ((), υ) ∧ FS t B υ τm ∧ ag uC τc υ := by
  have hq : ¬ 34 + j = 20 ∧ ¬ 34 + j = 21 := ⟨by omega, by omega⟩
  have hb : ∃ υ, C6_begin_0 τc j x2 r16 r19 r13 = some ((), υ) ∧ FS t B υ τm ∧ ag uC τc υ := by
    unfold C6_begin_0
    rw [lf_tt (show j < 25 by omega), gd_tt]
    simp only [lt_eq]
    exact ⟨_, rfl, (((((h.wrC hq).wrC hq).wrC hq).wrC hq).wrC hq).wrC hq, (((((ag.rf.wr (uC_L hj)).wr (uC_L hj)).wr (uC_L hj)).wr (uC_L hj)).wr (uC_L hj)).wr (uC_L hj)⟩
  obtain ⟨υ, b1, b2, b3⟩ := hb
  rw [lf_tt (show j < 25 by omega), gd_tt, b1, bi_some]
  obtain ⟨ω, h1, h2, h3⟩ := T3F b2 hj
  exact ⟨ω, h1, h2, b3.tr h3⟩
theorem T4F (h : FS t B τc τm) {j : Nat} {x2 r13 r16 : Int32} (hj : 16 ≤ j ∧ j < 24) : ∃ υ, T4 τc j x2 r13 r16 = some ((), υ) ∧ FS t B υ τm ∧ ag uC τc υ := by
  unfold T4
  rw [(optF (q := 0) (at' := 0) h).1, bi_some]
  exact TbF h hj
theorem T5F (h : FS t B τc τm) {j : Nat} {x2 r13 : Int32} (hj : 16 ≤ j ∧ j < 24) : ∃ υ, T5 τc j x2 r13 = some ((), υ) ∧ FS t B υ τm ∧ ag uC τc υ := by
  unfold T5
  rw [(optF (q := 0) (at' := 0) h).1, bi_some]
  exact T4F h hj
/-- the row behind what may stand there -/
theorem optRow {υm : Sg} {at' u v : Nat} (h0 : τm.1 1 at' = nI u) (h : (v = u ∧ ag fM' τm υm) ∨ ag fM' (wr_ τm 1 at' (nI v)) υm) : υm.1 1 = upd (τm.1 1) at' (nI v) ∧ ag uM τm υm := by
  rcases h with ⟨rfl, a⟩ | a
  · refine ⟨?_, a.uM'⟩
    rw [row_fM a]
    funext j
    unfold upd
    by_cases c : j = at'
    · rw [if_pos c, c]; exact h0
    · rw [if_neg c]
  · exact ⟨by rw [row_fM a, row_same], (ag.rf.wr (Or.inl rfl)).tr a.uM'⟩
/-- what comes of a child -/
def OUC (t : Nat) (B : Nat → Nat) (e : Nat) (σc σm : Sg) (cc mm : Option (Unit × Sg)) : Prop := ∃ υc υm, cc = some ((), υc) ∧ mm = some ((), υm) ∧ ag uC σc υc ∧ ag uM σm υm ∧ ((∃ p' b' e' c' n', NS t B υc υm p' b' e' c' ∧ e + 1 ≤ e' ∧ TO υc (υm.1 1) n') ∨ FS t B υc υm)
theorem OUC.fail {σc σm : Sg} {e0 : Nat} {cc mm : Option (Unit × Sg)} (a : ag uC σc τc) (am : ag uM σm τm) (hc : ∃ υ, cc = some ((), υ) ∧ FS t B υ τm ∧ ag uC τc υ) (hm : mm = some ((), τm)) : OUC t B e0 σc σm cc mm := by
  obtain ⟨υ, h1, h2, h3⟩ := hc
  exact ⟨υ, τm, h1, hm, a.tr h3, am, Or.inr h2⟩
theorem OUC.out {σc σm : Sg} {e0 : Nat} {cc mm : Option (Unit × Sg)} (h : OUC t B e0 σc σm cc mm) : OUT t B e0 σc σm (bi_ cc fun _ σ => C8_tellStatement_3_129 σ) (bi_ mm fun _ σ => M_itemHere_105 σ) := by
  obtain ⟨υc, υm, h1, h2, h3, h4, h5⟩ := h
  rw [h1, h2, bi_some, bi_some]
  rcases h5 with ⟨p', b', e', c', n', k1, k2, k3⟩ | k
  · exact outE h3 h4 k1 k2 k3
  · exact outF h3 h4 k
/-- age -/
theorem ageS {σc σm : Sg} {e0 k tr f s w : Nat} {g : Nat → Int32} (a : ag uC σc τc) (am : ag uM σm τm) (h : NS t B τc τm p b e c) (he : e0 + 1 ≤ e) (hn : n < 8) (hk : k ≤ 5) (htr : tr ≤ 99) (hf : f ≤ 9) (hs : s ≤ 7) (hw : w ≤ 99) {σ0 : Sg} (h0 : TO σ0 g n) (er : τm.1 1 = upd (cmR g n k tr f s) (16 + 6 * n + 3) (nI w)) (e3 : rd_ τc 3 3 = nI (n + 1)) (e3' : ∀ j, ¬ j = 3 → rd_ τc 3 j = rd_ σ0 3 j) (e6 : ∀ j, rd_ τc 6 j = rd_ σ0 6 j) (e9 : ∀ j, rd_ τc 9 j = rd_ σ0 9 j) (eo : ∀ o j, o < n → rd_ τc (34 + (16 + o)) j = rd_ σ0 (34 + (16 + o)) j) (en : ∀ q, q < 6 → rd_ τc (34 + (16 + n)) q = nI (if q = 3 then w else lfv k tr f s q)) : OUC t B e0 σc σm (T2 τc (16 + n)) (U2 τm (16 + 6 * n)) := by
  have hj : 16 ≤ 16 + n ∧ 16 + n < 24 := ⟨by omega, by omega⟩
  have r0 : τm.1 1 (16 + 6 * n + 4) = nI 0 := by
    rw [er, upd, if_neg (by omega), cmR_at (by omega)]; rfl
  unfold T2 U2
  rw [misAge h.1 h.2.2.1, bi_some]
  rcases optN (z := 7) (most := 99) (at' := 16 + 6 * n + 4) (u := 0) (by omega) (by omega) (by omega) (by omega) h with ⟨υc, υm, p1, b1, e1, c1, v, hv, o1, o2, o3, o4, o5, o6⟩ | ⟨υc, υm, r, o1, o2, o3, o4, o5⟩
  · obtain ⟨er1, am1⟩ := optRow r0 o6
    rw [o1, bi_some, o2, bi_some, lt_eq]
    have hx : ∀ k' j', ¬ (k' = 20 ∧ 2 ≤ j') → ¬ (k' = 34 + (16 + n) ∧ j' = 4) → rd_ (wr_ υc (34 + (16 + n)) 4 (nI v)) k' j' = rd_ τc k' j' := fun k' j' q1 q2 => by
      rw [rd_wr, if_neg q2]; exact o5.1 k' j' q1
    refine ⟨_, _, rfl, rfl, (a.tr o5.uC').wr (uC_L hj), am.tr am1, Or.inl ⟨p1, b1, e1, c1, n + 1, o3.wrC ⟨by omega, by omega⟩, by omega, ?_⟩⟩
    rw [er1, er]
    refine h0.come hn hk htr hf hs hw hv ?_ ?_ ?_ ?_ ?_ ?_
    · rw [hx _ _ (by omega) (by omega)]; exact e3
    · intro j hj3; rw [hx _ _ (by omega) (by omega)]; exact e3' j hj3
    · intro j; rw [hx _ _ (by omega) (by omega)]; exact e6 j
    · intro j; rw [hx _ _ (by omega) (by omega)]; exact e9 j
    · intro o j ho; rw [hx _ _ (by omega) (by omega)]; exact eo o j ho
    · intro q hq
      by_cases q4 : q = 4
      · subst q4; rw [rd_same, if_neg (by omega), if_pos rfl]
      · rw [hx _ _ (by omega) (by omega), en q hq, if_neg q4]
  · rw [o1, bi_some, o2, bi_some, lt_eq]
    exact OUC.fail (a.tr o4.uC') (am.tr o5.uM') ⟨_, rfl, o3.wrC ⟨by omega, by omega⟩, ag.rf.wr (uC_L hj)⟩ rfl
/-- wish -/
theorem wishS {σc σm : Sg} {e0 k tr f s : Nat} {g : Nat → Int32} (a : ag uC σc τc) (am : ag uM σm τm) (h : NS t B τc τm p b e c) (he : e0 + 1 ≤ e) (hn : n < 8) (hk : k ≤ 5) (htr : tr ≤ 99) (hf : f ≤ 9) (hs : s ≤ 7) {σ0 : Sg} (h0 : TO σ0 g n) (er : τm.1 1 = cmR g n k tr f s) (e3 : rd_ τc 3 3 = nI (n + 1)) (e3' : ∀ j, ¬ j = 3 → rd_ τc 3 j = rd_ σ0 3 j) (e6 : ∀ j, rd_ τc 6 j = rd_ σ0 6 j) (e9 : ∀ j, rd_ τc 9 j = rd_ σ0 9 j) (eo : ∀ o j, o < n → rd_ τc (34 + (16 + o)) j = rd_ σ0 (34 + (16 + o)) j) (en : ∀ q, q < 6 → rd_ τc (34 + (16 + n)) q = nI (lfv k tr f s q)) : OUC t B e0 σc σm (T3 τc (16 + n)) (U3 τm (16 + 6 * n)) := by
  have hj : 16 ≤ 16 + n ∧ 16 + n < 24 := ⟨by omega, by omega⟩
  have r0 : τm.1 1 (16 + 6 * n + 3) = nI 50 := by
    rw [er, cmR_at (by omega)]; rfl
  unfold T3 U3
  rw [misFour (z := 6) h.1 h.2.2.1 rfl (by omega) (by omega) (by omega) (by omega), bi_some]
  rcases optN (z := 6) (most := 99) (at' := 16 + 6 * n + 3) (u := 50) (by omega) (by omega) (by omega) (by omega) h with ⟨υc, υm, p1, b1, e1, c1, v, hv, o1, o2, o3, o4, o5, o6⟩ | ⟨υc, υm, r, o1, o2, o3, o4, o5⟩
  · obtain ⟨er1, am1⟩ := optRow r0 o6
    rw [o1, bi_some, o2, bi_some, lt_eq]
    have hx : ∀ k' j', ¬ (k' = 20 ∧ 2 ≤ j') → ¬ (k' = 34 + (16 + n) ∧ j' = 3) → rd_ (wr_ υc (34 + (16 + n)) 3 (nI v)) k' j' = rd_ τc k' j' := fun k' j' q1 q2 => by
      rw [rd_wr, if_neg q2]; exact o5.1 k' j' q1
    refine ageS (n := n) ((a.tr o5.uC').wr (uC_L hj)) (am.tr am1) (o3.wrC ⟨by omega, by omega⟩) (by omega) hn hk htr hf hs hv h0 (by rw [er1, er]) ?_ ?_ ?_ ?_ ?_ ?_
    · rw [hx _ _ (by omega) (by omega)]; exact e3
    · intro j hj3; rw [hx _ _ (by omega) (by omega)]; exact e3' j hj3
    · intro j; rw [hx _ _ (by omega) (by omega)]; exact e6 j
    · intro j; rw [hx _ _ (by omega) (by omega)]; exact e9 j
    · intro o j ho; rw [hx _ _ (by omega) (by omega)]; exact eo o j ho
    · intro q hq
      by_cases q3 : q = 3
      · subst q3; rw [rd_same, if_pos rfl]
      · rw [hx _ _ (by omega) (by omega), en q hq, if_neg q3]
  · rw [o1, bi_some, o2, bi_some, lt_eq, U2F o3]
    obtain ⟨ω, x1, x2, x3⟩ := T2F (o3.wrC (k := 34 + (16 + n)) (j := 3) (v := r) ⟨by omega, by omega⟩) hj
    exact OUC.fail (a.tr o4.uC') (am.tr o5.uM') ⟨ω, x1, x2, (ag.rf.wr (uC_L hj)).tr x3⟩ rfl
/-- fire -/
theorem fireS {σc σm : Sg} {e0 k tr s : Nat} {g : Nat → Int32} (a : ag uC σc τc) (am : ag uM σm τm) (h : NS t B τc τm p b e c) (he : e0 + 1 ≤ e) (hn : n < 8) (hk : k ≤ 5) (htr : tr ≤ 99) (hs : s ≤ 7) {σ0 : Sg} (h0 : TO σ0 g n) (er : τm.1 1 = cmR g n k tr 5 s) (e3 : rd_ τc 3 3 = nI (n + 1)) (e3' : ∀ j, ¬ j = 3 → rd_ τc 3 j = rd_ σ0 3 j) (e6 : ∀ j, rd_ τc 6 j = rd_ σ0 6 j) (e9 : ∀ j, rd_ τc 9 j = rd_ σ0 9 j) (eo : ∀ o j, o < n → rd_ τc (34 + (16 + o)) j = rd_ σ0 (34 + (16 + o)) j) : OUC t B e0 σc σm (T4 τc (16 + n) (nI k) (nI s) (nI tr)) (U4 τm (16 + 6 * n)) := by
  have hj : 16 ≤ 16 + n ∧ 16 + n < 24 := ⟨by omega, by omega⟩
  have r0 : τm.1 1 (16 + 6 * n + 2) = nI 5 := by
    rw [er, cmR_at (by omega)]; rfl
  unfold T4 U4
  rw [misFour (z := 5) h.1 h.2.2.1 rfl (by omega) (by omega) (by omega) (by omega), bi_some]
  rcases optN (z := 5) (most := 9) (at' := 16 + 6 * n + 2) (u := 5) (by omega) (by omega) (by omega) (by omega) h with ⟨υc, υm, p1, b1, e1, c1, v, hv, o1, o2, o3, o4, o5, o6⟩ | ⟨υc, υm, r, o1, o2, o3, o4, o5⟩
  · obtain ⟨er1, am1⟩ := optRow r0 o6
    have hq : ¬ 34 + (16 + n) = 20 ∧ ¬ 34 + (16 + n) = 21 := ⟨by omega, by omega⟩
    have nb : NS t B (bgC υc (16 + n) k tr v s) υm p1 b1 e1 c1 := (((((o3.wrC hq).wrC hq).wrC hq).wrC hq).wrC hq).wrC hq
    have ab : ag uC υc (bgC υc (16 + n) k tr v s) := (((((ag.rf.wr (uC_L hj)).wr (uC_L hj)).wr (uC_L hj)).wr (uC_L hj)).wr (uC_L hj)).wr (uC_L hj)
    rw [o1, bi_some, o2, bi_some, lf_tt (show 16 + n < 25 by omega), gd_tt, beginC (by omega), bi_some]
    have hx : ∀ k' j', ¬ (k' = 20 ∧ 2 ≤ j') → ¬ (k' = 34 + (16 + n)) → rd_ (bgC υc (16 + n) k tr v s) k' j' = rd_ τc k' j' := fun k' j' q1 q2 => by
      rw [bgC_k q2]; exact o5.1 k' j' q1
    refine wishS (n := n) ((a.tr o5.uC').tr ab) (am.tr am1) nb (by omega) hn hk htr hv hs h0 (by rw [er1, er, cmR_2]) ?_ ?_ ?_ ?_ ?_ (fun q hq => bgC_at hq)
    · rw [hx _ _ (by omega) (by omega)]; exact e3
    · intro j hj3; rw [hx _ _ (by omega) (by omega)]; exact e3' j hj3
    · intro j; rw [hx _ _ (by omega) (by omega)]; exact e6 j
    · intro j; rw [hx _ _ (by omega) (by omega)]; exact e9 j
    · intro o j ho; rw [hx _ _ (by omega) (by omega)]; exact eo o j ho
  · rw [o1, bi_some, o2, bi_some, U3F o3]
    exact OUC.fail (a.tr o4.uC') (am.tr o5.uM') (TbF o3 hj) rfl
/-- trait -/
theorem traitS {σc σm : Sg} {e0 k s : Nat} {g : Nat → Int32} (a : ag uC σc τc) (am : ag uM σm τm) (h : NS t B τc τm p b e c) (he : e0 + 1 ≤ e) (hn : n < 8) (hk : k ≤ 5) (hs : s ≤ 7) {σ0 : Sg} (h0 : TO σ0 g n) (er : τm.1 1 = cmR g n k 50 5 s) (e3 : rd_ τc 3 3 = nI (n + 1)) (e3' : ∀ j, ¬ j = 3 → rd_ τc 3 j = rd_ σ0 3 j) (e6 : ∀ j, rd_ τc 6 j = rd_ σ0 6 j) (e9 : ∀ j, rd_ τc 9 j = rd_ σ0 9 j) (eo : ∀ o j, o < n → rd_ τc (34 + (16 + o)) j = rd_ σ0 (34 + (16 + o)) j) : OUC t B e0 σc σm (T5 τc (16 + n) (nI k) (nI s)) (U5 τm (16 + 6 * n)) := by
  have hj : 16 ≤ 16 + n ∧ 16 + n < 24 := ⟨by omega, by omega⟩
  have r0 : τm.1 1 (16 + 6 * n + 1) = nI 50 := by
    rw [er, cmR_at (by omega)]; rfl
  unfold T5 U5
  rw [misFive (z := 4) h.1 h.2.2.1 rfl (by omega) (by omega) (by omega) (by omega) (by omega), bi_some]
  rcases optN (z := 4) (most := 99) (at' := 16 + 6 * n + 1) (u := 50) (by omega) (by omega) (by omega) (by omega) h with ⟨υc, υm, p1, b1, e1, c1, v, hv, o1, o2, o3, o4, o5, o6⟩ | ⟨υc, υm, r, o1, o2, o3, o4, o5⟩
  · obtain ⟨er1, am1⟩ := optRow r0 o6
    rw [o1, bi_some, o2, bi_some]
    have hx : ∀ k' j', ¬ (k' = 20 ∧ 2 ≤ j') → rd_ υc k' j' = rd_ τc k' j' := fun k' j' q1 => o5.1 k' j' q1
    refine fireS (n := n) (a.tr o5.uC') (am.tr am1) o3 (by omega) hn hk hv hs h0 (by rw [er1, er, cmR_1]) ?_ ?_ ?_ ?_ ?_
    · rw [hx _ _ (by omega)]; exact e3
    · intro j hj3; rw [hx _ _ (by omega)]; exact e3' j hj3
    · intro j; rw [hx _ _ (by omega)]; exact e6 j
    · intro j; rw [hx _ _ (by omega)]; exact e9 j
    · intro o j ho; rw [hx _ _ (by omega)]; exact eo o j ho
  · rw [o1, bi_some, o2, bi_some, U4F o3]
    exact OUC.fail (a.tr o4.uC') (am.tr o5.uM') (T4F o3 hj) rfl
/-- behind a fault, the other side's first half -/
theorem m30F (h : FS t B τc τm) {x : Nat} {x1 : Int32} : (bi_ (M_isTwo_0 τm (nI 116) (nI 111)) fun r_5 σ_4 => bi_ (M_needs_0 σ_4 r_5) fun _ σ_7 => if (rd_ σ_7 0 11) = 0 then (bi_ (M_comes_0 σ_7 x1 (nI 50) (nI 5) (nI 0)) fun _ σ_10 => M_childHere_61 σ_10 (nI x)) else (M_childHere_61 σ_7 (nI x))) = some ((), τm) := by
  obtain ⟨x0, kc, ⟨p2, b2, e2, c2, km, f1⟩, f2⟩ := id h
  rw [misTwo (z := 3) x0 km rfl (by omega) (by omega), bi_some, needsF h, bi_some, f2, if_neg (by decide), m61F h]
theorem m30 {σ : Sg} {x1 x2 t1 : Int32} : M_childHere_30 σ x1 x2 t1 = bi_ (M_needs_0 σ t1) fun _ σ_2 => (bi_ (M_isTwo_0 σ_2 (nI 116) (nI 111)) fun r_5 σ_4 => bi_ (M_needs_0 σ_4 r_5) fun _ σ_7 => if (rd_ σ_7 0 11) = 0 then (bi_ (M_comes_0 σ_7 x1 (nI 50) (nI 5) (nI 0)) fun _ σ_10 => M_childHere_61 σ_10 x2) else (M_childHere_61 σ_7 x2)) := rfl
theorem childS {k : Nat} (hk : k ≤ 5) (h : NS t B τc τm p b e c) (ht : TO τc (τm.1 1) n) : OUC t B e τc τm (C8_tellChild_3_0 τc (nI k)) (M_childHere_0 τm (nI k)) := by
  have hn8 := ht.1.2.1
  have ec : rd_ τc 3 3 = nI n := ht.2.2.1.trans ht.1.1
  have em : rd_ τm 1 0 = nI n := ht.1.1
  have hx : (16 : Int32) + (6 : Int32) * rd_ τm 1 0 = nI (16 + 6 * n) := by
    rw [em, show (6 : Int32) = nI 6 from rfl, pk_mul, show (16 : Int32) = nI 16 from rfl, nI_add]
  rw [tellC]
  unfold M_childHere_0
  rw [hx, lt_eq, em]
  by_cases hn : n < 8
  · have hj : 16 ≤ 16 + n ∧ 16 + n < 24 := ⟨by omega, by omega⟩
    rw [add3 hn ec, bi_some, on_S, if_neg (show ¬ (8 : Int32) ≤ nI n from nI_ge (b := 8) hn (by omega)), m30]
    have h' : NS t B (wr_ τc 3 3 (nI (n + 1))) τm p b e c := h.wrC ⟨by omega, by omega⟩
    have a0 : ag uC τc (wr_ τc 3 3 (nI (n + 1))) := ag.rf.wr (Or.inl rfl)
    obtain ⟨υc, υm, b1, e1, c1, s1, s2, s3, s4, s5⟩ := stepN h'
    have q1 := s3.2.1.2.2.2.le
    unfold T7
    rw [s1, bi_some, needs1 h.2.2.2.2 s2, bi_some, misTwo (z := 3) s3.1 s3.2.2.1 rfl (by omega) (by omega), bi_some]
    rcases nameN (z := 3) (by omega) s3 with ⟨ξc, ξm, b2, e2, c2, w1, w2, w3, w4, w5⟩ | ⟨ξc, ξm, w1, w2, w3, w4, w5⟩
    · have q2 := w3.2.1.2.2.2.le
      have er : ξm.1 1 = τm.1 1 := by rw [row_fM w5, row_fM s5]
      have em2 : rd_ ξm 1 0 = nI n := by rw [rd_row, er]; exact em
      rw [w1, bi_some, w2, bi_some, w3.2.2.2.2, if_pos (show nI 0 = 0 from rfl), comesM hn em2, bi_some]
      have ag1 : ag (fun k _ => k = 1) ξm (st_ ξm 1 (cmR (ξm.1 1) n k 50 5 0)) := ag.rf.st (fun j => Or.inl rfl)
      have w3' := w3.agM ag1
      unfold M_childHere_61
      rw [w3'.2.2.2.2, if_pos (show nI 0 = 0 from rfl), m76, show nI (16 + 6 * n) + (5 : Int32) = nI (16 + 6 * n + 5) from nI_add _ 5]
      have am0 : ag uM τm (st_ ξm 1 (cmR (ξm.1 1) n k 50 5 0)) := (s5.uM'.tr w5.uM').tr (ag1.mo (fun _ _ q => Or.inl q))
      have ac0 : ag uC τc ξc := (a0.tr s4.uC').tr w4.uC'
      rcases numN (most := 7) (at' := 16 + 6 * n + 5) (by omega) (by omega) w3' with ⟨ζc, ζm, b3, e3, c3, s, hs, n1, n2, n3, n4, n5, n6⟩ | ⟨ζc, ζm, n1, n2, n3, n4, n5⟩
      · have q3 := n3.2.1.2.2.2.le
        rw [n1, bi_some, n2, bi_some]
        have er2 : ζm.1 1 = cmR (τm.1 1) n k 50 5 s := by rw [row_fM n6, row_same, st_same, er, cmR_5]
        have hy : ∀ k' j', ¬ (k' = 20 ∧ 2 ≤ j') → rd_ ζc k' j' = rd_ (wr_ τc 3 3 (nI (n + 1))) k' j' := fun k' j' q => by
          rw [n5.1 k' j' q, w4.1 k' j' q, s4.1 k' j' q]
        refine traitS (n := n) (ac0.tr n5.uC') (am0.tr ((ag.rf.wr (Or.inl rfl)).tr n6.uM')) n3 (by omega) hn hk hs ht er2 ?_ ?_ ?_ ?_ ?_
        · rw [hy _ _ (by omega), rd_same]
        · intro j hj3; rw [hy _ _ (by omega), rd_j hj3]
        · intro j; rw [hy _ _ (by omega), rd_k (by omega)]
        · intro j; rw [hy _ _ (by omega), rd_k (by omega)]
        · intro o j ho; rw [hy _ _ (by omega), rd_k (by omega)]
      · rw [n1, bi_some, n2, bi_some, U5F n3]
        exact OUC.fail (ac0.tr n4.uC') (am0.tr n5.uM') (T5F n3 hj) rfl
    · rw [w1, bi_some, w2, bi_some, w3.2.2.2, if_neg (by decide), m61F w3, (numF (most := 7) (by omega) w3).1, bi_some]
      exact OUC.fail ((a0.tr s4.uC').tr w4.uC') (s5.uM'.tr w5.uM') (T5F w3 hj) rfl
  · have e8 : n = 8 := by omega
    subst e8
    obtain ⟨f1, f2, f3, f4, f5⟩ := failN h
    rw [add38 ec, bi_some, on_N, f1, bi_some, if_pos (show (8 : Int32) ≤ nI 8 from nI_le (a := 8) (by omega) (by omega)), m30, f2, bi_some, m30F f3]
    exact OUC.fail f4.uC' f5.uM' ⟨_, rfl, f3, ag.rf⟩ rfl
end CHILD
